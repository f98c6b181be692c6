abbrev RM_f_CS_arc : Room := { frames := 1, cells := 0, slots := 0, locals := 21 }
abbrev W_CS_arc : List Cond := .code yX6_arc cX6_arc 6 (some .int) :: tblG
set_option maxHeartbeats 4000000 in
set_option maxRecDepth 100000 in
theorem c_CS_arc (l : Launch) (dC : Nat → ClassId) (dI : Nat → Nat → Nat) (ad : Nat → Nat) (tI tL tII tLL : ClassId) (cnt : Int32) (w : Nat → Nat → Int32) (tot : Nat → Int32) (rew : Nat → Int32) (grp : Nat → Int32) (fin : Nat → Int32) (gns : Nat → Int64) (rst : Nat → Int32) (rws : Nat → Nat → Int64) (last : Int32) (now : Nat → Int64) (nxt : Nat → Int64) (whl : Int64) (au : Int64) (al : Int64) (mu : Int64) (ml : Int64) (p1 : Int32) (p2 : Int32) (p3 : Int32) (R0 : Int32) (R_w : Nat → Nat → Int32) (R_tot : Nat → Int32) (hR : some (R0, R_w, R_tot) = f_CS_arc cnt w tot p1 p2 p3) : Met l yX6_arc W_CS_arc RM_f_CS_arc (rwP (dC, dI) vwCl [(tI, .int), (tL, .long), (tII, .array .int), (tLL, .array .long)] (wC ad tI tL tII tLL cnt w tot rew grp fin gns rst rws last now nxt whl au al mu ml) ([.ref (ad 0), .int p1, .int p2, .int p3] : List Value)) (rwQ (dC, dI) vwCl (wC ad tI tL tII tLL cnt R_w R_tot rew grp fin gns rst rws last now nxt whl au al mu ml) (some (.int R0)) (rwA (wC ad tI tL tII tLL cnt w tot rew grp fin gns rst rws last now nxt whl au al mu ml))) 0 0 (rwA (wC ad tI tL tII tLL cnt w tot rew grp fin gns rst rws last now nxt whl au al mu ml)) := by
  refine Met.ofW (cc := cX6_arc) (maxL := 6) (ret := (some .int)) (by decide) rfl ?_
  intro p e s m args below meth c s₁ B hml hv
  obtain ⟨rfl, hP, hK, hN, hD⟩ := hv
  have hx := B.exec
  have hb := B.bytes
  have hr := B.returns
  have hts := atoms_spec (ws := W_CS_arc) B.pre
  have ht := fun (w : Cond) (h : w ∈ tblG) => hts w (List.mem_cons_of_mem _ h)
  have hown : s.vm.findClass RX6 = some m.cls := findClass_of_methodNamed B.named
  have hlocks := B.notSynchronized
  have hl := lv_entry ([.ref (ad 0), .int p1, .int p2, .int p3] : List Value) (n := 6) (Nat.le_of_ble_eq_true rfl)
  rw [lg_entry_eq]
  generalize (lg_sl ([.ref (ad 0), .int p1, .int p2, .int p3] : List Value) ++ List.replicate (6 - (lg_sl ([.ref (ad 0), .int p1, .int p2, .int p3] : List Value)).length) Slot.unset).toArray = ls at hl ⊢
  have hl : lv_has ls 6 [(0, .ref (ad 0)), (1, .int p1), (2, .int p2), (3, .int p3)] := hl
  have hD := hD.own
  have hS : va_S (rwA (wC ad tI tL tII tLL cnt w tot rew grp fin gns rst rws last now nxt whl au al mu ml)) s.heap s.heap [] := va_S.rf
  suffices K : ∀ (H : Heap) (locs : List Loc), va_P (dC, dI) vwCl (wC ad tI tL tII tLL cnt w tot rew grp fin gns rst rws last now nxt whl au al mu ml) H → va_D (rwA (wC ad tI tL tII tLL cnt w tot rew grp fin gns rst rws last now nxt whl au al mu ml)) (wC ad tI tL tII tLL cnt w tot rew grp fin gns rst rws last now nxt whl au al mu ml) → va_S (rwA (wC ad tI tL tII tLL cnt w tot rew grp fin gns rst rws last now nxt whl au al mu ml)) s.heap H locs → W p l e (headSpec W_CS_arc RM_f_CS_arc).room s m ([.ref (ad 0), .int p1, .int p2, .int p3] : List Value).toArray below meth c H locs 0 0 (MQ below (rwQ (dC, dI) vwCl (wC ad tI tL tII tLL cnt R_w R_tot rew grp fin gns rst rws last now nxt whl au al mu ml) (some (.int R0)) (rwA (wC ad tI tL tII tLL cnt w tot rew grp fin gns rst rws last now nxt whl au al mu ml))) ([.ref (ad 0), .int p1, .int p2, .int p3] : List Value).toArray s 0 0 (rwA (wC ad tI tL tII tLL cnt w tot rew grp fin gns rst rws last now nxt whl au al mu ml))) (F0 m 0 ls []) from K s.heap [] hP hD hS
  clear hP hD hS
  intro H locs hP hD hS
  rw [f_CS_arc] at hR
  refine lv_aload_n hx hb dX6_arc_0 rfl (lv_at hl 0 rfl) ?_
  refine va_get (D := (dC, dI)) (ci := 6) (v := .ref (ad 1)) (C := RX6) (T := TX6) (N := 7) hx hb ht hinX6 hown hK hP 0 rfl rfl 0 (by decide) (ht _ k_125) (fun _ h9 => h9) rfl dX6_arc_1 ?_
  refine lv_iload_n hx hb dX6_arc_4 rfl (lv_at hl 1 rfl) ?_
  obtain ⟨r1, hC, hR⟩ := ob hR
  try dsimp only at hR
  refine ro_calli (va_runV (As := [.int p1]) (rest := []) ⟨hx, hb, hml, hown, ht⟩ (c_Chain_has l dC dI ad tI tL tII tLL cnt w tot rew grp fin gns rst rws last now nxt whl au al mu ml p1 r1 hC.symm) ⟨callB_of 1 ht (goodG k_130) rfl rfl rfl (ht _ k_15) (ht _ k_131) (by decide +kernel) ⟨Nat.le_of_ble_eq_true rfl, Nat.le_of_ble_eq_true rfl⟩, (ht _ k_133), (ht _ k_132)⟩ (pre_v hK hN hP (q0 := 1) (ci := 0) rfl rfl) rfl rfl hl.1 rfl (lv_room (Nat.le_of_ble_eq_true rfl)) dX6_arc_5 ⟨Nat.zero_le _, Nat.zero_le _⟩) ?_
  refine lv_if_eq (tgt := 22) hx hb dX6_arc_8 (by decide) (fun c2 => ?_) (fun c2 => ?_)
  · replace hR := it_p c2 hR
    refine lv_iconst (v := (-1)) hx hb dX6_arc_22 (by decide) ?_
    cases hR
    exact W.iret hx hb hr (fun t ht _ => ⟨rfl, by rw [ht]; exact hP, hS.F ht⟩) hS.2.2 dX6_arc_23
  · replace hR := it_n c2 hR
    refine lv_aload_n hx hb dX6_arc_11 rfl (lv_at hl 0 rfl) ?_
    refine va_get (D := (dC, dI)) (ci := 6) (v := .ref (ad 1)) (C := RX6) (T := TX6) (N := 7) hx hb ht hinX6 hown hK hP 0 rfl rfl 0 (by decide) (ht _ k_125) (fun _ h9 => h9) rfl dX6_arc_12 ?_
    refine lv_iload_n hx hb dX6_arc_15 rfl (lv_at hl 2 rfl) ?_
    obtain ⟨r3, hC, hR⟩ := ob hR
    try dsimp only at hR
    refine ro_calli (va_runV (As := [.int p2]) (rest := []) ⟨hx, hb, hml, hown, ht⟩ (c_Chain_has l dC dI ad tI tL tII tLL cnt w tot rew grp fin gns rst rws last now nxt whl au al mu ml p2 r3 hC.symm) ⟨callB_of 1 ht (goodG k_130) rfl rfl rfl (ht _ k_15) (ht _ k_131) (by decide +kernel) ⟨Nat.le_of_ble_eq_true rfl, Nat.le_of_ble_eq_true rfl⟩, (ht _ k_133), (ht _ k_132)⟩ (pre_v hK hN hP (q0 := 1) (ci := 0) rfl rfl) rfl rfl hl.1 rfl (lv_room (Nat.le_of_ble_eq_true rfl)) dX6_arc_16 ⟨Nat.zero_le _, Nat.zero_le _⟩) ?_
    refine lv_if_ne (tgt := 24) hx hb dX6_arc_19 (by decide) (fun c4 => ?_) (fun c4 => ?_)
    · replace hR := it_n c4 hR
      refine lv_iload_n hx hb dX6_arc_24 rfl (lv_at hl 3 rfl) ?_
      refine lv_if_lt (tgt := 34) hx hb dX6_arc_25 (by decide) (fun c5 => ?_) (fun c5 => ?_)
      · replace hR := it_p c5 hR
        refine lv_bipush (v := (-2)) hx hb dX6_arc_34 (by decide) ?_
        cases hR
        exact W.iret hx hb hr (fun t ht _ => ⟨rfl, by rw [ht]; exact hP, hS.F ht⟩) hS.2.2 dX6_arc_36
      · replace hR := it_n c5 hR
        refine lv_iload_n hx hb dX6_arc_28 rfl (lv_at hl 3 rfl) ?_
        refine lv_bipush (v := 9) hx hb dX6_arc_29 (by decide) ?_
        refine lv_icmp_le (tgt := 37) hx hb dX6_arc_31 (by decide) (fun c6 => ?_) (fun c6 => ?_)
        · replace hR := it_p c6 hR
          refine lv_aload_n hx hb dX6_arc_37 rfl (lv_at hl 0 rfl) ?_
          refine va_get (D := (dC, dI)) (ci := 6) (v := .ref (ad 1)) (C := RX6) (T := TX6) (N := 7) hx hb ht hinX6 hown hK hP 0 rfl rfl 0 (by decide) (ht _ k_125) (fun _ h9 => h9) rfl dX6_arc_38 ?_
          refine va_getN (D := (dC, dI)) (ci := 0) (v := .ref (ad 2)) (C := RX0) (T := TX0) (N := 4) hx hb ht hinX0 hown hK hP 1 rfl rfl 0 (by decide) (va_Nw.use rfl (nf_0 hN)) (fun _ h9 => h9) rfl dX6_arc_41 ?_
          refine lv_iload_n hx hb dX6_arc_44 rfl (lv_at hl 1 rfl) ?_
          obtain ⟨z7, hR⟩ := og hR
          refine va_aldA hx hb hK hP 2 2 rfl rfl rfl (ix_in z7) dX6_arc_45 ?_
          refine lv_iload_n hx hb dX6_arc_46 rfl (lv_at hl 2 rfl) ?_
          obtain ⟨z8, hR⟩ := og hR
          refine va_iald hx hb hK hP (2 + 1 + p1.toNatClampNeg) 0 (wC_row_we (ix_lt z7)) rfl (ix_in z8) dX6_arc_47 ?_
          refine lv_istore (lv' := [(4, .int (w p1.toNatClampNeg p2.toNatClampNeg)), (0, .ref (ad 0)), (1, .int p1), (2, .int p2), (3, .int p3)]) hx hb dX6_arc_48 hl (by decide) rfl (fun ls hl => ?_)
          refine lv_aload_n hx hb dX6_arc_50 rfl (lv_at hl 1 rfl) ?_
          refine va_get (D := (dC, dI)) (ci := 6) (v := .ref (ad 1)) (C := RX6) (T := TX6) (N := 7) hx hb ht hinX6 hown hK hP 0 rfl rfl 0 (by decide) (ht _ k_125) (fun _ h9 => h9) rfl dX6_arc_51 ?_
          refine va_getN (D := (dC, dI)) (ci := 0) (v := .ref (ad 10)) (C := RX0) (T := TX0) (N := 4) hx hb ht hinX0 hown hK hP 1 rfl rfl 1 (by decide) (va_Nw.use rfl (nf_1 hN)) (fun _ h9 => h9) rfl dX6_arc_54 ?_
          refine lv_iload_n hx hb dX6_arc_57 rfl (lv_at hl 2 rfl) ?_
          obtain ⟨z9, hR⟩ := og hR
          refine va_iald hx hb hK hP 10 0 rfl rfl (ix_in z9) dX6_arc_58 ?_
          refine lv_iload hx hb dX6_arc_59 (lv_at hl 0 rfl) ?_
          refine lv_isub hx hb dX6_arc_61 ?_
          refine lv_iload_n hx hb dX6_arc_62 rfl (lv_at hl 4 rfl) ?_
          refine lv_iadd hx hb dX6_arc_63 ?_
          refine lv_istore (lv' := [(5, .int (((tot p1.toNatClampNeg) - (w p1.toNatClampNeg p2.toNatClampNeg)) + p3)), (4, .int (w p1.toNatClampNeg p2.toNatClampNeg)), (0, .ref (ad 0)), (1, .int p1), (2, .int p2), (3, .int p3)]) hx hb dX6_arc_64 hl (by decide) rfl (fun ls hl => ?_)
          refine lv_iload hx hb dX6_arc_66 (lv_at hl 0 rfl) ?_
          refine lv_bipush (v := 12) hx hb dX6_arc_68 (by decide) ?_
          refine lv_icmp_le (tgt := 76) hx hb dX6_arc_70 (by decide) (fun c10 => ?_) (fun c10 => ?_)
          · replace hR := it_p c10 hR
            refine lv_aload_n hx hb dX6_arc_76 rfl (lv_at hl 2 rfl) ?_
            refine va_get (D := (dC, dI)) (ci := 6) (v := .ref (ad 1)) (C := RX6) (T := TX6) (N := 7) hx hb ht hinX6 hown hK hP 0 rfl rfl 0 (by decide) (ht _ k_125) (fun _ h9 => h9) rfl dX6_arc_77 ?_
            refine va_getN (D := (dC, dI)) (ci := 0) (v := .ref (ad 2)) (C := RX0) (T := TX0) (N := 4) hx hb ht hinX0 hown hK hP 1 rfl rfl 0 (by decide) (va_Nw.use rfl (nf_0 hN)) (fun _ h9 => h9) rfl dX6_arc_80 ?_
            refine lv_iload_n hx hb dX6_arc_83 rfl (lv_at hl 3 rfl) ?_
            obtain ⟨z11, hR⟩ := og hR
            refine va_aldA hx hb hK hP 2 2 rfl rfl rfl (ix_in z11) dX6_arc_84 ?_
            refine lv_iload_n hx hb dX6_arc_85 rfl (lv_at hl 4 rfl) ?_
            refine lv_iload_n hx hb dX6_arc_86 rfl (lv_at hl 5 rfl) ?_
            obtain ⟨z12, hR⟩ := og hR
            refine va_iast hx hb hK hP hD hS (2 + 1 + p1.toNatClampNeg) 0 (wC_row_we (ix_lt z11)) rfl (ix_in z12) dX6_arc_87 (fun H locs hP hD hS => ?_)
            rw [wC_set_we (ix_lt z11)] at hP hD
            have hP : va_P (dC, dI) vwCl (wC ad tI tL tII tLL cnt (va_up w p1.toNatClampNeg (upd (w p1.toNatClampNeg) p2.toNatClampNeg p3)) tot rew grp fin gns rst rws last now nxt whl au al mu ml) H := hP
            have hD : va_D (rwA (wC ad tI tL tII tLL cnt w tot rew grp fin gns rst rws last now nxt whl au al mu ml)) (wC ad tI tL tII tLL cnt (va_up w p1.toNatClampNeg (upd (w p1.toNatClampNeg) p2.toNatClampNeg p3)) tot rew grp fin gns rst rws last now nxt whl au al mu ml) := hD
            refine lv_aload_n hx hb dX6_arc_88 rfl (lv_at hl 2 rfl) ?_
            refine va_get (D := (dC, dI)) (ci := 6) (v := .ref (ad 1)) (C := RX6) (T := TX6) (N := 7) hx hb ht hinX6 hown hK hP 0 rfl rfl 0 (by decide) (ht _ k_125) (fun _ h9 => h9) rfl dX6_arc_89 ?_
            refine va_getN (D := (dC, dI)) (ci := 0) (v := .ref (ad 10)) (C := RX0) (T := TX0) (N := 4) hx hb ht hinX0 hown hK hP 1 rfl rfl 1 (by decide) (va_Nw.use rfl (nf_1 hN)) (fun _ h9 => h9) rfl dX6_arc_92 ?_
            refine lv_iload_n hx hb dX6_arc_95 rfl (lv_at hl 3 rfl) ?_
            refine lv_iload hx hb dX6_arc_96 (lv_at hl 0 rfl) ?_
            obtain ⟨z13, hR⟩ := og hR
            refine va_iast hx hb hK hP hD hS 10 0 rfl rfl (ix_in z13) dX6_arc_98 (fun H locs hP hD hS => ?_)
            have hP : va_P (dC, dI) vwCl (wC ad tI tL tII tLL cnt (va_up w p1.toNatClampNeg (upd (w p1.toNatClampNeg) p2.toNatClampNeg p3)) (upd tot p1.toNatClampNeg (((tot p1.toNatClampNeg) - (w p1.toNatClampNeg p2.toNatClampNeg)) + p3)) rew grp fin gns rst rws last now nxt whl au al mu ml) H := hP
            have hD : va_D (rwA (wC ad tI tL tII tLL cnt w tot rew grp fin gns rst rws last now nxt whl au al mu ml)) (wC ad tI tL tII tLL cnt (va_up w p1.toNatClampNeg (upd (w p1.toNatClampNeg) p2.toNatClampNeg p3)) (upd tot p1.toNatClampNeg (((tot p1.toNatClampNeg) - (w p1.toNatClampNeg p2.toNatClampNeg)) + p3)) rew grp fin gns rst rws last now nxt whl au al mu ml) := hD
            refine lv_iload hx hb dX6_arc_99 (lv_at hl 1 rfl) ?_
            cases hR
            exact W.iret hx hb hr (fun t ht _ => ⟨rfl, by rw [ht]; exact hP, hS.F ht⟩) hS.2.2 dX6_arc_101
          · replace hR := it_n c10 hR
            refine lv_bipush (v := (-2)) hx hb dX6_arc_73 (by decide) ?_
            cases hR
            exact W.iret hx hb hr (fun t ht _ => ⟨rfl, by rw [ht]; exact hP, hS.F ht⟩) hS.2.2 dX6_arc_75
        · replace hR := it_n c6 hR
          refine lv_bipush (v := (-2)) hx hb dX6_arc_34 (by decide) ?_
          cases hR
          exact W.iret hx hb hr (fun t ht _ => ⟨rfl, by rw [ht]; exact hP, hS.F ht⟩) hS.2.2 dX6_arc_36
    · replace hR := it_p c4 hR
      refine lv_iconst (v := (-1)) hx hb dX6_arc_22 (by decide) ?_
      cases hR
      exact W.iret hx hb hr (fun t ht _ => ⟨rfl, by rw [ht]; exact hP, hS.F ht⟩) hS.2.2 dX6_arc_23
abbrev RM_f_CS_reward : Room := { frames := 1, cells := 0, slots := 0, locals := 21 }
abbrev W_CS_reward : List Cond := .code yX6_reward cX6_reward 4 (some .int) :: tblG
set_option maxHeartbeats 4000000 in
set_option maxRecDepth 100000 in
theorem c_CS_reward (l : Launch) (dC : Nat → ClassId) (dI : Nat → Nat → Nat) (ad : Nat → Nat) (tI tL tII tLL : ClassId) (cnt : Int32) (w : Nat → Nat → Int32) (tot : Nat → Int32) (rew : Nat → Int32) (grp : Nat → Int32) (fin : Nat → Int32) (gns : Nat → Int64) (rst : Nat → Int32) (rws : Nat → Nat → Int64) (last : Int32) (now : Nat → Int64) (nxt : Nat → Int64) (whl : Int64) (au : Int64) (al : Int64) (mu : Int64) (ml : Int64) (p1 : Int32) (p2 : Int32) (R0 : Int32) (R_rew : Nat → Int32) (hR : some (R0, R_rew) = f_CS_reward cnt rew p1 p2) : Met l yX6_reward W_CS_reward RM_f_CS_reward (rwP (dC, dI) vwCl [(tI, .int), (tL, .long), (tII, .array .int), (tLL, .array .long)] (wC ad tI tL tII tLL cnt w tot rew grp fin gns rst rws last now nxt whl au al mu ml) ([.ref (ad 0), .int p1, .int p2] : List Value)) (rwQ (dC, dI) vwCl (wC ad tI tL tII tLL cnt w tot R_rew grp fin gns rst rws last now nxt whl au al mu ml) (some (.int R0)) (rwA (wC ad tI tL tII tLL cnt w tot rew grp fin gns rst rws last now nxt whl au al mu ml))) 0 0 (rwA (wC ad tI tL tII tLL cnt w tot rew grp fin gns rst rws last now nxt whl au al mu ml)) := by
  refine Met.ofW (cc := cX6_reward) (maxL := 4) (ret := (some .int)) (by decide) rfl ?_
  intro p e s m args below meth c s₁ B hml hv
  obtain ⟨rfl, hP, hK, hN, hD⟩ := hv
  have hx := B.exec
  have hb := B.bytes
  have hr := B.returns
  have hts := atoms_spec (ws := W_CS_reward) B.pre
  have ht := fun (w : Cond) (h : w ∈ tblG) => hts w (List.mem_cons_of_mem _ h)
  have hown : s.vm.findClass RX6 = some m.cls := findClass_of_methodNamed B.named
  have hlocks := B.notSynchronized
  have hl := lv_entry ([.ref (ad 0), .int p1, .int p2] : List Value) (n := 4) (Nat.le_of_ble_eq_true rfl)
  rw [lg_entry_eq]
  generalize (lg_sl ([.ref (ad 0), .int p1, .int p2] : List Value) ++ List.replicate (4 - (lg_sl ([.ref (ad 0), .int p1, .int p2] : List Value)).length) Slot.unset).toArray = ls at hl ⊢
  have hl : lv_has ls 4 [(0, .ref (ad 0)), (1, .int p1), (2, .int p2)] := hl
  have hD := hD.own
  have hS : va_S (rwA (wC ad tI tL tII tLL cnt w tot rew grp fin gns rst rws last now nxt whl au al mu ml)) s.heap s.heap [] := va_S.rf
  suffices K : ∀ (H : Heap) (locs : List Loc), va_P (dC, dI) vwCl (wC ad tI tL tII tLL cnt w tot rew grp fin gns rst rws last now nxt whl au al mu ml) H → va_D (rwA (wC ad tI tL tII tLL cnt w tot rew grp fin gns rst rws last now nxt whl au al mu ml)) (wC ad tI tL tII tLL cnt w tot rew grp fin gns rst rws last now nxt whl au al mu ml) → va_S (rwA (wC ad tI tL tII tLL cnt w tot rew grp fin gns rst rws last now nxt whl au al mu ml)) s.heap H locs → W p l e (headSpec W_CS_reward RM_f_CS_reward).room s m ([.ref (ad 0), .int p1, .int p2] : List Value).toArray below meth c H locs 0 0 (MQ below (rwQ (dC, dI) vwCl (wC ad tI tL tII tLL cnt w tot R_rew grp fin gns rst rws last now nxt whl au al mu ml) (some (.int R0)) (rwA (wC ad tI tL tII tLL cnt w tot rew grp fin gns rst rws last now nxt whl au al mu ml))) ([.ref (ad 0), .int p1, .int p2] : List Value).toArray s 0 0 (rwA (wC ad tI tL tII tLL cnt w tot rew grp fin gns rst rws last now nxt whl au al mu ml))) (F0 m 0 ls []) from K s.heap [] hP hD hS
  clear hP hD hS
  intro H locs hP hD hS
  rw [f_CS_reward] at hR
  refine lv_aload_n hx hb dX6_reward_0 rfl (lv_at hl 0 rfl) ?_
  refine va_get (D := (dC, dI)) (ci := 6) (v := .ref (ad 1)) (C := RX6) (T := TX6) (N := 7) hx hb ht hinX6 hown hK hP 0 rfl rfl 0 (by decide) (ht _ k_125) (fun _ h9 => h9) rfl dX6_reward_1 ?_
  refine lv_iload_n hx hb dX6_reward_4 rfl (lv_at hl 1 rfl) ?_
  obtain ⟨r1, hC, hR⟩ := ob hR
  try dsimp only at hR
  refine ro_calli (va_runV (As := [.int p1]) (rest := []) ⟨hx, hb, hml, hown, ht⟩ (c_Chain_has l dC dI ad tI tL tII tLL cnt w tot rew grp fin gns rst rws last now nxt whl au al mu ml p1 r1 hC.symm) ⟨callB_of 1 ht (goodG k_130) rfl rfl rfl (ht _ k_15) (ht _ k_131) (by decide +kernel) ⟨Nat.le_of_ble_eq_true rfl, Nat.le_of_ble_eq_true rfl⟩, (ht _ k_133), (ht _ k_132)⟩ (pre_v hK hN hP (q0 := 1) (ci := 0) rfl rfl) rfl rfl hl.1 rfl (lv_room (Nat.le_of_ble_eq_true rfl)) dX6_reward_5 ⟨Nat.zero_le _, Nat.zero_le _⟩) ?_
  refine lv_if_ne (tgt := 13) hx hb dX6_reward_8 (by decide) (fun c2 => ?_) (fun c2 => ?_)
  · replace hR := it_n c2 hR
    refine lv_iload_n hx hb dX6_reward_13 rfl (lv_at hl 2 rfl) ?_
    refine lv_bipush (v := (-100)) hx hb dX6_reward_14 (by decide) ?_
    refine lv_icmp_lt (tgt := 25) hx hb dX6_reward_16 (by decide) (fun c3 => ?_) (fun c3 => ?_)
    · replace hR := it_p c3 hR
      refine lv_bipush (v := (-2)) hx hb dX6_reward_25 (by decide) ?_
      cases hR
      exact W.iret hx hb hr (fun t ht _ => ⟨rfl, by rw [ht]; exact hP, hS.F ht⟩) hS.2.2 dX6_reward_27
    · replace hR := it_n c3 hR
      refine lv_iload_n hx hb dX6_reward_19 rfl (lv_at hl 2 rfl) ?_
      refine lv_bipush (v := 100) hx hb dX6_reward_20 (by decide) ?_
      refine lv_icmp_le (tgt := 28) hx hb dX6_reward_22 (by decide) (fun c4 => ?_) (fun c4 => ?_)
      · replace hR := it_p c4 hR
        refine lv_aload_n hx hb dX6_reward_28 rfl (lv_at hl 0 rfl) ?_
        refine va_get (D := (dC, dI)) (ci := 6) (v := .ref (ad 1)) (C := RX6) (T := TX6) (N := 7) hx hb ht hinX6 hown hK hP 0 rfl rfl 0 (by decide) (ht _ k_125) (fun _ h9 => h9) rfl dX6_reward_29 ?_
        refine va_getN (D := (dC, dI)) (ci := 0) (v := .ref (ad 11)) (C := RX0) (T := TX0) (N := 4) hx hb ht hinX0 hown hK hP 1 rfl rfl 2 (by decide) (va_Nw.use rfl (nf_4 hN)) (fun _ h9 => h9) rfl dX6_reward_32 ?_
        refine lv_iload_n hx hb dX6_reward_35 rfl (lv_at hl 1 rfl) ?_
        obtain ⟨z5, hR⟩ := og hR
        refine va_iald hx hb hK hP 11 0 rfl rfl (ix_in z5) dX6_reward_36 ?_
        refine lv_istore_n (lv' := [(3, .int (rew p1.toNatClampNeg)), (0, .ref (ad 0)), (1, .int p1), (2, .int p2)]) hx hb dX6_reward_37 rfl hl (by decide) rfl (fun ls hl => ?_)
        refine lv_aload_n hx hb dX6_reward_38 rfl (lv_at hl 1 rfl) ?_
        refine va_get (D := (dC, dI)) (ci := 6) (v := .ref (ad 1)) (C := RX6) (T := TX6) (N := 7) hx hb ht hinX6 hown hK hP 0 rfl rfl 0 (by decide) (ht _ k_125) (fun _ h9 => h9) rfl dX6_reward_39 ?_
        refine va_getN (D := (dC, dI)) (ci := 0) (v := .ref (ad 11)) (C := RX0) (T := TX0) (N := 4) hx hb ht hinX0 hown hK hP 1 rfl rfl 2 (by decide) (va_Nw.use rfl (nf_4 hN)) (fun _ h9 => h9) rfl dX6_reward_42 ?_
        refine lv_iload_n hx hb dX6_reward_45 rfl (lv_at hl 2 rfl) ?_
        refine lv_iload_n hx hb dX6_reward_46 rfl (lv_at hl 3 rfl) ?_
        obtain ⟨z6, hR⟩ := og hR
        refine va_iast hx hb hK hP hD hS 11 0 rfl rfl (ix_in z6) dX6_reward_47 (fun H locs hP hD hS => ?_)
        have hP : va_P (dC, dI) vwCl (wC ad tI tL tII tLL cnt w tot (upd rew p1.toNatClampNeg p2) grp fin gns rst rws last now nxt whl au al mu ml) H := hP
        have hD : va_D (rwA (wC ad tI tL tII tLL cnt w tot rew grp fin gns rst rws last now nxt whl au al mu ml)) (wC ad tI tL tII tLL cnt w tot (upd rew p1.toNatClampNeg p2) grp fin gns rst rws last now nxt whl au al mu ml) := hD
        refine lv_iload_n hx hb dX6_reward_48 rfl (lv_at hl 0 rfl) ?_
        refine lv_bipush (v := 100) hx hb dX6_reward_49 (by decide) ?_
        refine lv_iadd hx hb dX6_reward_51 ?_
        cases hR
        exact W.iret hx hb hr (fun t ht _ => ⟨rfl, by rw [ht]; exact hP, hS.F ht⟩) hS.2.2 dX6_reward_52
      · replace hR := it_n c4 hR
        refine lv_bipush (v := (-2)) hx hb dX6_reward_25 (by decide) ?_
        cases hR
        exact W.iret hx hb hr (fun t ht _ => ⟨rfl, by rw [ht]; exact hP, hS.F ht⟩) hS.2.2 dX6_reward_27
  · replace hR := it_p c2 hR
    refine lv_iconst (v := (-1)) hx hb dX6_reward_11 (by decide) ?_
    cases hR
    exact W.iret hx hb hr (fun t ht _ => ⟨rfl, by rw [ht]; exact hP, hS.F ht⟩) hS.2.2 dX6_reward_12
abbrev RM_f_CS_part : Room := { frames := 5, cells := 0, slots := 0, locals := 114 }
abbrev W_CS_part : List Cond := .code yX6_part cX6_part 2 (some .int) :: tblG
set_option maxHeartbeats 4000000 in
set_option maxRecDepth 100000 in
theorem c_CS_part (l : Launch) (dC : Nat → ClassId) (dI : Nat → Nat → Nat) (ad : Nat → Nat) (tI tL tII tLL : ClassId) (cnt : Int32) (w : Nat → Nat → Int32) (tot : Nat → Int32) (rew : Nat → Int32) (grp : Nat → Int32) (fin : Nat → Int32) (gns : Nat → Int64) (rst : Nat → Int32) (rws : Nat → Nat → Int64) (last : Int32) (now : Nat → Int64) (nxt : Nat → Int64) (whl : Int64) (au : Int64) (al : Int64) (mu : Int64) (ml : Int64) (p1 : Int32) (R0 : Int32) (hR : some R0 = f_CS_part cnt w tot p1) : Met l yX6_part W_CS_part RM_f_CS_part (roP (dC, dI) vwCl [(tI, .int), (tL, .long), (tII, .array .int), (tLL, .array .long)] (wC ad tI tL tII tLL cnt w tot rew grp fin gns rst rws last now nxt whl au al mu ml) ([.ref (ad 0), .int p1] : List Value)) (roQ (some (.int R0))) 0 0 (fun _ => False) := by
  refine Met.ofW (cc := cX6_part) (maxL := 2) (ret := (some .int)) (by decide) rfl ?_
  intro p e s m args below meth c s₁ B hml hv
  obtain ⟨rfl, hP, hK, hN⟩ := hv
  have hx := B.exec
  have hb := B.bytes
  have hr := B.returns
  have hts := atoms_spec (ws := W_CS_part) B.pre
  have ht := fun (w : Cond) (h : w ∈ tblG) => hts w (List.mem_cons_of_mem _ h)
  have hown : s.vm.findClass RX6 = some m.cls := findClass_of_methodNamed B.named
  have hlocks := B.notSynchronized
  have hl := lv_entry ([.ref (ad 0), .int p1] : List Value) (n := 2) (Nat.le_of_ble_eq_true rfl)
  rw [lg_entry_eq]
  generalize (lg_sl ([.ref (ad 0), .int p1] : List Value) ++ List.replicate (2 - (lg_sl ([.ref (ad 0), .int p1] : List Value)).length) Slot.unset).toArray = ls at hl ⊢
  have hl : lv_has ls 2 [(0, .ref (ad 0)), (1, .int p1)] := hl
  rw [f_CS_part] at hR
  refine lv_aload_n hx hb dX6_part_0 rfl (lv_at hl 0 rfl) ?_
  refine va_get (D := (dC, dI)) (ci := 6) (v := .ref (ad 1)) (C := RX6) (T := TX6) (N := 7) hx hb ht hinX6 hown hK hP 0 rfl rfl 0 (by decide) (ht _ k_125) (fun _ h9 => h9) rfl dX6_part_1 ?_
  refine lv_iload_n hx hb dX6_part_4 rfl (lv_at hl 1 rfl) ?_
  obtain ⟨r1, hC, hR⟩ := ob hR
  try dsimp only at hR
  refine ro_calli (va_runV (As := [.int p1]) (rest := []) ⟨hx, hb, hml, hown, ht⟩ (c_Chain_has l dC dI ad tI tL tII tLL cnt w tot rew grp fin gns rst rws last now nxt whl au al mu ml p1 r1 hC.symm) ⟨callB_of 1 ht (goodG k_130) rfl rfl rfl (ht _ k_15) (ht _ k_131) (by decide +kernel) ⟨Nat.le_of_ble_eq_true rfl, Nat.le_of_ble_eq_true rfl⟩, (ht _ k_133), (ht _ k_132)⟩ (pre_v hK hN hP (q0 := 1) (ci := 0) rfl rfl) rfl rfl hl.1 rfl (lv_room (Nat.le_of_ble_eq_true rfl)) dX6_part_5 ⟨Nat.zero_le _, Nat.zero_le _⟩) ?_
  refine lv_if_eq (tgt := 22) hx hb dX6_part_8 (by decide) (fun c2 => ?_) (fun c2 => ?_)
  · replace hR := it_p c2 hR
    refine lv_iconst (v := (-1)) hx hb dX6_part_22 (by decide) ?_
    cases hR
    exact W.iret hx hb hr (fun t ht _ => ⟨rfl, ht⟩) t_nil dX6_part_23
  · replace hR := it_n c2 hR
    refine lv_aload_n hx hb dX6_part_11 rfl (lv_at hl 0 rfl) ?_
    refine va_get (D := (dC, dI)) (ci := 6) (v := .ref (ad 12)) (C := RX6) (T := TX6) (N := 7) hx hb ht hinX6 hown hK hP 0 rfl rfl 1 (by decide) (ht _ k_111) (fun _ h9 => h9) rfl dX6_part_12 ?_
    refine lv_iload_n hx hb dX6_part_15 rfl (lv_at hl 1 rfl) ?_
    obtain ⟨r3, hC, hR⟩ := ob hR
    try dsimp only at hR
    refine ro_calli (va_runV (As := [.int p1]) (rest := []) ⟨hx, hb, hml, hown, ht⟩ (c_Ways_leastOfPart l dC dI ad tI tL tII tLL cnt w tot rew grp fin gns rst rws last now nxt whl au al mu ml p1 r3 hC.symm) ⟨callB_of 1 ht (goodG k_41) rfl rfl rfl (ht _ k_33) (ht _ k_134) (by decide +kernel) ⟨Nat.le_of_ble_eq_true rfl, Nat.le_of_ble_eq_true rfl⟩, (ht _ k_44), (ht _ k_43)⟩ (pre_v hK hN hP (q0 := 12) (ci := 5) rfl rfl) rfl rfl hl.1 rfl (lv_room (Nat.le_of_ble_eq_true rfl)) dX6_part_16 ⟨Nat.zero_le _, Nat.zero_le _⟩) ?_
    refine lv_goto (tgt := 23) hx hb dX6_part_19 (by decide) ?_
    cases hR
    exact W.iret hx hb hr (fun t ht _ => ⟨rfl, ht⟩) t_nil dX6_part_23
abbrev RM_f_CS_closed : Room := { frames := 5, cells := 0, slots := 0, locals := 112 }
abbrev W_CS_closed : List Cond := .code yX6_closed cX6_closed 2 (some .int) :: tblG
set_option maxHeartbeats 4000000 in
set_option maxRecDepth 100000 in
theorem c_CS_closed (l : Launch) (dC : Nat → ClassId) (dI : Nat → Nat → Nat) (ad : Nat → Nat) (tI tL tII tLL : ClassId) (cnt : Int32) (w : Nat → Nat → Int32) (tot : Nat → Int32) (rew : Nat → Int32) (grp : Nat → Int32) (fin : Nat → Int32) (gns : Nat → Int64) (rst : Nat → Int32) (rws : Nat → Nat → Int64) (last : Int32) (now : Nat → Int64) (nxt : Nat → Int64) (whl : Int64) (au : Int64) (al : Int64) (mu : Int64) (ml : Int64) (p1 : Int32) (R0 : Int32) (hR : some R0 = f_CS_closed cnt w tot p1) : Met l yX6_closed W_CS_closed RM_f_CS_closed (roP (dC, dI) vwCl [(tI, .int), (tL, .long), (tII, .array .int), (tLL, .array .long)] (wC ad tI tL tII tLL cnt w tot rew grp fin gns rst rws last now nxt whl au al mu ml) ([.ref (ad 0), .int p1] : List Value)) (roQ (some (.int R0))) 0 0 (fun _ => False) := by
  refine Met.ofW (cc := cX6_closed) (maxL := 2) (ret := (some .int)) (by decide) rfl ?_
  intro p e s m args below meth c s₁ B hml hv
  obtain ⟨rfl, hP, hK, hN⟩ := hv
  have hx := B.exec
  have hb := B.bytes
  have hr := B.returns
  have hts := atoms_spec (ws := W_CS_closed) B.pre
  have ht := fun (w : Cond) (h : w ∈ tblG) => hts w (List.mem_cons_of_mem _ h)
  have hown : s.vm.findClass RX6 = some m.cls := findClass_of_methodNamed B.named
  have hlocks := B.notSynchronized
  have hl := lv_entry ([.ref (ad 0), .int p1] : List Value) (n := 2) (Nat.le_of_ble_eq_true rfl)
  rw [lg_entry_eq]
  generalize (lg_sl ([.ref (ad 0), .int p1] : List Value) ++ List.replicate (2 - (lg_sl ([.ref (ad 0), .int p1] : List Value)).length) Slot.unset).toArray = ls at hl ⊢
  have hl : lv_has ls 2 [(0, .ref (ad 0)), (1, .int p1)] := hl
  rw [f_CS_closed] at hR
  refine lv_aload_n hx hb dX6_closed_0 rfl (lv_at hl 0 rfl) ?_
  refine va_get (D := (dC, dI)) (ci := 6) (v := .ref (ad 1)) (C := RX6) (T := TX6) (N := 7) hx hb ht hinX6 hown hK hP 0 rfl rfl 0 (by decide) (ht _ k_125) (fun _ h9 => h9) rfl dX6_closed_1 ?_
  refine lv_iload_n hx hb dX6_closed_4 rfl (lv_at hl 1 rfl) ?_
  obtain ⟨r1, hC, hR⟩ := ob hR
  try dsimp only at hR
  refine ro_calli (va_runV (As := [.int p1]) (rest := []) ⟨hx, hb, hml, hown, ht⟩ (c_Chain_has l dC dI ad tI tL tII tLL cnt w tot rew grp fin gns rst rws last now nxt whl au al mu ml p1 r1 hC.symm) ⟨callB_of 1 ht (goodG k_130) rfl rfl rfl (ht _ k_15) (ht _ k_131) (by decide +kernel) ⟨Nat.le_of_ble_eq_true rfl, Nat.le_of_ble_eq_true rfl⟩, (ht _ k_133), (ht _ k_132)⟩ (pre_v hK hN hP (q0 := 1) (ci := 0) rfl rfl) rfl rfl hl.1 rfl (lv_room (Nat.le_of_ble_eq_true rfl)) dX6_closed_5 ⟨Nat.zero_le _, Nat.zero_le _⟩) ?_
  refine lv_if_ne (tgt := 13) hx hb dX6_closed_8 (by decide) (fun c2 => ?_) (fun c2 => ?_)
  · replace hR := it_n c2 hR
    refine lv_aload_n hx hb dX6_closed_13 rfl (lv_at hl 0 rfl) ?_
    refine va_get (D := (dC, dI)) (ci := 6) (v := .ref (ad 12)) (C := RX6) (T := TX6) (N := 7) hx hb ht hinX6 hown hK hP 0 rfl rfl 1 (by decide) (ht _ k_111) (fun _ h9 => h9) rfl dX6_closed_14 ?_
    refine lv_iload_n hx hb dX6_closed_17 rfl (lv_at hl 1 rfl) ?_
    obtain ⟨r3, hC, hR⟩ := ob hR
    try dsimp only at hR
    refine ro_calli (va_runV (As := [.int p1]) (rest := []) ⟨hx, hb, hml, hown, ht⟩ (c_Ways_isClosedAt l dC dI ad tI tL tII tLL cnt w tot rew grp fin gns rst rws last now nxt whl au al mu ml p1 r3 hC.symm) ⟨callB_of 1 ht (goodG k_45) rfl rfl rfl (ht _ k_33) (ht _ k_135) (by decide +kernel) ⟨Nat.le_of_ble_eq_true rfl, Nat.le_of_ble_eq_true rfl⟩, (ht _ k_48), (ht _ k_47)⟩ (pre_v hK hN hP (q0 := 12) (ci := 5) rfl rfl) rfl rfl hl.1 rfl (lv_room (Nat.le_of_ble_eq_true rfl)) dX6_closed_18 ⟨Nat.zero_le _, Nat.zero_le _⟩) ?_
    refine lv_if_eq (tgt := 28) hx hb dX6_closed_21 (by decide) (fun c4 => ?_) (fun c4 => ?_)
    · replace hR := it_p c4 hR
      refine lv_iconst (v := 0) hx hb dX6_closed_28 (by decide) ?_
      cases hR
      exact W.iret hx hb hr (fun t ht _ => ⟨rfl, ht⟩) t_nil dX6_closed_29
    · replace hR := it_n c4 hR
      refine lv_iconst (v := 1) hx hb dX6_closed_24 (by decide) ?_
      refine lv_goto (tgt := 29) hx hb dX6_closed_25 (by decide) ?_
      cases hR
      exact W.iret hx hb hr (fun t ht _ => ⟨rfl, ht⟩) t_nil dX6_closed_29
  · replace hR := it_p c2 hR
    refine lv_iconst (v := (-1)) hx hb dX6_closed_11 (by decide) ?_
    cases hR
    exact W.iret hx hb hr (fun t ht _ => ⟨rfl, ht⟩) t_nil dX6_closed_12
abbrev RM_f_CS_period : Room := { frames := 5, cells := 0, slots := 0, locals := 113 }
abbrev W_CS_period : List Cond := .code yX6_period cX6_period 2 (some .int) :: tblG
set_option maxHeartbeats 4000000 in
set_option maxRecDepth 100000 in
theorem c_CS_period (l : Launch) (dC : Nat → ClassId) (dI : Nat → Nat → Nat) (ad : Nat → Nat) (tI tL tII tLL : ClassId) (cnt : Int32) (w : Nat → Nat → Int32) (tot : Nat → Int32) (rew : Nat → Int32) (grp : Nat → Int32) (fin : Nat → Int32) (gns : Nat → Int64) (rst : Nat → Int32) (rws : Nat → Nat → Int64) (last : Int32) (now : Nat → Int64) (nxt : Nat → Int64) (whl : Int64) (au : Int64) (al : Int64) (mu : Int64) (ml : Int64) (p1 : Int32) (R0 : Int32) (hR : some R0 = f_CS_period cnt w tot p1) : Met l yX6_period W_CS_period RM_f_CS_period (roP (dC, dI) vwCl [(tI, .int), (tL, .long), (tII, .array .int), (tLL, .array .long)] (wC ad tI tL tII tLL cnt w tot rew grp fin gns rst rws last now nxt whl au al mu ml) ([.ref (ad 0), .int p1] : List Value)) (roQ (some (.int R0))) 0 0 (fun _ => False) := by
  refine Met.ofW (cc := cX6_period) (maxL := 2) (ret := (some .int)) (by decide) rfl ?_
  intro p e s m args below meth c s₁ B hml hv
  obtain ⟨rfl, hP, hK, hN⟩ := hv
  have hx := B.exec
  have hb := B.bytes
  have hr := B.returns
  have hts := atoms_spec (ws := W_CS_period) B.pre
  have ht := fun (w : Cond) (h : w ∈ tblG) => hts w (List.mem_cons_of_mem _ h)
  have hown : s.vm.findClass RX6 = some m.cls := findClass_of_methodNamed B.named
  have hlocks := B.notSynchronized
  have hl := lv_entry ([.ref (ad 0), .int p1] : List Value) (n := 2) (Nat.le_of_ble_eq_true rfl)
  rw [lg_entry_eq]
  generalize (lg_sl ([.ref (ad 0), .int p1] : List Value) ++ List.replicate (2 - (lg_sl ([.ref (ad 0), .int p1] : List Value)).length) Slot.unset).toArray = ls at hl ⊢
  have hl : lv_has ls 2 [(0, .ref (ad 0)), (1, .int p1)] := hl
  rw [f_CS_period] at hR
  refine lv_aload_n hx hb dX6_period_0 rfl (lv_at hl 0 rfl) ?_
  refine va_get (D := (dC, dI)) (ci := 6) (v := .ref (ad 1)) (C := RX6) (T := TX6) (N := 7) hx hb ht hinX6 hown hK hP 0 rfl rfl 0 (by decide) (ht _ k_125) (fun _ h9 => h9) rfl dX6_period_1 ?_
  refine lv_iload_n hx hb dX6_period_4 rfl (lv_at hl 1 rfl) ?_
  obtain ⟨r1, hC, hR⟩ := ob hR
  try dsimp only at hR
  refine ro_calli (va_runV (As := [.int p1]) (rest := []) ⟨hx, hb, hml, hown, ht⟩ (c_Chain_has l dC dI ad tI tL tII tLL cnt w tot rew grp fin gns rst rws last now nxt whl au al mu ml p1 r1 hC.symm) ⟨callB_of 1 ht (goodG k_130) rfl rfl rfl (ht _ k_15) (ht _ k_131) (by decide +kernel) ⟨Nat.le_of_ble_eq_true rfl, Nat.le_of_ble_eq_true rfl⟩, (ht _ k_133), (ht _ k_132)⟩ (pre_v hK hN hP (q0 := 1) (ci := 0) rfl rfl) rfl rfl hl.1 rfl (lv_room (Nat.le_of_ble_eq_true rfl)) dX6_period_5 ⟨Nat.zero_le _, Nat.zero_le _⟩) ?_
  refine lv_if_eq (tgt := 22) hx hb dX6_period_8 (by decide) (fun c2 => ?_) (fun c2 => ?_)
  · replace hR := it_p c2 hR
    refine lv_iconst (v := (-1)) hx hb dX6_period_22 (by decide) ?_
    cases hR
    exact W.iret hx hb hr (fun t ht _ => ⟨rfl, ht⟩) t_nil dX6_period_23
  · replace hR := it_n c2 hR
    refine lv_aload_n hx hb dX6_period_11 rfl (lv_at hl 0 rfl) ?_
    refine va_get (D := (dC, dI)) (ci := 6) (v := .ref (ad 12)) (C := RX6) (T := TX6) (N := 7) hx hb ht hinX6 hown hK hP 0 rfl rfl 1 (by decide) (ht _ k_111) (fun _ h9 => h9) rfl dX6_period_12 ?_
    refine lv_iload_n hx hb dX6_period_15 rfl (lv_at hl 1 rfl) ?_
    obtain ⟨r3, hC, hR⟩ := ob hR
    try dsimp only at hR
    refine ro_calli (va_runV (As := [.int p1]) (rest := []) ⟨hx, hb, hml, hown, ht⟩ (c_Ways_ringDivisor l dC dI ad tI tL tII tLL cnt w tot rew grp fin gns rst rws last now nxt whl au al mu ml p1 r3 hC.symm) ⟨callB_of 1 ht (goodG k_136) rfl rfl rfl (ht _ k_33) (ht _ k_137) (by decide +kernel) ⟨Nat.le_of_ble_eq_true rfl, Nat.le_of_ble_eq_true rfl⟩, (ht _ k_139), (ht _ k_138)⟩ (pre_v hK hN hP (q0 := 12) (ci := 5) rfl rfl) rfl rfl hl.1 rfl (lv_room (Nat.le_of_ble_eq_true rfl)) dX6_period_16 ⟨Nat.zero_le _, Nat.zero_le _⟩) ?_
    refine lv_goto (tgt := 23) hx hb dX6_period_19 (by decide) ?_
    cases hR
    exact W.iret hx hb hr (fun t ht _ => ⟨rfl, ht⟩) t_nil dX6_period_23
abbrev RM_f_CS_alike : Room := { frames := 6, cells := 0, slots := 0, locals := 137 }
abbrev W_CS_alike : List Cond := .code yX6_alike cX6_alike 2 (some .int) :: tblG
set_option maxHeartbeats 4000000 in
set_option maxRecDepth 100000 in
theorem c_CS_alike (l : Launch) (dC : Nat → ClassId) (dI : Nat → Nat → Nat) (ad : Nat → Nat) (tI tL tII tLL : ClassId) (cnt : Int32) (w : Nat → Nat → Int32) (tot : Nat → Int32) (rew : Nat → Int32) (grp : Nat → Int32) (fin : Nat → Int32) (gns : Nat → Int64) (rst : Nat → Int32) (rws : Nat → Nat → Int64) (last : Int32) (now : Nat → Int64) (nxt : Nat → Int64) (whl : Int64) (au : Int64) (al : Int64) (mu : Int64) (ml : Int64) (p1 : Int32) (R0 : Int32) (R_grp : Nat → Int32) (R_fin : Nat → Int32) (hR : some (R0, R_grp, R_fin) = f_CS_alike cnt w tot rew grp fin p1) : Met l yX6_alike W_CS_alike RM_f_CS_alike (rwP (dC, dI) vwCl [(tI, .int), (tL, .long), (tII, .array .int), (tLL, .array .long)] (wC ad tI tL tII tLL cnt w tot rew grp fin gns rst rws last now nxt whl au al mu ml) ([.ref (ad 0), .int p1] : List Value)) (rwQ (dC, dI) vwCl (wC ad tI tL tII tLL cnt w tot rew R_grp R_fin gns rst rws last now nxt whl au al mu ml) (some (.int R0)) (rwA (wC ad tI tL tII tLL cnt w tot rew grp fin gns rst rws last now nxt whl au al mu ml))) 0 0 (rwA (wC ad tI tL tII tLL cnt w tot rew grp fin gns rst rws last now nxt whl au al mu ml)) := by
  refine Met.ofW (cc := cX6_alike) (maxL := 2) (ret := (some .int)) (by decide) rfl ?_
  intro p e s m args below meth c s₁ B hml hv
  obtain ⟨rfl, hP, hK, hN, hD⟩ := hv
  have hx := B.exec
  have hb := B.bytes
  have hr := B.returns
  have hts := atoms_spec (ws := W_CS_alike) B.pre
  have ht := fun (w : Cond) (h : w ∈ tblG) => hts w (List.mem_cons_of_mem _ h)
  have hown : s.vm.findClass RX6 = some m.cls := findClass_of_methodNamed B.named
  have hlocks := B.notSynchronized
  have hl := lv_entry ([.ref (ad 0), .int p1] : List Value) (n := 2) (Nat.le_of_ble_eq_true rfl)
  rw [lg_entry_eq]
  generalize (lg_sl ([.ref (ad 0), .int p1] : List Value) ++ List.replicate (2 - (lg_sl ([.ref (ad 0), .int p1] : List Value)).length) Slot.unset).toArray = ls at hl ⊢
  have hl : lv_has ls 2 [(0, .ref (ad 0)), (1, .int p1)] := hl
  have hD := hD.own
  have hS : va_S (rwA (wC ad tI tL tII tLL cnt w tot rew grp fin gns rst rws last now nxt whl au al mu ml)) s.heap s.heap [] := va_S.rf
  suffices K : ∀ (H : Heap) (locs : List Loc), va_P (dC, dI) vwCl (wC ad tI tL tII tLL cnt w tot rew grp fin gns rst rws last now nxt whl au al mu ml) H → va_D (rwA (wC ad tI tL tII tLL cnt w tot rew grp fin gns rst rws last now nxt whl au al mu ml)) (wC ad tI tL tII tLL cnt w tot rew grp fin gns rst rws last now nxt whl au al mu ml) → va_S (rwA (wC ad tI tL tII tLL cnt w tot rew grp fin gns rst rws last now nxt whl au al mu ml)) s.heap H locs → W p l e (headSpec W_CS_alike RM_f_CS_alike).room s m ([.ref (ad 0), .int p1] : List Value).toArray below meth c H locs 0 0 (MQ below (rwQ (dC, dI) vwCl (wC ad tI tL tII tLL cnt w tot rew R_grp R_fin gns rst rws last now nxt whl au al mu ml) (some (.int R0)) (rwA (wC ad tI tL tII tLL cnt w tot rew grp fin gns rst rws last now nxt whl au al mu ml))) ([.ref (ad 0), .int p1] : List Value).toArray s 0 0 (rwA (wC ad tI tL tII tLL cnt w tot rew grp fin gns rst rws last now nxt whl au al mu ml))) (F0 m 0 ls []) from K s.heap [] hP hD hS
  clear hP hD hS
  intro H locs hP hD hS
  rw [f_CS_alike] at hR
  refine lv_aload_n hx hb dX6_alike_0 rfl (lv_at hl 0 rfl) ?_
  refine va_get (D := (dC, dI)) (ci := 6) (v := .ref (ad 1)) (C := RX6) (T := TX6) (N := 7) hx hb ht hinX6 hown hK hP 0 rfl rfl 0 (by decide) (ht _ k_125) (fun _ h9 => h9) rfl dX6_alike_1 ?_
  refine lv_iload_n hx hb dX6_alike_4 rfl (lv_at hl 1 rfl) ?_
  obtain ⟨r1, hC, hR⟩ := ob hR
  try dsimp only at hR
  refine ro_calli (va_runV (As := [.int p1]) (rest := []) ⟨hx, hb, hml, hown, ht⟩ (c_Chain_has l dC dI ad tI tL tII tLL cnt w tot rew grp fin gns rst rws last now nxt whl au al mu ml p1 r1 hC.symm) ⟨callB_of 1 ht (goodG k_130) rfl rfl rfl (ht _ k_15) (ht _ k_131) (by decide +kernel) ⟨Nat.le_of_ble_eq_true rfl, Nat.le_of_ble_eq_true rfl⟩, (ht _ k_133), (ht _ k_132)⟩ (pre_v hK hN hP (q0 := 1) (ci := 0) rfl rfl) rfl rfl hl.1 rfl (lv_room (Nat.le_of_ble_eq_true rfl)) dX6_alike_5 ⟨Nat.zero_le _, Nat.zero_le _⟩) ?_
  refine lv_if_ne (tgt := 13) hx hb dX6_alike_8 (by decide) (fun c2 => ?_) (fun c2 => ?_)
  · replace hR := it_n c2 hR
    refine lv_aload_n hx hb dX6_alike_13 rfl (lv_at hl 0 rfl) ?_
    refine va_get (D := (dC, dI)) (ci := 6) (v := .ref (ad 13)) (C := RX6) (T := TX6) (N := 7) hx hb ht hinX6 hown hK hP 0 rfl rfl 2 (by decide) (ht _ k_140) (fun _ h9 => h9) rfl dX6_alike_14 ?_
    obtain ⟨⟨grp_3, fin_4⟩, hC, hR⟩ := ob hR
    try dsimp only at hR
    refine rw_callv (va_runV (As := []) (rest := []) ⟨hx, hb, hml, hown, ht⟩ (c_Likeness_find l dC dI ad tI tL tII tLL cnt w tot rew grp fin gns rst rws last now nxt whl au al mu ml  grp_3 fin_4 hC.symm) ⟨callB_of 0 ht (goodG k_141) rfl rfl rfl (ht _ k_57) (ht _ k_142) (by decide +kernel) ⟨Nat.le_of_ble_eq_true rfl, Nat.le_of_ble_eq_true rfl⟩, (ht _ k_144), (ht _ k_143)⟩ (pre_vw hK hN hP hD (q0 := 13) (ci := 3) rfl rfl) rfl rfl hl.1 rfl (lv_room (Nat.le_of_ble_eq_true rfl)) dX6_alike_17 ⟨Nat.zero_le _, Nat.zero_le _⟩) hD hS rfl (fun H locs hP hD hS => ?_)
    have hP : va_P (dC, dI) vwCl (wC ad tI tL tII tLL cnt w tot rew grp_3 fin_4 gns rst rws last now nxt whl au al mu ml) H := hP
    have hD : va_D (rwA (wC ad tI tL tII tLL cnt w tot rew grp fin gns rst rws last now nxt whl au al mu ml)) (wC ad tI tL tII tLL cnt w tot rew grp_3 fin_4 gns rst rws last now nxt whl au al mu ml) := hD
    refine lv_aload_n hx hb dX6_alike_20 rfl (lv_at hl 0 rfl) ?_
    refine va_get (D := (dC, dI)) (ci := 6) (v := .ref (ad 13)) (C := RX6) (T := TX6) (N := 7) hx hb ht hinX6 hown hK hP 0 rfl rfl 2 (by decide) (ht _ k_140) (fun _ h9 => h9) rfl dX6_alike_21 ?_
    refine va_getN (D := (dC, dI)) (ci := 3) (v := .ref (ad 14)) (C := RX3) (T := TX3) (N := 3) hx hb ht hinX3 hown hK hP 13 rfl rfl 1 (by decide) (va_Nw.use rfl (nf_10 hN)) (fun _ h9 => h9) rfl dX6_alike_24 ?_
    refine lv_iload_n hx hb dX6_alike_27 rfl (lv_at hl 1 rfl) ?_
    obtain ⟨z5, hR⟩ := og hR
    refine va_iald hx hb hK hP 14 0 rfl rfl (ix_in z5) dX6_alike_28 ?_
    cases hR
    exact W.iret hx hb hr (fun t ht _ => ⟨rfl, by rw [ht]; exact hP, hS.F ht⟩) hS.2.2 dX6_alike_29
  · replace hR := it_p c2 hR
    refine lv_iconst (v := (-1)) hx hb dX6_alike_11 (by decide) ?_
    cases hR
    exact W.iret hx hb hr (fun t ht _ => ⟨rfl, by rw [ht]; exact hP, hS.F ht⟩) hS.2.2 dX6_alike_12
abbrev RM_f_CS_ever : Room := { frames := 5, cells := 0, slots := 0, locals := 127 }
abbrev W_CS_ever : List Cond := .code yX6_ever cX6_ever 3 (some .int) :: tblG
set_option maxHeartbeats 4000000 in
set_option maxRecDepth 100000 in
theorem c_CS_ever (l : Launch) (dC : Nat → ClassId) (dI : Nat → Nat → Nat) (ad : Nat → Nat) (tI tL tII tLL : ClassId) (cnt : Int32) (w : Nat → Nat → Int32) (tot : Nat → Int32) (rew : Nat → Int32) (grp : Nat → Int32) (fin : Nat → Int32) (gns : Nat → Int64) (rst : Nat → Int32) (rws : Nat → Nat → Int64) (last : Int32) (now : Nat → Int64) (nxt : Nat → Int64) (whl : Int64) (au : Int64) (al : Int64) (mu : Int64) (ml : Int64) (p1 : Int32) (p2 : Int32) (R0 : Int32) (R_gns : Nat → Int64) (R_rst : Nat → Int32) (R_rws : Nat → Nat → Int64) (R_last : Int32) (R_au : Int64) (R_al : Int64) (hR : some (R0, R_gns, R_rst, R_rws, R_last, R_au, R_al) = f_CS_ever cnt w tot gns rst rws last au al p1 p2) : Met l yX6_ever W_CS_ever RM_f_CS_ever (rwP (dC, dI) vwCl [(tI, .int), (tL, .long), (tII, .array .int), (tLL, .array .long)] (wC ad tI tL tII tLL cnt w tot rew grp fin gns rst rws last now nxt whl au al mu ml) ([.ref (ad 0), .int p1, .int p2] : List Value)) (rwQ (dC, dI) vwCl (wC ad tI tL tII tLL cnt w tot rew grp fin R_gns R_rst R_rws R_last now nxt whl R_au R_al mu ml) (some (.int R0)) (rwA (wC ad tI tL tII tLL cnt w tot rew grp fin gns rst rws last now nxt whl au al mu ml))) 0 0 (rwA (wC ad tI tL tII tLL cnt w tot rew grp fin gns rst rws last now nxt whl au al mu ml)) := by
  refine Met.ofW (cc := cX6_ever) (maxL := 3) (ret := (some .int)) (by decide) rfl ?_
  intro p e s m args below meth c s₁ B hml hv
  obtain ⟨rfl, hP, hK, hN, hD⟩ := hv
  have hx := B.exec
  have hb := B.bytes
  have hr := B.returns
  have hts := atoms_spec (ws := W_CS_ever) B.pre
  have ht := fun (w : Cond) (h : w ∈ tblG) => hts w (List.mem_cons_of_mem _ h)
  have hown : s.vm.findClass RX6 = some m.cls := findClass_of_methodNamed B.named
  have hlocks := B.notSynchronized
  have hl := lv_entry ([.ref (ad 0), .int p1, .int p2] : List Value) (n := 3) (Nat.le_of_ble_eq_true rfl)
  rw [lg_entry_eq]
  generalize (lg_sl ([.ref (ad 0), .int p1, .int p2] : List Value) ++ List.replicate (3 - (lg_sl ([.ref (ad 0), .int p1, .int p2] : List Value)).length) Slot.unset).toArray = ls at hl ⊢
  have hl : lv_has ls 3 [(0, .ref (ad 0)), (1, .int p1), (2, .int p2)] := hl
  have hD := hD.own
  have hS : va_S (rwA (wC ad tI tL tII tLL cnt w tot rew grp fin gns rst rws last now nxt whl au al mu ml)) s.heap s.heap [] := va_S.rf
  suffices K : ∀ (H : Heap) (locs : List Loc), va_P (dC, dI) vwCl (wC ad tI tL tII tLL cnt w tot rew grp fin gns rst rws last now nxt whl au al mu ml) H → va_D (rwA (wC ad tI tL tII tLL cnt w tot rew grp fin gns rst rws last now nxt whl au al mu ml)) (wC ad tI tL tII tLL cnt w tot rew grp fin gns rst rws last now nxt whl au al mu ml) → va_S (rwA (wC ad tI tL tII tLL cnt w tot rew grp fin gns rst rws last now nxt whl au al mu ml)) s.heap H locs → W p l e (headSpec W_CS_ever RM_f_CS_ever).room s m ([.ref (ad 0), .int p1, .int p2] : List Value).toArray below meth c H locs 0 0 (MQ below (rwQ (dC, dI) vwCl (wC ad tI tL tII tLL cnt w tot rew grp fin R_gns R_rst R_rws R_last now nxt whl R_au R_al mu ml) (some (.int R0)) (rwA (wC ad tI tL tII tLL cnt w tot rew grp fin gns rst rws last now nxt whl au al mu ml))) ([.ref (ad 0), .int p1, .int p2] : List Value).toArray s 0 0 (rwA (wC ad tI tL tII tLL cnt w tot rew grp fin gns rst rws last now nxt whl au al mu ml))) (F0 m 0 ls []) from K s.heap [] hP hD hS
  clear hP hD hS
  intro H locs hP hD hS
  rw [f_CS_ever] at hR
  refine lv_aload_n hx hb dX6_ever_0 rfl (lv_at hl 0 rfl) ?_
  refine va_get (D := (dC, dI)) (ci := 6) (v := .ref (ad 1)) (C := RX6) (T := TX6) (N := 7) hx hb ht hinX6 hown hK hP 0 rfl rfl 0 (by decide) (ht _ k_125) (fun _ h9 => h9) rfl dX6_ever_1 ?_
  refine lv_iload_n hx hb dX6_ever_4 rfl (lv_at hl 1 rfl) ?_
  obtain ⟨r1, hC, hR⟩ := ob hR
  try dsimp only at hR
  refine ro_calli (va_runV (As := [.int p1]) (rest := []) ⟨hx, hb, hml, hown, ht⟩ (c_Chain_has l dC dI ad tI tL tII tLL cnt w tot rew grp fin gns rst rws last now nxt whl au al mu ml p1 r1 hC.symm) ⟨callB_of 1 ht (goodG k_130) rfl rfl rfl (ht _ k_15) (ht _ k_131) (by decide +kernel) ⟨Nat.le_of_ble_eq_true rfl, Nat.le_of_ble_eq_true rfl⟩, (ht _ k_133), (ht _ k_132)⟩ (pre_v hK hN hP (q0 := 1) (ci := 0) rfl rfl) rfl rfl hl.1 rfl (lv_room (Nat.le_of_ble_eq_true rfl)) dX6_ever_5 ⟨Nat.zero_le _, Nat.zero_le _⟩) ?_
  refine lv_if_eq (tgt := 22) hx hb dX6_ever_8 (by decide) (fun c2 => ?_) (fun c2 => ?_)
  · replace hR := it_p c2 hR
    refine lv_iconst (v := (-1)) hx hb dX6_ever_22 (by decide) ?_
    cases hR
    exact W.iret hx hb hr (fun t ht _ => ⟨rfl, by rw [ht]; exact hP, hS.F ht⟩) hS.2.2 dX6_ever_23
  · replace hR := it_n c2 hR
    refine lv_aload_n hx hb dX6_ever_11 rfl (lv_at hl 0 rfl) ?_
    refine va_get (D := (dC, dI)) (ci := 6) (v := .ref (ad 1)) (C := RX6) (T := TX6) (N := 7) hx hb ht hinX6 hown hK hP 0 rfl rfl 0 (by decide) (ht _ k_125) (fun _ h9 => h9) rfl dX6_ever_12 ?_
    refine lv_iload_n hx hb dX6_ever_15 rfl (lv_at hl 2 rfl) ?_
    obtain ⟨r3, hC, hR⟩ := ob hR
    try dsimp only at hR
    refine ro_calli (va_runV (As := [.int p2]) (rest := []) ⟨hx, hb, hml, hown, ht⟩ (c_Chain_has l dC dI ad tI tL tII tLL cnt w tot rew grp fin gns rst rws last now nxt whl au al mu ml p2 r3 hC.symm) ⟨callB_of 1 ht (goodG k_130) rfl rfl rfl (ht _ k_15) (ht _ k_131) (by decide +kernel) ⟨Nat.le_of_ble_eq_true rfl, Nat.le_of_ble_eq_true rfl⟩, (ht _ k_133), (ht _ k_132)⟩ (pre_v hK hN hP (q0 := 1) (ci := 0) rfl rfl) rfl rfl hl.1 rfl (lv_room (Nat.le_of_ble_eq_true rfl)) dX6_ever_16 ⟨Nat.zero_le _, Nat.zero_le _⟩) ?_
    refine lv_if_ne (tgt := 24) hx hb dX6_ever_19 (by decide) (fun c4 => ?_) (fun c4 => ?_)
    · replace hR := it_n c4 hR
      refine lv_aload_n hx hb dX6_ever_24 rfl (lv_at hl 0 rfl) ?_
      refine lv_iload_n hx hb dX6_ever_25 rfl (lv_at hl 1 rfl) ?_
      refine lv_iconst (v := 1) hx hb dX6_ever_26 (by decide) ?_
      refine lv_iload_n hx hb dX6_ever_27 rfl (lv_at hl 2 rfl) ?_
      refine lv_ishl hx hb dX6_ever_28 ?_
      refine lv_iconst (v := 0) hx hb dX6_ever_29 (by decide) ?_
      obtain ⟨⟨gns_5, rst_6, rws_7, last_8, au_9, al_10⟩, hC, hR⟩ := ob hR
      try dsimp only at hR
      refine rw_callv (va_runV (As := [.int p1, .int ((1 : Int32) <<< (p2 &&& 31)), .int (0 : Int32)]) (rest := []) ⟨hx, hb, hml, hown, ht⟩ (c_CS_answerOddsToMeet l dC dI ad tI tL tII tLL cnt w tot rew grp fin gns rst rws last now nxt whl au al mu ml p1 ((1 : Int32) <<< (p2 &&& 31)) (0 : Int32) gns_5 rst_6 rws_7 last_8 au_9 al_10 hC.symm) ⟨callB_of 3 ht (goodG k_145) rfl rfl rfl (ht _ k_8) (ht _ k_146) (by decide +kernel) ⟨Nat.le_of_ble_eq_true rfl, Nat.le_of_ble_eq_true rfl⟩, (ht _ k_148), (ht _ k_147)⟩ (pre_vw hK hN hP hD (q0 := 0) (ci := 6) rfl rfl) rfl rfl hl.1 rfl (lv_room (Nat.le_of_ble_eq_true rfl)) dX6_ever_30 ⟨Nat.zero_le _, Nat.zero_le _⟩) hD hS rfl (fun H locs hP hD hS => ?_)
      have hP : va_P (dC, dI) vwCl (wC ad tI tL tII tLL cnt w tot rew grp fin gns_5 rst_6 rws_7 last_8 now nxt whl au_9 al_10 mu ml) H := hP
      have hD : va_D (rwA (wC ad tI tL tII tLL cnt w tot rew grp fin gns rst rws last now nxt whl au al mu ml)) (wC ad tI tL tII tLL cnt w tot rew grp fin gns_5 rst_6 rws_7 last_8 now nxt whl au_9 al_10 mu ml) := hD
      refine lv_iconst (v := 1) hx hb dX6_ever_33 (by decide) ?_
      cases hR
      exact W.iret hx hb hr (fun t ht _ => ⟨rfl, by rw [ht]; exact hP, hS.F ht⟩) hS.2.2 dX6_ever_34
    · replace hR := it_p c4 hR
      refine lv_iconst (v := (-1)) hx hb dX6_ever_22 (by decide) ?_
      cases hR
      exact W.iret hx hb hr (fun t ht _ => ⟨rfl, by rw [ht]; exact hP, hS.F ht⟩) hS.2.2 dX6_ever_23
abbrev RM_f_CS_again : Room := { frames := 4, cells := 0, slots := 0, locals := 103 }
abbrev W_CS_again : List Cond := .code yX6_again cX6_again 3 (some .int) :: tblG
set_option maxHeartbeats 4000000 in
set_option maxRecDepth 100000 in
theorem c_CS_again (l : Launch) (dC : Nat → ClassId) (dI : Nat → Nat → Nat) (ad : Nat → Nat) (tI tL tII tLL : ClassId) (cnt : Int32) (w : Nat → Nat → Int32) (tot : Nat → Int32) (rew : Nat → Int32) (grp : Nat → Int32) (fin : Nat → Int32) (gns : Nat → Int64) (rst : Nat → Int32) (rws : Nat → Nat → Int64) (last : Int32) (now : Nat → Int64) (nxt : Nat → Int64) (whl : Int64) (au : Int64) (al : Int64) (mu : Int64) (ml : Int64) (p1 : Int32) (R0 : Int32) (R_gns : Nat → Int64) (R_rst : Nat → Int32) (R_rws : Nat → Nat → Int64) (R_last : Int32) (R_au : Int64) (R_al : Int64) (hR : some (R0, R_gns, R_rst, R_rws, R_last, R_au, R_al) = f_CS_again cnt w tot gns rst rws last au al p1) : Met l yX6_again W_CS_again RM_f_CS_again (rwP (dC, dI) vwCl [(tI, .int), (tL, .long), (tII, .array .int), (tLL, .array .long)] (wC ad tI tL tII tLL cnt w tot rew grp fin gns rst rws last now nxt whl au al mu ml) ([.ref (ad 0), .int p1] : List Value)) (rwQ (dC, dI) vwCl (wC ad tI tL tII tLL cnt w tot rew grp fin R_gns R_rst R_rws R_last now nxt whl R_au R_al mu ml) (some (.int R0)) (rwA (wC ad tI tL tII tLL cnt w tot rew grp fin gns rst rws last now nxt whl au al mu ml))) 0 0 (rwA (wC ad tI tL tII tLL cnt w tot rew grp fin gns rst rws last now nxt whl au al mu ml)) := by
  refine Met.ofW (cc := cX6_again) (maxL := 3) (ret := (some .int)) (by decide) rfl ?_
  intro p e s m args below meth c s₁ B hml hv
  obtain ⟨rfl, hP, hK, hN, hD⟩ := hv
  have hx := B.exec
  have hb := B.bytes
  have hr := B.returns
  have hts := atoms_spec (ws := W_CS_again) B.pre
  have ht := fun (w : Cond) (h : w ∈ tblG) => hts w (List.mem_cons_of_mem _ h)
  have hown : s.vm.findClass RX6 = some m.cls := findClass_of_methodNamed B.named
  have hlocks := B.notSynchronized
  have hl := lv_entry ([.ref (ad 0), .int p1] : List Value) (n := 3) (Nat.le_of_ble_eq_true rfl)
  rw [lg_entry_eq]
  generalize (lg_sl ([.ref (ad 0), .int p1] : List Value) ++ List.replicate (3 - (lg_sl ([.ref (ad 0), .int p1] : List Value)).length) Slot.unset).toArray = ls at hl ⊢
  have hl : lv_has ls 3 [(0, .ref (ad 0)), (1, .int p1)] := hl
  have hD := hD.own
  have hS : va_S (rwA (wC ad tI tL tII tLL cnt w tot rew grp fin gns rst rws last now nxt whl au al mu ml)) s.heap s.heap [] := va_S.rf
  suffices K : ∀ (H : Heap) (locs : List Loc), va_P (dC, dI) vwCl (wC ad tI tL tII tLL cnt w tot rew grp fin gns rst rws last now nxt whl au al mu ml) H → va_D (rwA (wC ad tI tL tII tLL cnt w tot rew grp fin gns rst rws last now nxt whl au al mu ml)) (wC ad tI tL tII tLL cnt w tot rew grp fin gns rst rws last now nxt whl au al mu ml) → va_S (rwA (wC ad tI tL tII tLL cnt w tot rew grp fin gns rst rws last now nxt whl au al mu ml)) s.heap H locs → W p l e (headSpec W_CS_again RM_f_CS_again).room s m ([.ref (ad 0), .int p1] : List Value).toArray below meth c H locs 0 0 (MQ below (rwQ (dC, dI) vwCl (wC ad tI tL tII tLL cnt w tot rew grp fin R_gns R_rst R_rws R_last now nxt whl R_au R_al mu ml) (some (.int R0)) (rwA (wC ad tI tL tII tLL cnt w tot rew grp fin gns rst rws last now nxt whl au al mu ml))) ([.ref (ad 0), .int p1] : List Value).toArray s 0 0 (rwA (wC ad tI tL tII tLL cnt w tot rew grp fin gns rst rws last now nxt whl au al mu ml))) (F0 m 0 ls []) from K s.heap [] hP hD hS
  clear hP hD hS
  intro H locs hP hD hS
  rw [f_CS_again] at hR
  refine lv_aload_n hx hb dX6_again_0 rfl (lv_at hl 0 rfl) ?_
  refine va_get (D := (dC, dI)) (ci := 6) (v := .ref (ad 1)) (C := RX6) (T := TX6) (N := 7) hx hb ht hinX6 hown hK hP 0 rfl rfl 0 (by decide) (ht _ k_125) (fun _ h9 => h9) rfl dX6_again_1 ?_
  refine lv_iload_n hx hb dX6_again_4 rfl (lv_at hl 1 rfl) ?_
  obtain ⟨r1, hC, hR⟩ := ob hR
  try dsimp only at hR
  refine ro_calli (va_runV (As := [.int p1]) (rest := []) ⟨hx, hb, hml, hown, ht⟩ (c_Chain_has l dC dI ad tI tL tII tLL cnt w tot rew grp fin gns rst rws last now nxt whl au al mu ml p1 r1 hC.symm) ⟨callB_of 1 ht (goodG k_130) rfl rfl rfl (ht _ k_15) (ht _ k_131) (by decide +kernel) ⟨Nat.le_of_ble_eq_true rfl, Nat.le_of_ble_eq_true rfl⟩, (ht _ k_133), (ht _ k_132)⟩ (pre_v hK hN hP (q0 := 1) (ci := 0) rfl rfl) rfl rfl hl.1 rfl (lv_room (Nat.le_of_ble_eq_true rfl)) dX6_again_5 ⟨Nat.zero_le _, Nat.zero_le _⟩) ?_
  refine lv_if_ne (tgt := 13) hx hb dX6_again_8 (by decide) (fun c2 => ?_) (fun c2 => ?_)
  · replace hR := it_n c2 hR
    refine lv_iconst (v := 1) hx hb dX6_again_13 (by decide) ?_
    refine lv_iload_n hx hb dX6_again_14 rfl (lv_at hl 1 rfl) ?_
    refine lv_ishl hx hb dX6_again_15 ?_
    refine lv_istore_n (lv' := [(2, .int ((1 : Int32) <<< (p1 &&& 31))), (0, .ref (ad 0)), (1, .int p1)]) hx hb dX6_again_16 rfl hl (by decide) rfl (fun ls hl => ?_)
    refine lv_aload_n hx hb dX6_again_17 rfl (lv_at hl 1 rfl) ?_
    refine va_get (D := (dC, dI)) (ci := 6) (v := .ref (ad 16)) (C := RX6) (T := TX6) (N := 7) hx hb ht hinX6 hown hK hP 0 rfl rfl 3 (by decide) (ht _ k_114) (fun _ h9 => h9) rfl dX6_again_18 ?_
    refine lv_iload_n hx hb dX6_again_21 rfl (lv_at hl 0 rfl) ?_
    obtain ⟨gns_3, hC, hR⟩ := ob hR
    try dsimp only at hR
    refine rw_callv (va_runV (As := [.int ((1 : Int32) <<< (p1 &&& 31))]) (rest := []) ⟨hx, hb, hml, hown, ht⟩ (c_FirstSteps_gainByEntering l dC dI ad tI tL tII tLL cnt w tot rew grp fin gns rst rws last now nxt whl au al mu ml ((1 : Int32) <<< (p1 &&& 31)) gns_3 hC.symm) ⟨callB_of 1 ht (goodG k_115) rfl rfl rfl (ht _ k_87) (ht _ k_116) (by decide +kernel) ⟨Nat.le_of_ble_eq_true rfl, Nat.le_of_ble_eq_true rfl⟩, (ht _ k_118), (ht _ k_117)⟩ (pre_vw hK hN hP hD (q0 := 16) (ci := 1) rfl rfl) rfl rfl hl.1 rfl (lv_room (Nat.le_of_ble_eq_true rfl)) dX6_again_22 ⟨Nat.zero_le _, Nat.zero_le _⟩) hD hS rfl (fun H locs hP hD hS => ?_)
    have hP : va_P (dC, dI) vwCl (wC ad tI tL tII tLL cnt w tot rew grp fin gns_3 rst rws last now nxt whl au al mu ml) H := hP
    have hD : va_D (rwA (wC ad tI tL tII tLL cnt w tot rew grp fin gns rst rws last now nxt whl au al mu ml)) (wC ad tI tL tII tLL cnt w tot rew grp fin gns_3 rst rws last now nxt whl au al mu ml) := hD
    refine lv_aload_n hx hb dX6_again_25 rfl (lv_at hl 1 rfl) ?_
    refine va_get (D := (dC, dI)) (ci := 6) (v := .ref (ad 16)) (C := RX6) (T := TX6) (N := 7) hx hb ht hinX6 hown hK hP 0 rfl rfl 3 (by decide) (ht _ k_114) (fun _ h9 => h9) rfl dX6_again_26 ?_
    refine lv_iload_n hx hb dX6_again_29 rfl (lv_at hl 2 rfl) ?_
    refine lv_aload_n hx hb dX6_again_30 rfl (lv_at hl 1 rfl) ?_
    refine va_get (D := (dC, dI)) (ci := 6) (v := .ref (ad 12)) (C := RX6) (T := TX6) (N := 7) hx hb ht hinX6 hown hK hP 0 rfl rfl 1 (by decide) (ht _ k_111) (fun _ h9 => h9) rfl dX6_again_31 ?_
    refine lv_iload_n hx hb dX6_again_34 rfl (lv_at hl 0 rfl) ?_
    refine lv_iconst (v := 0) hx hb dX6_again_35 (by decide) ?_
    obtain ⟨r4, hC, hR⟩ := ob hR
    try dsimp only at hR
    refine ro_calli (va_runV (As := [.int ((1 : Int32) <<< (p1 &&& 31)), .int (0 : Int32)]) (rest := [.int p1, .ref (ad 16)]) ⟨hx, hb, hml, hown, ht⟩ (c_Ways_leadingTo l dC dI ad tI tL tII tLL cnt w tot rew grp fin gns_3 rst rws last now nxt whl au al mu ml ((1 : Int32) <<< (p1 &&& 31)) (0 : Int32) r4 hC.symm) ⟨callB_of 2 ht (goodG k_37) rfl rfl rfl (ht _ k_33) (ht _ k_112) (by decide +kernel) ⟨Nat.le_of_ble_eq_true rfl, Nat.le_of_ble_eq_true rfl⟩, (ht _ k_40), (ht _ k_39)⟩ (pre_v hK hN hP (q0 := 12) (ci := 5) rfl rfl) rfl rfl hl.1 rfl (lv_room (Nat.le_of_ble_eq_true rfl)) dX6_again_36 ⟨Nat.zero_le _, Nat.zero_le _⟩) ?_
    refine lv_iload_n hx hb dX6_again_39 rfl (lv_at hl 0 rfl) ?_
    refine lv_iconst (v := (-1)) hx hb dX6_again_40 (by decide) ?_
    refine lv_ixor hx hb dX6_again_41 ?_
    refine lv_iand hx hb dX6_again_42 ?_
    refine lv_aload_n hx hb dX6_again_43 rfl (lv_at hl 1 rfl) ?_
    refine va_get (D := (dC, dI)) (ci := 6) (v := .ref (ad 31)) (C := RX6) (T := TX6) (N := 7) hx hb ht hinX6 hown hK hP 0 rfl rfl 5 (by decide) (ht _ k_119) (fun _ h9 => h9) rfl dX6_again_44 ?_
    obtain ⟨⟨rst_5, rws_6, last_7, au_8, al_9⟩, hC, hR⟩ := ob hR
    try dsimp only at hR
    refine rw_callv (va_runV (As := [.int p1, .int (r4 &&& (((1 : Int32) <<< (p1 &&& 31)) ^^^ (-1 : Int32))), .ref (ad 31)]) (rest := []) ⟨hx, hb, hml, hown, ht⟩ (c_FirstSteps_solveA l dC dI ad tI tL tII tLL cnt w tot rew grp fin gns_3 rst rws last now nxt whl au al mu ml p1 (r4 &&& (((1 : Int32) <<< (p1 &&& 31)) ^^^ (-1 : Int32))) rst_5 rws_6 last_7 au_8 al_9 hC.symm) ⟨callB_of 3 ht (goodG k_120) rfl rfl rfl (ht _ k_87) (ht _ k_121) (by decide +kernel) ⟨Nat.le_of_ble_eq_true rfl, Nat.le_of_ble_eq_true rfl⟩, (ht _ k_123), (ht _ k_122)⟩ (pre_vw hK hN hP hD (q0 := 16) (ci := 1) rfl rfl) rfl rfl hl.1 rfl (lv_room (Nat.le_of_ble_eq_true rfl)) dX6_again_47 ⟨Nat.zero_le _, Nat.zero_le _⟩) hD hS rfl (fun H locs hP hD hS => ?_)
    have hP : va_P (dC, dI) vwCl (wC ad tI tL tII tLL cnt w tot rew grp fin gns_3 rst_5 rws_6 last_7 now nxt whl au_8 al_9 mu ml) H := hP
    have hD : va_D (rwA (wC ad tI tL tII tLL cnt w tot rew grp fin gns rst rws last now nxt whl au al mu ml)) (wC ad tI tL tII tLL cnt w tot rew grp fin gns_3 rst_5 rws_6 last_7 now nxt whl au_8 al_9 mu ml) := hD
    refine lv_iconst (v := 1) hx hb dX6_again_50 (by decide) ?_
    cases hR
    exact W.iret hx hb hr (fun t ht _ => ⟨rfl, by rw [ht]; exact hP, hS.F ht⟩) hS.2.2 dX6_again_51
  · replace hR := it_p c2 hR
    refine lv_iconst (v := (-1)) hx hb dX6_again_11 (by decide) ?_
    cases hR
    exact W.iret hx hb hr (fun t ht _ => ⟨rfl, by rw [ht]; exact hP, hS.F ht⟩) hS.2.2 dX6_again_12
abbrev RM_f_CS_before : Room := { frames := 5, cells := 0, slots := 0, locals := 127 }
abbrev W_CS_before : List Cond := .code yX6_before cX6_before 4 (some .int) :: tblG
set_option maxHeartbeats 4000000 in
set_option maxRecDepth 100000 in
theorem c_CS_before (l : Launch) (dC : Nat → ClassId) (dI : Nat → Nat → Nat) (ad : Nat → Nat) (tI tL tII tLL : ClassId) (cnt : Int32) (w : Nat → Nat → Int32) (tot : Nat → Int32) (rew : Nat → Int32) (grp : Nat → Int32) (fin : Nat → Int32) (gns : Nat → Int64) (rst : Nat → Int32) (rws : Nat → Nat → Int64) (last : Int32) (now : Nat → Int64) (nxt : Nat → Int64) (whl : Int64) (au : Int64) (al : Int64) (mu : Int64) (ml : Int64) (p1 : Int32) (p2 : Int32) (p3 : Int32) (R0 : Int32) (R_gns : Nat → Int64) (R_rst : Nat → Int32) (R_rws : Nat → Nat → Int64) (R_last : Int32) (R_au : Int64) (R_al : Int64) (hR : some (R0, R_gns, R_rst, R_rws, R_last, R_au, R_al) = f_CS_before cnt w tot gns rst rws last au al p1 p2 p3) : Met l yX6_before W_CS_before RM_f_CS_before (rwP (dC, dI) vwCl [(tI, .int), (tL, .long), (tII, .array .int), (tLL, .array .long)] (wC ad tI tL tII tLL cnt w tot rew grp fin gns rst rws last now nxt whl au al mu ml) ([.ref (ad 0), .int p1, .int p2, .int p3] : List Value)) (rwQ (dC, dI) vwCl (wC ad tI tL tII tLL cnt w tot rew grp fin R_gns R_rst R_rws R_last now nxt whl R_au R_al mu ml) (some (.int R0)) (rwA (wC ad tI tL tII tLL cnt w tot rew grp fin gns rst rws last now nxt whl au al mu ml))) 0 0 (rwA (wC ad tI tL tII tLL cnt w tot rew grp fin gns rst rws last now nxt whl au al mu ml)) := by
  refine Met.ofW (cc := cX6_before) (maxL := 4) (ret := (some .int)) (by decide) rfl ?_
  intro p e s m args below meth c s₁ B hml hv
  obtain ⟨rfl, hP, hK, hN, hD⟩ := hv
  have hx := B.exec
  have hb := B.bytes
  have hr := B.returns
  have hts := atoms_spec (ws := W_CS_before) B.pre
  have ht := fun (w : Cond) (h : w ∈ tblG) => hts w (List.mem_cons_of_mem _ h)
  have hown : s.vm.findClass RX6 = some m.cls := findClass_of_methodNamed B.named
  have hlocks := B.notSynchronized
  have hl := lv_entry ([.ref (ad 0), .int p1, .int p2, .int p3] : List Value) (n := 4) (Nat.le_of_ble_eq_true rfl)
  rw [lg_entry_eq]
  generalize (lg_sl ([.ref (ad 0), .int p1, .int p2, .int p3] : List Value) ++ List.replicate (4 - (lg_sl ([.ref (ad 0), .int p1, .int p2, .int p3] : List Value)).length) Slot.unset).toArray = ls at hl ⊢
  have hl : lv_has ls 4 [(0, .ref (ad 0)), (1, .int p1), (2, .int p2), (3, .int p3)] := hl
  have hD := hD.own
  have hS : va_S (rwA (wC ad tI tL tII tLL cnt w tot rew grp fin gns rst rws last now nxt whl au al mu ml)) s.heap s.heap [] := va_S.rf
  suffices K : ∀ (H : Heap) (locs : List Loc), va_P (dC, dI) vwCl (wC ad tI tL tII tLL cnt w tot rew grp fin gns rst rws last now nxt whl au al mu ml) H → va_D (rwA (wC ad tI tL tII tLL cnt w tot rew grp fin gns rst rws last now nxt whl au al mu ml)) (wC ad tI tL tII tLL cnt w tot rew grp fin gns rst rws last now nxt whl au al mu ml) → va_S (rwA (wC ad tI tL tII tLL cnt w tot rew grp fin gns rst rws last now nxt whl au al mu ml)) s.heap H locs → W p l e (headSpec W_CS_before RM_f_CS_before).room s m ([.ref (ad 0), .int p1, .int p2, .int p3] : List Value).toArray below meth c H locs 0 0 (MQ below (rwQ (dC, dI) vwCl (wC ad tI tL tII tLL cnt w tot rew grp fin R_gns R_rst R_rws R_last now nxt whl R_au R_al mu ml) (some (.int R0)) (rwA (wC ad tI tL tII tLL cnt w tot rew grp fin gns rst rws last now nxt whl au al mu ml))) ([.ref (ad 0), .int p1, .int p2, .int p3] : List Value).toArray s 0 0 (rwA (wC ad tI tL tII tLL cnt w tot rew grp fin gns rst rws last now nxt whl au al mu ml))) (F0 m 0 ls []) from K s.heap [] hP hD hS
  clear hP hD hS
  intro H locs hP hD hS
  rw [f_CS_before] at hR
  refine lv_aload_n hx hb dX6_before_0 rfl (lv_at hl 0 rfl) ?_
  refine va_get (D := (dC, dI)) (ci := 6) (v := .ref (ad 1)) (C := RX6) (T := TX6) (N := 7) hx hb ht hinX6 hown hK hP 0 rfl rfl 0 (by decide) (ht _ k_125) (fun _ h9 => h9) rfl dX6_before_1 ?_
  refine lv_iload_n hx hb dX6_before_4 rfl (lv_at hl 1 rfl) ?_
  obtain ⟨r1, hC, hR⟩ := ob hR
  try dsimp only at hR
  refine ro_calli (va_runV (As := [.int p1]) (rest := []) ⟨hx, hb, hml, hown, ht⟩ (c_Chain_has l dC dI ad tI tL tII tLL cnt w tot rew grp fin gns rst rws last now nxt whl au al mu ml p1 r1 hC.symm) ⟨callB_of 1 ht (goodG k_130) rfl rfl rfl (ht _ k_15) (ht _ k_131) (by decide +kernel) ⟨Nat.le_of_ble_eq_true rfl, Nat.le_of_ble_eq_true rfl⟩, (ht _ k_133), (ht _ k_132)⟩ (pre_v hK hN hP (q0 := 1) (ci := 0) rfl rfl) rfl rfl hl.1 rfl (lv_room (Nat.le_of_ble_eq_true rfl)) dX6_before_5 ⟨Nat.zero_le _, Nat.zero_le _⟩) ?_
  refine lv_if_eq (tgt := 33) hx hb dX6_before_8 (by decide) (fun c2 => ?_) (fun c2 => ?_)
  · replace hR := it_p c2 hR
    refine lv_iconst (v := (-1)) hx hb dX6_before_33 (by decide) ?_
    cases hR
    exact W.iret hx hb hr (fun t ht _ => ⟨rfl, by rw [ht]; exact hP, hS.F ht⟩) hS.2.2 dX6_before_34
  · replace hR := it_n c2 hR
    refine lv_aload_n hx hb dX6_before_11 rfl (lv_at hl 0 rfl) ?_
    refine va_get (D := (dC, dI)) (ci := 6) (v := .ref (ad 1)) (C := RX6) (T := TX6) (N := 7) hx hb ht hinX6 hown hK hP 0 rfl rfl 0 (by decide) (ht _ k_125) (fun _ h9 => h9) rfl dX6_before_12 ?_
    refine lv_iload_n hx hb dX6_before_15 rfl (lv_at hl 2 rfl) ?_
    obtain ⟨r3, hC, hR⟩ := ob hR
    try dsimp only at hR
    refine ro_calli (va_runV (As := [.int p2]) (rest := []) ⟨hx, hb, hml, hown, ht⟩ (c_Chain_has l dC dI ad tI tL tII tLL cnt w tot rew grp fin gns rst rws last now nxt whl au al mu ml p2 r3 hC.symm) ⟨callB_of 1 ht (goodG k_130) rfl rfl rfl (ht _ k_15) (ht _ k_131) (by decide +kernel) ⟨Nat.le_of_ble_eq_true rfl, Nat.le_of_ble_eq_true rfl⟩, (ht _ k_133), (ht _ k_132)⟩ (pre_v hK hN hP (q0 := 1) (ci := 0) rfl rfl) rfl rfl hl.1 rfl (lv_room (Nat.le_of_ble_eq_true rfl)) dX6_before_16 ⟨Nat.zero_le _, Nat.zero_le _⟩) ?_
    refine lv_if_eq (tgt := 33) hx hb dX6_before_19 (by decide) (fun c4 => ?_) (fun c4 => ?_)
    · replace hR := it_p c4 hR
      refine lv_iconst (v := (-1)) hx hb dX6_before_33 (by decide) ?_
      cases hR
      exact W.iret hx hb hr (fun t ht _ => ⟨rfl, by rw [ht]; exact hP, hS.F ht⟩) hS.2.2 dX6_before_34
    · replace hR := it_n c4 hR
      refine lv_aload_n hx hb dX6_before_22 rfl (lv_at hl 0 rfl) ?_
      refine va_get (D := (dC, dI)) (ci := 6) (v := .ref (ad 1)) (C := RX6) (T := TX6) (N := 7) hx hb ht hinX6 hown hK hP 0 rfl rfl 0 (by decide) (ht _ k_125) (fun _ h9 => h9) rfl dX6_before_23 ?_
      refine lv_iload_n hx hb dX6_before_26 rfl (lv_at hl 3 rfl) ?_
      obtain ⟨r5, hC, hR⟩ := ob hR
      try dsimp only at hR
      refine ro_calli (va_runV (As := [.int p3]) (rest := []) ⟨hx, hb, hml, hown, ht⟩ (c_Chain_has l dC dI ad tI tL tII tLL cnt w tot rew grp fin gns rst rws last now nxt whl au al mu ml p3 r5 hC.symm) ⟨callB_of 1 ht (goodG k_130) rfl rfl rfl (ht _ k_15) (ht _ k_131) (by decide +kernel) ⟨Nat.le_of_ble_eq_true rfl, Nat.le_of_ble_eq_true rfl⟩, (ht _ k_133), (ht _ k_132)⟩ (pre_v hK hN hP (q0 := 1) (ci := 0) rfl rfl) rfl rfl hl.1 rfl (lv_room (Nat.le_of_ble_eq_true rfl)) dX6_before_27 ⟨Nat.zero_le _, Nat.zero_le _⟩) ?_
      refine lv_if_ne (tgt := 35) hx hb dX6_before_30 (by decide) (fun c6 => ?_) (fun c6 => ?_)
      · replace hR := it_n c6 hR
        refine lv_iload_n hx hb dX6_before_35 rfl (lv_at hl 2 rfl) ?_
        refine lv_iload_n hx hb dX6_before_36 rfl (lv_at hl 3 rfl) ?_
        refine lv_icmp_ne (tgt := 43) hx hb dX6_before_37 (by decide) (fun c7 => ?_) (fun c7 => ?_)
        · replace hR := it_n c7 hR
          refine lv_aload_n hx hb dX6_before_43 rfl (lv_at hl 0 rfl) ?_
          refine lv_iload_n hx hb dX6_before_44 rfl (lv_at hl 1 rfl) ?_
          refine lv_iconst (v := 1) hx hb dX6_before_45 (by decide) ?_
          refine lv_iload_n hx hb dX6_before_46 rfl (lv_at hl 2 rfl) ?_
          refine lv_ishl hx hb dX6_before_47 ?_
          refine lv_iconst (v := 1) hx hb dX6_before_48 (by decide) ?_
          refine lv_iload_n hx hb dX6_before_49 rfl (lv_at hl 3 rfl) ?_
          refine lv_ishl hx hb dX6_before_50 ?_
          obtain ⟨⟨gns_8, rst_9, rws_10, last_11, au_12, al_13⟩, hC, hR⟩ := ob hR
          try dsimp only at hR
          refine rw_callv (va_runV (As := [.int p1, .int ((1 : Int32) <<< (p2 &&& 31)), .int ((1 : Int32) <<< (p3 &&& 31))]) (rest := []) ⟨hx, hb, hml, hown, ht⟩ (c_CS_answerOddsToMeet l dC dI ad tI tL tII tLL cnt w tot rew grp fin gns rst rws last now nxt whl au al mu ml p1 ((1 : Int32) <<< (p2 &&& 31)) ((1 : Int32) <<< (p3 &&& 31)) gns_8 rst_9 rws_10 last_11 au_12 al_13 hC.symm) ⟨callB_of 3 ht (goodG k_145) rfl rfl rfl (ht _ k_8) (ht _ k_146) (by decide +kernel) ⟨Nat.le_of_ble_eq_true rfl, Nat.le_of_ble_eq_true rfl⟩, (ht _ k_148), (ht _ k_147)⟩ (pre_vw hK hN hP hD (q0 := 0) (ci := 6) rfl rfl) rfl rfl hl.1 rfl (lv_room (Nat.le_of_ble_eq_true rfl)) dX6_before_51 ⟨Nat.zero_le _, Nat.zero_le _⟩) hD hS rfl (fun H locs hP hD hS => ?_)
          have hP : va_P (dC, dI) vwCl (wC ad tI tL tII tLL cnt w tot rew grp fin gns_8 rst_9 rws_10 last_11 now nxt whl au_12 al_13 mu ml) H := hP
          have hD : va_D (rwA (wC ad tI tL tII tLL cnt w tot rew grp fin gns rst rws last now nxt whl au al mu ml)) (wC ad tI tL tII tLL cnt w tot rew grp fin gns_8 rst_9 rws_10 last_11 now nxt whl au_12 al_13 mu ml) := hD
          refine lv_iconst (v := 1) hx hb dX6_before_54 (by decide) ?_
          cases hR
          exact W.iret hx hb hr (fun t ht _ => ⟨rfl, by rw [ht]; exact hP, hS.F ht⟩) hS.2.2 dX6_before_55
        · replace hR := it_p c7 hR
          refine lv_bipush (v := (-3)) hx hb dX6_before_40 (by decide) ?_
          cases hR
          exact W.iret hx hb hr (fun t ht _ => ⟨rfl, by rw [ht]; exact hP, hS.F ht⟩) hS.2.2 dX6_before_42
      · replace hR := it_p c6 hR
        refine lv_iconst (v := (-1)) hx hb dX6_before_33 (by decide) ?_
        cases hR
        exact W.iret hx hb hr (fun t ht _ => ⟨rfl, by rw [ht]; exact hP, hS.F ht⟩) hS.2.2 dX6_before_34
abbrev RM_f_CS_steps : Room := { frames := 5, cells := 0, slots := 0, locals := 113 }
abbrev W_CS_steps : List Cond := .code yX6_steps cX6_steps 3 (some .int) :: tblG
set_option maxHeartbeats 4000000 in
set_option maxRecDepth 100000 in
theorem c_CS_steps (l : Launch) (dC : Nat → ClassId) (dI : Nat → Nat → Nat) (ad : Nat → Nat) (tI tL tII tLL : ClassId) (cnt : Int32) (w : Nat → Nat → Int32) (tot : Nat → Int32) (rew : Nat → Int32) (grp : Nat → Int32) (fin : Nat → Int32) (gns : Nat → Int64) (rst : Nat → Int32) (rws : Nat → Nat → Int64) (last : Int32) (now : Nat → Int64) (nxt : Nat → Int64) (whl : Int64) (au : Int64) (al : Int64) (mu : Int64) (ml : Int64) (p1 : Int32) (p2 : Int32) (R0 : Int32) (R_gns : Nat → Int64) (R_rst : Nat → Int32) (R_rws : Nat → Nat → Int64) (R_last : Int32) (R_au : Int64) (R_al : Int64) (hR : some (R0, R_gns, R_rst, R_rws, R_last, R_au, R_al) = f_CS_steps cnt w tot gns rst rws last au al p1 p2) : Met l yX6_steps W_CS_steps RM_f_CS_steps (rwP (dC, dI) vwCl [(tI, .int), (tL, .long), (tII, .array .int), (tLL, .array .long)] (wC ad tI tL tII tLL cnt w tot rew grp fin gns rst rws last now nxt whl au al mu ml) ([.ref (ad 0), .int p1, .int p2] : List Value)) (rwQ (dC, dI) vwCl (wC ad tI tL tII tLL cnt w tot rew grp fin R_gns R_rst R_rws R_last now nxt whl R_au R_al mu ml) (some (.int R0)) (rwA (wC ad tI tL tII tLL cnt w tot rew grp fin gns rst rws last now nxt whl au al mu ml))) 0 0 (rwA (wC ad tI tL tII tLL cnt w tot rew grp fin gns rst rws last now nxt whl au al mu ml)) := by
  refine Met.ofW (cc := cX6_steps) (maxL := 3) (ret := (some .int)) (by decide) rfl ?_
  intro p e s m args below meth c s₁ B hml hv
  obtain ⟨rfl, hP, hK, hN, hD⟩ := hv
  have hx := B.exec
  have hb := B.bytes
  have hr := B.returns
  have hts := atoms_spec (ws := W_CS_steps) B.pre
  have ht := fun (w : Cond) (h : w ∈ tblG) => hts w (List.mem_cons_of_mem _ h)
  have hown : s.vm.findClass RX6 = some m.cls := findClass_of_methodNamed B.named
  have hlocks := B.notSynchronized
  have hl := lv_entry ([.ref (ad 0), .int p1, .int p2] : List Value) (n := 3) (Nat.le_of_ble_eq_true rfl)
  rw [lg_entry_eq]
  generalize (lg_sl ([.ref (ad 0), .int p1, .int p2] : List Value) ++ List.replicate (3 - (lg_sl ([.ref (ad 0), .int p1, .int p2] : List Value)).length) Slot.unset).toArray = ls at hl ⊢
  have hl : lv_has ls 3 [(0, .ref (ad 0)), (1, .int p1), (2, .int p2)] := hl
  have hD := hD.own
  have hS : va_S (rwA (wC ad tI tL tII tLL cnt w tot rew grp fin gns rst rws last now nxt whl au al mu ml)) s.heap s.heap [] := va_S.rf
  suffices K : ∀ (H : Heap) (locs : List Loc), va_P (dC, dI) vwCl (wC ad tI tL tII tLL cnt w tot rew grp fin gns rst rws last now nxt whl au al mu ml) H → va_D (rwA (wC ad tI tL tII tLL cnt w tot rew grp fin gns rst rws last now nxt whl au al mu ml)) (wC ad tI tL tII tLL cnt w tot rew grp fin gns rst rws last now nxt whl au al mu ml) → va_S (rwA (wC ad tI tL tII tLL cnt w tot rew grp fin gns rst rws last now nxt whl au al mu ml)) s.heap H locs → W p l e (headSpec W_CS_steps RM_f_CS_steps).room s m ([.ref (ad 0), .int p1, .int p2] : List Value).toArray below meth c H locs 0 0 (MQ below (rwQ (dC, dI) vwCl (wC ad tI tL tII tLL cnt w tot rew grp fin R_gns R_rst R_rws R_last now nxt whl R_au R_al mu ml) (some (.int R0)) (rwA (wC ad tI tL tII tLL cnt w tot rew grp fin gns rst rws last now nxt whl au al mu ml))) ([.ref (ad 0), .int p1, .int p2] : List Value).toArray s 0 0 (rwA (wC ad tI tL tII tLL cnt w tot rew grp fin gns rst rws last now nxt whl au al mu ml))) (F0 m 0 ls []) from K s.heap [] hP hD hS
  clear hP hD hS
  intro H locs hP hD hS
  rw [f_CS_steps] at hR
  refine lv_aload_n hx hb dX6_steps_0 rfl (lv_at hl 0 rfl) ?_
  refine va_get (D := (dC, dI)) (ci := 6) (v := .ref (ad 1)) (C := RX6) (T := TX6) (N := 7) hx hb ht hinX6 hown hK hP 0 rfl rfl 0 (by decide) (ht _ k_125) (fun _ h9 => h9) rfl dX6_steps_1 ?_
  refine lv_iload_n hx hb dX6_steps_4 rfl (lv_at hl 1 rfl) ?_
  obtain ⟨r1, hC, hR⟩ := ob hR
  try dsimp only at hR
  refine ro_calli (va_runV (As := [.int p1]) (rest := []) ⟨hx, hb, hml, hown, ht⟩ (c_Chain_has l dC dI ad tI tL tII tLL cnt w tot rew grp fin gns rst rws last now nxt whl au al mu ml p1 r1 hC.symm) ⟨callB_of 1 ht (goodG k_130) rfl rfl rfl (ht _ k_15) (ht _ k_131) (by decide +kernel) ⟨Nat.le_of_ble_eq_true rfl, Nat.le_of_ble_eq_true rfl⟩, (ht _ k_133), (ht _ k_132)⟩ (pre_v hK hN hP (q0 := 1) (ci := 0) rfl rfl) rfl rfl hl.1 rfl (lv_room (Nat.le_of_ble_eq_true rfl)) dX6_steps_5 ⟨Nat.zero_le _, Nat.zero_le _⟩) ?_
  refine lv_if_eq (tgt := 25) hx hb dX6_steps_8 (by decide) (fun c2 => ?_) (fun c2 => ?_)
  · replace hR := it_p c2 hR
    refine lv_iconst (v := (-1)) hx hb dX6_steps_25 (by decide) ?_
    cases hR
    exact W.iret hx hb hr (fun t ht _ => ⟨rfl, by rw [ht]; exact hP, hS.F ht⟩) hS.2.2 dX6_steps_26
  · replace hR := it_n c2 hR
    refine lv_iload_n hx hb dX6_steps_11 rfl (lv_at hl 2 rfl) ?_
    refine lv_aload_n hx hb dX6_steps_12 rfl (lv_at hl 0 rfl) ?_
    refine va_get (D := (dC, dI)) (ci := 6) (v := .ref (ad 1)) (C := RX6) (T := TX6) (N := 7) hx hb ht hinX6 hown hK hP 0 rfl rfl 0 (by decide) (ht _ k_125) (fun _ h9 => h9) rfl dX6_steps_13 ?_
    obtain ⟨r3, hC, hR⟩ := ob hR
    try dsimp only at hR
    refine ro_calli (va_runV (As := []) (rest := [.int p2]) ⟨hx, hb, hml, hown, ht⟩ (c_Chain_all l dC dI ad tI tL tII tLL cnt w tot rew grp fin gns rst rws last now nxt whl au al mu ml  r3 hC.symm) ⟨callB_of 0 ht (goodG k_149) rfl rfl rfl (ht _ k_15) (ht _ k_150) (by decide +kernel) ⟨Nat.le_of_ble_eq_true rfl, Nat.le_of_ble_eq_true rfl⟩, (ht _ k_152), (ht _ k_151)⟩ (pre_v hK hN hP (q0 := 1) (ci := 0) rfl rfl) rfl rfl hl.1 rfl (lv_room (Nat.le_of_ble_eq_true rfl)) dX6_steps_16 ⟨Nat.zero_le _, Nat.zero_le _⟩) ?_
    refine lv_iconst (v := (-1)) hx hb dX6_steps_19 (by decide) ?_
    refine lv_ixor hx hb dX6_steps_20 ?_
    refine lv_iand hx hb dX6_steps_21 ?_
    refine lv_if_eq (tgt := 27) hx hb dX6_steps_22 (by decide) (fun c4 => ?_) (fun c4 => ?_)
    · replace hR := it_p c4 hR
      refine lv_aload_n hx hb dX6_steps_27 rfl (lv_at hl 0 rfl) ?_
      refine va_get (D := (dC, dI)) (ci := 6) (v := .ref (ad 12)) (C := RX6) (T := TX6) (N := 7) hx hb ht hinX6 hown hK hP 0 rfl rfl 1 (by decide) (ht _ k_111) (fun _ h9 => h9) rfl dX6_steps_28 ?_
      refine lv_iload_n hx hb dX6_steps_31 rfl (lv_at hl 1 rfl) ?_
      refine lv_iload_n hx hb dX6_steps_32 rfl (lv_at hl 2 rfl) ?_
      obtain ⟨r5, hC, hR⟩ := ob hR
      try dsimp only at hR
      refine ro_calli (va_runV (As := [.int p1, .int p2]) (rest := []) ⟨hx, hb, hml, hown, ht⟩ (c_Ways_isSureToMeet l dC dI ad tI tL tII tLL cnt w tot rew grp fin gns rst rws last now nxt whl au al mu ml p1 p2 r5 hC.symm) ⟨callB_of 2 ht (goodG k_153) rfl rfl rfl (ht _ k_33) (ht _ k_154) (by decide +kernel) ⟨Nat.le_of_ble_eq_true rfl, Nat.le_of_ble_eq_true rfl⟩, (ht _ k_156), (ht _ k_155)⟩ (pre_v hK hN hP (q0 := 12) (ci := 5) rfl rfl) rfl rfl hl.1 rfl (lv_room (Nat.le_of_ble_eq_true rfl)) dX6_steps_33 ⟨Nat.zero_le _, Nat.zero_le _⟩) ?_
      refine lv_if_ne (tgt := 42) hx hb dX6_steps_36 (by decide) (fun c6 => ?_) (fun c6 => ?_)
      · replace hR := it_n c6 hR
        refine lv_iload_n hx hb dX6_steps_42 rfl (lv_at hl 2 rfl) ?_
        refine lv_iload_n hx hb dX6_steps_43 rfl (lv_at hl 1 rfl) ?_
        obtain ⟨r7, hC, hR⟩ := ob hR
        try dsimp only at hR
        refine ro_calli (va_runS (As := [.int p2, .int p1]) (rest := []) ⟨hx, hb, hml, hown, ht⟩ (c_holds l dC dI ad tI tL tII tLL  p2 p1 r7 hC.symm) ⟨callB_of 2 ht (goodG k_20) rfl rfl rfl (ht _ k_8) (ht _ k_113) (by decide +kernel) ⟨Nat.le_of_ble_eq_true rfl, Nat.le_of_ble_eq_true rfl⟩, (ht _ k_21)⟩ (pre_s hK hN (hP.sub (ws' := []) [] rfl)) rfl rfl hl.1 rfl (lv_room (Nat.le_of_ble_eq_true rfl)) dX6_steps_44 ⟨Nat.zero_le _, Nat.zero_le _⟩) ?_
        refine lv_if_eq (tgt := 61) hx hb dX6_steps_47 (by decide) (fun c8 => ?_) (fun c8 => ?_)
        · replace hR := it_p c8 hR
          refine lv_aload_n hx hb dX6_steps_61 rfl (lv_at hl 0 rfl) ?_
          refine va_get (D := (dC, dI)) (ci := 6) (v := .ref (ad 16)) (C := RX6) (T := TX6) (N := 7) hx hb ht hinX6 hown hK hP 0 rfl rfl 3 (by decide) (ht _ k_114) (fun _ h9 => h9) rfl dX6_steps_62 ?_
          obtain ⟨gns_9, hC, hR⟩ := ob hR
          try dsimp only at hR
          refine rw_callv (va_runV (As := []) (rest := []) ⟨hx, hb, hml, hown, ht⟩ (c_FirstSteps_gainByStep l dC dI ad tI tL tII tLL cnt w tot rew grp fin gns rst rws last now nxt whl au al mu ml  gns_9 hC.symm) ⟨callB_of 0 ht (goodG k_157) rfl rfl rfl (ht _ k_87) (ht _ k_158) (by decide +kernel) ⟨Nat.le_of_ble_eq_true rfl, Nat.le_of_ble_eq_true rfl⟩, (ht _ k_160), (ht _ k_159)⟩ (pre_vw hK hN hP hD (q0 := 16) (ci := 1) rfl rfl) rfl rfl hl.1 rfl (lv_room (Nat.le_of_ble_eq_true rfl)) dX6_steps_65 ⟨Nat.zero_le _, Nat.zero_le _⟩) hD hS rfl (fun H locs hP hD hS => ?_)
          have hP : va_P (dC, dI) vwCl (wC ad tI tL tII tLL cnt w tot rew grp fin gns_9 rst rws last now nxt whl au al mu ml) H := hP
          have hD : va_D (rwA (wC ad tI tL tII tLL cnt w tot rew grp fin gns rst rws last now nxt whl au al mu ml)) (wC ad tI tL tII tLL cnt w tot rew grp fin gns_9 rst rws last now nxt whl au al mu ml) := hD
          refine lv_aload_n hx hb dX6_steps_68 rfl (lv_at hl 0 rfl) ?_
          refine va_get (D := (dC, dI)) (ci := 6) (v := .ref (ad 16)) (C := RX6) (T := TX6) (N := 7) hx hb ht hinX6 hown hK hP 0 rfl rfl 3 (by decide) (ht _ k_114) (fun _ h9 => h9) rfl dX6_steps_69 ?_
          refine lv_iload_n hx hb dX6_steps_72 rfl (lv_at hl 1 rfl) ?_
          refine lv_aload_n hx hb dX6_steps_73 rfl (lv_at hl 0 rfl) ?_
          refine va_get (D := (dC, dI)) (ci := 6) (v := .ref (ad 12)) (C := RX6) (T := TX6) (N := 7) hx hb ht hinX6 hown hK hP 0 rfl rfl 1 (by decide) (ht _ k_111) (fun _ h9 => h9) rfl dX6_steps_74 ?_
          refine lv_iload_n hx hb dX6_steps_77 rfl (lv_at hl 1 rfl) ?_
          refine lv_iload_n hx hb dX6_steps_78 rfl (lv_at hl 2 rfl) ?_
          obtain ⟨r10, hC, hR⟩ := ob hR
          try dsimp only at hR
          refine ro_calli (va_runV (As := [.int p1, .int p2]) (rest := [.int p1, .ref (ad 16)]) ⟨hx, hb, hml, hown, ht⟩ (c_Ways_metFrom l dC dI ad tI tL tII tLL cnt w tot rew grp fin gns_9 rst rws last now nxt whl au al mu ml p1 p2 r10 hC.symm) ⟨callB_of 2 ht (goodG k_32) rfl rfl rfl (ht _ k_33) (ht _ k_161) (by decide +kernel) ⟨Nat.le_of_ble_eq_true rfl, Nat.le_of_ble_eq_true rfl⟩, (ht _ k_36), (ht _ k_35)⟩ (pre_v hK hN hP (q0 := 12) (ci := 5) rfl rfl) rfl rfl hl.1 rfl (lv_room (Nat.le_of_ble_eq_true rfl)) dX6_steps_79 ⟨Nat.zero_le _, Nat.zero_le _⟩) ?_
          refine lv_iload_n hx hb dX6_steps_82 rfl (lv_at hl 2 rfl) ?_
          refine lv_iconst (v := (-1)) hx hb dX6_steps_83 (by decide) ?_
          refine lv_ixor hx hb dX6_steps_84 ?_
          refine lv_iand hx hb dX6_steps_85 ?_
          refine lv_aload_n hx hb dX6_steps_86 rfl (lv_at hl 0 rfl) ?_
          refine va_get (D := (dC, dI)) (ci := 6) (v := .ref (ad 31)) (C := RX6) (T := TX6) (N := 7) hx hb ht hinX6 hown hK hP 0 rfl rfl 5 (by decide) (ht _ k_119) (fun _ h9 => h9) rfl dX6_steps_87 ?_
          obtain ⟨⟨rst_11, rws_12, last_13, au_14, al_15⟩, hC, hR⟩ := ob hR
          try dsimp only at hR
          refine rw_callv (va_runV (As := [.int p1, .int (r10 &&& (p2 ^^^ (-1 : Int32))), .ref (ad 31)]) (rest := []) ⟨hx, hb, hml, hown, ht⟩ (c_FirstSteps_solveA l dC dI ad tI tL tII tLL cnt w tot rew grp fin gns_9 rst rws last now nxt whl au al mu ml p1 (r10 &&& (p2 ^^^ (-1 : Int32))) rst_11 rws_12 last_13 au_14 al_15 hC.symm) ⟨callB_of 3 ht (goodG k_120) rfl rfl rfl (ht _ k_87) (ht _ k_121) (by decide +kernel) ⟨Nat.le_of_ble_eq_true rfl, Nat.le_of_ble_eq_true rfl⟩, (ht _ k_123), (ht _ k_122)⟩ (pre_vw hK hN hP hD (q0 := 16) (ci := 1) rfl rfl) rfl rfl hl.1 rfl (lv_room (Nat.le_of_ble_eq_true rfl)) dX6_steps_90 ⟨Nat.zero_le _, Nat.zero_le _⟩) hD hS rfl (fun H locs hP hD hS => ?_)
          have hP : va_P (dC, dI) vwCl (wC ad tI tL tII tLL cnt w tot rew grp fin gns_9 rst_11 rws_12 last_13 now nxt whl au_14 al_15 mu ml) H := hP
          have hD : va_D (rwA (wC ad tI tL tII tLL cnt w tot rew grp fin gns rst rws last now nxt whl au al mu ml)) (wC ad tI tL tII tLL cnt w tot rew grp fin gns_9 rst_11 rws_12 last_13 now nxt whl au_14 al_15 mu ml) := hD
          refine lv_iconst (v := 1) hx hb dX6_steps_93 (by decide) ?_
          cases hR
          exact W.iret hx hb hr (fun t ht _ => ⟨rfl, by rw [ht]; exact hP, hS.F ht⟩) hS.2.2 dX6_steps_94
        · replace hR := it_n c8 hR
          refine lv_aload_n hx hb dX6_steps_50 rfl (lv_at hl 0 rfl) ?_
          refine va_get (D := (dC, dI)) (ci := 6) (v := .ref (ad 31)) (C := RX6) (T := TX6) (N := 7) hx hb ht hinX6 hown hK hP 0 rfl rfl 5 (by decide) (ht _ k_119) (fun _ h9 => h9) rfl dX6_steps_51 ?_
          refine lv_lconst (v := 0) hx hb dX6_steps_54 (by decide) ?_
          refine lv_lconst (v := 1) hx hb dX6_steps_55 (by decide) ?_
          obtain ⟨⟨u_16, lo_17⟩, hC, hR⟩ := ob hR
          try dsimp only at hR
          refine rw_onev (va_runV (As := [.long (0 : Int64), .long (1 : Int64)]) (rest := []) ⟨hx, hb, hml, hown, ht⟩ (c_Fraction_put l dC dI ad tI tL tII tLL (ad 31) au al (0 : Int64) (1 : Int64) u_16 lo_17 hC.symm) ⟨callB_of 2 ht (goodG k_99) rfl rfl rfl (ht _ k_100) (ht _ k_124) (by decide +kernel) ⟨Nat.le_of_ble_eq_true rfl, Nat.le_of_ble_eq_true rfl⟩, (ht _ k_103), (ht _ k_102)⟩ (pre_vw hK hN (hP.sub [31] rfl) (hD.sub [31] (by decide) rfl) (q0 := 0) (ci := 2) rfl rfl) rfl rfl hl.1 rfl (lv_room (Nat.le_of_ble_eq_true rfl)) dX6_steps_56 ⟨Nat.zero_le _, Nat.zero_le _⟩) hP hD hS 31 rfl (fun H locs hP hD hS => ?_)
          have hP : va_P (dC, dI) vwCl (wC ad tI tL tII tLL cnt w tot rew grp fin gns rst rws last now nxt whl u_16 lo_17 mu ml) H := hP
          have hD : va_D (rwA (wC ad tI tL tII tLL cnt w tot rew grp fin gns rst rws last now nxt whl au al mu ml)) (wC ad tI tL tII tLL cnt w tot rew grp fin gns rst rws last now nxt whl u_16 lo_17 mu ml) := hD
          refine lv_iconst (v := 1) hx hb dX6_steps_59 (by decide) ?_
          cases hR
          exact W.iret hx hb hr (fun t ht _ => ⟨rfl, by rw [ht]; exact hP, hS.F ht⟩) hS.2.2 dX6_steps_60
      · replace hR := it_p c6 hR
        refine lv_bipush (v := (-3)) hx hb dX6_steps_39 (by decide) ?_
        cases hR
        exact W.iret hx hb hr (fun t ht _ => ⟨rfl, by rw [ht]; exact hP, hS.F ht⟩) hS.2.2 dX6_steps_41
    · replace hR := it_n c4 hR
      refine lv_iconst (v := (-1)) hx hb dX6_steps_25 (by decide) ?_
      cases hR
      exact W.iret hx hb hr (fun t ht _ => ⟨rfl, by rw [ht]; exact hP, hS.F ht⟩) hS.2.2 dX6_steps_26
