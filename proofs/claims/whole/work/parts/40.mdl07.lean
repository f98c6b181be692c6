abbrev RM_f_M_lower : Room := { frames := 0, cells := 0, slots := 0, locals := 0 }
abbrev W_M_lower : List Cond := .code yX7_lower cX7_lower 1 (some .long) :: tblG
set_option maxHeartbeats 4000000 in
set_option maxRecDepth 100000 in
theorem c_M_lower (l : Launch) (dC : Nat → ClassId) (dI : Nat → Nat → Nat) (ad : Nat → Nat) (tI tL tII tLL : ClassId) (thr : Int32) (sts : Int32) (wgt : Nat → Int32) (rwd : Nat → Int32) (up : Int64) (dn : Int64) (cel : Nat → Int64) (rig : Nat → Int64) (sum : Nat → Int64) (gp : Nat → Int32) (bst : Nat → Int32) (few : Int32)  (R0 : Int64) (R_thr : Int32) (hR : some (R0, R_thr) = f_M_lower dn) : Met l yX7_lower W_M_lower RM_f_M_lower (rwP (dC, dI) vwCl [(tI, .int), (tL, .long), (tII, .array .int), (tLL, .array .long)] (wM ad tI tL tII tLL thr sts wgt rwd up dn cel rig sum gp bst few) ([.ref (ad 0)] : List Value)) (rwQ (dC, dI) vwCl (wM ad tI tL tII tLL R_thr sts wgt rwd up dn cel rig sum gp bst few) (some (.long R0)) (rwA (wM ad tI tL tII tLL thr sts wgt rwd up dn cel rig sum gp bst few))) 0 0 (rwA (wM ad tI tL tII tLL thr sts wgt rwd up dn cel rig sum gp bst few)) := by
  refine Met.ofW (cc := cX7_lower) (maxL := 1) (ret := (some .long)) (by decide) rfl ?_
  intro p e s m args below meth c s₁ B hml hv
  obtain ⟨rfl, hP, hK, hN, hD⟩ := hv
  have hx := B.exec
  have hb := B.bytes
  have hr := B.returns
  have hts := atoms_spec (ws := W_M_lower) B.pre
  have ht := fun (w : Cond) (h : w ∈ tblG) => hts w (List.mem_cons_of_mem _ h)
  have hown : s.vm.findClass RX7 = some m.cls := findClass_of_methodNamed B.named
  have hlocks := B.notSynchronized
  have hl := lv_entry ([.ref (ad 0)] : List Value) (n := 1) (Nat.le_of_ble_eq_true rfl)
  rw [lg_entry_eq]
  generalize (lg_sl ([.ref (ad 0)] : List Value) ++ List.replicate (1 - (lg_sl ([.ref (ad 0)] : List Value)).length) Slot.unset).toArray = ls at hl ⊢
  have hl : lv_has ls 1 [(0, .ref (ad 0))] := hl
  have hD := hD.own
  have hS : va_S (rwA (wM ad tI tL tII tLL thr sts wgt rwd up dn cel rig sum gp bst few)) s.heap s.heap [] := va_S.rf
  suffices K : ∀ (H : Heap) (locs : List Loc), va_P (dC, dI) vwCl (wM ad tI tL tII tLL thr sts wgt rwd up dn cel rig sum gp bst few) H → va_D (rwA (wM ad tI tL tII tLL thr sts wgt rwd up dn cel rig sum gp bst few)) (wM ad tI tL tII tLL thr sts wgt rwd up dn cel rig sum gp bst few) → va_S (rwA (wM ad tI tL tII tLL thr sts wgt rwd up dn cel rig sum gp bst few)) s.heap H locs → W p l e (headSpec W_M_lower RM_f_M_lower).room s m ([.ref (ad 0)] : List Value).toArray below meth c H locs 0 0 (MQ below (rwQ (dC, dI) vwCl (wM ad tI tL tII tLL R_thr sts wgt rwd up dn cel rig sum gp bst few) (some (.long R0)) (rwA (wM ad tI tL tII tLL thr sts wgt rwd up dn cel rig sum gp bst few))) ([.ref (ad 0)] : List Value).toArray s 0 0 (rwA (wM ad tI tL tII tLL thr sts wgt rwd up dn cel rig sum gp bst few))) (F0 m 0 ls []) from K s.heap [] hP hD hS
  clear hP hD hS
  intro H locs hP hD hS
  rw [f_M_lower] at hR
  refine lv_aload_n hx hb dX7_lower_0 rfl (lv_at hl 0 rfl) ?_
  refine lv_iconst (v := 0) hx hb dX7_lower_1 (by decide) ?_
  refine va_put (D := (dC, dI)) (ci := 7) (v := .int (0 : Int32)) (ty := .int) (C := RX7) (T := TX7) (N := 12) hx hb ht hinX7 tyX7 tyX7_ok nmX7 hown hK hP hD hS 0 rfl rfl 0 (by decide) (ht _ k_220) (fun _ h9 => h9) rfl (by decide +kernel) rfl rfl (Nat.le_of_ble_eq_true rfl) dX7_lower_2 (fun H locs hP hD hS => ?_)
  have hP : va_P (dC, dI) vwCl (wM ad tI tL tII tLL (0 : Int32) sts wgt rwd up dn cel rig sum gp bst few) H := hP
  have hD : va_D (rwA (wM ad tI tL tII tLL thr sts wgt rwd up dn cel rig sum gp bst few)) (wM ad tI tL tII tLL (0 : Int32) sts wgt rwd up dn cel rig sum gp bst few) := hD
  refine lv_aload_n hx hb dX7_lower_5 rfl (lv_at hl 0 rfl) ?_
  refine va_get (D := (dC, dI)) (ci := 7) (v := .long dn) (C := RX7) (T := TX7) (N := 12) hx hb ht hinX7 hown hK hP 0 rfl rfl 5 (by decide) (ht _ k_219) (fun _ h9 => h9) rfl dX7_lower_6 ?_
  cases hR
  exact W.lret hx hb hr (fun t ht _ => ⟨rfl, by rw [ht]; exact hP, hS.F ht⟩) hS.2.2 dX7_lower_9
abbrev RM_f_M_told : Room := { frames := 6, cells := 0, slots := 0, locals := 136 }
abbrev W_M_told : List Cond := .code yX7_told cX7_told 4 (some .int) :: tblG
set_option maxHeartbeats 4000000 in
set_option maxRecDepth 100000 in
theorem c_M_told (l : Launch) (dC : Nat → ClassId) (dI : Nat → Nat → Nat) (ad : Nat → Nat) (tI tL tII tLL : ClassId) (thr : Int32) (sts : Int32) (wgt : Nat → Int32) (rwd : Nat → Int32) (up : Int64) (dn : Int64) (cel : Nat → Int64) (rig : Nat → Int64) (sum : Nat → Int64) (gp : Nat → Int32) (bst : Nat → Int32) (few : Int32) (p1 : Int32) (R0 : Int32) (R_thr : Int32) (R_gp : Nat → Int32) (R_bst : Nat → Int32) (R_few : Int32) (hR : some (R0, R_thr, R_gp, R_bst, R_few) = f_M_told sts wgt rwd gp bst few p1) : Met l yX7_told W_M_told RM_f_M_told (rwP (dC, dI) vwCl [(tI, .int), (tL, .long), (tII, .array .int), (tLL, .array .long)] (wM ad tI tL tII tLL thr sts wgt rwd up dn cel rig sum gp bst few) ([.ref (ad 0), .int p1] : List Value)) (rwQ (dC, dI) vwCl (wM ad tI tL tII tLL R_thr sts wgt rwd up dn cel rig sum R_gp R_bst R_few) (some (.int R0)) (rwA (wM ad tI tL tII tLL thr sts wgt rwd up dn cel rig sum gp bst few))) 0 0 (rwA (wM ad tI tL tII tLL thr sts wgt rwd up dn cel rig sum gp bst few)) := by
  refine Met.ofW (cc := cX7_told) (maxL := 4) (ret := (some .int)) (by decide) rfl ?_
  intro p e s m args below meth c s₁ B hml hv
  obtain ⟨rfl, hP, hK, hN, hD⟩ := hv
  have hx := B.exec
  have hb := B.bytes
  have hr := B.returns
  have hts := atoms_spec (ws := W_M_told) B.pre
  have ht := fun (w : Cond) (h : w ∈ tblG) => hts w (List.mem_cons_of_mem _ h)
  have hown : s.vm.findClass RX7 = some m.cls := findClass_of_methodNamed B.named
  have hlocks := B.notSynchronized
  have hl := lv_entry ([.ref (ad 0), .int p1] : List Value) (n := 4) (Nat.le_of_ble_eq_true rfl)
  rw [lg_entry_eq]
  generalize (lg_sl ([.ref (ad 0), .int p1] : List Value) ++ List.replicate (4 - (lg_sl ([.ref (ad 0), .int p1] : List Value)).length) Slot.unset).toArray = ls at hl ⊢
  have hl : lv_has ls 4 [(0, .ref (ad 0)), (1, .int p1)] := hl
  have hD := hD.own
  have hS : va_S (rwA (wM ad tI tL tII tLL thr sts wgt rwd up dn cel rig sum gp bst few)) s.heap s.heap [] := va_S.rf
  suffices K : ∀ (H : Heap) (locs : List Loc), va_P (dC, dI) vwCl (wM ad tI tL tII tLL thr sts wgt rwd up dn cel rig sum gp bst few) H → va_D (rwA (wM ad tI tL tII tLL thr sts wgt rwd up dn cel rig sum gp bst few)) (wM ad tI tL tII tLL thr sts wgt rwd up dn cel rig sum gp bst few) → va_S (rwA (wM ad tI tL tII tLL thr sts wgt rwd up dn cel rig sum gp bst few)) s.heap H locs → W p l e (headSpec W_M_told RM_f_M_told).room s m ([.ref (ad 0), .int p1] : List Value).toArray below meth c H locs 0 0 (MQ below (rwQ (dC, dI) vwCl (wM ad tI tL tII tLL R_thr sts wgt rwd up dn cel rig sum R_gp R_bst R_few) (some (.int R0)) (rwA (wM ad tI tL tII tLL thr sts wgt rwd up dn cel rig sum gp bst few))) ([.ref (ad 0), .int p1] : List Value).toArray s 0 0 (rwA (wM ad tI tL tII tLL thr sts wgt rwd up dn cel rig sum gp bst few))) (F0 m 0 ls []) from K s.heap [] hP hD hS
  clear hP hD hS
  intro H locs hP hD hS
  rw [f_M_told] at hR
  refine lv_aload_n hx hb dX7_told_0 rfl (lv_at hl 0 rfl) ?_
  refine lv_iconst (v := 0) hx hb dX7_told_1 (by decide) ?_
  refine va_put (D := (dC, dI)) (ci := 7) (v := .int (0 : Int32)) (ty := .int) (C := RX7) (T := TX7) (N := 12) hx hb ht hinX7 tyX7 tyX7_ok nmX7 hown hK hP hD hS 0 rfl rfl 0 (by decide) (ht _ k_220) (fun _ h9 => h9) rfl (by decide +kernel) rfl rfl (Nat.le_of_ble_eq_true rfl) dX7_told_2 (fun H locs hP hD hS => ?_)
  have hP : va_P (dC, dI) vwCl (wM ad tI tL tII tLL (0 : Int32) sts wgt rwd up dn cel rig sum gp bst few) H := hP
  have hD : va_D (rwA (wM ad tI tL tII tLL thr sts wgt rwd up dn cel rig sum gp bst few)) (wM ad tI tL tII tLL (0 : Int32) sts wgt rwd up dn cel rig sum gp bst few) := hD
  refine lv_iconst (v := 0) hx hb dX7_told_5 (by decide) ?_
  refine lv_istore_n (lv' := [(2, .int (0 : Int32)), (0, .ref (ad 0)), (1, .int p1)]) hx hb dX7_told_6 rfl hl (by decide) rfl (fun ls hl => ?_)
  refine lv_iload_n hx hb dX7_told_7 rfl (lv_at hl 2 rfl) ?_
  by_cases c1 : p1 = 0
  · replace hR := it_p c1 hR
    refine lv_tableIn (tgt := 48) hx hb dX7_told_8 (by rw [c1]; decide) (by rw [c1]; decide) (by rw [c1]; rfl) (by decide) ?_
    refine lv_aload_n hx hb dX7_told_48 rfl (lv_at hl 1 rfl) ?_
    refine va_get (D := (dC, dI)) (ci := 7) (v := .int sts) (C := RX7) (T := TX7) (N := 12) hx hb ht hinX7 hown hK hP 0 rfl rfl 1 (by decide) (ht _ k_205) (fun _ h9 => h9) rfl dX7_told_49 ?_
    cases hR
    exact W.iret hx hb hr (fun t ht _ => ⟨rfl, by rw [ht]; exact hP, hS.F ht⟩) hS.2.2 dX7_told_52
  replace hR := it_n c1 hR
  by_cases c2 : p1 = 1
  · replace hR := it_p c2 hR
    refine lv_tableIn (tgt := 53) hx hb dX7_told_8 (by rw [c2]; decide) (by rw [c2]; decide) (by rw [c2]; rfl) (by decide) ?_
    refine lv_iconst (v := 0) hx hb dX7_told_53 (by decide) ?_
    refine lv_istore_n (lv' := [(3, .int (0 : Int32)), (2, .int (0 : Int32)), (0, .ref (ad 0)), (1, .int p1)]) hx hb dX7_told_54 rfl hl (by decide) rfl (fun ls hl => ?_)
    have L55_9 : ∀ (thr_5 : Int32), ∀ (n : Nat) (x2_3 : Int32) (x3_4 : Int32), ∀ (o_x2_3 : Int32) (o_x3_4 : Int32), some (o_x2_3, o_x3_4) = f_M_told_L55 wgt n x2_3 x3_4 → (∀ (H : Heap) (locs : List Loc), va_P (dC, dI) vwCl (wM ad tI tL tII tLL thr_5 sts wgt rwd up dn cel rig sum gp bst few) H → va_D (rwA (wM ad tI tL tII tLL thr sts wgt rwd up dn cel rig sum gp bst few)) (wM ad tI tL tII tLL thr_5 sts wgt rwd up dn cel rig sum gp bst few) → va_S (rwA (wM ad tI tL tII tLL thr sts wgt rwd up dn cel rig sum gp bst few)) s.heap H locs → ∀ ls : Array Slot, lv_has ls 4 [(0, .ref (ad 0)), (2, .int o_x2_3), (3, .int o_x3_4)] → W p l e (headSpec W_M_told RM_f_M_told).room s m ([.ref (ad 0), .int p1] : List Value).toArray below meth c H locs 0 0 (MQ below (rwQ (dC, dI) vwCl (wM ad tI tL tII tLL R_thr sts wgt rwd up dn cel rig sum R_gp R_bst R_few) (some (.int R0)) (rwA (wM ad tI tL tII tLL thr sts wgt rwd up dn cel rig sum gp bst few))) ([.ref (ad 0), .int p1] : List Value).toArray s 0 0 (rwA (wM ad tI tL tII tLL thr sts wgt rwd up dn cel rig sum gp bst few))) (F0 m 84 ls [])) → ∀ (H : Heap) (locs : List Loc), va_P (dC, dI) vwCl (wM ad tI tL tII tLL thr_5 sts wgt rwd up dn cel rig sum gp bst few) H → va_D (rwA (wM ad tI tL tII tLL thr sts wgt rwd up dn cel rig sum gp bst few)) (wM ad tI tL tII tLL thr_5 sts wgt rwd up dn cel rig sum gp bst few) → va_S (rwA (wM ad tI tL tII tLL thr sts wgt rwd up dn cel rig sum gp bst few)) s.heap H locs → ∀ ls : Array Slot, lv_has ls 4 [(0, .ref (ad 0)), (2, .int x2_3), (3, .int x3_4)] → W p l e (headSpec W_M_told RM_f_M_told).room s m ([.ref (ad 0), .int p1] : List Value).toArray below meth c H locs 0 0 (MQ below (rwQ (dC, dI) vwCl (wM ad tI tL tII tLL R_thr sts wgt rwd up dn cel rig sum R_gp R_bst R_few) (some (.int R0)) (rwA (wM ad tI tL tII tLL thr sts wgt rwd up dn cel rig sum gp bst few))) ([.ref (ad 0), .int p1] : List Value).toArray s 0 0 (rwA (wM ad tI tL tII tLL thr sts wgt rwd up dn cel rig sum gp bst few))) (F0 m 55 ls []) := by
      intro thr_5
      intro n
      induction n with
      | zero =>
        intro x2_3 x3_4 o_x2_3 o_x3_4 hR
        cases (show some _ = none from hR)
      | succ n ih =>
        intro x2_3 x3_4 o_x2_3 o_x3_4 hR hk H locs hP hD hS ls hl
        rw [f_M_told_L55_s] at hR
        obtain ⟨y, hR, hQ⟩ := ob hR
        replace hR := hR.symm
        rw [f_M_told_B55] at hR
        refine lv_iload_n hx hb dX7_told_55 rfl (lv_at hl 2 rfl) ?_
        refine lv_bipush (v := 49) hx hb dX7_told_56 (by decide) ?_
        refine lv_icmp_ge (tgt := 84) hx hb dX7_told_58 (by decide) (fun c6 => ?_) (fun c6 => ?_)
        · replace hR := it_p c6 hR
          cases hR
          cases (show some _ = some _ from hQ)
          exact hk H locs hP hD hS ls (lv_sub hl [0, 1, 2] rfl)
        · replace hR := it_n c6 hR
          refine lv_iload_n hx hb dX7_told_61 rfl (lv_at hl 1 rfl) ?_
          refine lv_aload_n hx hb dX7_told_62 rfl (lv_at hl 0 rfl) ?_
          refine va_get (D := (dC, dI)) (ci := 7) (v := .ref (ad 1)) (C := RX7) (T := TX7) (N := 12) hx hb ht hinX7 hown hK hP 0 rfl rfl 2 (by decide) (ht _ k_209) (fun _ h9 => h9) rfl dX7_told_63 ?_
          refine lv_iload_n hx hb dX7_told_66 rfl (lv_at hl 2 rfl) ?_
          obtain ⟨z7, hR⟩ := og hR
          refine va_iald hx hb hK hP 1 0 rfl rfl (ix_in z7) dX7_told_67 ?_
          refine lv_if_le (tgt := 75) hx hb dX7_told_68 (by decide) (fun c8 => ?_) (fun c8 => ?_)
          · replace hR := it_p c8 hR
            refine lv_iconst (v := 0) hx hb dX7_told_75 (by decide) ?_
            refine lv_iadd hx hb dX7_told_76 ?_
            refine lv_istore_n (lv' := [(2, .int (x2_3 + (0 : Int32))), (0, .ref (ad 0)), (3, .int x3_4)]) hx hb dX7_told_77 rfl hl (by decide) rfl (fun ls hl => ?_)
            refine lv_iinc (v := (x3_4 + 1)) (lv' := [(3, .int (x3_4 + 1)), (2, .int (x2_3 + (0 : Int32))), (0, .ref (ad 0))]) hx hb dX7_told_78 hl (k := 2) rfl rfl (by decide) rfl (fun ls hl => ?_)
            refine lv_goto (tgt := 55) hx hb dX7_told_81 (by decide) ?_
            cases hR
            exact ih (x2_3 + (0 : Int32)) (x3_4 + 1) o_x2_3 o_x3_4 hQ hk H locs hP hD hS ls (lv_sub hl [2, 1, 0] rfl)
          · replace hR := it_n c8 hR
            refine lv_iconst (v := 1) hx hb dX7_told_71 (by decide) ?_
            refine lv_goto (tgt := 76) hx hb dX7_told_72 (by decide) ?_
            refine lv_iadd hx hb dX7_told_76 ?_
            refine lv_istore_n (lv' := [(2, .int (x2_3 + (1 : Int32))), (0, .ref (ad 0)), (3, .int x3_4)]) hx hb dX7_told_77 rfl hl (by decide) rfl (fun ls hl => ?_)
            refine lv_iinc (v := (x3_4 + 1)) (lv' := [(3, .int (x3_4 + 1)), (2, .int (x2_3 + (1 : Int32))), (0, .ref (ad 0))]) hx hb dX7_told_78 hl (k := 2) rfl rfl (by decide) rfl (fun ls hl => ?_)
            refine lv_goto (tgt := 55) hx hb dX7_told_81 (by decide) ?_
            cases hR
            exact ih (x2_3 + (1 : Int32)) (x3_4 + 1) o_x2_3 o_x3_4 hQ hk H locs hP hD hS ls (lv_sub hl [2, 1, 0] rfl)
    obtain ⟨⟨u10, u11⟩, hL, hR⟩ := ob hR
    try dsimp only at hR
    refine L55_9 (0 : Int32) 300 (0 : Int32) (0 : Int32) u10 u11 hL.symm (fun H locs hP hD hS ls hl => ?_) H locs hP hD hS ls (lv_sub hl [2, 1, 0] rfl)
    refine lv_iload_n hx hb dX7_told_84 rfl (lv_at hl 1 rfl) ?_
    cases hR
    exact W.iret hx hb hr (fun t ht _ => ⟨rfl, by rw [ht]; exact hP, hS.F ht⟩) hS.2.2 dX7_told_85
  replace hR := it_n c2 hR
  by_cases c12 : p1 = 2
  · replace hR := it_p c12 hR
    refine lv_tableIn (tgt := 86) hx hb dX7_told_8 (by rw [c12]; decide) (by rw [c12]; decide) (by rw [c12]; rfl) (by decide) ?_
    refine lv_aload_n hx hb dX7_told_86 rfl (lv_at hl 1 rfl) ?_
    obtain ⟨r13, hC, hR⟩ := ob hR
    try dsimp only at hR
    refine ro_calli (va_runV (As := []) (rest := []) ⟨hx, hb, hml, hown, ht⟩ (c_M_ends l dC dI ad tI tL tII tLL (0 : Int32) sts wgt rwd up dn cel rig sum gp bst few  r13 hC.symm) ⟨callB_of 0 ht (goodG k_284) rfl rfl rfl (ht _ k_202) (ht _ k_285) (by decide +kernel) ⟨Nat.le_of_ble_eq_true rfl, Nat.le_of_ble_eq_true rfl⟩, (ht _ k_287), (ht _ k_286)⟩ (pre_v hK hN hP (q0 := 0) (ci := 7) rfl rfl) rfl rfl hl.1 rfl (lv_room (Nat.le_of_ble_eq_true rfl)) dX7_told_87 ⟨Nat.zero_le _, Nat.zero_le _⟩) ?_
    obtain ⟨r14, hC, hR⟩ := ob hR
    try dsimp only at hR
    refine ro_calli (va_runS (As := [.int r13]) (rest := []) ⟨hx, hb, hml, hown, ht⟩ (c_M_many l dC dI ad tI tL tII tLL  r13 r14 hC.symm) ⟨callB_of 1 ht (goodG k_252) rfl rfl rfl (ht _ k_202) (ht _ k_253) (by decide +kernel) ⟨Nat.le_of_ble_eq_true rfl, Nat.le_of_ble_eq_true rfl⟩, (ht _ k_254)⟩ (pre_s hK hN (hP.sub (ws' := []) [] rfl)) rfl rfl hl.1 rfl (lv_room (Nat.le_of_ble_eq_true rfl)) dX7_told_90 ⟨Nat.zero_le _, Nat.zero_le _⟩) ?_
    cases hR
    exact W.iret hx hb hr (fun t ht _ => ⟨rfl, by rw [ht]; exact hP, hS.F ht⟩) hS.2.2 dX7_told_93
  replace hR := it_n c12 hR
  by_cases c15 : p1 = 3
  · replace hR := it_p c15 hR
    refine lv_tableIn (tgt := 94) hx hb dX7_told_8 (by rw [c15]; decide) (by rw [c15]; decide) (by rw [c15]; rfl) (by decide) ?_
    refine lv_iconst (v := 0) hx hb dX7_told_94 (by decide) ?_
    refine lv_istore_n (lv' := [(3, .int (0 : Int32)), (2, .int (0 : Int32)), (0, .ref (ad 0)), (1, .int p1)]) hx hb dX7_told_95 rfl hl (by decide) rfl (fun ls hl => ?_)
    have L96_26 : ∀ (thr_18 : Int32), ∀ (n : Nat) (x2_16 : Int32) (x3_17 : Int32), ∀ (o_x2_16 : Int32) (o_x3_17 : Int32), some (o_x2_16, o_x3_17) = f_M_told_L96 sts wgt p1 n x2_16 x3_17 → (∀ (H : Heap) (locs : List Loc), va_P (dC, dI) vwCl (wM ad tI tL tII tLL thr_18 sts wgt rwd up dn cel rig sum gp bst few) H → va_D (rwA (wM ad tI tL tII tLL thr sts wgt rwd up dn cel rig sum gp bst few)) (wM ad tI tL tII tLL thr_18 sts wgt rwd up dn cel rig sum gp bst few) → va_S (rwA (wM ad tI tL tII tLL thr sts wgt rwd up dn cel rig sum gp bst few)) s.heap H locs → ∀ ls : Array Slot, lv_has ls 4 [(0, .ref (ad 0)), (1, .int p1), (2, .int o_x2_16), (3, .int o_x3_17)] → W p l e (headSpec W_M_told RM_f_M_told).room s m ([.ref (ad 0), .int p1] : List Value).toArray below meth c H locs 0 0 (MQ below (rwQ (dC, dI) vwCl (wM ad tI tL tII tLL R_thr sts wgt rwd up dn cel rig sum R_gp R_bst R_few) (some (.int R0)) (rwA (wM ad tI tL tII tLL thr sts wgt rwd up dn cel rig sum gp bst few))) ([.ref (ad 0), .int p1] : List Value).toArray s 0 0 (rwA (wM ad tI tL tII tLL thr sts wgt rwd up dn cel rig sum gp bst few))) (F0 m 143 ls [])) → ∀ (H : Heap) (locs : List Loc), va_P (dC, dI) vwCl (wM ad tI tL tII tLL thr_18 sts wgt rwd up dn cel rig sum gp bst few) H → va_D (rwA (wM ad tI tL tII tLL thr sts wgt rwd up dn cel rig sum gp bst few)) (wM ad tI tL tII tLL thr_18 sts wgt rwd up dn cel rig sum gp bst few) → va_S (rwA (wM ad tI tL tII tLL thr sts wgt rwd up dn cel rig sum gp bst few)) s.heap H locs → ∀ ls : Array Slot, lv_has ls 4 [(0, .ref (ad 0)), (1, .int p1), (2, .int x2_16), (3, .int x3_17)] → W p l e (headSpec W_M_told RM_f_M_told).room s m ([.ref (ad 0), .int p1] : List Value).toArray below meth c H locs 0 0 (MQ below (rwQ (dC, dI) vwCl (wM ad tI tL tII tLL R_thr sts wgt rwd up dn cel rig sum R_gp R_bst R_few) (some (.int R0)) (rwA (wM ad tI tL tII tLL thr sts wgt rwd up dn cel rig sum gp bst few))) ([.ref (ad 0), .int p1] : List Value).toArray s 0 0 (rwA (wM ad tI tL tII tLL thr sts wgt rwd up dn cel rig sum gp bst few))) (F0 m 96 ls []) := by
      intro thr_18
      intro n
      induction n with
      | zero =>
        intro x2_16 x3_17 o_x2_16 o_x3_17 hR
        cases (show some _ = none from hR)
      | succ n ih =>
        intro x2_16 x3_17 o_x2_16 o_x3_17 hR hk H locs hP hD hS ls hl
        rw [f_M_told_L96_s] at hR
        obtain ⟨y, hR, hQ⟩ := ob hR
        replace hR := hR.symm
        rw [f_M_told_B96] at hR
        refine lv_iload_n hx hb dX7_told_96 rfl (lv_at hl 3 rfl) ?_
        refine lv_aload_n hx hb dX7_told_97 rfl (lv_at hl 0 rfl) ?_
        refine va_get (D := (dC, dI)) (ci := 7) (v := .int sts) (C := RX7) (T := TX7) (N := 12) hx hb ht hinX7 hown hK hP 0 rfl rfl 1 (by decide) (ht _ k_205) (fun _ h9 => h9) rfl dX7_told_98 ?_
        refine lv_icmp_ge (tgt := 143) hx hb dX7_told_101 (by decide) (fun c19 => ?_) (fun c19 => ?_)
        · replace hR := it_p c19 hR
          cases hR
          cases (show some _ = some _ from hQ)
          exact hk H locs hP hD hS ls (lv_sub hl [0, 1, 2, 3] rfl)
        · replace hR := it_n c19 hR
          refine lv_iload_n hx hb dX7_told_104 rfl (lv_at hl 2 rfl) ?_
          refine lv_aload_n hx hb dX7_told_105 rfl (lv_at hl 0 rfl) ?_
          refine lv_iload_n hx hb dX7_told_106 rfl (lv_at hl 3 rfl) ?_
          obtain ⟨r20, hC, hR⟩ := ob hR
          try dsimp only at hR
          refine ro_calli (va_runV (As := [.int x3_17]) (rest := [.int x2_16]) ⟨hx, hb, hml, hown, ht⟩ (c_M_partOf l dC dI ad tI tL tII tLL thr_18 sts wgt rwd up dn cel rig sum gp bst few x3_17 r20 hC.symm) ⟨callB_of 1 ht (goodG k_234) rfl rfl rfl (ht _ k_202) (ht _ k_235) (by decide +kernel) ⟨Nat.le_of_ble_eq_true rfl, Nat.le_of_ble_eq_true rfl⟩, (ht _ k_237), (ht _ k_236)⟩ (pre_v hK hN hP (q0 := 0) (ci := 7) rfl rfl) rfl rfl hl.1 rfl (lv_room (Nat.le_of_ble_eq_true rfl)) dX7_told_107 ⟨Nat.zero_le _, Nat.zero_le _⟩) ?_
          obtain ⟨r21, hC, hR⟩ := ob hR
          try dsimp only at hR
          refine ro_calli (va_runS (As := [.int r20]) (rest := [.int x2_16]) ⟨hx, hb, hml, hown, ht⟩ (c_M_least l dC dI ad tI tL tII tLL  r20 r21 hC.symm) ⟨callB_of 1 ht (goodG k_238) rfl rfl rfl (ht _ k_202) (ht _ k_239) (by decide +kernel) ⟨Nat.le_of_ble_eq_true rfl, Nat.le_of_ble_eq_true rfl⟩, (ht _ k_240)⟩ (pre_s hK hN (hP.sub (ws' := []) [] rfl)) rfl rfl hl.1 rfl (lv_room (Nat.le_of_ble_eq_true rfl)) dX7_told_110 ⟨Nat.zero_le _, Nat.zero_le _⟩) ?_
          refine lv_iload_n hx hb dX7_told_113 rfl (lv_at hl 3 rfl) ?_
          refine lv_icmp_ne (tgt := 134) hx hb dX7_told_114 (by decide) (fun c22 => ?_) (fun c22 => ?_)
          · replace hR := it_n c22 hR
            refine lv_iconst (v := 0) hx hb dX7_told_134 (by decide) ?_
            refine lv_iadd hx hb dX7_told_135 ?_
            refine lv_istore_n (lv' := [(2, .int (x2_16 + (0 : Int32))), (0, .ref (ad 0)), (1, .int p1), (3, .int x3_17)]) hx hb dX7_told_136 rfl hl (by decide) rfl (fun ls hl => ?_)
            refine lv_iinc (v := (x3_17 + 1)) (lv' := [(3, .int (x3_17 + 1)), (2, .int (x2_16 + (0 : Int32))), (0, .ref (ad 0)), (1, .int p1)]) hx hb dX7_told_137 hl (k := 3) rfl rfl (by decide) rfl (fun ls hl => ?_)
            refine lv_goto (tgt := 96) hx hb dX7_told_140 (by decide) ?_
            cases hR
            exact ih (x2_16 + (0 : Int32)) (x3_17 + 1) o_x2_16 o_x3_17 hQ hk H locs hP hD hS ls (lv_sub hl [2, 3, 1, 0] rfl)
          · replace hR := it_p c22 hR
            refine lv_iload_n hx hb dX7_told_117 rfl (lv_at hl 1 rfl) ?_
            refine lv_iconst (v := 3) hx hb dX7_told_118 (by decide) ?_
            refine lv_icmp_eq (tgt := 130) hx hb dX7_told_119 (by decide) (fun c23 => ?_) (fun c23 => ?_)
            · replace hR := it_p c23 hR
              refine lv_iconst (v := 1) hx hb dX7_told_130 (by decide) ?_
              refine lv_goto (tgt := 135) hx hb dX7_told_131 (by decide) ?_
              refine lv_iadd hx hb dX7_told_135 ?_
              refine lv_istore_n (lv' := [(2, .int (x2_16 + (1 : Int32))), (0, .ref (ad 0)), (1, .int p1), (3, .int x3_17)]) hx hb dX7_told_136 rfl hl (by decide) rfl (fun ls hl => ?_)
              refine lv_iinc (v := (x3_17 + 1)) (lv' := [(3, .int (x3_17 + 1)), (2, .int (x2_16 + (1 : Int32))), (0, .ref (ad 0)), (1, .int p1)]) hx hb dX7_told_137 hl (k := 3) rfl rfl (by decide) rfl (fun ls hl => ?_)
              refine lv_goto (tgt := 96) hx hb dX7_told_140 (by decide) ?_
              cases hR
              exact ih (x2_16 + (1 : Int32)) (x3_17 + 1) o_x2_16 o_x3_17 hQ hk H locs hP hD hS ls (lv_sub hl [2, 3, 1, 0] rfl)
            · replace hR := it_n c23 hR
              refine lv_aload_n hx hb dX7_told_122 rfl (lv_at hl 0 rfl) ?_
              refine lv_iload_n hx hb dX7_told_123 rfl (lv_at hl 3 rfl) ?_
              obtain ⟨r24, hC, hR⟩ := ob hR
              try dsimp only at hR
              refine ro_calli (va_runV (As := [.int x3_17]) (rest := [.int x2_16]) ⟨hx, hb, hml, hown, ht⟩ (c_M_isClosed l dC dI ad tI tL tII tLL thr_18 sts wgt rwd up dn cel rig sum gp bst few x3_17 r24 hC.symm) ⟨callB_of 1 ht (goodG k_241) rfl rfl rfl (ht _ k_202) (ht _ k_242) (by decide +kernel) ⟨Nat.le_of_ble_eq_true rfl, Nat.le_of_ble_eq_true rfl⟩, (ht _ k_244), (ht _ k_243)⟩ (pre_v hK hN hP (q0 := 0) (ci := 7) rfl rfl) rfl rfl hl.1 rfl (lv_room (Nat.le_of_ble_eq_true rfl)) dX7_told_124 ⟨Nat.zero_le _, Nat.zero_le _⟩) ?_
              refine lv_if_eq (tgt := 134) hx hb dX7_told_127 (by decide) (fun c25 => ?_) (fun c25 => ?_)
              · replace hR := it_p c25 hR
                refine lv_iconst (v := 0) hx hb dX7_told_134 (by decide) ?_
                refine lv_iadd hx hb dX7_told_135 ?_
                refine lv_istore_n (lv' := [(2, .int (x2_16 + (0 : Int32))), (0, .ref (ad 0)), (1, .int p1), (3, .int x3_17)]) hx hb dX7_told_136 rfl hl (by decide) rfl (fun ls hl => ?_)
                refine lv_iinc (v := (x3_17 + 1)) (lv' := [(3, .int (x3_17 + 1)), (2, .int (x2_16 + (0 : Int32))), (0, .ref (ad 0)), (1, .int p1)]) hx hb dX7_told_137 hl (k := 3) rfl rfl (by decide) rfl (fun ls hl => ?_)
                refine lv_goto (tgt := 96) hx hb dX7_told_140 (by decide) ?_
                cases hR
                exact ih (x2_16 + (0 : Int32)) (x3_17 + 1) o_x2_16 o_x3_17 hQ hk H locs hP hD hS ls (lv_sub hl [2, 3, 1, 0] rfl)
              · replace hR := it_n c25 hR
                refine lv_iconst (v := 1) hx hb dX7_told_130 (by decide) ?_
                refine lv_goto (tgt := 135) hx hb dX7_told_131 (by decide) ?_
                refine lv_iadd hx hb dX7_told_135 ?_
                refine lv_istore_n (lv' := [(2, .int (x2_16 + (1 : Int32))), (0, .ref (ad 0)), (1, .int p1), (3, .int x3_17)]) hx hb dX7_told_136 rfl hl (by decide) rfl (fun ls hl => ?_)
                refine lv_iinc (v := (x3_17 + 1)) (lv' := [(3, .int (x3_17 + 1)), (2, .int (x2_16 + (1 : Int32))), (0, .ref (ad 0)), (1, .int p1)]) hx hb dX7_told_137 hl (k := 3) rfl rfl (by decide) rfl (fun ls hl => ?_)
                refine lv_goto (tgt := 96) hx hb dX7_told_140 (by decide) ?_
                cases hR
                exact ih (x2_16 + (1 : Int32)) (x3_17 + 1) o_x2_16 o_x3_17 hQ hk H locs hP hD hS ls (lv_sub hl [2, 3, 1, 0] rfl)
    obtain ⟨⟨u27, u28⟩, hL, hR⟩ := ob hR
    try dsimp only at hR
    refine L96_26 (0 : Int32) 300 (0 : Int32) (0 : Int32) u27 u28 hL.symm (fun H locs hP hD hS ls hl => ?_) H locs hP hD hS ls (lv_sub hl [2, 3, 1, 0] rfl)
    refine lv_iload_n hx hb dX7_told_143 rfl (lv_at hl 2 rfl) ?_
    cases hR
    exact W.iret hx hb hr (fun t ht _ => ⟨rfl, by rw [ht]; exact hP, hS.F ht⟩) hS.2.2 dX7_told_144
  replace hR := it_n c15 hR
  by_cases c29 : p1 = 4
  · replace hR := it_p c29 hR
    refine lv_tableIn (tgt := 94) hx hb dX7_told_8 (by rw [c29]; decide) (by rw [c29]; decide) (by rw [c29]; rfl) (by decide) ?_
    refine lv_iconst (v := 0) hx hb dX7_told_94 (by decide) ?_
    refine lv_istore_n (lv' := [(3, .int (0 : Int32)), (2, .int (0 : Int32)), (0, .ref (ad 0)), (1, .int p1)]) hx hb dX7_told_95 rfl hl (by decide) rfl (fun ls hl => ?_)
    have L96_40 : ∀ (thr_32 : Int32), ∀ (n : Nat) (x2_30 : Int32) (x3_31 : Int32), ∀ (o_x2_30 : Int32) (o_x3_31 : Int32), some (o_x2_30, o_x3_31) = f_M_told_L96b sts wgt p1 n x2_30 x3_31 → (∀ (H : Heap) (locs : List Loc), va_P (dC, dI) vwCl (wM ad tI tL tII tLL thr_32 sts wgt rwd up dn cel rig sum gp bst few) H → va_D (rwA (wM ad tI tL tII tLL thr sts wgt rwd up dn cel rig sum gp bst few)) (wM ad tI tL tII tLL thr_32 sts wgt rwd up dn cel rig sum gp bst few) → va_S (rwA (wM ad tI tL tII tLL thr sts wgt rwd up dn cel rig sum gp bst few)) s.heap H locs → ∀ ls : Array Slot, lv_has ls 4 [(0, .ref (ad 0)), (1, .int p1), (2, .int o_x2_30), (3, .int o_x3_31)] → W p l e (headSpec W_M_told RM_f_M_told).room s m ([.ref (ad 0), .int p1] : List Value).toArray below meth c H locs 0 0 (MQ below (rwQ (dC, dI) vwCl (wM ad tI tL tII tLL R_thr sts wgt rwd up dn cel rig sum R_gp R_bst R_few) (some (.int R0)) (rwA (wM ad tI tL tII tLL thr sts wgt rwd up dn cel rig sum gp bst few))) ([.ref (ad 0), .int p1] : List Value).toArray s 0 0 (rwA (wM ad tI tL tII tLL thr sts wgt rwd up dn cel rig sum gp bst few))) (F0 m 143 ls [])) → ∀ (H : Heap) (locs : List Loc), va_P (dC, dI) vwCl (wM ad tI tL tII tLL thr_32 sts wgt rwd up dn cel rig sum gp bst few) H → va_D (rwA (wM ad tI tL tII tLL thr sts wgt rwd up dn cel rig sum gp bst few)) (wM ad tI tL tII tLL thr_32 sts wgt rwd up dn cel rig sum gp bst few) → va_S (rwA (wM ad tI tL tII tLL thr sts wgt rwd up dn cel rig sum gp bst few)) s.heap H locs → ∀ ls : Array Slot, lv_has ls 4 [(0, .ref (ad 0)), (1, .int p1), (2, .int x2_30), (3, .int x3_31)] → W p l e (headSpec W_M_told RM_f_M_told).room s m ([.ref (ad 0), .int p1] : List Value).toArray below meth c H locs 0 0 (MQ below (rwQ (dC, dI) vwCl (wM ad tI tL tII tLL R_thr sts wgt rwd up dn cel rig sum R_gp R_bst R_few) (some (.int R0)) (rwA (wM ad tI tL tII tLL thr sts wgt rwd up dn cel rig sum gp bst few))) ([.ref (ad 0), .int p1] : List Value).toArray s 0 0 (rwA (wM ad tI tL tII tLL thr sts wgt rwd up dn cel rig sum gp bst few))) (F0 m 96 ls []) := by
      intro thr_32
      intro n
      induction n with
      | zero =>
        intro x2_30 x3_31 o_x2_30 o_x3_31 hR
        cases (show some _ = none from hR)
      | succ n ih =>
        intro x2_30 x3_31 o_x2_30 o_x3_31 hR hk H locs hP hD hS ls hl
        rw [f_M_told_L96b_s] at hR
        obtain ⟨y, hR, hQ⟩ := ob hR
        replace hR := hR.symm
        rw [f_M_told_B96b] at hR
        refine lv_iload_n hx hb dX7_told_96 rfl (lv_at hl 3 rfl) ?_
        refine lv_aload_n hx hb dX7_told_97 rfl (lv_at hl 0 rfl) ?_
        refine va_get (D := (dC, dI)) (ci := 7) (v := .int sts) (C := RX7) (T := TX7) (N := 12) hx hb ht hinX7 hown hK hP 0 rfl rfl 1 (by decide) (ht _ k_205) (fun _ h9 => h9) rfl dX7_told_98 ?_
        refine lv_icmp_ge (tgt := 143) hx hb dX7_told_101 (by decide) (fun c33 => ?_) (fun c33 => ?_)
        · replace hR := it_p c33 hR
          cases hR
          cases (show some _ = some _ from hQ)
          exact hk H locs hP hD hS ls (lv_sub hl [0, 1, 2, 3] rfl)
        · replace hR := it_n c33 hR
          refine lv_iload_n hx hb dX7_told_104 rfl (lv_at hl 2 rfl) ?_
          refine lv_aload_n hx hb dX7_told_105 rfl (lv_at hl 0 rfl) ?_
          refine lv_iload_n hx hb dX7_told_106 rfl (lv_at hl 3 rfl) ?_
          obtain ⟨r34, hC, hR⟩ := ob hR
          try dsimp only at hR
          refine ro_calli (va_runV (As := [.int x3_31]) (rest := [.int x2_30]) ⟨hx, hb, hml, hown, ht⟩ (c_M_partOf l dC dI ad tI tL tII tLL thr_32 sts wgt rwd up dn cel rig sum gp bst few x3_31 r34 hC.symm) ⟨callB_of 1 ht (goodG k_234) rfl rfl rfl (ht _ k_202) (ht _ k_235) (by decide +kernel) ⟨Nat.le_of_ble_eq_true rfl, Nat.le_of_ble_eq_true rfl⟩, (ht _ k_237), (ht _ k_236)⟩ (pre_v hK hN hP (q0 := 0) (ci := 7) rfl rfl) rfl rfl hl.1 rfl (lv_room (Nat.le_of_ble_eq_true rfl)) dX7_told_107 ⟨Nat.zero_le _, Nat.zero_le _⟩) ?_
          obtain ⟨r35, hC, hR⟩ := ob hR
          try dsimp only at hR
          refine ro_calli (va_runS (As := [.int r34]) (rest := [.int x2_30]) ⟨hx, hb, hml, hown, ht⟩ (c_M_least l dC dI ad tI tL tII tLL  r34 r35 hC.symm) ⟨callB_of 1 ht (goodG k_238) rfl rfl rfl (ht _ k_202) (ht _ k_239) (by decide +kernel) ⟨Nat.le_of_ble_eq_true rfl, Nat.le_of_ble_eq_true rfl⟩, (ht _ k_240)⟩ (pre_s hK hN (hP.sub (ws' := []) [] rfl)) rfl rfl hl.1 rfl (lv_room (Nat.le_of_ble_eq_true rfl)) dX7_told_110 ⟨Nat.zero_le _, Nat.zero_le _⟩) ?_
          refine lv_iload_n hx hb dX7_told_113 rfl (lv_at hl 3 rfl) ?_
          refine lv_icmp_ne (tgt := 134) hx hb dX7_told_114 (by decide) (fun c36 => ?_) (fun c36 => ?_)
          · replace hR := it_n c36 hR
            refine lv_iconst (v := 0) hx hb dX7_told_134 (by decide) ?_
            refine lv_iadd hx hb dX7_told_135 ?_
            refine lv_istore_n (lv' := [(2, .int (x2_30 + (0 : Int32))), (0, .ref (ad 0)), (1, .int p1), (3, .int x3_31)]) hx hb dX7_told_136 rfl hl (by decide) rfl (fun ls hl => ?_)
            refine lv_iinc (v := (x3_31 + 1)) (lv' := [(3, .int (x3_31 + 1)), (2, .int (x2_30 + (0 : Int32))), (0, .ref (ad 0)), (1, .int p1)]) hx hb dX7_told_137 hl (k := 3) rfl rfl (by decide) rfl (fun ls hl => ?_)
            refine lv_goto (tgt := 96) hx hb dX7_told_140 (by decide) ?_
            cases hR
            exact ih (x2_30 + (0 : Int32)) (x3_31 + 1) o_x2_30 o_x3_31 hQ hk H locs hP hD hS ls (lv_sub hl [2, 3, 1, 0] rfl)
          · replace hR := it_p c36 hR
            refine lv_iload_n hx hb dX7_told_117 rfl (lv_at hl 1 rfl) ?_
            refine lv_iconst (v := 3) hx hb dX7_told_118 (by decide) ?_
            refine lv_icmp_eq (tgt := 130) hx hb dX7_told_119 (by decide) (fun c37 => ?_) (fun c37 => ?_)
            · replace hR := it_p c37 hR
              refine lv_iconst (v := 1) hx hb dX7_told_130 (by decide) ?_
              refine lv_goto (tgt := 135) hx hb dX7_told_131 (by decide) ?_
              refine lv_iadd hx hb dX7_told_135 ?_
              refine lv_istore_n (lv' := [(2, .int (x2_30 + (1 : Int32))), (0, .ref (ad 0)), (1, .int p1), (3, .int x3_31)]) hx hb dX7_told_136 rfl hl (by decide) rfl (fun ls hl => ?_)
              refine lv_iinc (v := (x3_31 + 1)) (lv' := [(3, .int (x3_31 + 1)), (2, .int (x2_30 + (1 : Int32))), (0, .ref (ad 0)), (1, .int p1)]) hx hb dX7_told_137 hl (k := 3) rfl rfl (by decide) rfl (fun ls hl => ?_)
              refine lv_goto (tgt := 96) hx hb dX7_told_140 (by decide) ?_
              cases hR
              exact ih (x2_30 + (1 : Int32)) (x3_31 + 1) o_x2_30 o_x3_31 hQ hk H locs hP hD hS ls (lv_sub hl [2, 3, 1, 0] rfl)
            · replace hR := it_n c37 hR
              refine lv_aload_n hx hb dX7_told_122 rfl (lv_at hl 0 rfl) ?_
              refine lv_iload_n hx hb dX7_told_123 rfl (lv_at hl 3 rfl) ?_
              obtain ⟨r38, hC, hR⟩ := ob hR
              try dsimp only at hR
              refine ro_calli (va_runV (As := [.int x3_31]) (rest := [.int x2_30]) ⟨hx, hb, hml, hown, ht⟩ (c_M_isClosed l dC dI ad tI tL tII tLL thr_32 sts wgt rwd up dn cel rig sum gp bst few x3_31 r38 hC.symm) ⟨callB_of 1 ht (goodG k_241) rfl rfl rfl (ht _ k_202) (ht _ k_242) (by decide +kernel) ⟨Nat.le_of_ble_eq_true rfl, Nat.le_of_ble_eq_true rfl⟩, (ht _ k_244), (ht _ k_243)⟩ (pre_v hK hN hP (q0 := 0) (ci := 7) rfl rfl) rfl rfl hl.1 rfl (lv_room (Nat.le_of_ble_eq_true rfl)) dX7_told_124 ⟨Nat.zero_le _, Nat.zero_le _⟩) ?_
              refine lv_if_eq (tgt := 134) hx hb dX7_told_127 (by decide) (fun c39 => ?_) (fun c39 => ?_)
              · replace hR := it_p c39 hR
                refine lv_iconst (v := 0) hx hb dX7_told_134 (by decide) ?_
                refine lv_iadd hx hb dX7_told_135 ?_
                refine lv_istore_n (lv' := [(2, .int (x2_30 + (0 : Int32))), (0, .ref (ad 0)), (1, .int p1), (3, .int x3_31)]) hx hb dX7_told_136 rfl hl (by decide) rfl (fun ls hl => ?_)
                refine lv_iinc (v := (x3_31 + 1)) (lv' := [(3, .int (x3_31 + 1)), (2, .int (x2_30 + (0 : Int32))), (0, .ref (ad 0)), (1, .int p1)]) hx hb dX7_told_137 hl (k := 3) rfl rfl (by decide) rfl (fun ls hl => ?_)
                refine lv_goto (tgt := 96) hx hb dX7_told_140 (by decide) ?_
                cases hR
                exact ih (x2_30 + (0 : Int32)) (x3_31 + 1) o_x2_30 o_x3_31 hQ hk H locs hP hD hS ls (lv_sub hl [2, 3, 1, 0] rfl)
              · replace hR := it_n c39 hR
                refine lv_iconst (v := 1) hx hb dX7_told_130 (by decide) ?_
                refine lv_goto (tgt := 135) hx hb dX7_told_131 (by decide) ?_
                refine lv_iadd hx hb dX7_told_135 ?_
                refine lv_istore_n (lv' := [(2, .int (x2_30 + (1 : Int32))), (0, .ref (ad 0)), (1, .int p1), (3, .int x3_31)]) hx hb dX7_told_136 rfl hl (by decide) rfl (fun ls hl => ?_)
                refine lv_iinc (v := (x3_31 + 1)) (lv' := [(3, .int (x3_31 + 1)), (2, .int (x2_30 + (1 : Int32))), (0, .ref (ad 0)), (1, .int p1)]) hx hb dX7_told_137 hl (k := 3) rfl rfl (by decide) rfl (fun ls hl => ?_)
                refine lv_goto (tgt := 96) hx hb dX7_told_140 (by decide) ?_
                cases hR
                exact ih (x2_30 + (1 : Int32)) (x3_31 + 1) o_x2_30 o_x3_31 hQ hk H locs hP hD hS ls (lv_sub hl [2, 3, 1, 0] rfl)
    obtain ⟨⟨u41, u42⟩, hL, hR⟩ := ob hR
    try dsimp only at hR
    refine L96_40 (0 : Int32) 300 (0 : Int32) (0 : Int32) u41 u42 hL.symm (fun H locs hP hD hS ls hl => ?_) H locs hP hD hS ls (lv_sub hl [2, 3, 1, 0] rfl)
    refine lv_iload_n hx hb dX7_told_143 rfl (lv_at hl 2 rfl) ?_
    cases hR
    exact W.iret hx hb hr (fun t ht _ => ⟨rfl, by rw [ht]; exact hP, hS.F ht⟩) hS.2.2 dX7_told_144
  replace hR := it_n c29 hR
  by_cases c43 : p1 = 5
  · replace hR := it_p c43 hR
    refine lv_tableIn (tgt := 145) hx hb dX7_told_8 (by rw [c43]; decide) (by rw [c43]; decide) (by rw [c43]; rfl) (by decide) ?_
    refine lv_aload_n hx hb dX7_told_145 rfl (lv_at hl 1 rfl) ?_
    obtain ⟨⟨gp_44, bst_45, few_46⟩, hC, hR⟩ := ob hR
    try dsimp only at hR
    refine rw_callv (va_runV (As := []) (rest := []) ⟨hx, hb, hml, hown, ht⟩ (c_M_layGroups l dC dI ad tI tL tII tLL (0 : Int32) sts wgt rwd up dn cel rig sum gp bst few  gp_44 bst_45 few_46 hC.symm) ⟨callB_of 0 ht (goodG k_307) rfl rfl rfl (ht _ k_202) (ht _ k_308) (by decide +kernel) ⟨Nat.le_of_ble_eq_true rfl, Nat.le_of_ble_eq_true rfl⟩, (ht _ k_310), (ht _ k_309)⟩ (pre_vw hK hN hP hD (q0 := 0) (ci := 7) rfl rfl) rfl rfl hl.1 rfl (lv_room (Nat.le_of_ble_eq_true rfl)) dX7_told_146 ⟨Nat.zero_le _, Nat.zero_le _⟩) hD hS rfl (fun H locs hP hD hS => ?_)
    have hP : va_P (dC, dI) vwCl (wM ad tI tL tII tLL (0 : Int32) sts wgt rwd up dn cel rig sum gp_44 bst_45 few_46) H := hP
    have hD : va_D (rwA (wM ad tI tL tII tLL thr sts wgt rwd up dn cel rig sum gp bst few)) (wM ad tI tL tII tLL (0 : Int32) sts wgt rwd up dn cel rig sum gp_44 bst_45 few_46) := hD
    refine lv_aload_n hx hb dX7_told_149 rfl (lv_at hl 1 rfl) ?_
    refine va_get (D := (dC, dI)) (ci := 7) (v := .int few_46) (C := RX7) (T := TX7) (N := 12) hx hb ht hinX7 hown hK hP 0 rfl rfl 11 (by decide) (ht _ k_297) (fun _ h9 => h9) rfl dX7_told_150 ?_
    cases hR
    exact W.iret hx hb hr (fun t ht _ => ⟨rfl, by rw [ht]; exact hP, hS.F ht⟩) hS.2.2 dX7_told_153
  replace hR := it_n c43 hR
  refine lv_tableOut (tgt := 154) hx hb dX7_told_8 (tb_out 0 5 (fun k h1 h2 e => by rcases (show k = 0 ∨ k = 1 ∨ k = 2 ∨ k = 3 ∨ k = 4 ∨ k = 5 by omega) with rfl | rfl | rfl | rfl | rfl | rfl <;> first | exact c1 (Int32.toInt_inj.mp (by rw [e]; rfl)) | exact c2 (Int32.toInt_inj.mp (by rw [e]; rfl)) | exact c12 (Int32.toInt_inj.mp (by rw [e]; rfl)) | exact c15 (Int32.toInt_inj.mp (by rw [e]; rfl)) | exact c29 (Int32.toInt_inj.mp (by rw [e]; rfl)) | exact c43 (Int32.toInt_inj.mp (by rw [e]; rfl)))) (by decide) ?_
  refine lv_bipush (v := (-2)) hx hb dX7_told_154 (by decide) ?_
  cases hR
  exact W.iret hx hb hr (fun t ht _ => ⟨rfl, by rw [ht]; exact hP, hS.F ht⟩) hS.2.2 dX7_told_156
