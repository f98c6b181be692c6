abbrev RM_f_M_fits : Room := { frames := 3, cells := 0, slots := 0, locals := 66 }
abbrev W_M_fits : List Cond := .code yX7_fits cX7_fits 5 (some .boolean) :: tblG
set_option maxHeartbeats 4000000 in
set_option maxRecDepth 100000 in
theorem c_M_fits (l : Launch) (dC : Nat → ClassId) (dI : Nat → Nat → Nat) (ad : Nat → Nat) (tI tL tII tLL : ClassId) (thr : Int32) (sts : Int32) (wgt : Nat → Int32) (rwd : Nat → Int32) (up : Int64) (dn : Int64) (cel : Nat → Int64) (rig : Nat → Int64) (sum : Nat → Int64) (gp : Nat → Int32) (bst : Nat → Int32) (few : Int32) (p1 : Int32) (p2 : Int32) (p3 : Int32) (R0 : Int32) (hR : some R0 = f_M_fits sts wgt rwd gp p1 p2 p3) : Met l yX7_fits W_M_fits RM_f_M_fits (roP (dC, dI) vwCl [(tI, .int), (tL, .long), (tII, .array .int), (tLL, .array .long)] (wM ad tI tL tII tLL thr sts wgt rwd up dn cel rig sum gp bst few) ([.ref (ad 0), .int p1, .int p2, .int p3] : List Value)) (roQ (some (.int R0))) 0 0 (fun _ => False) := by
  refine Met.ofW (cc := cX7_fits) (maxL := 5) (ret := (some .boolean)) (by decide) rfl ?_
  intro p e s m args below meth c s₁ B hml hv
  obtain ⟨rfl, hP, hK, hN⟩ := hv
  have hx := B.exec
  have hb := B.bytes
  have hr := B.returns
  have hts := atoms_spec (ws := W_M_fits) B.pre
  have ht := fun (w : Cond) (h : w ∈ tblG) => hts w (List.mem_cons_of_mem _ h)
  have hown : s.vm.findClass RX7 = some m.cls := findClass_of_methodNamed B.named
  have hlocks := B.notSynchronized
  have hl := lv_entry ([.ref (ad 0), .int p1, .int p2, .int p3] : List Value) (n := 5) (Nat.le_of_ble_eq_true rfl)
  rw [lg_entry_eq]
  generalize (lg_sl ([.ref (ad 0), .int p1, .int p2, .int p3] : List Value) ++ List.replicate (5 - (lg_sl ([.ref (ad 0), .int p1, .int p2, .int p3] : List Value)).length) Slot.unset).toArray = ls at hl ⊢
  have hl : lv_has ls 5 [(0, .ref (ad 0)), (1, .int p1), (2, .int p2), (3, .int p3)] := hl
  rw [f_M_fits] at hR
  refine lv_aload_n hx hb dX7_fits_0 rfl (lv_at hl 0 rfl) ?_
  refine lv_iload_n hx hb dX7_fits_1 rfl (lv_at hl 1 rfl) ?_
  obtain ⟨r1, hC, hR⟩ := ob hR
  try dsimp only at hR
  refine ro_calli (va_runV (As := [.int p1]) (rest := []) ⟨hx, hb, hml, hown, ht⟩ (c_M_isEnd l dC dI ad tI tL tII tLL thr sts wgt rwd up dn cel rig sum gp bst few p1 r1 hC.symm) ⟨callB_of 1 ht (goodG k_245) rfl rfl rfl (ht _ k_202) (ht _ k_246) (by decide +kernel) ⟨Nat.le_of_ble_eq_true rfl, Nat.le_of_ble_eq_true rfl⟩, (ht _ k_248), (ht _ k_247)⟩ (pre_v hK hN hP (q0 := 0) (ci := 7) rfl rfl) rfl rfl hl.1 rfl (lv_room (Nat.le_of_ble_eq_true rfl)) dX7_fits_2 ⟨Nat.zero_le _, Nat.zero_le _⟩) ?_
  refine lv_aload_n hx hb dX7_fits_5 rfl (lv_at hl 0 rfl) ?_
  refine lv_iload_n hx hb dX7_fits_6 rfl (lv_at hl 2 rfl) ?_
  obtain ⟨r2, hC, hR⟩ := ob hR
  try dsimp only at hR
  refine ro_calli (va_runV (As := [.int p2]) (rest := [.int r1]) ⟨hx, hb, hml, hown, ht⟩ (c_M_isEnd l dC dI ad tI tL tII tLL thr sts wgt rwd up dn cel rig sum gp bst few p2 r2 hC.symm) ⟨callB_of 1 ht (goodG k_245) rfl rfl rfl (ht _ k_202) (ht _ k_246) (by decide +kernel) ⟨Nat.le_of_ble_eq_true rfl, Nat.le_of_ble_eq_true rfl⟩, (ht _ k_248), (ht _ k_247)⟩ (pre_v hK hN hP (q0 := 0) (ci := 7) rfl rfl) rfl rfl hl.1 rfl (lv_room (Nat.le_of_ble_eq_true rfl)) dX7_fits_7 ⟨Nat.zero_le _, Nat.zero_le _⟩) ?_
  refine lv_icmp_ne (tgt := 28) hx hb dX7_fits_10 (by decide) (fun c3 => ?_) (fun c3 => ?_)
  · replace hR := it_n c3 hR
    refine lv_iconst (v := 0) hx hb dX7_fits_28 (by decide) ?_
    cases hR
    exact W.zret hx hb hr rfl (fun t ht _ => ⟨rfl, ht⟩) t_nil dX7_fits_29
  · replace hR := it_p c3 hR
    refine lv_aload_n hx hb dX7_fits_13 rfl (lv_at hl 0 rfl) ?_
    refine va_get (D := (dC, dI)) (ci := 7) (v := .ref (ad 2)) (C := RX7) (T := TX7) (N := 12) hx hb ht hinX7 hown hK hP 0 rfl rfl 3 (by decide) (ht _ k_221) (fun _ h9 => h9) rfl dX7_fits_14 ?_
    refine lv_iload_n hx hb dX7_fits_17 rfl (lv_at hl 1 rfl) ?_
    obtain ⟨z4, hR⟩ := og hR
    refine va_iald hx hb hK hP 2 0 rfl rfl (ix_in z4) dX7_fits_18 ?_
    refine lv_aload_n hx hb dX7_fits_19 rfl (lv_at hl 0 rfl) ?_
    refine va_get (D := (dC, dI)) (ci := 7) (v := .ref (ad 2)) (C := RX7) (T := TX7) (N := 12) hx hb ht hinX7 hown hK hP 0 rfl rfl 3 (by decide) (ht _ k_221) (fun _ h9 => h9) rfl dX7_fits_20 ?_
    refine lv_iload_n hx hb dX7_fits_23 rfl (lv_at hl 2 rfl) ?_
    obtain ⟨z5, hR⟩ := og hR
    refine va_iald hx hb hK hP 2 0 rfl rfl (ix_in z5) dX7_fits_24 ?_
    refine lv_icmp_eq (tgt := 30) hx hb dX7_fits_25 (by decide) (fun c6 => ?_) (fun c6 => ?_)
    · replace hR := it_p c6 hR
      refine lv_iconst (v := 0) hx hb dX7_fits_30 (by decide) ?_
      refine lv_istore (lv' := [(4, .int (0 : Int32)), (0, .ref (ad 0)), (1, .int p1), (2, .int p2), (3, .int p3)]) hx hb dX7_fits_31 hl (by decide) rfl (fun ls hl => ?_)
      have L33_14 : ∀ (n : Nat) (x4_7 : Int32), ∀ (o : (Int32) ⊕ (Int32)), some o = f_M_fits_L33 sts wgt gp p1 p2 p3 n x4_7 → (∀ r, o = .inr r → r = R0) → (∀ (o_x4_7 : Int32), o = .inl o_x4_7 → ∀ ls : Array Slot, lv_has ls 5 [(0, .ref (ad 0)), (1, .int p1), (2, .int p2), (3, .int p3), (4, .int o_x4_7)] → W p l e (headSpec W_M_fits RM_f_M_fits).room s m ([.ref (ad 0), .int p1, .int p2, .int p3] : List Value).toArray below meth c s.heap [] 0 0 (MQ below (roQ (some (.int R0))) ([.ref (ad 0), .int p1, .int p2, .int p3] : List Value).toArray s 0 0 (fun _ => False)) (F0 m 76 ls [])) → ∀ ls : Array Slot, lv_has ls 5 [(0, .ref (ad 0)), (1, .int p1), (2, .int p2), (3, .int p3), (4, .int x4_7)] → W p l e (headSpec W_M_fits RM_f_M_fits).room s m ([.ref (ad 0), .int p1, .int p2, .int p3] : List Value).toArray below meth c s.heap [] 0 0 (MQ below (roQ (some (.int R0))) ([.ref (ad 0), .int p1, .int p2, .int p3] : List Value).toArray s 0 0 (fun _ => False)) (F0 m 33 ls []) := by
        intro n
        induction n with
        | zero =>
          intro x4_7 o hR
          cases (show some _ = none from hR)
        | succ n ih =>
          intro x4_7 o hR her hk ls hl
          rw [f_M_fits_L33_s] at hR
          obtain ⟨y, hR, hQ⟩ := ob hR
          replace hR := hR.symm
          rw [f_M_fits_B33] at hR
          refine lv_iload hx hb dX7_fits_33 (lv_at hl 4 rfl) ?_
          refine lv_iload_n hx hb dX7_fits_35 rfl (lv_at hl 3 rfl) ?_
          refine lv_icmp_ge (tgt := 76) hx hb dX7_fits_36 (by decide) (fun c8 => ?_) (fun c8 => ?_)
          · replace hR := it_p c8 hR
            cases hR
            cases (show some _ = some _ from hQ)
            exact hk _ rfl ls (lv_sub hl [0, 1, 2, 3, 4] rfl)
          · replace hR := it_n c8 hR
            refine lv_aload_n hx hb dX7_fits_39 rfl (lv_at hl 0 rfl) ?_
            refine lv_iload_n hx hb dX7_fits_40 rfl (lv_at hl 1 rfl) ?_
            refine lv_iload hx hb dX7_fits_41 (lv_at hl 4 rfl) ?_
            obtain ⟨r9, hC, hR⟩ := ob hR
            try dsimp only at hR
            refine ro_calli (va_runV (As := [.int p1, .int x4_7]) (rest := []) ⟨hx, hb, hml, hown, ht⟩ (c_M_weightTo l dC dI ad tI tL tII tLL thr sts wgt rwd up dn cel rig sum gp bst few p1 x4_7 r9 hC.symm) ⟨callB_of 2 ht (goodG k_289) rfl rfl rfl (ht _ k_202) (ht _ k_290) (by decide +kernel) ⟨Nat.le_of_ble_eq_true rfl, Nat.le_of_ble_eq_true rfl⟩, (ht _ k_292), (ht _ k_291)⟩ (pre_v hK hN hP (q0 := 0) (ci := 7) rfl rfl) rfl rfl hl.1 rfl (lv_room (Nat.le_of_ble_eq_true rfl)) dX7_fits_43 ⟨Nat.zero_le _, Nat.zero_le _⟩) ?_
            refine lv_aload_n hx hb dX7_fits_46 rfl (lv_at hl 0 rfl) ?_
            refine lv_iload_n hx hb dX7_fits_47 rfl (lv_at hl 2 rfl) ?_
            obtain ⟨r10, hC, hR⟩ := ob hR
            try dsimp only at hR
            refine ro_calli (va_runV (As := [.int p2]) (rest := [.int r9]) ⟨hx, hb, hml, hown, ht⟩ (c_M_total l dC dI ad tI tL tII tLL thr sts wgt rwd up dn cel rig sum gp bst few p2 r10 hC.symm) ⟨callB_of 1 ht (goodG k_214) rfl rfl rfl (ht _ k_202) (ht _ k_215) (by decide +kernel) ⟨Nat.le_of_ble_eq_true rfl, Nat.le_of_ble_eq_true rfl⟩, (ht _ k_217), (ht _ k_216)⟩ (pre_v hK hN hP (q0 := 0) (ci := 7) rfl rfl) rfl rfl hl.1 rfl (lv_room (Nat.le_of_ble_eq_true rfl)) dX7_fits_48 ⟨Nat.zero_le _, Nat.zero_le _⟩) ?_
            refine lv_imul hx hb dX7_fits_51 ?_
            refine lv_aload_n hx hb dX7_fits_52 rfl (lv_at hl 0 rfl) ?_
            refine lv_iload_n hx hb dX7_fits_53 rfl (lv_at hl 2 rfl) ?_
            refine lv_iload hx hb dX7_fits_54 (lv_at hl 4 rfl) ?_
            obtain ⟨r11, hC, hR⟩ := ob hR
            try dsimp only at hR
            refine ro_calli (va_runV (As := [.int p2, .int x4_7]) (rest := [.int (r9 * r10)]) ⟨hx, hb, hml, hown, ht⟩ (c_M_weightTo l dC dI ad tI tL tII tLL thr sts wgt rwd up dn cel rig sum gp bst few p2 x4_7 r11 hC.symm) ⟨callB_of 2 ht (goodG k_289) rfl rfl rfl (ht _ k_202) (ht _ k_290) (by decide +kernel) ⟨Nat.le_of_ble_eq_true rfl, Nat.le_of_ble_eq_true rfl⟩, (ht _ k_292), (ht _ k_291)⟩ (pre_v hK hN hP (q0 := 0) (ci := 7) rfl rfl) rfl rfl hl.1 rfl (lv_room (Nat.le_of_ble_eq_true rfl)) dX7_fits_56 ⟨Nat.zero_le _, Nat.zero_le _⟩) ?_
            refine lv_aload_n hx hb dX7_fits_59 rfl (lv_at hl 0 rfl) ?_
            refine lv_iload_n hx hb dX7_fits_60 rfl (lv_at hl 1 rfl) ?_
            obtain ⟨r12, hC, hR⟩ := ob hR
            try dsimp only at hR
            refine ro_calli (va_runV (As := [.int p1]) (rest := [.int r11, .int (r9 * r10)]) ⟨hx, hb, hml, hown, ht⟩ (c_M_total l dC dI ad tI tL tII tLL thr sts wgt rwd up dn cel rig sum gp bst few p1 r12 hC.symm) ⟨callB_of 1 ht (goodG k_214) rfl rfl rfl (ht _ k_202) (ht _ k_215) (by decide +kernel) ⟨Nat.le_of_ble_eq_true rfl, Nat.le_of_ble_eq_true rfl⟩, (ht _ k_217), (ht _ k_216)⟩ (pre_v hK hN hP (q0 := 0) (ci := 7) rfl rfl) rfl rfl hl.1 rfl (lv_room (Nat.le_of_ble_eq_true rfl)) dX7_fits_61 ⟨Nat.zero_le _, Nat.zero_le _⟩) ?_
            refine lv_imul hx hb dX7_fits_64 ?_
            refine lv_icmp_eq (tgt := 70) hx hb dX7_fits_65 (by decide) (fun c13 => ?_) (fun c13 => ?_)
            · replace hR := it_p c13 hR
              refine lv_iinc (v := (x4_7 + 1)) (lv' := [(4, .int (x4_7 + 1)), (0, .ref (ad 0)), (1, .int p1), (2, .int p2), (3, .int p3)]) hx hb dX7_fits_70 hl (k := 4) rfl rfl (by decide) rfl (fun ls hl => ?_)
              refine lv_goto (tgt := 33) hx hb dX7_fits_73 (by decide) ?_
              cases hR
              exact ih (x4_7 + 1) o hQ her hk ls (lv_sub hl [1, 2, 3, 4, 0] rfl)
            · replace hR := it_n c13 hR
              refine lv_iconst (v := 0) hx hb dX7_fits_68 (by decide) ?_
              cases hR
              cases (show some _ = some _ from hQ)
              have hR := her _ rfl
              cases hR
              exact W.zret hx hb hr rfl (fun t ht _ => ⟨rfl, ht⟩) t_nil dX7_fits_69
      obtain ⟨o16, hL, hR⟩ := ob hR
      refine L33_14 300 (0 : Int32) o16 hL.symm (fun r e => by subst e; exact (Option.some.inj hR).symm) (fun u15 e ls hl => ?_) ls (lv_sub hl [1, 2, 3, 4, 0] rfl)
      subst e
      try dsimp only at hR
      refine lv_iconst (v := 1) hx hb dX7_fits_76 (by decide) ?_
      cases hR
      exact W.zret hx hb hr rfl (fun t ht _ => ⟨rfl, ht⟩) t_nil dX7_fits_77
    · replace hR := it_n c6 hR
      refine lv_iconst (v := 0) hx hb dX7_fits_28 (by decide) ?_
      cases hR
      exact W.zret hx hb hr rfl (fun t ht _ => ⟨rfl, ht⟩) t_nil dX7_fits_29
abbrev RM_f_M_isParting : Room := { frames := 4, cells := 0, slots := 0, locals := 90 }
abbrev W_M_isParting : List Cond := .code yX7_isParting cX7_isParting 4 (some .boolean) :: tblG
set_option maxHeartbeats 4000000 in
set_option maxRecDepth 100000 in
theorem c_M_isParting (l : Launch) (dC : Nat → ClassId) (dI : Nat → Nat → Nat) (ad : Nat → Nat) (tI tL tII tLL : ClassId) (thr : Int32) (sts : Int32) (wgt : Nat → Int32) (rwd : Nat → Int32) (up : Int64) (dn : Int64) (cel : Nat → Int64) (rig : Nat → Int64) (sum : Nat → Int64) (gp : Nat → Int32) (bst : Nat → Int32) (few : Int32) (p1 : Int32) (R0 : Int32) (hR : some R0 = f_M_isParting sts wgt rwd gp p1) : Met l yX7_isParting W_M_isParting RM_f_M_isParting (roP (dC, dI) vwCl [(tI, .int), (tL, .long), (tII, .array .int), (tLL, .array .long)] (wM ad tI tL tII tLL thr sts wgt rwd up dn cel rig sum gp bst few) ([.ref (ad 0), .int p1] : List Value)) (roQ (some (.int R0))) 0 0 (fun _ => False) := by
  refine Met.ofW (cc := cX7_isParting) (maxL := 4) (ret := (some .boolean)) (by decide) rfl ?_
  intro p e s m args below meth c s₁ B hml hv
  obtain ⟨rfl, hP, hK, hN⟩ := hv
  have hx := B.exec
  have hb := B.bytes
  have hr := B.returns
  have hts := atoms_spec (ws := W_M_isParting) B.pre
  have ht := fun (w : Cond) (h : w ∈ tblG) => hts w (List.mem_cons_of_mem _ h)
  have hown : s.vm.findClass RX7 = some m.cls := findClass_of_methodNamed B.named
  have hlocks := B.notSynchronized
  have hl := lv_entry ([.ref (ad 0), .int p1] : List Value) (n := 4) (Nat.le_of_ble_eq_true rfl)
  rw [lg_entry_eq]
  generalize (lg_sl ([.ref (ad 0), .int p1] : List Value) ++ List.replicate (4 - (lg_sl ([.ref (ad 0), .int p1] : List Value)).length) Slot.unset).toArray = ls at hl ⊢
  have hl : lv_has ls 4 [(0, .ref (ad 0)), (1, .int p1)] := hl
  rw [f_M_isParting] at hR
  refine lv_iconst (v := 0) hx hb dX7_isParting_0 (by decide) ?_
  refine lv_istore_n (lv' := [(2, .int (0 : Int32)), (0, .ref (ad 0)), (1, .int p1)]) hx hb dX7_isParting_1 rfl hl (by decide) rfl (fun ls hl => ?_)
  have L2_13 : ∀ (n : Nat) (x2_1 : Int32), ∀ (o : (Int32) ⊕ (Int32)), some o = f_M_isParting_L2 sts wgt rwd gp p1 n x2_1 → (∀ r, o = .inr r → r = R0) → (∀ (o_x2_1 : Int32), o = .inl o_x2_1 → ∀ ls : Array Slot, lv_has ls 4 [(0, .ref (ad 0)), (1, .int p1), (2, .int o_x2_1)] → W p l e (headSpec W_M_isParting RM_f_M_isParting).room s m ([.ref (ad 0), .int p1] : List Value).toArray below meth c s.heap [] 0 0 (MQ below (roQ (some (.int R0))) ([.ref (ad 0), .int p1] : List Value).toArray s 0 0 (fun _ => False)) (F0 m 56 ls [])) → ∀ ls : Array Slot, lv_has ls 4 [(0, .ref (ad 0)), (1, .int p1), (2, .int x2_1)] → W p l e (headSpec W_M_isParting RM_f_M_isParting).room s m ([.ref (ad 0), .int p1] : List Value).toArray below meth c s.heap [] 0 0 (MQ below (roQ (some (.int R0))) ([.ref (ad 0), .int p1] : List Value).toArray s 0 0 (fun _ => False)) (F0 m 2 ls []) := by
    intro n
    induction n with
    | zero =>
      intro x2_1 o hR
      cases (show some _ = none from hR)
    | succ n ih =>
      intro x2_1 o hR her hk ls hl
      rw [f_M_isParting_L2_s] at hR
      obtain ⟨y, hR, hQ⟩ := ob hR
      replace hR := hR.symm
      rw [f_M_isParting_B2] at hR
      refine lv_iload_n hx hb dX7_isParting_2 rfl (lv_at hl 2 rfl) ?_
      refine lv_aload_n hx hb dX7_isParting_3 rfl (lv_at hl 0 rfl) ?_
      refine va_get (D := (dC, dI)) (ci := 7) (v := .int sts) (C := RX7) (T := TX7) (N := 12) hx hb ht hinX7 hown hK hP 0 rfl rfl 1 (by decide) (ht _ k_205) (fun _ h9 => h9) rfl dX7_isParting_4 ?_
      refine lv_icmp_ge (tgt := 56) hx hb dX7_isParting_7 (by decide) (fun c2 => ?_) (fun c2 => ?_)
      · replace hR := it_p c2 hR
        cases hR
        cases (show some _ = some _ from hQ)
        exact hk _ rfl ls (lv_sub hl [0, 1, 2] rfl)
      · replace hR := it_n c2 hR
        refine lv_iconst (v := 0) hx hb dX7_isParting_10 (by decide) ?_
        refine lv_istore_n (lv' := [(3, .int (0 : Int32)), (0, .ref (ad 0)), (1, .int p1), (2, .int x2_1)]) hx hb dX7_isParting_11 rfl hl (by decide) rfl (fun ls hl => ?_)
        have L12_10 : ∀ (n : Nat) (x3_3 : Int32), ∀ (o : (Int32) ⊕ (Int32)), some o = f_M_isParting_L12 sts wgt rwd gp p1 x2_1 n x3_3 → (∀ r, o = .inr r → r = R0) → (∀ (o_x3_3 : Int32), o = .inl o_x3_3 → ∀ ls : Array Slot, lv_has ls 4 [(0, .ref (ad 0)), (1, .int p1), (2, .int x2_1), (3, .int o_x3_3)] → W p l e (headSpec W_M_isParting RM_f_M_isParting).room s m ([.ref (ad 0), .int p1] : List Value).toArray below meth c s.heap [] 0 0 (MQ below (roQ (some (.int R0))) ([.ref (ad 0), .int p1] : List Value).toArray s 0 0 (fun _ => False)) (F0 m 50 ls [])) → ∀ ls : Array Slot, lv_has ls 4 [(0, .ref (ad 0)), (1, .int p1), (2, .int x2_1), (3, .int x3_3)] → W p l e (headSpec W_M_isParting RM_f_M_isParting).room s m ([.ref (ad 0), .int p1] : List Value).toArray below meth c s.heap [] 0 0 (MQ below (roQ (some (.int R0))) ([.ref (ad 0), .int p1] : List Value).toArray s 0 0 (fun _ => False)) (F0 m 12 ls []) := by
          intro n
          induction n with
          | zero =>
            intro x3_3 o hR
            cases (show some _ = none from hR)
          | succ n ih =>
            intro x3_3 o hR her hk ls hl
            rw [f_M_isParting_L12_s] at hR
            obtain ⟨y, hR, hQ⟩ := ob hR
            replace hR := hR.symm
            rw [f_M_isParting_B12] at hR
            refine lv_iload_n hx hb dX7_isParting_12 rfl (lv_at hl 3 rfl) ?_
            refine lv_iload_n hx hb dX7_isParting_13 rfl (lv_at hl 2 rfl) ?_
            refine lv_icmp_ge (tgt := 50) hx hb dX7_isParting_14 (by decide) (fun c4 => ?_) (fun c4 => ?_)
            · replace hR := it_p c4 hR
              cases hR
              cases (show some _ = some _ from hQ)
              exact hk _ rfl ls (lv_sub hl [0, 1, 2, 3] rfl)
            · replace hR := it_n c4 hR
              refine lv_aload_n hx hb dX7_isParting_17 rfl (lv_at hl 0 rfl) ?_
              refine va_get (D := (dC, dI)) (ci := 7) (v := .ref (ad 6)) (C := RX7) (T := TX7) (N := 12) hx hb ht hinX7 hown hK hP 0 rfl rfl 9 (by decide) (ht _ k_288) (fun _ h9 => h9) rfl dX7_isParting_18 ?_
              refine lv_iload_n hx hb dX7_isParting_21 rfl (lv_at hl 2 rfl) ?_
              obtain ⟨z5, hR⟩ := og hR
              refine va_iald hx hb hK hP 6 0 rfl rfl (ix_in z5) dX7_isParting_22 ?_
              refine lv_aload_n hx hb dX7_isParting_23 rfl (lv_at hl 0 rfl) ?_
              refine va_get (D := (dC, dI)) (ci := 7) (v := .ref (ad 6)) (C := RX7) (T := TX7) (N := 12) hx hb ht hinX7 hown hK hP 0 rfl rfl 9 (by decide) (ht _ k_288) (fun _ h9 => h9) rfl dX7_isParting_24 ?_
              refine lv_iload_n hx hb dX7_isParting_27 rfl (lv_at hl 3 rfl) ?_
              obtain ⟨z6, hR⟩ := og hR
              refine va_iald hx hb hK hP 6 0 rfl rfl (ix_in z6) dX7_isParting_28 ?_
              refine lv_icmp_ne (tgt := 44) hx hb dX7_isParting_29 (by decide) (fun c7 => ?_) (fun c7 => ?_)
              · replace hR := it_n c7 hR
                refine lv_iinc (v := (x3_3 + 1)) (lv' := [(3, .int (x3_3 + 1)), (0, .ref (ad 0)), (1, .int p1), (2, .int x2_1)]) hx hb dX7_isParting_44 hl (k := 3) rfl rfl (by decide) rfl (fun ls hl => ?_)
                refine lv_goto (tgt := 12) hx hb dX7_isParting_47 (by decide) ?_
                cases hR
                exact ih (x3_3 + 1) o hQ her hk ls (lv_sub hl [1, 2, 3, 0] rfl)
              · replace hR := it_p c7 hR
                refine lv_aload_n hx hb dX7_isParting_32 rfl (lv_at hl 0 rfl) ?_
                refine lv_iload_n hx hb dX7_isParting_33 rfl (lv_at hl 2 rfl) ?_
                refine lv_iload_n hx hb dX7_isParting_34 rfl (lv_at hl 3 rfl) ?_
                refine lv_iload_n hx hb dX7_isParting_35 rfl (lv_at hl 1 rfl) ?_
                obtain ⟨r8, hC, hR⟩ := ob hR
                try dsimp only at hR
                refine ro_calli (va_runV (As := [.int x2_1, .int x3_3, .int p1]) (rest := []) ⟨hx, hb, hml, hown, ht⟩ (c_M_fits l dC dI ad tI tL tII tLL thr sts wgt rwd up dn cel rig sum gp bst few x2_1 x3_3 p1 r8 hC.symm) ⟨callB_of 3 ht (goodG k_293) rfl rfl rfl (ht _ k_202) (ht _ k_294) (by decide +kernel) ⟨Nat.le_of_ble_eq_true rfl, Nat.le_of_ble_eq_true rfl⟩, (ht _ k_296), (ht _ k_295)⟩ (pre_v hK hN hP (q0 := 0) (ci := 7) rfl rfl) rfl rfl hl.1 rfl (lv_room (Nat.le_of_ble_eq_true rfl)) dX7_isParting_36 ⟨Nat.zero_le _, Nat.zero_le _⟩) ?_
                refine lv_if_ne (tgt := 44) hx hb dX7_isParting_39 (by decide) (fun c9 => ?_) (fun c9 => ?_)
                · replace hR := it_n c9 hR
                  refine lv_iinc (v := (x3_3 + 1)) (lv' := [(3, .int (x3_3 + 1)), (0, .ref (ad 0)), (1, .int p1), (2, .int x2_1)]) hx hb dX7_isParting_44 hl (k := 3) rfl rfl (by decide) rfl (fun ls hl => ?_)
                  refine lv_goto (tgt := 12) hx hb dX7_isParting_47 (by decide) ?_
                  cases hR
                  exact ih (x3_3 + 1) o hQ her hk ls (lv_sub hl [1, 2, 3, 0] rfl)
                · replace hR := it_p c9 hR
                  refine lv_iconst (v := 0) hx hb dX7_isParting_42 (by decide) ?_
                  cases hR
                  cases (show some _ = some _ from hQ)
                  have hR := her _ rfl
                  cases hR
                  exact W.zret hx hb hr rfl (fun t ht _ => ⟨rfl, ht⟩) t_nil dX7_isParting_43
        obtain ⟨o12, hL, hR⟩ := ob hR
        refine L12_10 300 (0 : Int32) o12 hL.symm (fun r e => by subst e; cases hR; cases (show some _ = some _ from hQ); exact her _ rfl) (fun u11 e ls hl => ?_) ls (lv_sub hl [1, 2, 3, 0] rfl)
        subst e
        try dsimp only at hR
        refine lv_iinc (v := (x2_1 + 1)) (lv' := [(2, .int (x2_1 + 1)), (0, .ref (ad 0)), (1, .int p1), (3, .int u11)]) hx hb dX7_isParting_50 hl (k := 2) rfl rfl (by decide) rfl (fun ls hl => ?_)
        refine lv_goto (tgt := 2) hx hb dX7_isParting_53 (by decide) ?_
        cases hR
        exact ih (x2_1 + 1) o hQ her hk ls (lv_sub hl [1, 2, 0] rfl)
  obtain ⟨o15, hL, hR⟩ := ob hR
  refine L2_13 300 (0 : Int32) o15 hL.symm (fun r e => by subst e; exact (Option.some.inj hR).symm) (fun u14 e ls hl => ?_) ls (lv_sub hl [1, 2, 0] rfl)
  subst e
  try dsimp only at hR
  refine lv_iconst (v := 1) hx hb dX7_isParting_56 (by decide) ?_
  cases hR
  exact W.zret hx hb hr rfl (fun t ht _ => ⟨rfl, ht⟩) t_nil dX7_isParting_57
abbrev RM_f_M_next : Room := { frames := 0, cells := 0, slots := 0, locals := 0 }
abbrev W_M_next : List Cond := .code yX7_next cX7_next 4 (some .boolean) :: tblG
set_option maxHeartbeats 4000000 in
set_option maxRecDepth 100000 in
theorem c_M_next (l : Launch) (dC : Nat → ClassId) (dI : Nat → Nat → Nat) (ad : Nat → Nat) (tI tL tII tLL : ClassId) (thr : Int32) (sts : Int32) (wgt : Nat → Int32) (rwd : Nat → Int32) (up : Int64) (dn : Int64) (cel : Nat → Int64) (rig : Nat → Int64) (sum : Nat → Int64) (gp : Nat → Int32) (bst : Nat → Int32) (few : Int32)  (R0 : Int32) (R_gp : Nat → Int32) (hR : some (R0, R_gp) = f_M_next sts gp) : Met l yX7_next W_M_next RM_f_M_next (rwP (dC, dI) vwCl [(tI, .int), (tL, .long), (tII, .array .int), (tLL, .array .long)] (wM ad tI tL tII tLL thr sts wgt rwd up dn cel rig sum gp bst few) ([.ref (ad 0)] : List Value)) (rwQ (dC, dI) vwCl (wM ad tI tL tII tLL thr sts wgt rwd up dn cel rig sum R_gp bst few) (some (.int R0)) (rwA (wM ad tI tL tII tLL thr sts wgt rwd up dn cel rig sum gp bst few))) 0 0 (rwA (wM ad tI tL tII tLL thr sts wgt rwd up dn cel rig sum gp bst few)) := by
  refine Met.ofW (cc := cX7_next) (maxL := 4) (ret := (some .boolean)) (by decide) rfl ?_
  intro p e s m args below meth c s₁ B hml hv
  obtain ⟨rfl, hP, hK, hN, hD⟩ := hv
  have hx := B.exec
  have hb := B.bytes
  have hr := B.returns
  have hts := atoms_spec (ws := W_M_next) B.pre
  have ht := fun (w : Cond) (h : w ∈ tblG) => hts w (List.mem_cons_of_mem _ h)
  have hown : s.vm.findClass RX7 = some m.cls := findClass_of_methodNamed B.named
  have hlocks := B.notSynchronized
  have hl := lv_entry ([.ref (ad 0)] : List Value) (n := 4) (Nat.le_of_ble_eq_true rfl)
  rw [lg_entry_eq]
  generalize (lg_sl ([.ref (ad 0)] : List Value) ++ List.replicate (4 - (lg_sl ([.ref (ad 0)] : List Value)).length) Slot.unset).toArray = ls at hl ⊢
  have hl : lv_has ls 4 [(0, .ref (ad 0))] := hl
  have hD := hD.own
  have hS : va_S (rwA (wM ad tI tL tII tLL thr sts wgt rwd up dn cel rig sum gp bst few)) s.heap s.heap [] := va_S.rf
  suffices K : ∀ (H : Heap) (locs : List Loc), va_P (dC, dI) vwCl (wM ad tI tL tII tLL thr sts wgt rwd up dn cel rig sum gp bst few) H → va_D (rwA (wM ad tI tL tII tLL thr sts wgt rwd up dn cel rig sum gp bst few)) (wM ad tI tL tII tLL thr sts wgt rwd up dn cel rig sum gp bst few) → va_S (rwA (wM ad tI tL tII tLL thr sts wgt rwd up dn cel rig sum gp bst few)) s.heap H locs → W p l e (headSpec W_M_next RM_f_M_next).room s m ([.ref (ad 0)] : List Value).toArray below meth c H locs 0 0 (MQ below (rwQ (dC, dI) vwCl (wM ad tI tL tII tLL thr sts wgt rwd up dn cel rig sum R_gp bst few) (some (.int R0)) (rwA (wM ad tI tL tII tLL thr sts wgt rwd up dn cel rig sum gp bst few))) ([.ref (ad 0)] : List Value).toArray s 0 0 (rwA (wM ad tI tL tII tLL thr sts wgt rwd up dn cel rig sum gp bst few))) (F0 m 0 ls []) from K s.heap [] hP hD hS
  clear hP hD hS
  intro H locs hP hD hS
  rw [f_M_next] at hR
  refine lv_aload_n hx hb dX7_next_0 rfl (lv_at hl 0 rfl) ?_
  refine va_get (D := (dC, dI)) (ci := 7) (v := .int sts) (C := RX7) (T := TX7) (N := 12) hx hb ht hinX7 hown hK hP 0 rfl rfl 1 (by decide) (ht _ k_205) (fun _ h9 => h9) rfl dX7_next_1 ?_
  refine lv_iconst (v := 1) hx hb dX7_next_4 (by decide) ?_
  refine lv_isub hx hb dX7_next_5 ?_
  refine lv_istore_n (lv' := [(1, .int (sts - (1 : Int32))), (0, .ref (ad 0))]) hx hb dX7_next_6 rfl hl (by decide) rfl (fun ls hl => ?_)
  have L7_24 : ∀ (n : Nat) (x1_1 : Int32) (gp_2 : Nat → Int32), ∀ (o : (Int32 × (Nat → Int32)) ⊕ (Int32 × (Nat → Int32))), some o = f_M_next_L7 sts n x1_1 gp_2 → (∀ r, o = .inr r → r = (R0, R_gp)) → (∀ (o_x1_1 : Int32) (o_gp_2 : Nat → Int32), o = .inl (o_x1_1, o_gp_2) → ∀ (H : Heap) (locs : List Loc), va_P (dC, dI) vwCl (wM ad tI tL tII tLL thr sts wgt rwd up dn cel rig sum o_gp_2 bst few) H → va_D (rwA (wM ad tI tL tII tLL thr sts wgt rwd up dn cel rig sum gp bst few)) (wM ad tI tL tII tLL thr sts wgt rwd up dn cel rig sum o_gp_2 bst few) → va_S (rwA (wM ad tI tL tII tLL thr sts wgt rwd up dn cel rig sum gp bst few)) s.heap H locs → ∀ ls : Array Slot, lv_has ls 4 [(0, .ref (ad 0)), (1, .int o_x1_1)] → W p l e (headSpec W_M_next RM_f_M_next).room s m ([.ref (ad 0)] : List Value).toArray below meth c H locs 0 0 (MQ below (rwQ (dC, dI) vwCl (wM ad tI tL tII tLL thr sts wgt rwd up dn cel rig sum R_gp bst few) (some (.int R0)) (rwA (wM ad tI tL tII tLL thr sts wgt rwd up dn cel rig sum gp bst few))) ([.ref (ad 0)] : List Value).toArray s 0 0 (rwA (wM ad tI tL tII tLL thr sts wgt rwd up dn cel rig sum gp bst few))) (F0 m 102 ls [])) → ∀ (H : Heap) (locs : List Loc), va_P (dC, dI) vwCl (wM ad tI tL tII tLL thr sts wgt rwd up dn cel rig sum gp_2 bst few) H → va_D (rwA (wM ad tI tL tII tLL thr sts wgt rwd up dn cel rig sum gp bst few)) (wM ad tI tL tII tLL thr sts wgt rwd up dn cel rig sum gp_2 bst few) → va_S (rwA (wM ad tI tL tII tLL thr sts wgt rwd up dn cel rig sum gp bst few)) s.heap H locs → ∀ ls : Array Slot, lv_has ls 4 [(0, .ref (ad 0)), (1, .int x1_1)] → W p l e (headSpec W_M_next RM_f_M_next).room s m ([.ref (ad 0)] : List Value).toArray below meth c H locs 0 0 (MQ below (rwQ (dC, dI) vwCl (wM ad tI tL tII tLL thr sts wgt rwd up dn cel rig sum R_gp bst few) (some (.int R0)) (rwA (wM ad tI tL tII tLL thr sts wgt rwd up dn cel rig sum gp bst few))) ([.ref (ad 0)] : List Value).toArray s 0 0 (rwA (wM ad tI tL tII tLL thr sts wgt rwd up dn cel rig sum gp bst few))) (F0 m 7 ls []) := by
    intro n
    induction n with
    | zero =>
      intro x1_1 gp_2 o hR
      cases (show some _ = none from hR)
    | succ n ih =>
      intro x1_1 gp_2 o hR her hk H locs hP hD hS ls hl
      rw [f_M_next_L7_s] at hR
      obtain ⟨y, hR, hQ⟩ := ob hR
      replace hR := hR.symm
      rw [f_M_next_B7] at hR
      refine lv_iload_n hx hb dX7_next_7 rfl (lv_at hl 1 rfl) ?_
      refine lv_if_le (tgt := 102) hx hb dX7_next_8 (by decide) (fun c3 => ?_) (fun c3 => ?_)
      · replace hR := it_p c3 hR
        cases hR
        cases (show some _ = some _ from hQ)
        exact hk _ _ rfl H locs hP hD hS ls (lv_sub hl [0, 1] rfl)
      · replace hR := it_n c3 hR
        refine lv_iconst (v := 0) hx hb dX7_next_11 (by decide) ?_
        refine lv_istore_n (lv' := [(2, .int (0 : Int32)), (0, .ref (ad 0)), (1, .int x1_1)]) hx hb dX7_next_12 rfl hl (by decide) rfl (fun ls hl => ?_)
        refine lv_iconst (v := 0) hx hb dX7_next_13 (by decide) ?_
        refine lv_istore_n (lv' := [(3, .int (0 : Int32)), (2, .int (0 : Int32)), (0, .ref (ad 0)), (1, .int x1_1)]) hx hb dX7_next_14 rfl hl (by decide) rfl (fun ls hl => ?_)
        have L15_10 : ∀ (n : Nat) (x2_4 : Int32) (x3_5 : Int32), ∀ (o_x2_4 : Int32) (o_x3_5 : Int32), some (o_x2_4, o_x3_5) = f_M_next_L15 gp_2 x1_1 n x2_4 x3_5 → (∀ (H : Heap) (locs : List Loc), va_P (dC, dI) vwCl (wM ad tI tL tII tLL thr sts wgt rwd up dn cel rig sum gp_2 bst few) H → va_D (rwA (wM ad tI tL tII tLL thr sts wgt rwd up dn cel rig sum gp bst few)) (wM ad tI tL tII tLL thr sts wgt rwd up dn cel rig sum gp_2 bst few) → va_S (rwA (wM ad tI tL tII tLL thr sts wgt rwd up dn cel rig sum gp bst few)) s.heap H locs → ∀ ls : Array Slot, lv_has ls 4 [(0, .ref (ad 0)), (1, .int x1_1), (2, .int o_x2_4), (3, .int o_x3_5)] → W p l e (headSpec W_M_next RM_f_M_next).room s m ([.ref (ad 0)] : List Value).toArray below meth c H locs 0 0 (MQ below (rwQ (dC, dI) vwCl (wM ad tI tL tII tLL thr sts wgt rwd up dn cel rig sum R_gp bst few) (some (.int R0)) (rwA (wM ad tI tL tII tLL thr sts wgt rwd up dn cel rig sum gp bst few))) ([.ref (ad 0)] : List Value).toArray s 0 0 (rwA (wM ad tI tL tII tLL thr sts wgt rwd up dn cel rig sum gp bst few))) (F0 m 49 ls [])) → ∀ (H : Heap) (locs : List Loc), va_P (dC, dI) vwCl (wM ad tI tL tII tLL thr sts wgt rwd up dn cel rig sum gp_2 bst few) H → va_D (rwA (wM ad tI tL tII tLL thr sts wgt rwd up dn cel rig sum gp bst few)) (wM ad tI tL tII tLL thr sts wgt rwd up dn cel rig sum gp_2 bst few) → va_S (rwA (wM ad tI tL tII tLL thr sts wgt rwd up dn cel rig sum gp bst few)) s.heap H locs → ∀ ls : Array Slot, lv_has ls 4 [(0, .ref (ad 0)), (1, .int x1_1), (2, .int x2_4), (3, .int x3_5)] → W p l e (headSpec W_M_next RM_f_M_next).room s m ([.ref (ad 0)] : List Value).toArray below meth c H locs 0 0 (MQ below (rwQ (dC, dI) vwCl (wM ad tI tL tII tLL thr sts wgt rwd up dn cel rig sum R_gp bst few) (some (.int R0)) (rwA (wM ad tI tL tII tLL thr sts wgt rwd up dn cel rig sum gp bst few))) ([.ref (ad 0)] : List Value).toArray s 0 0 (rwA (wM ad tI tL tII tLL thr sts wgt rwd up dn cel rig sum gp bst few))) (F0 m 15 ls []) := by
          intro n
          induction n with
          | zero =>
            intro x2_4 x3_5 o_x2_4 o_x3_5 hR
            cases (show some _ = none from hR)
          | succ n ih =>
            intro x2_4 x3_5 o_x2_4 o_x3_5 hR hk H locs hP hD hS ls hl
            rw [f_M_next_L15_s] at hR
            obtain ⟨y, hR, hQ⟩ := ob hR
            replace hR := hR.symm
            rw [f_M_next_B15] at hR
            refine lv_iload_n hx hb dX7_next_15 rfl (lv_at hl 3 rfl) ?_
            refine lv_iload_n hx hb dX7_next_16 rfl (lv_at hl 1 rfl) ?_
            refine lv_icmp_ge (tgt := 49) hx hb dX7_next_17 (by decide) (fun c6 => ?_) (fun c6 => ?_)
            · replace hR := it_p c6 hR
              cases hR
              cases (show some _ = some _ from hQ)
              exact hk H locs hP hD hS ls (lv_sub hl [0, 1, 2, 3] rfl)
            · replace hR := it_n c6 hR
              refine lv_aload_n hx hb dX7_next_20 rfl (lv_at hl 0 rfl) ?_
              refine va_get (D := (dC, dI)) (ci := 7) (v := .ref (ad 6)) (C := RX7) (T := TX7) (N := 12) hx hb ht hinX7 hown hK hP 0 rfl rfl 9 (by decide) (ht _ k_288) (fun _ h9 => h9) rfl dX7_next_21 ?_
              refine lv_iload_n hx hb dX7_next_24 rfl (lv_at hl 3 rfl) ?_
              obtain ⟨z7, hR⟩ := og hR
              refine va_iald hx hb hK hP 6 0 rfl rfl (ix_in z7) dX7_next_25 ?_
              refine lv_iload_n hx hb dX7_next_26 rfl (lv_at hl 2 rfl) ?_
              refine lv_icmp_lt (tgt := 41) hx hb dX7_next_27 (by decide) (fun c8 => ?_) (fun c8 => ?_)
              · replace hR := it_p c8 hR
                refine lv_iload_n hx hb dX7_next_41 rfl (lv_at hl 2 rfl) ?_
                refine lv_istore_n (lv' := [(2, .int x2_4), (0, .ref (ad 0)), (1, .int x1_1), (3, .int x3_5)]) hx hb dX7_next_42 rfl hl (by decide) rfl (fun ls hl => ?_)
                refine lv_iinc (v := (x3_5 + 1)) (lv' := [(3, .int (x3_5 + 1)), (2, .int x2_4), (0, .ref (ad 0)), (1, .int x1_1)]) hx hb dX7_next_43 hl (k := 3) rfl rfl (by decide) rfl (fun ls hl => ?_)
                refine lv_goto (tgt := 15) hx hb dX7_next_46 (by decide) ?_
                cases hR
                exact ih x2_4 (x3_5 + 1) o_x2_4 o_x3_5 hQ hk H locs hP hD hS ls (lv_sub hl [2, 3, 1, 0] rfl)
              · replace hR := it_n c8 hR
                refine lv_aload_n hx hb dX7_next_30 rfl (lv_at hl 0 rfl) ?_
                refine va_get (D := (dC, dI)) (ci := 7) (v := .ref (ad 6)) (C := RX7) (T := TX7) (N := 12) hx hb ht hinX7 hown hK hP 0 rfl rfl 9 (by decide) (ht _ k_288) (fun _ h9 => h9) rfl dX7_next_31 ?_
                refine lv_iload_n hx hb dX7_next_34 rfl (lv_at hl 3 rfl) ?_
                obtain ⟨z9, hR⟩ := og hR
                refine va_iald hx hb hK hP 6 0 rfl rfl (ix_in z9) dX7_next_35 ?_
                refine lv_iconst (v := 1) hx hb dX7_next_36 (by decide) ?_
                refine lv_iadd hx hb dX7_next_37 ?_
                refine lv_goto (tgt := 42) hx hb dX7_next_38 (by decide) ?_
                refine lv_istore_n (lv' := [(2, .int ((gp_2 x3_5.toNatClampNeg) + (1 : Int32))), (0, .ref (ad 0)), (1, .int x1_1), (3, .int x3_5)]) hx hb dX7_next_42 rfl hl (by decide) rfl (fun ls hl => ?_)
                refine lv_iinc (v := (x3_5 + 1)) (lv' := [(3, .int (x3_5 + 1)), (2, .int ((gp_2 x3_5.toNatClampNeg) + (1 : Int32))), (0, .ref (ad 0)), (1, .int x1_1)]) hx hb dX7_next_43 hl (k := 3) rfl rfl (by decide) rfl (fun ls hl => ?_)
                refine lv_goto (tgt := 15) hx hb dX7_next_46 (by decide) ?_
                cases hR
                exact ih ((gp_2 x3_5.toNatClampNeg) + (1 : Int32)) (x3_5 + 1) o_x2_4 o_x3_5 hQ hk H locs hP hD hS ls (lv_sub hl [2, 3, 1, 0] rfl)
        obtain ⟨⟨u11, u12⟩, hL, hR⟩ := ob hR
        try dsimp only at hR
        refine L15_10 300 (0 : Int32) (0 : Int32) u11 u12 hL.symm (fun H locs hP hD hS ls hl => ?_) H locs hP hD hS ls (lv_sub hl [2, 3, 1, 0] rfl)
        refine lv_aload_n hx hb dX7_next_49 rfl (lv_at hl 0 rfl) ?_
        refine va_get (D := (dC, dI)) (ci := 7) (v := .ref (ad 6)) (C := RX7) (T := TX7) (N := 12) hx hb ht hinX7 hown hK hP 0 rfl rfl 9 (by decide) (ht _ k_288) (fun _ h9 => h9) rfl dX7_next_50 ?_
        refine lv_iload_n hx hb dX7_next_53 rfl (lv_at hl 1 rfl) ?_
        obtain ⟨z13, hR⟩ := og hR
        refine va_iald hx hb hK hP 6 0 rfl rfl (ix_in z13) dX7_next_54 ?_
        refine lv_iload_n hx hb dX7_next_55 rfl (lv_at hl 2 rfl) ?_
        refine lv_icmp_ge (tgt := 96) hx hb dX7_next_56 (by decide) (fun c14 => ?_) (fun c14 => ?_)
        · replace hR := it_p c14 hR
          refine lv_iinc (v := (x1_1 + (-1))) (lv' := [(1, .int (x1_1 + (-1))), (0, .ref (ad 0)), (2, .int u11), (3, .int u12)]) hx hb dX7_next_96 hl (k := 1) rfl rfl (by decide) rfl (fun ls hl => ?_)
          refine lv_goto (tgt := 7) hx hb dX7_next_99 (by decide) ?_
          cases hR
          exact ih (x1_1 + (-1)) gp_2 o hQ her hk H locs hP hD hS ls (lv_sub hl [1, 0] rfl)
        · replace hR := it_n c14 hR
          refine lv_aload_n hx hb dX7_next_59 rfl (lv_at hl 0 rfl) ?_
          refine va_get (D := (dC, dI)) (ci := 7) (v := .ref (ad 6)) (C := RX7) (T := TX7) (N := 12) hx hb ht hinX7 hown hK hP 0 rfl rfl 9 (by decide) (ht _ k_288) (fun _ h9 => h9) rfl dX7_next_60 ?_
          refine lv_iload_n hx hb dX7_next_63 rfl (lv_at hl 1 rfl) ?_
          refine lv_dup2_11 hx hb dX7_next_64 rfl rfl ?_
          obtain ⟨z15, hR⟩ := og hR
          refine va_iald hx hb hK hP 6 0 rfl rfl (ix_in z15) dX7_next_65 ?_
          refine lv_iconst (v := 1) hx hb dX7_next_66 (by decide) ?_
          refine lv_iadd hx hb dX7_next_67 ?_
          obtain ⟨z16, hR⟩ := og hR
          refine va_iast hx hb hK hP hD hS 6 0 rfl rfl (ix_in z16) dX7_next_68 (fun H locs hP hD hS => ?_)
          have hP : va_P (dC, dI) vwCl (wM ad tI tL tII tLL thr sts wgt rwd up dn cel rig sum (upd gp_2 x1_1.toNatClampNeg ((gp_2 x1_1.toNatClampNeg) + (1 : Int32))) bst few) H := hP
          have hD : va_D (rwA (wM ad tI tL tII tLL thr sts wgt rwd up dn cel rig sum gp bst few)) (wM ad tI tL tII tLL thr sts wgt rwd up dn cel rig sum (upd gp_2 x1_1.toNatClampNeg ((gp_2 x1_1.toNatClampNeg) + (1 : Int32))) bst few) := hD
          refine lv_iload_n hx hb dX7_next_69 rfl (lv_at hl 1 rfl) ?_
          refine lv_iconst (v := 1) hx hb dX7_next_70 (by decide) ?_
          refine lv_iadd hx hb dX7_next_71 ?_
          refine lv_istore_n (lv' := [(3, .int (x1_1 + (1 : Int32))), (0, .ref (ad 0)), (1, .int x1_1), (2, .int u11)]) hx hb dX7_next_72 rfl hl (by decide) rfl (fun ls hl => ?_)
          have L73_21 : ∀ (n : Nat) (x3_17 : Int32) (gp_18 : Nat → Int32), ∀ (o_x3_17 : Int32) (o_gp_18 : Nat → Int32), some (o_x3_17, o_gp_18) = f_M_next_L73 sts n x3_17 gp_18 → (∀ (H : Heap) (locs : List Loc), va_P (dC, dI) vwCl (wM ad tI tL tII tLL thr sts wgt rwd up dn cel rig sum o_gp_18 bst few) H → va_D (rwA (wM ad tI tL tII tLL thr sts wgt rwd up dn cel rig sum gp bst few)) (wM ad tI tL tII tLL thr sts wgt rwd up dn cel rig sum o_gp_18 bst few) → va_S (rwA (wM ad tI tL tII tLL thr sts wgt rwd up dn cel rig sum gp bst few)) s.heap H locs → ∀ ls : Array Slot, lv_has ls 4 [(0, .ref (ad 0)), (3, .int o_x3_17)] → W p l e (headSpec W_M_next RM_f_M_next).room s m ([.ref (ad 0)] : List Value).toArray below meth c H locs 0 0 (MQ below (rwQ (dC, dI) vwCl (wM ad tI tL tII tLL thr sts wgt rwd up dn cel rig sum R_gp bst few) (some (.int R0)) (rwA (wM ad tI tL tII tLL thr sts wgt rwd up dn cel rig sum gp bst few))) ([.ref (ad 0)] : List Value).toArray s 0 0 (rwA (wM ad tI tL tII tLL thr sts wgt rwd up dn cel rig sum gp bst few))) (F0 m 94 ls [])) → ∀ (H : Heap) (locs : List Loc), va_P (dC, dI) vwCl (wM ad tI tL tII tLL thr sts wgt rwd up dn cel rig sum gp_18 bst few) H → va_D (rwA (wM ad tI tL tII tLL thr sts wgt rwd up dn cel rig sum gp bst few)) (wM ad tI tL tII tLL thr sts wgt rwd up dn cel rig sum gp_18 bst few) → va_S (rwA (wM ad tI tL tII tLL thr sts wgt rwd up dn cel rig sum gp bst few)) s.heap H locs → ∀ ls : Array Slot, lv_has ls 4 [(0, .ref (ad 0)), (3, .int x3_17)] → W p l e (headSpec W_M_next RM_f_M_next).room s m ([.ref (ad 0)] : List Value).toArray below meth c H locs 0 0 (MQ below (rwQ (dC, dI) vwCl (wM ad tI tL tII tLL thr sts wgt rwd up dn cel rig sum R_gp bst few) (some (.int R0)) (rwA (wM ad tI tL tII tLL thr sts wgt rwd up dn cel rig sum gp bst few))) ([.ref (ad 0)] : List Value).toArray s 0 0 (rwA (wM ad tI tL tII tLL thr sts wgt rwd up dn cel rig sum gp bst few))) (F0 m 73 ls []) := by
            intro n
            induction n with
            | zero =>
              intro x3_17 gp_18 o_x3_17 o_gp_18 hR
              cases (show some _ = none from hR)
            | succ n ih =>
              intro x3_17 gp_18 o_x3_17 o_gp_18 hR hk H locs hP hD hS ls hl
              rw [f_M_next_L73_s] at hR
              obtain ⟨y, hR, hQ⟩ := ob hR
              replace hR := hR.symm
              rw [f_M_next_B73] at hR
              refine lv_iload_n hx hb dX7_next_73 rfl (lv_at hl 1 rfl) ?_
              refine lv_aload_n hx hb dX7_next_74 rfl (lv_at hl 0 rfl) ?_
              refine va_get (D := (dC, dI)) (ci := 7) (v := .int sts) (C := RX7) (T := TX7) (N := 12) hx hb ht hinX7 hown hK hP 0 rfl rfl 1 (by decide) (ht _ k_205) (fun _ h9 => h9) rfl dX7_next_75 ?_
              refine lv_icmp_ge (tgt := 94) hx hb dX7_next_78 (by decide) (fun c19 => ?_) (fun c19 => ?_)
              · replace hR := it_p c19 hR
                cases hR
                cases (show some _ = some _ from hQ)
                exact hk H locs hP hD hS ls (lv_sub hl [0, 1] rfl)
              · replace hR := it_n c19 hR
                refine lv_aload_n hx hb dX7_next_81 rfl (lv_at hl 0 rfl) ?_
                refine va_get (D := (dC, dI)) (ci := 7) (v := .ref (ad 6)) (C := RX7) (T := TX7) (N := 12) hx hb ht hinX7 hown hK hP 0 rfl rfl 9 (by decide) (ht _ k_288) (fun _ h9 => h9) rfl dX7_next_82 ?_
                refine lv_iload_n hx hb dX7_next_85 rfl (lv_at hl 1 rfl) ?_
                refine lv_iconst (v := 0) hx hb dX7_next_86 (by decide) ?_
                obtain ⟨z20, hR⟩ := og hR
                refine va_iast hx hb hK hP hD hS 6 0 rfl rfl (ix_in z20) dX7_next_87 (fun H locs hP hD hS => ?_)
                have hP : va_P (dC, dI) vwCl (wM ad tI tL tII tLL thr sts wgt rwd up dn cel rig sum (upd gp_18 x3_17.toNatClampNeg (0 : Int32)) bst few) H := hP
                have hD : va_D (rwA (wM ad tI tL tII tLL thr sts wgt rwd up dn cel rig sum gp bst few)) (wM ad tI tL tII tLL thr sts wgt rwd up dn cel rig sum (upd gp_18 x3_17.toNatClampNeg (0 : Int32)) bst few) := hD
                refine lv_iinc (v := (x3_17 + 1)) (lv' := [(3, .int (x3_17 + 1)), (0, .ref (ad 0))]) hx hb dX7_next_88 hl (k := 1) rfl rfl (by decide) rfl (fun ls hl => ?_)
                refine lv_goto (tgt := 73) hx hb dX7_next_91 (by decide) ?_
                cases hR
                exact ih (x3_17 + 1) (upd gp_18 x3_17.toNatClampNeg (0 : Int32)) o_x3_17 o_gp_18 hQ hk H locs hP hD hS ls (lv_sub hl [1, 0] rfl)
          obtain ⟨⟨u22, u23⟩, hL, hR⟩ := ob hR
          try dsimp only at hR
          refine L73_21 300 (x1_1 + (1 : Int32)) (upd gp_2 x1_1.toNatClampNeg ((gp_2 x1_1.toNatClampNeg) + (1 : Int32))) u22 u23 hL.symm (fun H locs hP hD hS ls hl => ?_) H locs hP hD hS ls (lv_sub hl [1, 0] rfl)
          refine lv_iconst (v := 1) hx hb dX7_next_94 (by decide) ?_
          cases hR
          cases (show some _ = some _ from hQ)
          have hR := her _ rfl
          cases hR
          exact W.zret hx hb hr rfl (fun t ht _ => ⟨rfl, by rw [ht]; exact hP, hS.F ht⟩) hS.2.2 dX7_next_95
  obtain ⟨o27, hL, hR⟩ := ob hR
  refine L7_24 300 (sts - (1 : Int32)) gp o27 hL.symm (fun r e => by subst e; exact (Option.some.inj hR).symm) (fun u25 u26 e H locs hP hD hS ls hl => ?_) H locs hP hD hS ls (lv_sub hl [1, 0] rfl)
  subst e
  try dsimp only at hR
  refine lv_iconst (v := 0) hx hb dX7_next_102 (by decide) ?_
  cases hR
  exact W.zret hx hb hr rfl (fun t ht _ => ⟨rfl, by rw [ht]; exact hP, hS.F ht⟩) hS.2.2 dX7_next_103
abbrev RM_f_M_layGroups : Room := { frames := 5, cells := 0, slots := 0, locals := 113 }
abbrev W_M_layGroups : List Cond := .code yX7_layGroups cX7_layGroups 4 none :: tblG
set_option maxHeartbeats 4000000 in
set_option maxRecDepth 100000 in
theorem c_M_layGroups (l : Launch) (dC : Nat → ClassId) (dI : Nat → Nat → Nat) (ad : Nat → Nat) (tI tL tII tLL : ClassId) (thr : Int32) (sts : Int32) (wgt : Nat → Int32) (rwd : Nat → Int32) (up : Int64) (dn : Int64) (cel : Nat → Int64) (rig : Nat → Int64) (sum : Nat → Int64) (gp : Nat → Int32) (bst : Nat → Int32) (few : Int32)  (R_gp : Nat → Int32) (R_bst : Nat → Int32) (R_few : Int32) (hR : some (R_gp, R_bst, R_few) = f_M_layGroups sts wgt rwd gp bst) : Met l yX7_layGroups W_M_layGroups RM_f_M_layGroups (rwP (dC, dI) vwCl [(tI, .int), (tL, .long), (tII, .array .int), (tLL, .array .long)] (wM ad tI tL tII tLL thr sts wgt rwd up dn cel rig sum gp bst few) ([.ref (ad 0)] : List Value)) (rwQ (dC, dI) vwCl (wM ad tI tL tII tLL thr sts wgt rwd up dn cel rig sum R_gp R_bst R_few) none (rwA (wM ad tI tL tII tLL thr sts wgt rwd up dn cel rig sum gp bst few))) 0 0 (rwA (wM ad tI tL tII tLL thr sts wgt rwd up dn cel rig sum gp bst few)) := by
  refine Met.ofW (cc := cX7_layGroups) (maxL := 4) (ret := none) (by decide) rfl ?_
  intro p e s m args below meth c s₁ B hml hv
  obtain ⟨rfl, hP, hK, hN, hD⟩ := hv
  have hx := B.exec
  have hb := B.bytes
  have hr := B.returns
  have hts := atoms_spec (ws := W_M_layGroups) B.pre
  have ht := fun (w : Cond) (h : w ∈ tblG) => hts w (List.mem_cons_of_mem _ h)
  have hown : s.vm.findClass RX7 = some m.cls := findClass_of_methodNamed B.named
  have hlocks := B.notSynchronized
  have hl := lv_entry ([.ref (ad 0)] : List Value) (n := 4) (Nat.le_of_ble_eq_true rfl)
  rw [lg_entry_eq]
  generalize (lg_sl ([.ref (ad 0)] : List Value) ++ List.replicate (4 - (lg_sl ([.ref (ad 0)] : List Value)).length) Slot.unset).toArray = ls at hl ⊢
  have hl : lv_has ls 4 [(0, .ref (ad 0))] := hl
  have hD := hD.own
  have hS : va_S (rwA (wM ad tI tL tII tLL thr sts wgt rwd up dn cel rig sum gp bst few)) s.heap s.heap [] := va_S.rf
  suffices K : ∀ (H : Heap) (locs : List Loc), va_P (dC, dI) vwCl (wM ad tI tL tII tLL thr sts wgt rwd up dn cel rig sum gp bst few) H → va_D (rwA (wM ad tI tL tII tLL thr sts wgt rwd up dn cel rig sum gp bst few)) (wM ad tI tL tII tLL thr sts wgt rwd up dn cel rig sum gp bst few) → va_S (rwA (wM ad tI tL tII tLL thr sts wgt rwd up dn cel rig sum gp bst few)) s.heap H locs → W p l e (headSpec W_M_layGroups RM_f_M_layGroups).room s m ([.ref (ad 0)] : List Value).toArray below meth c H locs 0 0 (MQ below (rwQ (dC, dI) vwCl (wM ad tI tL tII tLL thr sts wgt rwd up dn cel rig sum R_gp R_bst R_few) none (rwA (wM ad tI tL tII tLL thr sts wgt rwd up dn cel rig sum gp bst few))) ([.ref (ad 0)] : List Value).toArray s 0 0 (rwA (wM ad tI tL tII tLL thr sts wgt rwd up dn cel rig sum gp bst few))) (F0 m 0 ls []) from K s.heap [] hP hD hS
  clear hP hD hS
  intro H locs hP hD hS
  rw [f_M_layGroups] at hR
  refine lv_aload_n hx hb dX7_layGroups_0 rfl (lv_at hl 0 rfl) ?_
  refine lv_aload_n hx hb dX7_layGroups_1 rfl (lv_at hl 0 rfl) ?_
  refine va_get (D := (dC, dI)) (ci := 7) (v := .int sts) (C := RX7) (T := TX7) (N := 12) hx hb ht hinX7 hown hK hP 0 rfl rfl 1 (by decide) (ht _ k_205) (fun _ h9 => h9) rfl dX7_layGroups_2 ?_
  refine lv_iconst (v := 1) hx hb dX7_layGroups_5 (by decide) ?_
  refine lv_iadd hx hb dX7_layGroups_6 ?_
  refine va_put (D := (dC, dI)) (ci := 7) (v := .int (sts + (1 : Int32))) (ty := .int) (C := RX7) (T := TX7) (N := 12) hx hb ht hinX7 tyX7 tyX7_ok nmX7 hown hK hP hD hS 0 rfl rfl 11 (by decide) (ht _ k_297) (fun _ h9 => h9) rfl (by decide +kernel) rfl rfl (Nat.le_of_ble_eq_true rfl) dX7_layGroups_7 (fun H locs hP hD hS => ?_)
  have hP : va_P (dC, dI) vwCl (wM ad tI tL tII tLL thr sts wgt rwd up dn cel rig sum gp bst (sts + (1 : Int32))) H := hP
  have hD : va_D (rwA (wM ad tI tL tII tLL thr sts wgt rwd up dn cel rig sum gp bst few)) (wM ad tI tL tII tLL thr sts wgt rwd up dn cel rig sum gp bst (sts + (1 : Int32))) := hD
  refine lv_iconst (v := 0) hx hb dX7_layGroups_10 (by decide) ?_
  refine lv_istore_n (lv' := [(1, .int (0 : Int32)), (0, .ref (ad 0))]) hx hb dX7_layGroups_11 rfl hl (by decide) rfl (fun ls hl => ?_)
  have L12_6 : ∀ (few_3 : Int32), ∀ (n : Nat) (x1_1 : Int32) (gp_2 : Nat → Int32), ∀ (o_x1_1 : Int32) (o_gp_2 : Nat → Int32), some (o_x1_1, o_gp_2) = f_M_layGroups_L12 n x1_1 gp_2 → (∀ (H : Heap) (locs : List Loc), va_P (dC, dI) vwCl (wM ad tI tL tII tLL thr sts wgt rwd up dn cel rig sum o_gp_2 bst few_3) H → va_D (rwA (wM ad tI tL tII tLL thr sts wgt rwd up dn cel rig sum gp bst few)) (wM ad tI tL tII tLL thr sts wgt rwd up dn cel rig sum o_gp_2 bst few_3) → va_S (rwA (wM ad tI tL tII tLL thr sts wgt rwd up dn cel rig sum gp bst few)) s.heap H locs → ∀ ls : Array Slot, lv_has ls 4 [(0, .ref (ad 0)), (1, .int o_x1_1)] → W p l e (headSpec W_M_layGroups RM_f_M_layGroups).room s m ([.ref (ad 0)] : List Value).toArray below meth c H locs 0 0 (MQ below (rwQ (dC, dI) vwCl (wM ad tI tL tII tLL thr sts wgt rwd up dn cel rig sum R_gp R_bst R_few) none (rwA (wM ad tI tL tII tLL thr sts wgt rwd up dn cel rig sum gp bst few))) ([.ref (ad 0)] : List Value).toArray s 0 0 (rwA (wM ad tI tL tII tLL thr sts wgt rwd up dn cel rig sum gp bst few))) (F0 m 31 ls [])) → ∀ (H : Heap) (locs : List Loc), va_P (dC, dI) vwCl (wM ad tI tL tII tLL thr sts wgt rwd up dn cel rig sum gp_2 bst few_3) H → va_D (rwA (wM ad tI tL tII tLL thr sts wgt rwd up dn cel rig sum gp bst few)) (wM ad tI tL tII tLL thr sts wgt rwd up dn cel rig sum gp_2 bst few_3) → va_S (rwA (wM ad tI tL tII tLL thr sts wgt rwd up dn cel rig sum gp bst few)) s.heap H locs → ∀ ls : Array Slot, lv_has ls 4 [(0, .ref (ad 0)), (1, .int x1_1)] → W p l e (headSpec W_M_layGroups RM_f_M_layGroups).room s m ([.ref (ad 0)] : List Value).toArray below meth c H locs 0 0 (MQ below (rwQ (dC, dI) vwCl (wM ad tI tL tII tLL thr sts wgt rwd up dn cel rig sum R_gp R_bst R_few) none (rwA (wM ad tI tL tII tLL thr sts wgt rwd up dn cel rig sum gp bst few))) ([.ref (ad 0)] : List Value).toArray s 0 0 (rwA (wM ad tI tL tII tLL thr sts wgt rwd up dn cel rig sum gp bst few))) (F0 m 12 ls []) := by
    intro few_3
    intro n
    induction n with
    | zero =>
      intro x1_1 gp_2 o_x1_1 o_gp_2 hR
      cases (show some _ = none from hR)
    | succ n ih =>
      intro x1_1 gp_2 o_x1_1 o_gp_2 hR hk H locs hP hD hS ls hl
      rw [f_M_layGroups_L12_s] at hR
      obtain ⟨y, hR, hQ⟩ := ob hR
      replace hR := hR.symm
      rw [f_M_layGroups_B12] at hR
      refine lv_iload_n hx hb dX7_layGroups_12 rfl (lv_at hl 1 rfl) ?_
      refine lv_bipush (v := 7) hx hb dX7_layGroups_13 (by decide) ?_
      refine lv_icmp_ge (tgt := 31) hx hb dX7_layGroups_15 (by decide) (fun c4 => ?_) (fun c4 => ?_)
      · replace hR := it_p c4 hR
        cases hR
        cases (show some _ = some _ from hQ)
        exact hk H locs hP hD hS ls (lv_sub hl [0, 1] rfl)
      · replace hR := it_n c4 hR
        refine lv_aload_n hx hb dX7_layGroups_18 rfl (lv_at hl 0 rfl) ?_
        refine va_get (D := (dC, dI)) (ci := 7) (v := .ref (ad 6)) (C := RX7) (T := TX7) (N := 12) hx hb ht hinX7 hown hK hP 0 rfl rfl 9 (by decide) (ht _ k_288) (fun _ h9 => h9) rfl dX7_layGroups_19 ?_
        refine lv_iload_n hx hb dX7_layGroups_22 rfl (lv_at hl 1 rfl) ?_
        refine lv_iconst (v := 0) hx hb dX7_layGroups_23 (by decide) ?_
        obtain ⟨z5, hR⟩ := og hR
        refine va_iast hx hb hK hP hD hS 6 0 rfl rfl (ix_in z5) dX7_layGroups_24 (fun H locs hP hD hS => ?_)
        have hP : va_P (dC, dI) vwCl (wM ad tI tL tII tLL thr sts wgt rwd up dn cel rig sum (upd gp_2 x1_1.toNatClampNeg (0 : Int32)) bst few_3) H := hP
        have hD : va_D (rwA (wM ad tI tL tII tLL thr sts wgt rwd up dn cel rig sum gp bst few)) (wM ad tI tL tII tLL thr sts wgt rwd up dn cel rig sum (upd gp_2 x1_1.toNatClampNeg (0 : Int32)) bst few_3) := hD
        refine lv_iinc (v := (x1_1 + 1)) (lv' := [(1, .int (x1_1 + 1)), (0, .ref (ad 0))]) hx hb dX7_layGroups_25 hl (k := 1) rfl rfl (by decide) rfl (fun ls hl => ?_)
        refine lv_goto (tgt := 12) hx hb dX7_layGroups_28 (by decide) ?_
        cases hR
        exact ih (x1_1 + 1) (upd gp_2 x1_1.toNatClampNeg (0 : Int32)) o_x1_1 o_gp_2 hQ hk H locs hP hD hS ls (lv_sub hl [1, 0] rfl)
  obtain ⟨⟨u7, u8⟩, hL, hR⟩ := ob hR
  try dsimp only at hR
  refine L12_6 (sts + (1 : Int32)) 1000 (0 : Int32) gp u7 u8 hL.symm (fun H locs hP hD hS ls hl => ?_) H locs hP hD hS ls (lv_sub hl [1, 0] rfl)
  refine lv_aload_n hx hb dX7_layGroups_31 rfl (lv_at hl 0 rfl) ?_
  refine va_get (D := (dC, dI)) (ci := 7) (v := .int sts) (C := RX7) (T := TX7) (N := 12) hx hb ht hinX7 hown hK hP 0 rfl rfl 1 (by decide) (ht _ k_205) (fun _ h9 => h9) rfl dX7_layGroups_32 ?_
  obtain ⟨j9, hJ, hR⟩ := ob hR
  try dsimp only at hR
  suffices hk10 : ∀ (H : Heap) (locs : List Loc), va_P (dC, dI) vwCl (wM ad tI tL tII tLL thr sts wgt rwd up dn cel rig sum u8 bst (sts + (1 : Int32))) H → va_D (rwA (wM ad tI tL tII tLL thr sts wgt rwd up dn cel rig sum gp bst few)) (wM ad tI tL tII tLL thr sts wgt rwd up dn cel rig sum u8 bst (sts + (1 : Int32))) → va_S (rwA (wM ad tI tL tII tLL thr sts wgt rwd up dn cel rig sum gp bst few)) s.heap H locs → ∀ ls : Array Slot, lv_has ls 4 [(0, .ref (ad 0))] → W p l e (headSpec W_M_layGroups RM_f_M_layGroups).room s m ([.ref (ad 0)] : List Value).toArray below meth c H locs 0 0 (MQ below (rwQ (dC, dI) vwCl (wM ad tI tL tII tLL thr sts wgt rwd up dn cel rig sum R_gp R_bst R_few) none (rwA (wM ad tI tL tII tLL thr sts wgt rwd up dn cel rig sum gp bst few))) ([.ref (ad 0)] : List Value).toArray s 0 0 (rwA (wM ad tI tL tII tLL thr sts wgt rwd up dn cel rig sum gp bst few))) (F0 m 43 ls [.int j9]) by
    have hR := hJ.symm
    refine lv_if_le (tgt := 42) hx hb dX7_layGroups_35 (by decide) (fun c11 => ?_) (fun c11 => ?_)
    · replace hR := it_p c11 hR
      refine lv_iconst (v := 0) hx hb dX7_layGroups_42 (by decide) ?_
      cases hR
      exact hk10 H locs hP hD hS ls (lv_sub hl [0] rfl)
    · replace hR := it_n c11 hR
      refine lv_iconst (v := 1) hx hb dX7_layGroups_38 (by decide) ?_
      refine lv_goto (tgt := 43) hx hb dX7_layGroups_39 (by decide) ?_
      cases hR
      exact hk10 H locs hP hD hS ls (lv_sub hl [0] rfl)
  intro H locs hP hD hS ls hl
  refine lv_istore_n (lv' := [(1, .int j9), (0, .ref (ad 0))]) hx hb dX7_layGroups_43 rfl hl (by decide) rfl (fun ls hl => ?_)
  refine lv_aload_n hx hb dX7_layGroups_44 rfl (lv_at hl 1 rfl) ?_
  refine lv_iload_n hx hb dX7_layGroups_45 rfl (lv_at hl 0 rfl) ?_
  obtain ⟨j12, hJ, hR⟩ := ob hR
  try dsimp only at hR
  suffices hk13 : ∀ (H : Heap) (locs : List Loc), va_P (dC, dI) vwCl (wM ad tI tL tII tLL thr sts wgt rwd up dn cel rig sum u8 bst (sts + (1 : Int32))) H → va_D (rwA (wM ad tI tL tII tLL thr sts wgt rwd up dn cel rig sum gp bst few)) (wM ad tI tL tII tLL thr sts wgt rwd up dn cel rig sum u8 bst (sts + (1 : Int32))) → va_S (rwA (wM ad tI tL tII tLL thr sts wgt rwd up dn cel rig sum gp bst few)) s.heap H locs → ∀ ls : Array Slot, lv_has ls 4 [(1, .int j9), (0, .ref (ad 0))] → W p l e (headSpec W_M_layGroups RM_f_M_layGroups).room s m ([.ref (ad 0)] : List Value).toArray below meth c H locs 0 0 (MQ below (rwQ (dC, dI) vwCl (wM ad tI tL tII tLL thr sts wgt rwd up dn cel rig sum R_gp R_bst R_few) none (rwA (wM ad tI tL tII tLL thr sts wgt rwd up dn cel rig sum gp bst few))) ([.ref (ad 0)] : List Value).toArray s 0 0 (rwA (wM ad tI tL tII tLL thr sts wgt rwd up dn cel rig sum gp bst few))) (F0 m 57 ls [.int j12, .ref (ad 0)]) by
    have hR := hJ.symm
    refine lv_if_eq (tgt := 56) hx hb dX7_layGroups_46 (by decide) (fun c14 => ?_) (fun c14 => ?_)
    · replace hR := it_p c14 hR
      refine lv_iconst (v := 0) hx hb dX7_layGroups_56 (by decide) ?_
      cases hR
      exact hk13 H locs hP hD hS ls (lv_sub hl [0, 1] rfl)
    · replace hR := it_n c14 hR
      refine lv_aload_n hx hb dX7_layGroups_49 rfl (lv_at hl 1 rfl) ?_
      refine va_get (D := (dC, dI)) (ci := 7) (v := .int (sts + (1 : Int32))) (C := RX7) (T := TX7) (N := 12) hx hb ht hinX7 hown hK hP 0 rfl rfl 11 (by decide) (ht _ k_297) (fun _ h9 => h9) rfl dX7_layGroups_50 ?_
      refine lv_goto (tgt := 57) hx hb dX7_layGroups_53 (by decide) ?_
      cases hR
      exact hk13 H locs hP hD hS ls (lv_sub hl [0, 1] rfl)
  intro H locs hP hD hS ls hl
  refine va_put (D := (dC, dI)) (ci := 7) (v := .int j12) (ty := .int) (C := RX7) (T := TX7) (N := 12) hx hb ht hinX7 tyX7 tyX7_ok nmX7 hown hK hP hD hS 0 rfl rfl 11 (by decide) (ht _ k_297) (fun _ h9 => h9) rfl (by decide +kernel) rfl rfl (Nat.le_of_ble_eq_true rfl) dX7_layGroups_57 (fun H locs hP hD hS => ?_)
  have hP : va_P (dC, dI) vwCl (wM ad tI tL tII tLL thr sts wgt rwd up dn cel rig sum u8 bst j12) H := hP
  have hD : va_D (rwA (wM ad tI tL tII tLL thr sts wgt rwd up dn cel rig sum gp bst few)) (wM ad tI tL tII tLL thr sts wgt rwd up dn cel rig sum u8 bst j12) := hD
  have L60_45 : ∀ (n : Nat) (x1_15 : Int32) (gp_16 : Nat → Int32) (bst_17 : Nat → Int32) (few_18 : Int32), ∀ (o_x1_15 : Int32) (o_gp_16 : Nat → Int32) (o_bst_17 : Nat → Int32) (o_few_18 : Int32), some (o_x1_15, o_gp_16, o_bst_17, o_few_18) = f_M_layGroups_L60 sts wgt rwd n x1_15 gp_16 bst_17 few_18 → (∀ (H : Heap) (locs : List Loc), va_P (dC, dI) vwCl (wM ad tI tL tII tLL thr sts wgt rwd up dn cel rig sum o_gp_16 o_bst_17 o_few_18) H → va_D (rwA (wM ad tI tL tII tLL thr sts wgt rwd up dn cel rig sum gp bst few)) (wM ad tI tL tII tLL thr sts wgt rwd up dn cel rig sum o_gp_16 o_bst_17 o_few_18) → va_S (rwA (wM ad tI tL tII tLL thr sts wgt rwd up dn cel rig sum gp bst few)) s.heap H locs → ∀ ls : Array Slot, lv_has ls 4 [(0, .ref (ad 0)), (1, .int o_x1_15)] → W p l e (headSpec W_M_layGroups RM_f_M_layGroups).room s m ([.ref (ad 0)] : List Value).toArray below meth c H locs 0 0 (MQ below (rwQ (dC, dI) vwCl (wM ad tI tL tII tLL thr sts wgt rwd up dn cel rig sum R_gp R_bst R_few) none (rwA (wM ad tI tL tII tLL thr sts wgt rwd up dn cel rig sum gp bst few))) ([.ref (ad 0)] : List Value).toArray s 0 0 (rwA (wM ad tI tL tII tLL thr sts wgt rwd up dn cel rig sum gp bst few))) (F0 m 162 ls [])) → ∀ (H : Heap) (locs : List Loc), va_P (dC, dI) vwCl (wM ad tI tL tII tLL thr sts wgt rwd up dn cel rig sum gp_16 bst_17 few_18) H → va_D (rwA (wM ad tI tL tII tLL thr sts wgt rwd up dn cel rig sum gp bst few)) (wM ad tI tL tII tLL thr sts wgt rwd up dn cel rig sum gp_16 bst_17 few_18) → va_S (rwA (wM ad tI tL tII tLL thr sts wgt rwd up dn cel rig sum gp bst few)) s.heap H locs → ∀ ls : Array Slot, lv_has ls 4 [(0, .ref (ad 0)), (1, .int x1_15)] → W p l e (headSpec W_M_layGroups RM_f_M_layGroups).room s m ([.ref (ad 0)] : List Value).toArray below meth c H locs 0 0 (MQ below (rwQ (dC, dI) vwCl (wM ad tI tL tII tLL thr sts wgt rwd up dn cel rig sum R_gp R_bst R_few) none (rwA (wM ad tI tL tII tLL thr sts wgt rwd up dn cel rig sum gp bst few))) ([.ref (ad 0)] : List Value).toArray s 0 0 (rwA (wM ad tI tL tII tLL thr sts wgt rwd up dn cel rig sum gp bst few))) (F0 m 60 ls []) := by
    intro n
    induction n with
    | zero =>
      intro x1_15 gp_16 bst_17 few_18 o_x1_15 o_gp_16 o_bst_17 o_few_18 hR
      cases (show some _ = none from hR)
    | succ n ih =>
      intro x1_15 gp_16 bst_17 few_18 o_x1_15 o_gp_16 o_bst_17 o_few_18 hR hk H locs hP hD hS ls hl
      rw [f_M_layGroups_L60_s] at hR
      obtain ⟨y, hR, hQ⟩ := ob hR
      replace hR := hR.symm
      rw [f_M_layGroups_B60] at hR
      refine lv_iload_n hx hb dX7_layGroups_60 rfl (lv_at hl 1 rfl) ?_
      refine lv_if_eq (tgt := 162) hx hb dX7_layGroups_61 (by decide) (fun c19 => ?_) (fun c19 => ?_)
      · replace hR := it_p c19 hR
        cases hR
        cases (show some _ = some _ from hQ)
        exact hk H locs hP hD hS ls (lv_sub hl [0, 1] rfl)
      · replace hR := it_n c19 hR
        refine lv_iconst (v := 0) hx hb dX7_layGroups_64 (by decide) ?_
        refine lv_istore_n (lv' := [(2, .int (0 : Int32)), (0, .ref (ad 0)), (1, .int x1_15)]) hx hb dX7_layGroups_65 rfl hl (by decide) rfl (fun ls hl => ?_)
        refine lv_iconst (v := 0) hx hb dX7_layGroups_66 (by decide) ?_
        refine lv_istore_n (lv' := [(3, .int (0 : Int32)), (2, .int (0 : Int32)), (0, .ref (ad 0)), (1, .int x1_15)]) hx hb dX7_layGroups_67 rfl hl (by decide) rfl (fun ls hl => ?_)
        have L68_26 : ∀ (n : Nat) (x2_20 : Int32) (x3_21 : Int32), ∀ (o_x2_20 : Int32) (o_x3_21 : Int32), some (o_x2_20, o_x3_21) = f_M_layGroups_L68 sts gp_16 n x2_20 x3_21 → (∀ (H : Heap) (locs : List Loc), va_P (dC, dI) vwCl (wM ad tI tL tII tLL thr sts wgt rwd up dn cel rig sum gp_16 bst_17 few_18) H → va_D (rwA (wM ad tI tL tII tLL thr sts wgt rwd up dn cel rig sum gp bst few)) (wM ad tI tL tII tLL thr sts wgt rwd up dn cel rig sum gp_16 bst_17 few_18) → va_S (rwA (wM ad tI tL tII tLL thr sts wgt rwd up dn cel rig sum gp bst few)) s.heap H locs → ∀ ls : Array Slot, lv_has ls 4 [(0, .ref (ad 0)), (2, .int o_x2_20), (3, .int o_x3_21)] → W p l e (headSpec W_M_layGroups RM_f_M_layGroups).room s m ([.ref (ad 0)] : List Value).toArray below meth c H locs 0 0 (MQ below (rwQ (dC, dI) vwCl (wM ad tI tL tII tLL thr sts wgt rwd up dn cel rig sum R_gp R_bst R_few) none (rwA (wM ad tI tL tII tLL thr sts wgt rwd up dn cel rig sum gp bst few))) ([.ref (ad 0)] : List Value).toArray s 0 0 (rwA (wM ad tI tL tII tLL thr sts wgt rwd up dn cel rig sum gp bst few))) (F0 m 105 ls [])) → ∀ (H : Heap) (locs : List Loc), va_P (dC, dI) vwCl (wM ad tI tL tII tLL thr sts wgt rwd up dn cel rig sum gp_16 bst_17 few_18) H → va_D (rwA (wM ad tI tL tII tLL thr sts wgt rwd up dn cel rig sum gp bst few)) (wM ad tI tL tII tLL thr sts wgt rwd up dn cel rig sum gp_16 bst_17 few_18) → va_S (rwA (wM ad tI tL tII tLL thr sts wgt rwd up dn cel rig sum gp bst few)) s.heap H locs → ∀ ls : Array Slot, lv_has ls 4 [(0, .ref (ad 0)), (2, .int x2_20), (3, .int x3_21)] → W p l e (headSpec W_M_layGroups RM_f_M_layGroups).room s m ([.ref (ad 0)] : List Value).toArray below meth c H locs 0 0 (MQ below (rwQ (dC, dI) vwCl (wM ad tI tL tII tLL thr sts wgt rwd up dn cel rig sum R_gp R_bst R_few) none (rwA (wM ad tI tL tII tLL thr sts wgt rwd up dn cel rig sum gp bst few))) ([.ref (ad 0)] : List Value).toArray s 0 0 (rwA (wM ad tI tL tII tLL thr sts wgt rwd up dn cel rig sum gp bst few))) (F0 m 68 ls []) := by
          intro n
          induction n with
          | zero =>
            intro x2_20 x3_21 o_x2_20 o_x3_21 hR
            cases (show some _ = none from hR)
          | succ n ih =>
            intro x2_20 x3_21 o_x2_20 o_x3_21 hR hk H locs hP hD hS ls hl
            rw [f_M_layGroups_L68_s] at hR
            obtain ⟨y, hR, hQ⟩ := ob hR
            replace hR := hR.symm
            rw [f_M_layGroups_B68] at hR
            refine lv_iload_n hx hb dX7_layGroups_68 rfl (lv_at hl 2 rfl) ?_
            refine lv_aload_n hx hb dX7_layGroups_69 rfl (lv_at hl 0 rfl) ?_
            refine va_get (D := (dC, dI)) (ci := 7) (v := .int sts) (C := RX7) (T := TX7) (N := 12) hx hb ht hinX7 hown hK hP 0 rfl rfl 1 (by decide) (ht _ k_205) (fun _ h9 => h9) rfl dX7_layGroups_70 ?_
            refine lv_icmp_ge (tgt := 105) hx hb dX7_layGroups_73 (by decide) (fun c22 => ?_) (fun c22 => ?_)
            · replace hR := it_p c22 hR
              cases hR
              cases (show some _ = some _ from hQ)
              exact hk H locs hP hD hS ls (lv_sub hl [0, 1, 2] rfl)
            · replace hR := it_n c22 hR
              refine lv_aload_n hx hb dX7_layGroups_76 rfl (lv_at hl 0 rfl) ?_
              refine va_get (D := (dC, dI)) (ci := 7) (v := .ref (ad 6)) (C := RX7) (T := TX7) (N := 12) hx hb ht hinX7 hown hK hP 0 rfl rfl 9 (by decide) (ht _ k_288) (fun _ h9 => h9) rfl dX7_layGroups_77 ?_
              refine lv_iload_n hx hb dX7_layGroups_80 rfl (lv_at hl 2 rfl) ?_
              obtain ⟨z23, hR⟩ := og hR
              refine va_iald hx hb hK hP 6 0 rfl rfl (ix_in z23) dX7_layGroups_81 ?_
              refine lv_iload_n hx hb dX7_layGroups_82 rfl (lv_at hl 1 rfl) ?_
              refine lv_icmp_lt (tgt := 97) hx hb dX7_layGroups_83 (by decide) (fun c24 => ?_) (fun c24 => ?_)
              · replace hR := it_p c24 hR
                refine lv_iload_n hx hb dX7_layGroups_97 rfl (lv_at hl 1 rfl) ?_
                refine lv_istore_n (lv' := [(2, .int x2_20), (0, .ref (ad 0)), (3, .int x3_21)]) hx hb dX7_layGroups_98 rfl hl (by decide) rfl (fun ls hl => ?_)
                refine lv_iinc (v := (x3_21 + 1)) (lv' := [(3, .int (x3_21 + 1)), (2, .int x2_20), (0, .ref (ad 0))]) hx hb dX7_layGroups_99 hl (k := 2) rfl rfl (by decide) rfl (fun ls hl => ?_)
                refine lv_goto (tgt := 68) hx hb dX7_layGroups_102 (by decide) ?_
                cases hR
                exact ih x2_20 (x3_21 + 1) o_x2_20 o_x3_21 hQ hk H locs hP hD hS ls (lv_sub hl [2, 1, 0] rfl)
              · replace hR := it_n c24 hR
                refine lv_aload_n hx hb dX7_layGroups_86 rfl (lv_at hl 0 rfl) ?_
                refine va_get (D := (dC, dI)) (ci := 7) (v := .ref (ad 6)) (C := RX7) (T := TX7) (N := 12) hx hb ht hinX7 hown hK hP 0 rfl rfl 9 (by decide) (ht _ k_288) (fun _ h9 => h9) rfl dX7_layGroups_87 ?_
                refine lv_iload_n hx hb dX7_layGroups_90 rfl (lv_at hl 2 rfl) ?_
                obtain ⟨z25, hR⟩ := og hR
                refine va_iald hx hb hK hP 6 0 rfl rfl (ix_in z25) dX7_layGroups_91 ?_
                refine lv_iconst (v := 1) hx hb dX7_layGroups_92 (by decide) ?_
                refine lv_iadd hx hb dX7_layGroups_93 ?_
                refine lv_goto (tgt := 98) hx hb dX7_layGroups_94 (by decide) ?_
                refine lv_istore_n (lv' := [(2, .int ((gp_16 x3_21.toNatClampNeg) + (1 : Int32))), (0, .ref (ad 0)), (3, .int x3_21)]) hx hb dX7_layGroups_98 rfl hl (by decide) rfl (fun ls hl => ?_)
                refine lv_iinc (v := (x3_21 + 1)) (lv' := [(3, .int (x3_21 + 1)), (2, .int ((gp_16 x3_21.toNatClampNeg) + (1 : Int32))), (0, .ref (ad 0))]) hx hb dX7_layGroups_99 hl (k := 2) rfl rfl (by decide) rfl (fun ls hl => ?_)
                refine lv_goto (tgt := 68) hx hb dX7_layGroups_102 (by decide) ?_
                cases hR
                exact ih ((gp_16 x3_21.toNatClampNeg) + (1 : Int32)) (x3_21 + 1) o_x2_20 o_x3_21 hQ hk H locs hP hD hS ls (lv_sub hl [2, 1, 0] rfl)
        obtain ⟨⟨u27, u28⟩, hL, hR⟩ := ob hR
        try dsimp only at hR
        refine L68_26 1000 (0 : Int32) (0 : Int32) u27 u28 hL.symm (fun H locs hP hD hS ls hl => ?_) H locs hP hD hS ls (lv_sub hl [2, 1, 0] rfl)
        refine lv_iload_n hx hb dX7_layGroups_105 rfl (lv_at hl 1 rfl) ?_
        refine lv_aload_n hx hb dX7_layGroups_106 rfl (lv_at hl 0 rfl) ?_
        refine va_get (D := (dC, dI)) (ci := 7) (v := .int few_18) (C := RX7) (T := TX7) (N := 12) hx hb ht hinX7 hown hK hP 0 rfl rfl 11 (by decide) (ht _ k_297) (fun _ h9 => h9) rfl dX7_layGroups_107 ?_
        obtain ⟨⟨j29, j30⟩, hJ, hR⟩ := ob hR
        try dsimp only at hR
        suffices hk31 : ∀ (H : Heap) (locs : List Loc), va_P (dC, dI) vwCl (wM ad tI tL tII tLL thr sts wgt rwd up dn cel rig sum gp_16 j29 j30) H → va_D (rwA (wM ad tI tL tII tLL thr sts wgt rwd up dn cel rig sum gp bst few)) (wM ad tI tL tII tLL thr sts wgt rwd up dn cel rig sum gp_16 j29 j30) → va_S (rwA (wM ad tI tL tII tLL thr sts wgt rwd up dn cel rig sum gp bst few)) s.heap H locs → ∀ ls : Array Slot, lv_has ls 4 [(0, .ref (ad 0))] → W p l e (headSpec W_M_layGroups RM_f_M_layGroups).room s m ([.ref (ad 0)] : List Value).toArray below meth c H locs 0 0 (MQ below (rwQ (dC, dI) vwCl (wM ad tI tL tII tLL thr sts wgt rwd up dn cel rig sum R_gp R_bst R_few) none (rwA (wM ad tI tL tII tLL thr sts wgt rwd up dn cel rig sum gp bst few))) ([.ref (ad 0)] : List Value).toArray s 0 0 (rwA (wM ad tI tL tII tLL thr sts wgt rwd up dn cel rig sum gp bst few))) (F0 m 154 ls []) by
          have hR := hJ.symm
          refine lv_icmp_ge (tgt := 154) hx hb dX7_layGroups_110 (by decide) (fun c32 => ?_) (fun c32 => ?_)
          · replace hR := it_p c32 hR
            cases hR
            exact hk31 H locs hP hD hS ls (lv_sub hl [0] rfl)
          · replace hR := it_n c32 hR
            refine lv_aload_n hx hb dX7_layGroups_113 rfl (lv_at hl 0 rfl) ?_
            refine lv_iload_n hx hb dX7_layGroups_114 rfl (lv_at hl 1 rfl) ?_
            obtain ⟨r33, hC, hR⟩ := ob hR
            try dsimp only at hR
            refine ro_calli (va_runV (As := [.int u27]) (rest := []) ⟨hx, hb, hml, hown, ht⟩ (c_M_isParting l dC dI ad tI tL tII tLL thr sts wgt rwd up dn cel rig sum gp_16 bst_17 few_18 u27 r33 hC.symm) ⟨callB_of 1 ht (goodG k_298) rfl rfl rfl (ht _ k_202) (ht _ k_299) (by decide +kernel) ⟨Nat.le_of_ble_eq_true rfl, Nat.le_of_ble_eq_true rfl⟩, (ht _ k_301), (ht _ k_300)⟩ (pre_v hK hN hP (q0 := 0) (ci := 7) rfl rfl) rfl rfl hl.1 rfl (lv_room (Nat.le_of_ble_eq_true rfl)) dX7_layGroups_115 ⟨Nat.zero_le _, Nat.zero_le _⟩) ?_
            refine lv_if_eq (tgt := 154) hx hb dX7_layGroups_118 (by decide) (fun c34 => ?_) (fun c34 => ?_)
            · replace hR := it_p c34 hR
              cases hR
              exact hk31 H locs hP hD hS ls (lv_sub hl [0] rfl)
            · replace hR := it_n c34 hR
              refine lv_aload_n hx hb dX7_layGroups_121 rfl (lv_at hl 0 rfl) ?_
              refine lv_iload_n hx hb dX7_layGroups_122 rfl (lv_at hl 1 rfl) ?_
              refine va_put (D := (dC, dI)) (ci := 7) (v := .int u27) (ty := .int) (C := RX7) (T := TX7) (N := 12) hx hb ht hinX7 tyX7 tyX7_ok nmX7 hown hK hP hD hS 0 rfl rfl 11 (by decide) (ht _ k_297) (fun _ h9 => h9) rfl (by decide +kernel) rfl rfl (Nat.le_of_ble_eq_true rfl) dX7_layGroups_123 (fun H locs hP hD hS => ?_)
              have hP : va_P (dC, dI) vwCl (wM ad tI tL tII tLL thr sts wgt rwd up dn cel rig sum gp_16 bst_17 u27) H := hP
              have hD : va_D (rwA (wM ad tI tL tII tLL thr sts wgt rwd up dn cel rig sum gp bst few)) (wM ad tI tL tII tLL thr sts wgt rwd up dn cel rig sum gp_16 bst_17 u27) := hD
              refine lv_iconst (v := 0) hx hb dX7_layGroups_126 (by decide) ?_
              refine lv_istore_n (lv' := [(3, .int (0 : Int32)), (0, .ref (ad 0)), (2, .int u27)]) hx hb dX7_layGroups_127 rfl hl (by decide) rfl (fun ls hl => ?_)
              have L128_40 : ∀ (n : Nat) (x3_35 : Int32) (bst_36 : Nat → Int32), ∀ (o_x3_35 : Int32) (o_bst_36 : Nat → Int32), some (o_x3_35, o_bst_36) = f_M_layGroups_L128 sts gp_16 n x3_35 bst_36 → (∀ (H : Heap) (locs : List Loc), va_P (dC, dI) vwCl (wM ad tI tL tII tLL thr sts wgt rwd up dn cel rig sum gp_16 o_bst_36 u27) H → va_D (rwA (wM ad tI tL tII tLL thr sts wgt rwd up dn cel rig sum gp bst few)) (wM ad tI tL tII tLL thr sts wgt rwd up dn cel rig sum gp_16 o_bst_36 u27) → va_S (rwA (wM ad tI tL tII tLL thr sts wgt rwd up dn cel rig sum gp bst few)) s.heap H locs → ∀ ls : Array Slot, lv_has ls 4 [(0, .ref (ad 0)), (3, .int o_x3_35)] → W p l e (headSpec W_M_layGroups RM_f_M_layGroups).room s m ([.ref (ad 0)] : List Value).toArray below meth c H locs 0 0 (MQ below (rwQ (dC, dI) vwCl (wM ad tI tL tII tLL thr sts wgt rwd up dn cel rig sum R_gp R_bst R_few) none (rwA (wM ad tI tL tII tLL thr sts wgt rwd up dn cel rig sum gp bst few))) ([.ref (ad 0)] : List Value).toArray s 0 0 (rwA (wM ad tI tL tII tLL thr sts wgt rwd up dn cel rig sum gp bst few))) (F0 m 154 ls [])) → ∀ (H : Heap) (locs : List Loc), va_P (dC, dI) vwCl (wM ad tI tL tII tLL thr sts wgt rwd up dn cel rig sum gp_16 bst_36 u27) H → va_D (rwA (wM ad tI tL tII tLL thr sts wgt rwd up dn cel rig sum gp bst few)) (wM ad tI tL tII tLL thr sts wgt rwd up dn cel rig sum gp_16 bst_36 u27) → va_S (rwA (wM ad tI tL tII tLL thr sts wgt rwd up dn cel rig sum gp bst few)) s.heap H locs → ∀ ls : Array Slot, lv_has ls 4 [(0, .ref (ad 0)), (3, .int x3_35)] → W p l e (headSpec W_M_layGroups RM_f_M_layGroups).room s m ([.ref (ad 0)] : List Value).toArray below meth c H locs 0 0 (MQ below (rwQ (dC, dI) vwCl (wM ad tI tL tII tLL thr sts wgt rwd up dn cel rig sum R_gp R_bst R_few) none (rwA (wM ad tI tL tII tLL thr sts wgt rwd up dn cel rig sum gp bst few))) ([.ref (ad 0)] : List Value).toArray s 0 0 (rwA (wM ad tI tL tII tLL thr sts wgt rwd up dn cel rig sum gp bst few))) (F0 m 128 ls []) := by
                intro n
                induction n with
                | zero =>
                  intro x3_35 bst_36 o_x3_35 o_bst_36 hR
                  cases (show some _ = none from hR)
                | succ n ih =>
                  intro x3_35 bst_36 o_x3_35 o_bst_36 hR hk H locs hP hD hS ls hl
                  rw [f_M_layGroups_L128_s] at hR
                  obtain ⟨y, hR, hQ⟩ := ob hR
                  replace hR := hR.symm
                  rw [f_M_layGroups_B128] at hR
                  refine lv_iload_n hx hb dX7_layGroups_128 rfl (lv_at hl 1 rfl) ?_
                  refine lv_aload_n hx hb dX7_layGroups_129 rfl (lv_at hl 0 rfl) ?_
                  refine va_get (D := (dC, dI)) (ci := 7) (v := .int sts) (C := RX7) (T := TX7) (N := 12) hx hb ht hinX7 hown hK hP 0 rfl rfl 1 (by decide) (ht _ k_205) (fun _ h9 => h9) rfl dX7_layGroups_130 ?_
                  refine lv_icmp_ge (tgt := 154) hx hb dX7_layGroups_133 (by decide) (fun c37 => ?_) (fun c37 => ?_)
                  · replace hR := it_p c37 hR
                    cases hR
                    cases (show some _ = some _ from hQ)
                    exact hk H locs hP hD hS ls (lv_sub hl [0, 1] rfl)
                  · replace hR := it_n c37 hR
                    refine lv_aload_n hx hb dX7_layGroups_136 rfl (lv_at hl 0 rfl) ?_
                    refine va_get (D := (dC, dI)) (ci := 7) (v := .ref (ad 7)) (C := RX7) (T := TX7) (N := 12) hx hb ht hinX7 hown hK hP 0 rfl rfl 10 (by decide) (ht _ k_302) (fun _ h9 => h9) rfl dX7_layGroups_137 ?_
                    refine lv_iload_n hx hb dX7_layGroups_140 rfl (lv_at hl 1 rfl) ?_
                    refine lv_aload_n hx hb dX7_layGroups_141 rfl (lv_at hl 0 rfl) ?_
                    refine va_get (D := (dC, dI)) (ci := 7) (v := .ref (ad 6)) (C := RX7) (T := TX7) (N := 12) hx hb ht hinX7 hown hK hP 0 rfl rfl 9 (by decide) (ht _ k_288) (fun _ h9 => h9) rfl dX7_layGroups_142 ?_
                    refine lv_iload_n hx hb dX7_layGroups_145 rfl (lv_at hl 1 rfl) ?_
                    obtain ⟨z38, hR⟩ := og hR
                    refine va_iald hx hb hK hP 6 0 rfl rfl (ix_in z38) dX7_layGroups_146 ?_
                    obtain ⟨z39, hR⟩ := og hR
                    refine va_iast hx hb hK hP hD hS 7 0 rfl rfl (ix_in z39) dX7_layGroups_147 (fun H locs hP hD hS => ?_)
                    have hP : va_P (dC, dI) vwCl (wM ad tI tL tII tLL thr sts wgt rwd up dn cel rig sum gp_16 (upd bst_36 x3_35.toNatClampNeg (gp_16 x3_35.toNatClampNeg)) u27) H := hP
                    have hD : va_D (rwA (wM ad tI tL tII tLL thr sts wgt rwd up dn cel rig sum gp bst few)) (wM ad tI tL tII tLL thr sts wgt rwd up dn cel rig sum gp_16 (upd bst_36 x3_35.toNatClampNeg (gp_16 x3_35.toNatClampNeg)) u27) := hD
                    refine lv_iinc (v := (x3_35 + 1)) (lv' := [(3, .int (x3_35 + 1)), (0, .ref (ad 0))]) hx hb dX7_layGroups_148 hl (k := 1) rfl rfl (by decide) rfl (fun ls hl => ?_)
                    refine lv_goto (tgt := 128) hx hb dX7_layGroups_151 (by decide) ?_
                    cases hR
                    exact ih (x3_35 + 1) (upd bst_36 x3_35.toNatClampNeg (gp_16 x3_35.toNatClampNeg)) o_x3_35 o_bst_36 hQ hk H locs hP hD hS ls (lv_sub hl [1, 0] rfl)
              obtain ⟨⟨u41, u42⟩, hL, hR⟩ := ob hR
              try dsimp only at hR
              refine L128_40 1000 (0 : Int32) bst_17 u41 u42 hL.symm (fun H locs hP hD hS ls hl => ?_) H locs hP hD hS ls (lv_sub hl [1, 0] rfl)
              cases hR
              exact hk31 H locs hP hD hS ls (lv_sub hl [0] rfl)
        intro H locs hP hD hS ls hl
        refine lv_aload_n hx hb dX7_layGroups_154 rfl (lv_at hl 0 rfl) ?_
        obtain ⟨⟨r43, gp_44⟩, hC, hR⟩ := ob hR
        try dsimp only at hR
        refine rw_calli (va_runV (As := []) (rest := []) ⟨hx, hb, hml, hown, ht⟩ (c_M_next l dC dI ad tI tL tII tLL thr sts wgt rwd up dn cel rig sum gp_16 j29 j30  r43 gp_44 hC.symm) ⟨callB_of 0 ht (goodG k_303) rfl rfl rfl (ht _ k_202) (ht _ k_304) (by decide +kernel) ⟨Nat.le_of_ble_eq_true rfl, Nat.le_of_ble_eq_true rfl⟩, (ht _ k_306), (ht _ k_305)⟩ (pre_vw hK hN hP hD (q0 := 0) (ci := 7) rfl rfl) rfl rfl hl.1 rfl (lv_room (Nat.le_of_ble_eq_true rfl)) dX7_layGroups_155 ⟨Nat.zero_le _, Nat.zero_le _⟩) hD hS rfl (fun H locs hP hD hS => ?_)
        have hP : va_P (dC, dI) vwCl (wM ad tI tL tII tLL thr sts wgt rwd up dn cel rig sum gp_44 j29 j30) H := hP
        have hD : va_D (rwA (wM ad tI tL tII tLL thr sts wgt rwd up dn cel rig sum gp bst few)) (wM ad tI tL tII tLL thr sts wgt rwd up dn cel rig sum gp_44 j29 j30) := hD
        refine lv_istore_n (lv' := [(1, .int r43), (0, .ref (ad 0))]) hx hb dX7_layGroups_158 rfl hl (by decide) rfl (fun ls hl => ?_)
        refine lv_goto (tgt := 60) hx hb dX7_layGroups_159 (by decide) ?_
        cases hR
        exact ih r43 gp_44 j29 j30 o_x1_15 o_gp_16 o_bst_17 o_few_18 hQ hk H locs hP hD hS ls (lv_sub hl [1, 0] rfl)
  obtain ⟨⟨u46, u47, u48, u49⟩, hL, hR⟩ := ob hR
  try dsimp only at hR
  refine L60_45 1000 j9 u8 bst j12 u46 u47 u48 u49 hL.symm (fun H locs hP hD hS ls hl => ?_) H locs hP hD hS ls (lv_sub hl [1, 0] rfl)
  cases hR
  exact W.vret hx hb hr (fun t ht _ => ⟨rfl, by rw [ht]; exact hP, hS.F ht⟩) hS.2.2 dX7_layGroups_162
abbrev RM_f_M_alike : Room := { frames := 6, cells := 0, slots := 0, locals := 136 }
abbrev W_M_alike : List Cond := .code yX7_alike cX7_alike 3 (some .int) :: tblG
set_option maxHeartbeats 4000000 in
set_option maxRecDepth 100000 in
theorem c_M_alike (l : Launch) (dC : Nat → ClassId) (dI : Nat → Nat → Nat) (ad : Nat → Nat) (tI tL tII tLL : ClassId) (thr : Int32) (sts : Int32) (wgt : Nat → Int32) (rwd : Nat → Int32) (up : Int64) (dn : Int64) (cel : Nat → Int64) (rig : Nat → Int64) (sum : Nat → Int64) (gp : Nat → Int32) (bst : Nat → Int32) (few : Int32) (p1 : Int32) (R0 : Int32) (R_thr : Int32) (R_gp : Nat → Int32) (R_bst : Nat → Int32) (R_few : Int32) (hR : some (R0, R_thr, R_gp, R_bst, R_few) = f_M_alike sts wgt rwd gp bst few p1) : Met l yX7_alike W_M_alike RM_f_M_alike (rwP (dC, dI) vwCl [(tI, .int), (tL, .long), (tII, .array .int), (tLL, .array .long)] (wM ad tI tL tII tLL thr sts wgt rwd up dn cel rig sum gp bst few) ([.ref (ad 0), .int p1] : List Value)) (rwQ (dC, dI) vwCl (wM ad tI tL tII tLL R_thr sts wgt rwd up dn cel rig sum R_gp R_bst R_few) (some (.int R0)) (rwA (wM ad tI tL tII tLL thr sts wgt rwd up dn cel rig sum gp bst few))) 0 0 (rwA (wM ad tI tL tII tLL thr sts wgt rwd up dn cel rig sum gp bst few)) := by
  refine Met.ofW (cc := cX7_alike) (maxL := 3) (ret := (some .int)) (by decide) rfl ?_
  intro p e s m args below meth c s₁ B hml hv
  obtain ⟨rfl, hP, hK, hN, hD⟩ := hv
  have hx := B.exec
  have hb := B.bytes
  have hr := B.returns
  have hts := atoms_spec (ws := W_M_alike) B.pre
  have ht := fun (w : Cond) (h : w ∈ tblG) => hts w (List.mem_cons_of_mem _ h)
  have hown : s.vm.findClass RX7 = some m.cls := findClass_of_methodNamed B.named
  have hlocks := B.notSynchronized
  have hl := lv_entry ([.ref (ad 0), .int p1] : List Value) (n := 3) (Nat.le_of_ble_eq_true rfl)
  rw [lg_entry_eq]
  generalize (lg_sl ([.ref (ad 0), .int p1] : List Value) ++ List.replicate (3 - (lg_sl ([.ref (ad 0), .int p1] : List Value)).length) Slot.unset).toArray = ls at hl ⊢
  have hl : lv_has ls 3 [(0, .ref (ad 0)), (1, .int p1)] := hl
  have hD := hD.own
  have hS : va_S (rwA (wM ad tI tL tII tLL thr sts wgt rwd up dn cel rig sum gp bst few)) s.heap s.heap [] := va_S.rf
  suffices K : ∀ (H : Heap) (locs : List Loc), va_P (dC, dI) vwCl (wM ad tI tL tII tLL thr sts wgt rwd up dn cel rig sum gp bst few) H → va_D (rwA (wM ad tI tL tII tLL thr sts wgt rwd up dn cel rig sum gp bst few)) (wM ad tI tL tII tLL thr sts wgt rwd up dn cel rig sum gp bst few) → va_S (rwA (wM ad tI tL tII tLL thr sts wgt rwd up dn cel rig sum gp bst few)) s.heap H locs → W p l e (headSpec W_M_alike RM_f_M_alike).room s m ([.ref (ad 0), .int p1] : List Value).toArray below meth c H locs 0 0 (MQ below (rwQ (dC, dI) vwCl (wM ad tI tL tII tLL R_thr sts wgt rwd up dn cel rig sum R_gp R_bst R_few) (some (.int R0)) (rwA (wM ad tI tL tII tLL thr sts wgt rwd up dn cel rig sum gp bst few))) ([.ref (ad 0), .int p1] : List Value).toArray s 0 0 (rwA (wM ad tI tL tII tLL thr sts wgt rwd up dn cel rig sum gp bst few))) (F0 m 0 ls []) from K s.heap [] hP hD hS
  clear hP hD hS
  intro H locs hP hD hS
  rw [f_M_alike] at hR
  refine lv_aload_n hx hb dX7_alike_0 rfl (lv_at hl 0 rfl) ?_
  refine lv_iconst (v := 0) hx hb dX7_alike_1 (by decide) ?_
  refine va_put (D := (dC, dI)) (ci := 7) (v := .int (0 : Int32)) (ty := .int) (C := RX7) (T := TX7) (N := 12) hx hb ht hinX7 tyX7 tyX7_ok nmX7 hown hK hP hD hS 0 rfl rfl 0 (by decide) (ht _ k_220) (fun _ h9 => h9) rfl (by decide +kernel) rfl rfl (Nat.le_of_ble_eq_true rfl) dX7_alike_2 (fun H locs hP hD hS => ?_)
  have hP : va_P (dC, dI) vwCl (wM ad tI tL tII tLL (0 : Int32) sts wgt rwd up dn cel rig sum gp bst few) H := hP
  have hD : va_D (rwA (wM ad tI tL tII tLL thr sts wgt rwd up dn cel rig sum gp bst few)) (wM ad tI tL tII tLL (0 : Int32) sts wgt rwd up dn cel rig sum gp bst few) := hD
  refine lv_aload_n hx hb dX7_alike_5 rfl (lv_at hl 0 rfl) ?_
  refine lv_iload_n hx hb dX7_alike_6 rfl (lv_at hl 1 rfl) ?_
  obtain ⟨r1, hC, hR⟩ := ob hR
  try dsimp only at hR
  refine ro_calli (va_runV (As := [.int p1]) (rest := []) ⟨hx, hb, hml, hown, ht⟩ (c_M_isState l dC dI ad tI tL tII tLL (0 : Int32) sts wgt rwd up dn cel rig sum gp bst few p1 r1 hC.symm) ⟨callB_of 1 ht (goodG k_222) rfl rfl rfl (ht _ k_202) (ht _ k_223) (by decide +kernel) ⟨Nat.le_of_ble_eq_true rfl, Nat.le_of_ble_eq_true rfl⟩, (ht _ k_225), (ht _ k_224)⟩ (pre_v hK hN hP (q0 := 0) (ci := 7) rfl rfl) rfl rfl hl.1 rfl (lv_room (Nat.le_of_ble_eq_true rfl)) dX7_alike_7 ⟨Nat.zero_le _, Nat.zero_le _⟩) ?_
  refine lv_if_ne (tgt := 15) hx hb dX7_alike_10 (by decide) (fun c2 => ?_) (fun c2 => ?_)
  · replace hR := it_n c2 hR
    refine lv_aload_n hx hb dX7_alike_15 rfl (lv_at hl 0 rfl) ?_
    obtain ⟨⟨gp_3, bst_4, few_5⟩, hC, hR⟩ := ob hR
    try dsimp only at hR
    refine rw_callv (va_runV (As := []) (rest := []) ⟨hx, hb, hml, hown, ht⟩ (c_M_layGroups l dC dI ad tI tL tII tLL (0 : Int32) sts wgt rwd up dn cel rig sum gp bst few  gp_3 bst_4 few_5 hC.symm) ⟨callB_of 0 ht (goodG k_307) rfl rfl rfl (ht _ k_202) (ht _ k_308) (by decide +kernel) ⟨Nat.le_of_ble_eq_true rfl, Nat.le_of_ble_eq_true rfl⟩, (ht _ k_310), (ht _ k_309)⟩ (pre_vw hK hN hP hD (q0 := 0) (ci := 7) rfl rfl) rfl rfl hl.1 rfl (lv_room (Nat.le_of_ble_eq_true rfl)) dX7_alike_16 ⟨Nat.zero_le _, Nat.zero_le _⟩) hD hS rfl (fun H locs hP hD hS => ?_)
    have hP : va_P (dC, dI) vwCl (wM ad tI tL tII tLL (0 : Int32) sts wgt rwd up dn cel rig sum gp_3 bst_4 few_5) H := hP
    have hD : va_D (rwA (wM ad tI tL tII tLL thr sts wgt rwd up dn cel rig sum gp bst few)) (wM ad tI tL tII tLL (0 : Int32) sts wgt rwd up dn cel rig sum gp_3 bst_4 few_5) := hD
    refine lv_iconst (v := 0) hx hb dX7_alike_19 (by decide) ?_
    refine lv_istore_n (lv' := [(2, .int (0 : Int32)), (0, .ref (ad 0)), (1, .int p1)]) hx hb dX7_alike_20 rfl hl (by decide) rfl (fun ls hl => ?_)
    have L21_11 : ∀ (thr_7 : Int32), ∀ (n : Nat) (x2_6 : Int32), ∀ (o_x2_6 : Int32), some o_x2_6 = f_M_alike_L21 bst_4 p1 n x2_6 → (∀ (H : Heap) (locs : List Loc), va_P (dC, dI) vwCl (wM ad tI tL tII tLL thr_7 sts wgt rwd up dn cel rig sum gp_3 bst_4 few_5) H → va_D (rwA (wM ad tI tL tII tLL thr sts wgt rwd up dn cel rig sum gp bst few)) (wM ad tI tL tII tLL thr_7 sts wgt rwd up dn cel rig sum gp_3 bst_4 few_5) → va_S (rwA (wM ad tI tL tII tLL thr sts wgt rwd up dn cel rig sum gp bst few)) s.heap H locs → ∀ ls : Array Slot, lv_has ls 3 [(0, .ref (ad 0)), (1, .int p1), (2, .int o_x2_6)] → W p l e (headSpec W_M_alike RM_f_M_alike).room s m ([.ref (ad 0), .int p1] : List Value).toArray below meth c H locs 0 0 (MQ below (rwQ (dC, dI) vwCl (wM ad tI tL tII tLL R_thr sts wgt rwd up dn cel rig sum R_gp R_bst R_few) (some (.int R0)) (rwA (wM ad tI tL tII tLL thr sts wgt rwd up dn cel rig sum gp bst few))) ([.ref (ad 0), .int p1] : List Value).toArray s 0 0 (rwA (wM ad tI tL tII tLL thr sts wgt rwd up dn cel rig sum gp bst few))) (F0 m 42 ls [])) → ∀ (H : Heap) (locs : List Loc), va_P (dC, dI) vwCl (wM ad tI tL tII tLL thr_7 sts wgt rwd up dn cel rig sum gp_3 bst_4 few_5) H → va_D (rwA (wM ad tI tL tII tLL thr sts wgt rwd up dn cel rig sum gp bst few)) (wM ad tI tL tII tLL thr_7 sts wgt rwd up dn cel rig sum gp_3 bst_4 few_5) → va_S (rwA (wM ad tI tL tII tLL thr sts wgt rwd up dn cel rig sum gp bst few)) s.heap H locs → ∀ ls : Array Slot, lv_has ls 3 [(0, .ref (ad 0)), (1, .int p1), (2, .int x2_6)] → W p l e (headSpec W_M_alike RM_f_M_alike).room s m ([.ref (ad 0), .int p1] : List Value).toArray below meth c H locs 0 0 (MQ below (rwQ (dC, dI) vwCl (wM ad tI tL tII tLL R_thr sts wgt rwd up dn cel rig sum R_gp R_bst R_few) (some (.int R0)) (rwA (wM ad tI tL tII tLL thr sts wgt rwd up dn cel rig sum gp bst few))) ([.ref (ad 0), .int p1] : List Value).toArray s 0 0 (rwA (wM ad tI tL tII tLL thr sts wgt rwd up dn cel rig sum gp bst few))) (F0 m 21 ls []) := by
      intro thr_7
      intro n
      induction n with
      | zero =>
        intro x2_6 o_x2_6 hR
        cases (show some _ = none from hR)
      | succ n ih =>
        intro x2_6 o_x2_6 hR hk H locs hP hD hS ls hl
        rw [f_M_alike_L21_s] at hR
        obtain ⟨y, hR, hQ⟩ := ob hR
        replace hR := hR.symm
        rw [f_M_alike_B21] at hR
        refine lv_aload_n hx hb dX7_alike_21 rfl (lv_at hl 0 rfl) ?_
        refine va_get (D := (dC, dI)) (ci := 7) (v := .ref (ad 7)) (C := RX7) (T := TX7) (N := 12) hx hb ht hinX7 hown hK hP 0 rfl rfl 10 (by decide) (ht _ k_302) (fun _ h9 => h9) rfl dX7_alike_22 ?_
        refine lv_iload_n hx hb dX7_alike_25 rfl (lv_at hl 2 rfl) ?_
        obtain ⟨z8, hR⟩ := og hR
        refine va_iald hx hb hK hP 7 0 rfl rfl (ix_in z8) dX7_alike_26 ?_
        refine lv_aload_n hx hb dX7_alike_27 rfl (lv_at hl 0 rfl) ?_
        refine va_get (D := (dC, dI)) (ci := 7) (v := .ref (ad 7)) (C := RX7) (T := TX7) (N := 12) hx hb ht hinX7 hown hK hP 0 rfl rfl 10 (by decide) (ht _ k_302) (fun _ h9 => h9) rfl dX7_alike_28 ?_
        refine lv_iload_n hx hb dX7_alike_31 rfl (lv_at hl 1 rfl) ?_
        obtain ⟨z9, hR⟩ := og hR
        refine va_iald hx hb hK hP 7 0 rfl rfl (ix_in z9) dX7_alike_32 ?_
        refine lv_icmp_eq (tgt := 42) hx hb dX7_alike_33 (by decide) (fun c10 => ?_) (fun c10 => ?_)
        · replace hR := it_p c10 hR
          cases hR
          cases (show some _ = some _ from hQ)
          exact hk H locs hP hD hS ls (lv_sub hl [0, 1, 2] rfl)
        · replace hR := it_n c10 hR
          refine lv_iinc (v := (x2_6 + 1)) (lv' := [(2, .int (x2_6 + 1)), (0, .ref (ad 0)), (1, .int p1)]) hx hb dX7_alike_36 hl (k := 2) rfl rfl (by decide) rfl (fun ls hl => ?_)
          refine lv_goto (tgt := 21) hx hb dX7_alike_39 (by decide) ?_
          cases hR
          exact ih (x2_6 + 1) o_x2_6 hQ hk H locs hP hD hS ls (lv_sub hl [1, 2, 0] rfl)
    obtain ⟨u12, hL, hR⟩ := ob hR
    try dsimp only at hR
    refine L21_11 (0 : Int32) 300 (0 : Int32) u12 hL.symm (fun H locs hP hD hS ls hl => ?_) H locs hP hD hS ls (lv_sub hl [1, 2, 0] rfl)
    refine lv_iload_n hx hb dX7_alike_42 rfl (lv_at hl 2 rfl) ?_
    cases hR
    exact W.iret hx hb hr (fun t ht _ => ⟨rfl, by rw [ht]; exact hP, hS.F ht⟩) hS.2.2 dX7_alike_43
  · replace hR := it_p c2 hR
    refine lv_iconst (v := (-1)) hx hb dX7_alike_13 (by decide) ?_
    cases hR
    exact W.iret hx hb hr (fun t ht _ => ⟨rfl, by rw [ht]; exact hP, hS.F ht⟩) hS.2.2 dX7_alike_14
abbrev RM_f_M_upper : Room := { frames := 0, cells := 0, slots := 0, locals := 0 }
abbrev W_M_upper : List Cond := .code yX7_upper cX7_upper 1 (some .long) :: tblG
set_option maxHeartbeats 4000000 in
set_option maxRecDepth 100000 in
theorem c_M_upper (l : Launch) (dC : Nat → ClassId) (dI : Nat → Nat → Nat) (ad : Nat → Nat) (tI tL tII tLL : ClassId) (thr : Int32) (sts : Int32) (wgt : Nat → Int32) (rwd : Nat → Int32) (up : Int64) (dn : Int64) (cel : Nat → Int64) (rig : Nat → Int64) (sum : Nat → Int64) (gp : Nat → Int32) (bst : Nat → Int32) (few : Int32)  (R0 : Int64) (R_thr : Int32) (hR : some (R0, R_thr) = f_M_upper up) : Met l yX7_upper W_M_upper RM_f_M_upper (rwP (dC, dI) vwCl [(tI, .int), (tL, .long), (tII, .array .int), (tLL, .array .long)] (wM ad tI tL tII tLL thr sts wgt rwd up dn cel rig sum gp bst few) ([.ref (ad 0)] : List Value)) (rwQ (dC, dI) vwCl (wM ad tI tL tII tLL R_thr sts wgt rwd up dn cel rig sum gp bst few) (some (.long R0)) (rwA (wM ad tI tL tII tLL thr sts wgt rwd up dn cel rig sum gp bst few))) 0 0 (rwA (wM ad tI tL tII tLL thr sts wgt rwd up dn cel rig sum gp bst few)) := by
  refine Met.ofW (cc := cX7_upper) (maxL := 1) (ret := (some .long)) (by decide) rfl ?_
  intro p e s m args below meth c s₁ B hml hv
  obtain ⟨rfl, hP, hK, hN, hD⟩ := hv
  have hx := B.exec
  have hb := B.bytes
  have hr := B.returns
  have hts := atoms_spec (ws := W_M_upper) B.pre
  have ht := fun (w : Cond) (h : w ∈ tblG) => hts w (List.mem_cons_of_mem _ h)
  have hown : s.vm.findClass RX7 = some m.cls := findClass_of_methodNamed B.named
  have hlocks := B.notSynchronized
  have hl := lv_entry ([.ref (ad 0)] : List Value) (n := 1) (Nat.le_of_ble_eq_true rfl)
  rw [lg_entry_eq]
  generalize (lg_sl ([.ref (ad 0)] : List Value) ++ List.replicate (1 - (lg_sl ([.ref (ad 0)] : List Value)).length) Slot.unset).toArray = ls at hl ⊢
  have hl : lv_has ls 1 [(0, .ref (ad 0))] := hl
  have hD := hD.own
  have hS : va_S (rwA (wM ad tI tL tII tLL thr sts wgt rwd up dn cel rig sum gp bst few)) s.heap s.heap [] := va_S.rf
  suffices K : ∀ (H : Heap) (locs : List Loc), va_P (dC, dI) vwCl (wM ad tI tL tII tLL thr sts wgt rwd up dn cel rig sum gp bst few) H → va_D (rwA (wM ad tI tL tII tLL thr sts wgt rwd up dn cel rig sum gp bst few)) (wM ad tI tL tII tLL thr sts wgt rwd up dn cel rig sum gp bst few) → va_S (rwA (wM ad tI tL tII tLL thr sts wgt rwd up dn cel rig sum gp bst few)) s.heap H locs → W p l e (headSpec W_M_upper RM_f_M_upper).room s m ([.ref (ad 0)] : List Value).toArray below meth c H locs 0 0 (MQ below (rwQ (dC, dI) vwCl (wM ad tI tL tII tLL R_thr sts wgt rwd up dn cel rig sum gp bst few) (some (.long R0)) (rwA (wM ad tI tL tII tLL thr sts wgt rwd up dn cel rig sum gp bst few))) ([.ref (ad 0)] : List Value).toArray s 0 0 (rwA (wM ad tI tL tII tLL thr sts wgt rwd up dn cel rig sum gp bst few))) (F0 m 0 ls []) from K s.heap [] hP hD hS
  clear hP hD hS
  intro H locs hP hD hS
  rw [f_M_upper] at hR
  refine lv_aload_n hx hb dX7_upper_0 rfl (lv_at hl 0 rfl) ?_
  refine lv_iconst (v := 0) hx hb dX7_upper_1 (by decide) ?_
  refine va_put (D := (dC, dI)) (ci := 7) (v := .int (0 : Int32)) (ty := .int) (C := RX7) (T := TX7) (N := 12) hx hb ht hinX7 tyX7 tyX7_ok nmX7 hown hK hP hD hS 0 rfl rfl 0 (by decide) (ht _ k_220) (fun _ h9 => h9) rfl (by decide +kernel) rfl rfl (Nat.le_of_ble_eq_true rfl) dX7_upper_2 (fun H locs hP hD hS => ?_)
  have hP : va_P (dC, dI) vwCl (wM ad tI tL tII tLL (0 : Int32) sts wgt rwd up dn cel rig sum gp bst few) H := hP
  have hD : va_D (rwA (wM ad tI tL tII tLL thr sts wgt rwd up dn cel rig sum gp bst few)) (wM ad tI tL tII tLL (0 : Int32) sts wgt rwd up dn cel rig sum gp bst few) := hD
  refine lv_aload_n hx hb dX7_upper_5 rfl (lv_at hl 0 rfl) ?_
  refine va_get (D := (dC, dI)) (ci := 7) (v := .long up) (C := RX7) (T := TX7) (N := 12) hx hb ht hinX7 hown hK hP 0 rfl rfl 4 (by decide) (ht _ k_218) (fun _ h9 => h9) rfl dX7_upper_6 ?_
  cases hR
  exact W.lret hx hb hr (fun t ht _ => ⟨rfl, by rw [ht]; exact hP, hS.F ht⟩) hS.2.2 dX7_upper_9
