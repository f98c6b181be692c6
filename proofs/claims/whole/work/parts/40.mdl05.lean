abbrev RM_f_M_after : Room := { frames := 3, cells := 0, slots := 0, locals := 66 }
abbrev W_M_after : List Cond := .code yX7_after cX7_after 9 (some .int) :: tblG
set_option maxHeartbeats 4000000 in
set_option maxRecDepth 100000 in
theorem c_M_after (l : Launch) (dC : Nat → ClassId) (dI : Nat → Nat → Nat) (ad : Nat → Nat) (tI tL tII tLL : ClassId) (thr : Int32) (sts : Int32) (wgt : Nat → Int32) (rwd : Nat → Int32) (up : Int64) (dn : Int64) (cel : Nat → Int64) (rig : Nat → Int64) (sum : Nat → Int64) (gp : Nat → Int32) (bst : Nat → Int32) (few : Int32) (p1 : Int32) (p2 : Int32) (p3 : Int32) (R0 : Int32) (R_thr : Int32) (R_up : Int64) (R_dn : Int64) (R_cel : Nat → Int64) (R_rig : Nat → Int64) (hR : some (R0, R_thr, R_up, R_dn, R_cel, R_rig) = f_M_after sts wgt up dn cel rig p1 p2 p3) : Met l yX7_after W_M_after RM_f_M_after (rwP (dC, dI) vwCl [(tI, .int), (tL, .long), (tII, .array .int), (tLL, .array .long)] (wM ad tI tL tII tLL thr sts wgt rwd up dn cel rig sum gp bst few) ([.ref (ad 0), .int p1, .int p2, .int p3] : List Value)) (rwQ (dC, dI) vwCl (wM ad tI tL tII tLL R_thr sts wgt rwd R_up R_dn R_cel R_rig sum gp bst few) (some (.int R0)) (rwA (wM ad tI tL tII tLL thr sts wgt rwd up dn cel rig sum gp bst few))) 0 0 (rwA (wM ad tI tL tII tLL thr sts wgt rwd up dn cel rig sum gp bst few)) := by
  refine Met.ofW (cc := cX7_after) (maxL := 9) (ret := (some .int)) (by decide) rfl ?_
  intro p e s m args below meth c s₁ B hml hv
  obtain ⟨rfl, hP, hK, hN, hD⟩ := hv
  have hx := B.exec
  have hb := B.bytes
  have hr := B.returns
  have hts := atoms_spec (ws := W_M_after) B.pre
  have ht := fun (w : Cond) (h : w ∈ tblG) => hts w (List.mem_cons_of_mem _ h)
  have hown : s.vm.findClass RX7 = some m.cls := findClass_of_methodNamed B.named
  have hlocks := B.notSynchronized
  have hl := lv_entry ([.ref (ad 0), .int p1, .int p2, .int p3] : List Value) (n := 9) (Nat.le_of_ble_eq_true rfl)
  rw [lg_entry_eq]
  generalize (lg_sl ([.ref (ad 0), .int p1, .int p2, .int p3] : List Value) ++ List.replicate (9 - (lg_sl ([.ref (ad 0), .int p1, .int p2, .int p3] : List Value)).length) Slot.unset).toArray = ls at hl ⊢
  have hl : lv_has ls 9 [(0, .ref (ad 0)), (1, .int p1), (2, .int p2), (3, .int p3)] := hl
  have hD := hD.own
  have hS : va_S (rwA (wM ad tI tL tII tLL thr sts wgt rwd up dn cel rig sum gp bst few)) s.heap s.heap [] := va_S.rf
  suffices K : ∀ (H : Heap) (locs : List Loc), va_P (dC, dI) vwCl (wM ad tI tL tII tLL thr sts wgt rwd up dn cel rig sum gp bst few) H → va_D (rwA (wM ad tI tL tII tLL thr sts wgt rwd up dn cel rig sum gp bst few)) (wM ad tI tL tII tLL thr sts wgt rwd up dn cel rig sum gp bst few) → va_S (rwA (wM ad tI tL tII tLL thr sts wgt rwd up dn cel rig sum gp bst few)) s.heap H locs → W p l e (headSpec W_M_after RM_f_M_after).room s m ([.ref (ad 0), .int p1, .int p2, .int p3] : List Value).toArray below meth c H locs 0 0 (MQ below (rwQ (dC, dI) vwCl (wM ad tI tL tII tLL R_thr sts wgt rwd R_up R_dn R_cel R_rig sum gp bst few) (some (.int R0)) (rwA (wM ad tI tL tII tLL thr sts wgt rwd up dn cel rig sum gp bst few))) ([.ref (ad 0), .int p1, .int p2, .int p3] : List Value).toArray s 0 0 (rwA (wM ad tI tL tII tLL thr sts wgt rwd up dn cel rig sum gp bst few))) (F0 m 0 ls []) from K s.heap [] hP hD hS
  clear hP hD hS
  intro H locs hP hD hS
  rw [f_M_after] at hR
  refine lv_aload_n hx hb dX7_after_0 rfl (lv_at hl 0 rfl) ?_
  refine lv_iconst (v := 0) hx hb dX7_after_1 (by decide) ?_
  refine va_put (D := (dC, dI)) (ci := 7) (v := .int (0 : Int32)) (ty := .int) (C := RX7) (T := TX7) (N := 12) hx hb ht hinX7 tyX7 tyX7_ok nmX7 hown hK hP hD hS 0 rfl rfl 0 (by decide) (ht _ k_220) (fun _ h9 => h9) rfl (by decide +kernel) rfl rfl (Nat.le_of_ble_eq_true rfl) dX7_after_2 (fun H locs hP hD hS => ?_)
  have hP : va_P (dC, dI) vwCl (wM ad tI tL tII tLL (0 : Int32) sts wgt rwd up dn cel rig sum gp bst few) H := hP
  have hD : va_D (rwA (wM ad tI tL tII tLL thr sts wgt rwd up dn cel rig sum gp bst few)) (wM ad tI tL tII tLL (0 : Int32) sts wgt rwd up dn cel rig sum gp bst few) := hD
  refine lv_aload_n hx hb dX7_after_5 rfl (lv_at hl 0 rfl) ?_
  refine lv_iload_n hx hb dX7_after_6 rfl (lv_at hl 1 rfl) ?_
  obtain ⟨r1, hC, hR⟩ := ob hR
  try dsimp only at hR
  refine ro_calli (va_runV (As := [.int p1]) (rest := []) ⟨hx, hb, hml, hown, ht⟩ (c_M_isState l dC dI ad tI tL tII tLL (0 : Int32) sts wgt rwd up dn cel rig sum gp bst few p1 r1 hC.symm) ⟨callB_of 1 ht (goodG k_222) rfl rfl rfl (ht _ k_202) (ht _ k_223) (by decide +kernel) ⟨Nat.le_of_ble_eq_true rfl, Nat.le_of_ble_eq_true rfl⟩, (ht _ k_225), (ht _ k_224)⟩ (pre_v hK hN hP (q0 := 0) (ci := 7) rfl rfl) rfl rfl hl.1 rfl (lv_room (Nat.le_of_ble_eq_true rfl)) dX7_after_7 ⟨Nat.zero_le _, Nat.zero_le _⟩) ?_
  refine lv_if_eq (tgt := 21) hx hb dX7_after_10 (by decide) (fun c2 => ?_) (fun c2 => ?_)
  · replace hR := it_p c2 hR
    refine lv_iconst (v := (-1)) hx hb dX7_after_21 (by decide) ?_
    cases hR
    exact W.iret hx hb hr (fun t ht _ => ⟨rfl, by rw [ht]; exact hP, hS.F ht⟩) hS.2.2 dX7_after_22
  · replace hR := it_n c2 hR
    refine lv_aload_n hx hb dX7_after_13 rfl (lv_at hl 0 rfl) ?_
    refine lv_iload_n hx hb dX7_after_14 rfl (lv_at hl 2 rfl) ?_
    obtain ⟨r3, hC, hR⟩ := ob hR
    try dsimp only at hR
    refine ro_calli (va_runV (As := [.int p2]) (rest := []) ⟨hx, hb, hml, hown, ht⟩ (c_M_isState l dC dI ad tI tL tII tLL (0 : Int32) sts wgt rwd up dn cel rig sum gp bst few p2 r3 hC.symm) ⟨callB_of 1 ht (goodG k_222) rfl rfl rfl (ht _ k_202) (ht _ k_223) (by decide +kernel) ⟨Nat.le_of_ble_eq_true rfl, Nat.le_of_ble_eq_true rfl⟩, (ht _ k_225), (ht _ k_224)⟩ (pre_v hK hN hP (q0 := 0) (ci := 7) rfl rfl) rfl rfl hl.1 rfl (lv_room (Nat.le_of_ble_eq_true rfl)) dX7_after_15 ⟨Nat.zero_le _, Nat.zero_le _⟩) ?_
    refine lv_if_ne (tgt := 23) hx hb dX7_after_18 (by decide) (fun c4 => ?_) (fun c4 => ?_)
    · replace hR := it_n c4 hR
      refine lv_iload_n hx hb dX7_after_23 rfl (lv_at hl 3 rfl) ?_
      refine lv_iconst (v := 0) hx hb dX7_after_24 (by decide) ?_
      refine lv_iconst (v := 4) hx hb dX7_after_25 (by decide) ?_
      obtain ⟨r5, hC, hR⟩ := ob hR
      try dsimp only at hR
      refine ro_calli (va_runS (As := [.int p3, .int (0 : Int32), .int (4 : Int32)]) (rest := []) ⟨hx, hb, hml, hown, ht⟩ (c_M_within l dC dI ad tI tL tII tLL  p3 (0 : Int32) (4 : Int32) r5 hC.symm) ⟨callB_of 3 ht (goodG k_206) rfl rfl rfl (ht _ k_202) (ht _ k_207) (by decide +kernel) ⟨Nat.le_of_ble_eq_true rfl, Nat.le_of_ble_eq_true rfl⟩, (ht _ k_208)⟩ (pre_s hK hN (hP.sub (ws' := []) [] rfl)) rfl rfl hl.1 rfl (lv_room (Nat.le_of_ble_eq_true rfl)) dX7_after_26 ⟨Nat.zero_le _, Nat.zero_le _⟩) ?_
      refine lv_if_ne (tgt := 35) hx hb dX7_after_29 (by decide) (fun c6 => ?_) (fun c6 => ?_)
      · replace hR := it_n c6 hR
        refine lv_lconst (v := 1) hx hb dX7_after_35 (by decide) ?_
        refine lv_lstore (lv' := [(4, .long (1 : Int64)), (0, .ref (ad 0)), (1, .int p1), (2, .int p2), (3, .int p3)]) hx hb dX7_after_36 hl (by decide) rfl (fun ls hl => ?_)
        refine lv_iconst (v := 0) hx hb dX7_after_38 (by decide) ?_
        refine lv_istore (lv' := [(6, .int (0 : Int32)), (4, .long (1 : Int64)), (0, .ref (ad 0)), (1, .int p1), (2, .int p2), (3, .int p3)]) hx hb dX7_after_39 hl (by decide) rfl (fun ls hl => ?_)
        have L41_15 : ∀ (y4_7 : Int64) (thr_9 : Int32), ∀ (n : Nat) (x6_8 : Int32) (rig_10 : Nat → Int64), ∀ (o_x6_8 : Int32) (o_rig_10 : Nat → Int64), some (o_x6_8, o_rig_10) = f_M_after_L41 sts p1 n x6_8 rig_10 → (∀ (H : Heap) (locs : List Loc), va_P (dC, dI) vwCl (wM ad tI tL tII tLL thr_9 sts wgt rwd up dn cel o_rig_10 sum gp bst few) H → va_D (rwA (wM ad tI tL tII tLL thr sts wgt rwd up dn cel rig sum gp bst few)) (wM ad tI tL tII tLL thr_9 sts wgt rwd up dn cel o_rig_10 sum gp bst few) → va_S (rwA (wM ad tI tL tII tLL thr sts wgt rwd up dn cel rig sum gp bst few)) s.heap H locs → ∀ ls : Array Slot, lv_has ls 9 [(0, .ref (ad 0)), (1, .int p1), (2, .int p2), (3, .int p3), (4, .long y4_7), (6, .int o_x6_8)] → W p l e (headSpec W_M_after RM_f_M_after).room s m ([.ref (ad 0), .int p1, .int p2, .int p3] : List Value).toArray below meth c H locs 0 0 (MQ below (rwQ (dC, dI) vwCl (wM ad tI tL tII tLL R_thr sts wgt rwd R_up R_dn R_cel R_rig sum gp bst few) (some (.int R0)) (rwA (wM ad tI tL tII tLL thr sts wgt rwd up dn cel rig sum gp bst few))) ([.ref (ad 0), .int p1, .int p2, .int p3] : List Value).toArray s 0 0 (rwA (wM ad tI tL tII tLL thr sts wgt rwd up dn cel rig sum gp bst few))) (F0 m 74 ls [])) → ∀ (H : Heap) (locs : List Loc), va_P (dC, dI) vwCl (wM ad tI tL tII tLL thr_9 sts wgt rwd up dn cel rig_10 sum gp bst few) H → va_D (rwA (wM ad tI tL tII tLL thr sts wgt rwd up dn cel rig sum gp bst few)) (wM ad tI tL tII tLL thr_9 sts wgt rwd up dn cel rig_10 sum gp bst few) → va_S (rwA (wM ad tI tL tII tLL thr sts wgt rwd up dn cel rig sum gp bst few)) s.heap H locs → ∀ ls : Array Slot, lv_has ls 9 [(0, .ref (ad 0)), (1, .int p1), (2, .int p2), (3, .int p3), (4, .long y4_7), (6, .int x6_8)] → W p l e (headSpec W_M_after RM_f_M_after).room s m ([.ref (ad 0), .int p1, .int p2, .int p3] : List Value).toArray below meth c H locs 0 0 (MQ below (rwQ (dC, dI) vwCl (wM ad tI tL tII tLL R_thr sts wgt rwd R_up R_dn R_cel R_rig sum gp bst few) (some (.int R0)) (rwA (wM ad tI tL tII tLL thr sts wgt rwd up dn cel rig sum gp bst few))) ([.ref (ad 0), .int p1, .int p2, .int p3] : List Value).toArray s 0 0 (rwA (wM ad tI tL tII tLL thr sts wgt rwd up dn cel rig sum gp bst few))) (F0 m 41 ls []) := by
          intro y4_7 thr_9
          intro n
          induction n with
          | zero =>
            intro x6_8 rig_10 o_x6_8 o_rig_10 hR
            cases (show some _ = none from hR)
          | succ n ih =>
            intro x6_8 rig_10 o_x6_8 o_rig_10 hR hk H locs hP hD hS ls hl
            rw [f_M_after_L41_s] at hR
            obtain ⟨y, hR, hQ⟩ := ob hR
            replace hR := hR.symm
            rw [f_M_after_B41] at hR
            refine lv_iload hx hb dX7_after_41 (lv_at hl 5 rfl) ?_
            refine lv_aload_n hx hb dX7_after_43 rfl (lv_at hl 0 rfl) ?_
            refine va_get (D := (dC, dI)) (ci := 7) (v := .int sts) (C := RX7) (T := TX7) (N := 12) hx hb ht hinX7 hown hK hP 0 rfl rfl 1 (by decide) (ht _ k_205) (fun _ h9 => h9) rfl dX7_after_44 ?_
            refine lv_icmp_ge (tgt := 74) hx hb dX7_after_47 (by decide) (fun c11 => ?_) (fun c11 => ?_)
            · replace hR := it_p c11 hR
              cases hR
              cases (show some _ = some _ from hQ)
              exact hk H locs hP hD hS ls (lv_sub hl [0, 1, 2, 3, 4, 5] rfl)
            · replace hR := it_n c11 hR
              refine lv_aload_n hx hb dX7_after_50 rfl (lv_at hl 0 rfl) ?_
              refine va_get (D := (dC, dI)) (ci := 7) (v := .ref (ad 4)) (C := RX7) (T := TX7) (N := 12) hx hb ht hinX7 hown hK hP 0 rfl rfl 7 (by decide) (ht _ k_250) (fun _ h9 => h9) rfl dX7_after_51 ?_
              refine lv_iload hx hb dX7_after_54 (lv_at hl 5 rfl) ?_
              refine lv_iload hx hb dX7_after_56 (lv_at hl 5 rfl) ?_
              refine lv_iload_n hx hb dX7_after_58 rfl (lv_at hl 1 rfl) ?_
              refine lv_icmp_ne (tgt := 66) hx hb dX7_after_59 (by decide) (fun c12 => ?_) (fun c12 => ?_)
              · replace hR := it_n c12 hR
                refine lv_lconst (v := 0) hx hb dX7_after_66 (by decide) ?_
                obtain ⟨z13, hR⟩ := og hR
                refine va_last hx hb hK hP hD hS 4 1 rfl rfl (ix_in z13) dX7_after_67 (fun H locs hP hD hS => ?_)
                have hP : va_P (dC, dI) vwCl (wM ad tI tL tII tLL thr_9 sts wgt rwd up dn cel (vp_updL rig_10 x6_8.toNatClampNeg (0 : Int64)) sum gp bst few) H := hP
                have hD : va_D (rwA (wM ad tI tL tII tLL thr sts wgt rwd up dn cel rig sum gp bst few)) (wM ad tI tL tII tLL thr_9 sts wgt rwd up dn cel (vp_updL rig_10 x6_8.toNatClampNeg (0 : Int64)) sum gp bst few) := hD
                refine lv_iinc (v := (x6_8 + 1)) (lv' := [(6, .int (x6_8 + 1)), (0, .ref (ad 0)), (1, .int p1), (2, .int p2), (3, .int p3), (4, .long y4_7)]) hx hb dX7_after_68 hl (k := 5) rfl rfl (by decide) rfl (fun ls hl => ?_)
                refine lv_goto (tgt := 41) hx hb dX7_after_71 (by decide) ?_
                cases hR
                exact ih (x6_8 + 1) (vp_updL rig_10 x6_8.toNatClampNeg (0 : Int64)) o_x6_8 o_rig_10 hQ hk H locs hP hD hS ls (lv_sub hl [1, 2, 3, 4, 5, 0] rfl)
              · replace hR := it_p c12 hR
                refine lv_lconst (v := 1) hx hb dX7_after_62 (by decide) ?_
                refine lv_goto (tgt := 67) hx hb dX7_after_63 (by decide) ?_
                obtain ⟨z14, hR⟩ := og hR
                refine va_last hx hb hK hP hD hS 4 1 rfl rfl (ix_in z14) dX7_after_67 (fun H locs hP hD hS => ?_)
                have hP : va_P (dC, dI) vwCl (wM ad tI tL tII tLL thr_9 sts wgt rwd up dn cel (vp_updL rig_10 x6_8.toNatClampNeg (1 : Int64)) sum gp bst few) H := hP
                have hD : va_D (rwA (wM ad tI tL tII tLL thr sts wgt rwd up dn cel rig sum gp bst few)) (wM ad tI tL tII tLL thr_9 sts wgt rwd up dn cel (vp_updL rig_10 x6_8.toNatClampNeg (1 : Int64)) sum gp bst few) := hD
                refine lv_iinc (v := (x6_8 + 1)) (lv' := [(6, .int (x6_8 + 1)), (0, .ref (ad 0)), (1, .int p1), (2, .int p2), (3, .int p3), (4, .long y4_7)]) hx hb dX7_after_68 hl (k := 5) rfl rfl (by decide) rfl (fun ls hl => ?_)
                refine lv_goto (tgt := 41) hx hb dX7_after_71 (by decide) ?_
                cases hR
                exact ih (x6_8 + 1) (vp_updL rig_10 x6_8.toNatClampNeg (1 : Int64)) o_x6_8 o_rig_10 hQ hk H locs hP hD hS ls (lv_sub hl [1, 2, 3, 4, 5, 0] rfl)
        obtain ⟨⟨u16, u17⟩, hL, hR⟩ := ob hR
        try dsimp only at hR
        refine L41_15 (1 : Int64) (0 : Int32) 300 (0 : Int32) rig u16 u17 hL.symm (fun H locs hP hD hS ls hl => ?_) H locs hP hD hS ls (lv_sub hl [2, 3, 4, 5, 1, 0] rfl)
        refine lv_iconst (v := 0) hx hb dX7_after_74 (by decide) ?_
        refine lv_istore (lv' := [(6, .int (0 : Int32)), (0, .ref (ad 0)), (1, .int p1), (2, .int p2), (3, .int p3), (4, .long (1 : Int64))]) hx hb dX7_after_75 hl (by decide) rfl (fun ls hl => ?_)
        have L77_59 : ∀ (thr_20 : Int32), ∀ (n : Nat) (x4_18 : Int64) (x6_19 : Int32) (cel_21 : Nat → Int64) (rig_22 : Nat → Int64), ∀ (o_x4_18 : Int64) (o_x6_19 : Int32) (o_cel_21 : Nat → Int64) (o_rig_22 : Nat → Int64), some (o_x4_18, o_x6_19, o_cel_21, o_rig_22) = f_M_after_L77 sts wgt p3 n x4_18 x6_19 cel_21 rig_22 → (∀ (H : Heap) (locs : List Loc), va_P (dC, dI) vwCl (wM ad tI tL tII tLL thr_20 sts wgt rwd up dn o_cel_21 o_rig_22 sum gp bst few) H → va_D (rwA (wM ad tI tL tII tLL thr sts wgt rwd up dn cel rig sum gp bst few)) (wM ad tI tL tII tLL thr_20 sts wgt rwd up dn o_cel_21 o_rig_22 sum gp bst few) → va_S (rwA (wM ad tI tL tII tLL thr sts wgt rwd up dn cel rig sum gp bst few)) s.heap H locs → ∀ ls : Array Slot, lv_has ls 9 [(0, .ref (ad 0)), (2, .int p2), (3, .int p3), (4, .long o_x4_18), (6, .int o_x6_19)] → W p l e (headSpec W_M_after RM_f_M_after).room s m ([.ref (ad 0), .int p1, .int p2, .int p3] : List Value).toArray below meth c H locs 0 0 (MQ below (rwQ (dC, dI) vwCl (wM ad tI tL tII tLL R_thr sts wgt rwd R_up R_dn R_cel R_rig sum gp bst few) (some (.int R0)) (rwA (wM ad tI tL tII tLL thr sts wgt rwd up dn cel rig sum gp bst few))) ([.ref (ad 0), .int p1, .int p2, .int p3] : List Value).toArray s 0 0 (rwA (wM ad tI tL tII tLL thr sts wgt rwd up dn cel rig sum gp bst few))) (F0 m 248 ls [])) → ∀ (H : Heap) (locs : List Loc), va_P (dC, dI) vwCl (wM ad tI tL tII tLL thr_20 sts wgt rwd up dn cel_21 rig_22 sum gp bst few) H → va_D (rwA (wM ad tI tL tII tLL thr sts wgt rwd up dn cel rig sum gp bst few)) (wM ad tI tL tII tLL thr_20 sts wgt rwd up dn cel_21 rig_22 sum gp bst few) → va_S (rwA (wM ad tI tL tII tLL thr sts wgt rwd up dn cel rig sum gp bst few)) s.heap H locs → ∀ ls : Array Slot, lv_has ls 9 [(0, .ref (ad 0)), (2, .int p2), (3, .int p3), (4, .long x4_18), (6, .int x6_19)] → W p l e (headSpec W_M_after RM_f_M_after).room s m ([.ref (ad 0), .int p1, .int p2, .int p3] : List Value).toArray below meth c H locs 0 0 (MQ below (rwQ (dC, dI) vwCl (wM ad tI tL tII tLL R_thr sts wgt rwd R_up R_dn R_cel R_rig sum gp bst few) (some (.int R0)) (rwA (wM ad tI tL tII tLL thr sts wgt rwd up dn cel rig sum gp bst few))) ([.ref (ad 0), .int p1, .int p2, .int p3] : List Value).toArray s 0 0 (rwA (wM ad tI tL tII tLL thr sts wgt rwd up dn cel rig sum gp bst few))) (F0 m 77 ls []) := by
          intro thr_20
          intro n
          induction n with
          | zero =>
            intro x4_18 x6_19 cel_21 rig_22 o_x4_18 o_x6_19 o_cel_21 o_rig_22 hR
            cases (show some _ = none from hR)
          | succ n ih =>
            intro x4_18 x6_19 cel_21 rig_22 o_x4_18 o_x6_19 o_cel_21 o_rig_22 hR hk H locs hP hD hS ls hl
            rw [f_M_after_L77_s] at hR
            obtain ⟨y, hR, hQ⟩ := ob hR
            replace hR := hR.symm
            rw [f_M_after_B77] at hR
            refine lv_iload hx hb dX7_after_77 (lv_at hl 4 rfl) ?_
            refine lv_iload_n hx hb dX7_after_79 rfl (lv_at hl 2 rfl) ?_
            refine lv_icmp_ge (tgt := 248) hx hb dX7_after_80 (by decide) (fun c23 => ?_) (fun c23 => ?_)
            · replace hR := it_p c23 hR
              cases hR
              cases (show some _ = some _ from hQ)
              exact hk H locs hP hD hS ls (lv_sub hl [0, 1, 2, 3, 4] rfl)
            · replace hR := it_n c23 hR
              refine lv_iconst (v := 0) hx hb dX7_after_83 (by decide) ?_
              refine lv_istore (lv' := [(7, .int (0 : Int32)), (0, .ref (ad 0)), (2, .int p2), (3, .int p3), (4, .long x4_18), (6, .int x6_19)]) hx hb dX7_after_84 hl (by decide) rfl (fun ls hl => ?_)
              have L86_48 : ∀ (n : Nat) (x7_24 : Int32) (cel_25 : Nat → Int64), ∀ (o_x7_24 : Int32) (o_cel_25 : Nat → Int64), some (o_x7_24, o_cel_25) = f_M_after_L86 sts wgt rig_22 n x7_24 cel_25 → (∀ (H : Heap) (locs : List Loc), va_P (dC, dI) vwCl (wM ad tI tL tII tLL thr_20 sts wgt rwd up dn o_cel_25 rig_22 sum gp bst few) H → va_D (rwA (wM ad tI tL tII tLL thr sts wgt rwd up dn cel rig sum gp bst few)) (wM ad tI tL tII tLL thr_20 sts wgt rwd up dn o_cel_25 rig_22 sum gp bst few) → va_S (rwA (wM ad tI tL tII tLL thr sts wgt rwd up dn cel rig sum gp bst few)) s.heap H locs → ∀ ls : Array Slot, lv_has ls 9 [(0, .ref (ad 0)), (2, .int p2), (3, .int p3), (4, .long x4_18), (6, .int x6_19), (7, .int o_x7_24)] → W p l e (headSpec W_M_after RM_f_M_after).room s m ([.ref (ad 0), .int p1, .int p2, .int p3] : List Value).toArray below meth c H locs 0 0 (MQ below (rwQ (dC, dI) vwCl (wM ad tI tL tII tLL R_thr sts wgt rwd R_up R_dn R_cel R_rig sum gp bst few) (some (.int R0)) (rwA (wM ad tI tL tII tLL thr sts wgt rwd up dn cel rig sum gp bst few))) ([.ref (ad 0), .int p1, .int p2, .int p3] : List Value).toArray s 0 0 (rwA (wM ad tI tL tII tLL thr sts wgt rwd up dn cel rig sum gp bst few))) (F0 m 202 ls [])) → ∀ (H : Heap) (locs : List Loc), va_P (dC, dI) vwCl (wM ad tI tL tII tLL thr_20 sts wgt rwd up dn cel_25 rig_22 sum gp bst few) H → va_D (rwA (wM ad tI tL tII tLL thr sts wgt rwd up dn cel rig sum gp bst few)) (wM ad tI tL tII tLL thr_20 sts wgt rwd up dn cel_25 rig_22 sum gp bst few) → va_S (rwA (wM ad tI tL tII tLL thr sts wgt rwd up dn cel rig sum gp bst few)) s.heap H locs → ∀ ls : Array Slot, lv_has ls 9 [(0, .ref (ad 0)), (2, .int p2), (3, .int p3), (4, .long x4_18), (6, .int x6_19), (7, .int x7_24)] → W p l e (headSpec W_M_after RM_f_M_after).room s m ([.ref (ad 0), .int p1, .int p2, .int p3] : List Value).toArray below meth c H locs 0 0 (MQ below (rwQ (dC, dI) vwCl (wM ad tI tL tII tLL R_thr sts wgt rwd R_up R_dn R_cel R_rig sum gp bst few) (some (.int R0)) (rwA (wM ad tI tL tII tLL thr sts wgt rwd up dn cel rig sum gp bst few))) ([.ref (ad 0), .int p1, .int p2, .int p3] : List Value).toArray s 0 0 (rwA (wM ad tI tL tII tLL thr sts wgt rwd up dn cel rig sum gp bst few))) (F0 m 86 ls []) := by
                intro n
                induction n with
                | zero =>
                  intro x7_24 cel_25 o_x7_24 o_cel_25 hR
                  cases (show some _ = none from hR)
                | succ n ih =>
                  intro x7_24 cel_25 o_x7_24 o_cel_25 hR hk H locs hP hD hS ls hl
                  rw [f_M_after_L86_s] at hR
                  obtain ⟨y, hR, hQ⟩ := ob hR
                  replace hR := hR.symm
                  rw [f_M_after_B86] at hR
                  refine lv_iload hx hb dX7_after_86 (lv_at hl 5 rfl) ?_
                  refine lv_aload_n hx hb dX7_after_88 rfl (lv_at hl 0 rfl) ?_
                  refine va_get (D := (dC, dI)) (ci := 7) (v := .int sts) (C := RX7) (T := TX7) (N := 12) hx hb ht hinX7 hown hK hP 0 rfl rfl 1 (by decide) (ht _ k_205) (fun _ h9 => h9) rfl dX7_after_89 ?_
                  refine lv_icmp_ge (tgt := 202) hx hb dX7_after_92 (by decide) (fun c26 => ?_) (fun c26 => ?_)
                  · replace hR := it_p c26 hR
                    cases hR
                    cases (show some _ = some _ from hQ)
                    exact hk H locs hP hD hS ls (lv_sub hl [0, 1, 2, 3, 4, 5] rfl)
                  · replace hR := it_n c26 hR
                    refine lv_aload_n hx hb dX7_after_95 rfl (lv_at hl 0 rfl) ?_
                    refine va_get (D := (dC, dI)) (ci := 7) (v := .ref (ad 3)) (C := RX7) (T := TX7) (N := 12) hx hb ht hinX7 hown hK hP 0 rfl rfl 6 (by decide) (ht _ k_249) (fun _ h9 => h9) rfl dX7_after_96 ?_
                    refine lv_iload hx hb dX7_after_99 (lv_at hl 5 rfl) ?_
                    refine lv_aload_n hx hb dX7_after_101 rfl (lv_at hl 0 rfl) ?_
                    refine lv_iload hx hb dX7_after_102 (lv_at hl 5 rfl) ?_
                    obtain ⟨r27, hC, hR⟩ := ob hR
                    try dsimp only at hR
                    refine ro_calli (va_runV (As := [.int x7_24]) (rest := [.int x7_24, .ref (ad 3)]) ⟨hx, hb, hml, hown, ht⟩ (c_M_isEnd l dC dI ad tI tL tII tLL thr_20 sts wgt rwd up dn cel_25 rig_22 sum gp bst few x7_24 r27 hC.symm) ⟨callB_of 1 ht (goodG k_245) rfl rfl rfl (ht _ k_202) (ht _ k_246) (by decide +kernel) ⟨Nat.le_of_ble_eq_true rfl, Nat.le_of_ble_eq_true rfl⟩, (ht _ k_248), (ht _ k_247)⟩ (pre_v hK hN hP (q0 := 0) (ci := 7) rfl rfl) rfl rfl hl.1 rfl (lv_room (Nat.le_of_ble_eq_true rfl)) dX7_after_104 ⟨Nat.zero_le _, Nat.zero_le _⟩) ?_
                    obtain ⟨j28, hJ, hR⟩ := ob hR
                    try dsimp only at hR
                    suffices hk29 : ∀ (H : Heap) (locs : List Loc), va_P (dC, dI) vwCl (wM ad tI tL tII tLL thr_20 sts wgt rwd up dn cel_25 rig_22 sum gp bst few) H → va_D (rwA (wM ad tI tL tII tLL thr sts wgt rwd up dn cel rig sum gp bst few)) (wM ad tI tL tII tLL thr_20 sts wgt rwd up dn cel_25 rig_22 sum gp bst few) → va_S (rwA (wM ad tI tL tII tLL thr sts wgt rwd up dn cel rig sum gp bst few)) s.heap H locs → ∀ ls : Array Slot, lv_has ls 9 [(0, .ref (ad 0)), (2, .int p2), (3, .int p3), (4, .long x4_18), (6, .int x6_19), (7, .int x7_24)] → W p l e (headSpec W_M_after RM_f_M_after).room s m ([.ref (ad 0), .int p1, .int p2, .int p3] : List Value).toArray below meth c H locs 0 0 (MQ below (rwQ (dC, dI) vwCl (wM ad tI tL tII tLL R_thr sts wgt rwd R_up R_dn R_cel R_rig sum gp bst few) (some (.int R0)) (rwA (wM ad tI tL tII tLL thr sts wgt rwd up dn cel rig sum gp bst few))) ([.ref (ad 0), .int p1, .int p2, .int p3] : List Value).toArray s 0 0 (rwA (wM ad tI tL tII tLL thr sts wgt rwd up dn cel rig sum gp bst few))) (F0 m 125 ls [.long j28, .int x7_24, .ref (ad 3)]) by
                      have hR := hJ.symm
                      refine lv_if_eq (tgt := 124) hx hb dX7_after_107 (by decide) (fun c30 => ?_) (fun c30 => ?_)
                      · replace hR := it_p c30 hR
                        refine lv_lconst (v := 0) hx hb dX7_after_124 (by decide) ?_
                        cases hR
                        exact hk29 H locs hP hD hS ls (lv_sub hl [0, 1, 2, 3, 4, 5] rfl)
                      · replace hR := it_n c30 hR
                        refine lv_aload_n hx hb dX7_after_110 rfl (lv_at hl 0 rfl) ?_
                        refine va_get (D := (dC, dI)) (ci := 7) (v := .ref (ad 4)) (C := RX7) (T := TX7) (N := 12) hx hb ht hinX7 hown hK hP 0 rfl rfl 7 (by decide) (ht _ k_250) (fun _ h9 => h9) rfl dX7_after_111 ?_
                        refine lv_iload hx hb dX7_after_114 (lv_at hl 5 rfl) ?_
                        obtain ⟨z31, hR⟩ := og hR
                        refine va_lald hx hb hK hP 4 1 rfl rfl (ix_in z31) dX7_after_116 ?_
                        refine lv_ldc2 (v := 27720) hx hb hown (ht _ k_283) dX7_after_117 ?_
                        refine lv_lmul hx hb dX7_after_120 ?_
                        refine lv_goto (tgt := 125) hx hb dX7_after_121 (by decide) ?_
                        cases hR
                        exact hk29 H locs hP hD hS ls (lv_sub hl [0, 1, 2, 3, 4, 5] rfl)
                    intro H locs hP hD hS ls hl
                    obtain ⟨z32, hR⟩ := og hR
                    refine va_last hx hb hK hP hD hS 3 1 rfl rfl (ix_in z32) dX7_after_125 (fun H locs hP hD hS => ?_)
                    have hP : va_P (dC, dI) vwCl (wM ad tI tL tII tLL thr_20 sts wgt rwd up dn (vp_updL cel_25 x7_24.toNatClampNeg j28) rig_22 sum gp bst few) H := hP
                    have hD : va_D (rwA (wM ad tI tL tII tLL thr sts wgt rwd up dn cel rig sum gp bst few)) (wM ad tI tL tII tLL thr_20 sts wgt rwd up dn (vp_updL cel_25 x7_24.toNatClampNeg j28) rig_22 sum gp bst few) := hD
                    refine lv_iconst (v := 0) hx hb dX7_after_126 (by decide) ?_
                    refine lv_istore (lv' := [(8, .int (0 : Int32)), (0, .ref (ad 0)), (2, .int p2), (3, .int p3), (4, .long x4_18), (6, .int x6_19), (7, .int x7_24)]) hx hb dX7_after_127 hl (by decide) rfl (fun ls hl => ?_)
                    have L129_45 : ∀ (n : Nat) (x8_33 : Int32) (cel_34 : Nat → Int64), ∀ (o_x8_33 : Int32) (o_cel_34 : Nat → Int64), some (o_x8_33, o_cel_34) = f_M_after_L129 sts wgt rig_22 x7_24 n x8_33 cel_34 → (∀ (H : Heap) (locs : List Loc), va_P (dC, dI) vwCl (wM ad tI tL tII tLL thr_20 sts wgt rwd up dn o_cel_34 rig_22 sum gp bst few) H → va_D (rwA (wM ad tI tL tII tLL thr sts wgt rwd up dn cel rig sum gp bst few)) (wM ad tI tL tII tLL thr_20 sts wgt rwd up dn o_cel_34 rig_22 sum gp bst few) → va_S (rwA (wM ad tI tL tII tLL thr sts wgt rwd up dn cel rig sum gp bst few)) s.heap H locs → ∀ ls : Array Slot, lv_has ls 9 [(0, .ref (ad 0)), (2, .int p2), (3, .int p3), (4, .long x4_18), (6, .int x6_19), (7, .int x7_24), (8, .int o_x8_33)] → W p l e (headSpec W_M_after RM_f_M_after).room s m ([.ref (ad 0), .int p1, .int p2, .int p3] : List Value).toArray below meth c H locs 0 0 (MQ below (rwQ (dC, dI) vwCl (wM ad tI tL tII tLL R_thr sts wgt rwd R_up R_dn R_cel R_rig sum gp bst few) (some (.int R0)) (rwA (wM ad tI tL tII tLL thr sts wgt rwd up dn cel rig sum gp bst few))) ([.ref (ad 0), .int p1, .int p2, .int p3] : List Value).toArray s 0 0 (rwA (wM ad tI tL tII tLL thr sts wgt rwd up dn cel rig sum gp bst few))) (F0 m 196 ls [])) → ∀ (H : Heap) (locs : List Loc), va_P (dC, dI) vwCl (wM ad tI tL tII tLL thr_20 sts wgt rwd up dn cel_34 rig_22 sum gp bst few) H → va_D (rwA (wM ad tI tL tII tLL thr sts wgt rwd up dn cel rig sum gp bst few)) (wM ad tI tL tII tLL thr_20 sts wgt rwd up dn cel_34 rig_22 sum gp bst few) → va_S (rwA (wM ad tI tL tII tLL thr sts wgt rwd up dn cel rig sum gp bst few)) s.heap H locs → ∀ ls : Array Slot, lv_has ls 9 [(0, .ref (ad 0)), (2, .int p2), (3, .int p3), (4, .long x4_18), (6, .int x6_19), (7, .int x7_24), (8, .int x8_33)] → W p l e (headSpec W_M_after RM_f_M_after).room s m ([.ref (ad 0), .int p1, .int p2, .int p3] : List Value).toArray below meth c H locs 0 0 (MQ below (rwQ (dC, dI) vwCl (wM ad tI tL tII tLL R_thr sts wgt rwd R_up R_dn R_cel R_rig sum gp bst few) (some (.int R0)) (rwA (wM ad tI tL tII tLL thr sts wgt rwd up dn cel rig sum gp bst few))) ([.ref (ad 0), .int p1, .int p2, .int p3] : List Value).toArray s 0 0 (rwA (wM ad tI tL tII tLL thr sts wgt rwd up dn cel rig sum gp bst few))) (F0 m 129 ls []) := by
                      intro n
                      induction n with
                      | zero =>
                        intro x8_33 cel_34 o_x8_33 o_cel_34 hR
                        cases (show some _ = none from hR)
                      | succ n ih =>
                        intro x8_33 cel_34 o_x8_33 o_cel_34 hR hk H locs hP hD hS ls hl
                        rw [f_M_after_L129_s] at hR
                        obtain ⟨y, hR, hQ⟩ := ob hR
                        replace hR := hR.symm
                        rw [f_M_after_B129] at hR
                        refine lv_iload hx hb dX7_after_129 (lv_at hl 6 rfl) ?_
                        refine lv_aload_n hx hb dX7_after_131 rfl (lv_at hl 0 rfl) ?_
                        refine va_get (D := (dC, dI)) (ci := 7) (v := .int sts) (C := RX7) (T := TX7) (N := 12) hx hb ht hinX7 hown hK hP 0 rfl rfl 1 (by decide) (ht _ k_205) (fun _ h9 => h9) rfl dX7_after_132 ?_
                        refine lv_icmp_ge (tgt := 196) hx hb dX7_after_135 (by decide) (fun c35 => ?_) (fun c35 => ?_)
                        · replace hR := it_p c35 hR
                          cases hR
                          cases (show some _ = some _ from hQ)
                          exact hk H locs hP hD hS ls (lv_sub hl [0, 1, 2, 3, 4, 5, 6] rfl)
                        · replace hR := it_n c35 hR
                          refine lv_aload_n hx hb dX7_after_138 rfl (lv_at hl 0 rfl) ?_
                          refine va_get (D := (dC, dI)) (ci := 7) (v := .ref (ad 3)) (C := RX7) (T := TX7) (N := 12) hx hb ht hinX7 hown hK hP 0 rfl rfl 6 (by decide) (ht _ k_249) (fun _ h9 => h9) rfl dX7_after_139 ?_
                          refine lv_iload hx hb dX7_after_142 (lv_at hl 5 rfl) ?_
                          refine lv_dup2_11 hx hb dX7_after_144 rfl rfl ?_
                          obtain ⟨z36, hR⟩ := og hR
                          refine va_lald hx hb hK hP 3 1 rfl rfl (ix_in z36) dX7_after_145 ?_
                          refine lv_aload_n hx hb dX7_after_146 rfl (lv_at hl 0 rfl) ?_
                          refine lv_iload hx hb dX7_after_147 (lv_at hl 6 rfl) ?_
                          obtain ⟨r37, hC, hR⟩ := ob hR
                          try dsimp only at hR
                          refine ro_calli (va_runV (As := [.int x8_33]) (rest := [.long (cel_34 x7_24.toNatClampNeg), .int x7_24, .ref (ad 3)]) ⟨hx, hb, hml, hown, ht⟩ (c_M_isEnd l dC dI ad tI tL tII tLL thr_20 sts wgt rwd up dn cel_34 rig_22 sum gp bst few x8_33 r37 hC.symm) ⟨callB_of 1 ht (goodG k_245) rfl rfl rfl (ht _ k_202) (ht _ k_246) (by decide +kernel) ⟨Nat.le_of_ble_eq_true rfl, Nat.le_of_ble_eq_true rfl⟩, (ht _ k_248), (ht _ k_247)⟩ (pre_v hK hN hP (q0 := 0) (ci := 7) rfl rfl) rfl rfl hl.1 rfl (lv_room (Nat.le_of_ble_eq_true rfl)) dX7_after_149 ⟨Nat.zero_le _, Nat.zero_le _⟩) ?_
                          refine lv_if_eq (tgt := 159) hx hb dX7_after_152 (by decide) (fun c38 => ?_) (fun c38 => ?_)
                          · replace hR := it_p c38 hR
                            refine lv_aload_n hx hb dX7_after_159 rfl (lv_at hl 0 rfl) ?_
                            refine va_get (D := (dC, dI)) (ci := 7) (v := .ref (ad 4)) (C := RX7) (T := TX7) (N := 12) hx hb ht hinX7 hown hK hP 0 rfl rfl 7 (by decide) (ht _ k_250) (fun _ h9 => h9) rfl dX7_after_160 ?_
                            refine lv_iload hx hb dX7_after_163 (lv_at hl 6 rfl) ?_
                            obtain ⟨z39, hR⟩ := og hR
                            refine va_lald hx hb hK hP 4 1 rfl rfl (ix_in z39) dX7_after_165 ?_
                            refine lv_aload_n hx hb dX7_after_166 rfl (lv_at hl 0 rfl) ?_
                            refine lv_iload hx hb dX7_after_167 (lv_at hl 6 rfl) ?_
                            refine lv_iload hx hb dX7_after_169 (lv_at hl 5 rfl) ?_
                            obtain ⟨r40, hC, hR⟩ := ob hR
                            try dsimp only at hR
                            refine ro_calli (va_runV (As := [.int x8_33, .int x7_24]) (rest := [.long (rig_22 x8_33.toNatClampNeg), .long (cel_34 x7_24.toNatClampNeg), .int x7_24, .ref (ad 3)]) ⟨hx, hb, hml, hown, ht⟩ (c_M_w l dC dI ad tI tL tII tLL thr_20 sts wgt rwd up dn cel_34 rig_22 sum gp bst few x8_33 x7_24 r40 hC.symm) ⟨callB_of 2 ht (goodG k_210) rfl rfl rfl (ht _ k_202) (ht _ k_211) (by decide +kernel) ⟨Nat.le_of_ble_eq_true rfl, Nat.le_of_ble_eq_true rfl⟩, (ht _ k_213), (ht _ k_212)⟩ (pre_v hK hN hP (q0 := 0) (ci := 7) rfl rfl) rfl rfl hl.1 rfl (lv_room (Nat.le_of_ble_eq_true rfl)) dX7_after_171 ⟨Nat.zero_le _, Nat.zero_le _⟩) ?_
                            refine lv_i2l hx hb dX7_after_174 rfl ?_
                            refine lv_lmul hx hb dX7_after_175 ?_
                            refine lv_ldc2 (v := 27720) hx hb hown (ht _ k_283) dX7_after_176 ?_
                            refine lv_aload_n hx hb dX7_after_179 rfl (lv_at hl 0 rfl) ?_
                            refine lv_iload hx hb dX7_after_180 (lv_at hl 6 rfl) ?_
                            obtain ⟨r41, hC, hR⟩ := ob hR
                            try dsimp only at hR
                            refine ro_calli (va_runV (As := [.int x8_33]) (rest := [.long (27720 : Int64), .long ((rig_22 x8_33.toNatClampNeg) * (r40.toInt64)), .long (cel_34 x7_24.toNatClampNeg), .int x7_24, .ref (ad 3)]) ⟨hx, hb, hml, hown, ht⟩ (c_M_total l dC dI ad tI tL tII tLL thr_20 sts wgt rwd up dn cel_34 rig_22 sum gp bst few x8_33 r41 hC.symm) ⟨callB_of 1 ht (goodG k_214) rfl rfl rfl (ht _ k_202) (ht _ k_215) (by decide +kernel) ⟨Nat.le_of_ble_eq_true rfl, Nat.le_of_ble_eq_true rfl⟩, (ht _ k_217), (ht _ k_216)⟩ (pre_v hK hN hP (q0 := 0) (ci := 7) rfl rfl) rfl rfl hl.1 rfl (lv_room (Nat.le_of_ble_eq_true rfl)) dX7_after_182 ⟨Nat.zero_le _, Nat.zero_le _⟩) ?_
                            refine lv_i2l hx hb dX7_after_185 rfl ?_
                            obtain ⟨z42, hR⟩ := og hR
                            refine lv_ldiv hx hb dX7_after_186 z42 ?_
                            refine lv_lmul hx hb dX7_after_187 ?_
                            refine lv_ladd hx hb dX7_after_188 ?_
                            obtain ⟨z43, hR⟩ := og hR
                            refine va_last hx hb hK hP hD hS 3 1 rfl rfl (ix_in z43) dX7_after_189 (fun H locs hP hD hS => ?_)
                            have hP : va_P (dC, dI) vwCl (wM ad tI tL tII tLL thr_20 sts wgt rwd up dn (vp_updL cel_34 x7_24.toNatClampNeg ((cel_34 x7_24.toNatClampNeg) + (((rig_22 x8_33.toNatClampNeg) * (r40.toInt64)) * ((27720 : Int64) / (r41.toInt64))))) rig_22 sum gp bst few) H := hP
                            have hD : va_D (rwA (wM ad tI tL tII tLL thr sts wgt rwd up dn cel rig sum gp bst few)) (wM ad tI tL tII tLL thr_20 sts wgt rwd up dn (vp_updL cel_34 x7_24.toNatClampNeg ((cel_34 x7_24.toNatClampNeg) + (((rig_22 x8_33.toNatClampNeg) * (r40.toInt64)) * ((27720 : Int64) / (r41.toInt64))))) rig_22 sum gp bst few) := hD
                            refine lv_iinc (v := (x8_33 + 1)) (lv' := [(8, .int (x8_33 + 1)), (0, .ref (ad 0)), (2, .int p2), (3, .int p3), (4, .long x4_18), (6, .int x6_19), (7, .int x7_24)]) hx hb dX7_after_190 hl (k := 6) rfl rfl (by decide) rfl (fun ls hl => ?_)
                            refine lv_goto (tgt := 129) hx hb dX7_after_193 (by decide) ?_
                            cases hR
                            exact ih (x8_33 + 1) (vp_updL cel_34 x7_24.toNatClampNeg ((cel_34 x7_24.toNatClampNeg) + (((rig_22 x8_33.toNatClampNeg) * (r40.toInt64)) * ((27720 : Int64) / (r41.toInt64))))) o_x8_33 o_cel_34 hQ hk H locs hP hD hS ls (lv_sub hl [1, 2, 3, 4, 5, 6, 0] rfl)
                          · replace hR := it_n c38 hR
                            refine lv_lconst (v := 0) hx hb dX7_after_155 (by decide) ?_
                            refine lv_goto (tgt := 188) hx hb dX7_after_156 (by decide) ?_
                            refine lv_ladd hx hb dX7_after_188 ?_
                            obtain ⟨z44, hR⟩ := og hR
                            refine va_last hx hb hK hP hD hS 3 1 rfl rfl (ix_in z44) dX7_after_189 (fun H locs hP hD hS => ?_)
                            have hP : va_P (dC, dI) vwCl (wM ad tI tL tII tLL thr_20 sts wgt rwd up dn (vp_updL cel_34 x7_24.toNatClampNeg ((cel_34 x7_24.toNatClampNeg) + (0 : Int64))) rig_22 sum gp bst few) H := hP
                            have hD : va_D (rwA (wM ad tI tL tII tLL thr sts wgt rwd up dn cel rig sum gp bst few)) (wM ad tI tL tII tLL thr_20 sts wgt rwd up dn (vp_updL cel_34 x7_24.toNatClampNeg ((cel_34 x7_24.toNatClampNeg) + (0 : Int64))) rig_22 sum gp bst few) := hD
                            refine lv_iinc (v := (x8_33 + 1)) (lv' := [(8, .int (x8_33 + 1)), (0, .ref (ad 0)), (2, .int p2), (3, .int p3), (4, .long x4_18), (6, .int x6_19), (7, .int x7_24)]) hx hb dX7_after_190 hl (k := 6) rfl rfl (by decide) rfl (fun ls hl => ?_)
                            refine lv_goto (tgt := 129) hx hb dX7_after_193 (by decide) ?_
                            cases hR
                            exact ih (x8_33 + 1) (vp_updL cel_34 x7_24.toNatClampNeg ((cel_34 x7_24.toNatClampNeg) + (0 : Int64))) o_x8_33 o_cel_34 hQ hk H locs hP hD hS ls (lv_sub hl [1, 2, 3, 4, 5, 6, 0] rfl)
                    obtain ⟨⟨u46, u47⟩, hL, hR⟩ := ob hR
                    try dsimp only at hR
                    refine L129_45 300 (0 : Int32) (vp_updL cel_25 x7_24.toNatClampNeg j28) u46 u47 hL.symm (fun H locs hP hD hS ls hl => ?_) H locs hP hD hS ls (lv_sub hl [1, 2, 3, 4, 5, 6, 0] rfl)
                    refine lv_iinc (v := (x7_24 + 1)) (lv' := [(7, .int (x7_24 + 1)), (0, .ref (ad 0)), (2, .int p2), (3, .int p3), (4, .long x4_18), (6, .int x6_19), (8, .int u46)]) hx hb dX7_after_196 hl (k := 5) rfl rfl (by decide) rfl (fun ls hl => ?_)
                    refine lv_goto (tgt := 86) hx hb dX7_after_199 (by decide) ?_
                    cases hR
                    exact ih (x7_24 + 1) u47 o_x7_24 o_cel_25 hQ hk H locs hP hD hS ls (lv_sub hl [1, 2, 3, 4, 5, 0] rfl)
              obtain ⟨⟨u49, u50⟩, hL, hR⟩ := ob hR
              try dsimp only at hR
              refine L86_48 300 (0 : Int32) cel_21 u49 u50 hL.symm (fun H locs hP hD hS ls hl => ?_) H locs hP hD hS ls (lv_sub hl [1, 2, 3, 4, 5, 0] rfl)
              refine lv_iconst (v := 0) hx hb dX7_after_202 (by decide) ?_
              refine lv_istore (lv' := [(7, .int (0 : Int32)), (0, .ref (ad 0)), (2, .int p2), (3, .int p3), (4, .long x4_18), (6, .int x6_19)]) hx hb dX7_after_203 hl (by decide) rfl (fun ls hl => ?_)
              have L205_56 : ∀ (n : Nat) (x7_51 : Int32) (rig_52 : Nat → Int64), ∀ (o_x7_51 : Int32) (o_rig_52 : Nat → Int64), some (o_x7_51, o_rig_52) = f_M_after_L205 sts u50 n x7_51 rig_52 → (∀ (H : Heap) (locs : List Loc), va_P (dC, dI) vwCl (wM ad tI tL tII tLL thr_20 sts wgt rwd up dn u50 o_rig_52 sum gp bst few) H → va_D (rwA (wM ad tI tL tII tLL thr sts wgt rwd up dn cel rig sum gp bst few)) (wM ad tI tL tII tLL thr_20 sts wgt rwd up dn u50 o_rig_52 sum gp bst few) → va_S (rwA (wM ad tI tL tII tLL thr sts wgt rwd up dn cel rig sum gp bst few)) s.heap H locs → ∀ ls : Array Slot, lv_has ls 9 [(0, .ref (ad 0)), (2, .int p2), (3, .int p3), (4, .long x4_18), (6, .int x6_19), (7, .int o_x7_51)] → W p l e (headSpec W_M_after RM_f_M_after).room s m ([.ref (ad 0), .int p1, .int p2, .int p3] : List Value).toArray below meth c H locs 0 0 (MQ below (rwQ (dC, dI) vwCl (wM ad tI tL tII tLL R_thr sts wgt rwd R_up R_dn R_cel R_rig sum gp bst few) (some (.int R0)) (rwA (wM ad tI tL tII tLL thr sts wgt rwd up dn cel rig sum gp bst few))) ([.ref (ad 0), .int p1, .int p2, .int p3] : List Value).toArray s 0 0 (rwA (wM ad tI tL tII tLL thr sts wgt rwd up dn cel rig sum gp bst few))) (F0 m 234 ls [])) → ∀ (H : Heap) (locs : List Loc), va_P (dC, dI) vwCl (wM ad tI tL tII tLL thr_20 sts wgt rwd up dn u50 rig_52 sum gp bst few) H → va_D (rwA (wM ad tI tL tII tLL thr sts wgt rwd up dn cel rig sum gp bst few)) (wM ad tI tL tII tLL thr_20 sts wgt rwd up dn u50 rig_52 sum gp bst few) → va_S (rwA (wM ad tI tL tII tLL thr sts wgt rwd up dn cel rig sum gp bst few)) s.heap H locs → ∀ ls : Array Slot, lv_has ls 9 [(0, .ref (ad 0)), (2, .int p2), (3, .int p3), (4, .long x4_18), (6, .int x6_19), (7, .int x7_51)] → W p l e (headSpec W_M_after RM_f_M_after).room s m ([.ref (ad 0), .int p1, .int p2, .int p3] : List Value).toArray below meth c H locs 0 0 (MQ below (rwQ (dC, dI) vwCl (wM ad tI tL tII tLL R_thr sts wgt rwd R_up R_dn R_cel R_rig sum gp bst few) (some (.int R0)) (rwA (wM ad tI tL tII tLL thr sts wgt rwd up dn cel rig sum gp bst few))) ([.ref (ad 0), .int p1, .int p2, .int p3] : List Value).toArray s 0 0 (rwA (wM ad tI tL tII tLL thr sts wgt rwd up dn cel rig sum gp bst few))) (F0 m 205 ls []) := by
                intro n
                induction n with
                | zero =>
                  intro x7_51 rig_52 o_x7_51 o_rig_52 hR
                  cases (show some _ = none from hR)
                | succ n ih =>
                  intro x7_51 rig_52 o_x7_51 o_rig_52 hR hk H locs hP hD hS ls hl
                  rw [f_M_after_L205_s] at hR
                  obtain ⟨y, hR, hQ⟩ := ob hR
                  replace hR := hR.symm
                  rw [f_M_after_B205] at hR
                  refine lv_iload hx hb dX7_after_205 (lv_at hl 5 rfl) ?_
                  refine lv_aload_n hx hb dX7_after_207 rfl (lv_at hl 0 rfl) ?_
                  refine va_get (D := (dC, dI)) (ci := 7) (v := .int sts) (C := RX7) (T := TX7) (N := 12) hx hb ht hinX7 hown hK hP 0 rfl rfl 1 (by decide) (ht _ k_205) (fun _ h9 => h9) rfl dX7_after_208 ?_
                  refine lv_icmp_ge (tgt := 234) hx hb dX7_after_211 (by decide) (fun c53 => ?_) (fun c53 => ?_)
                  · replace hR := it_p c53 hR
                    cases hR
                    cases (show some _ = some _ from hQ)
                    exact hk H locs hP hD hS ls (lv_sub hl [0, 1, 2, 3, 4, 5] rfl)
                  · replace hR := it_n c53 hR
                    refine lv_aload_n hx hb dX7_after_214 rfl (lv_at hl 0 rfl) ?_
                    refine va_get (D := (dC, dI)) (ci := 7) (v := .ref (ad 4)) (C := RX7) (T := TX7) (N := 12) hx hb ht hinX7 hown hK hP 0 rfl rfl 7 (by decide) (ht _ k_250) (fun _ h9 => h9) rfl dX7_after_215 ?_
                    refine lv_iload hx hb dX7_after_218 (lv_at hl 5 rfl) ?_
                    refine lv_aload_n hx hb dX7_after_220 rfl (lv_at hl 0 rfl) ?_
                    refine va_get (D := (dC, dI)) (ci := 7) (v := .ref (ad 3)) (C := RX7) (T := TX7) (N := 12) hx hb ht hinX7 hown hK hP 0 rfl rfl 6 (by decide) (ht _ k_249) (fun _ h9 => h9) rfl dX7_after_221 ?_
                    refine lv_iload hx hb dX7_after_224 (lv_at hl 5 rfl) ?_
                    obtain ⟨z54, hR⟩ := og hR
                    refine va_lald hx hb hK hP 3 1 rfl rfl (ix_in z54) dX7_after_226 ?_
                    obtain ⟨z55, hR⟩ := og hR
                    refine va_last hx hb hK hP hD hS 4 1 rfl rfl (ix_in z55) dX7_after_227 (fun H locs hP hD hS => ?_)
                    have hP : va_P (dC, dI) vwCl (wM ad tI tL tII tLL thr_20 sts wgt rwd up dn u50 (vp_updL rig_52 x7_51.toNatClampNeg (u50 x7_51.toNatClampNeg)) sum gp bst few) H := hP
                    have hD : va_D (rwA (wM ad tI tL tII tLL thr sts wgt rwd up dn cel rig sum gp bst few)) (wM ad tI tL tII tLL thr_20 sts wgt rwd up dn u50 (vp_updL rig_52 x7_51.toNatClampNeg (u50 x7_51.toNatClampNeg)) sum gp bst few) := hD
                    refine lv_iinc (v := (x7_51 + 1)) (lv' := [(7, .int (x7_51 + 1)), (0, .ref (ad 0)), (2, .int p2), (3, .int p3), (4, .long x4_18), (6, .int x6_19)]) hx hb dX7_after_228 hl (k := 5) rfl rfl (by decide) rfl (fun ls hl => ?_)
                    refine lv_goto (tgt := 205) hx hb dX7_after_231 (by decide) ?_
                    cases hR
                    exact ih (x7_51 + 1) (vp_updL rig_52 x7_51.toNatClampNeg (u50 x7_51.toNatClampNeg)) o_x7_51 o_rig_52 hQ hk H locs hP hD hS ls (lv_sub hl [1, 2, 3, 4, 5, 0] rfl)
              obtain ⟨⟨u57, u58⟩, hL, hR⟩ := ob hR
              try dsimp only at hR
              refine L205_56 300 (0 : Int32) rig_22 u57 u58 hL.symm (fun H locs hP hD hS ls hl => ?_) H locs hP hD hS ls (lv_sub hl [1, 2, 3, 4, 5, 0] rfl)
              refine lv_lload hx hb dX7_after_234 (lv_at hl 3 rfl) ?_
              refine lv_ldc2 (v := 27720) hx hb hown (ht _ k_283) dX7_after_236 ?_
              refine lv_lmul hx hb dX7_after_239 ?_
              refine lv_lstore (lv' := [(4, .long (x4_18 * (27720 : Int64))), (0, .ref (ad 0)), (2, .int p2), (3, .int p3), (6, .int x6_19), (7, .int u57)]) hx hb dX7_after_240 hl (by decide) rfl (fun ls hl => ?_)
              refine lv_iinc (v := (x6_19 + 1)) (lv' := [(6, .int (x6_19 + 1)), (4, .long (x4_18 * (27720 : Int64))), (0, .ref (ad 0)), (2, .int p2), (3, .int p3), (7, .int u57)]) hx hb dX7_after_242 hl (k := 4) rfl rfl (by decide) rfl (fun ls hl => ?_)
              refine lv_goto (tgt := 77) hx hb dX7_after_245 (by decide) ?_
              cases hR
              exact ih (x4_18 * (27720 : Int64)) (x6_19 + 1) u50 u58 o_x4_18 o_x6_19 o_cel_21 o_rig_22 hQ hk H locs hP hD hS ls (lv_sub hl [2, 3, 4, 1, 0] rfl)
        obtain ⟨⟨u60, u61, u62, u63⟩, hL, hR⟩ := ob hR
        try dsimp only at hR
        refine L77_59 (0 : Int32) 300 (1 : Int64) (0 : Int32) cel u17 u60 u61 u62 u63 hL.symm (fun H locs hP hD hS ls hl => ?_) H locs hP hD hS ls (lv_sub hl [1, 3, 4, 5, 0] rfl)
        refine lv_aload_n hx hb dX7_after_248 rfl (lv_at hl 0 rfl) ?_
        refine lv_aload_n hx hb dX7_after_249 rfl (lv_at hl 0 rfl) ?_
        refine va_get (D := (dC, dI)) (ci := 7) (v := .ref (ad 4)) (C := RX7) (T := TX7) (N := 12) hx hb ht hinX7 hown hK hP 0 rfl rfl 7 (by decide) (ht _ k_250) (fun _ h9 => h9) rfl dX7_after_250 ?_
        refine lv_iload_n hx hb dX7_after_253 rfl (lv_at hl 1 rfl) ?_
        obtain ⟨z64, hR⟩ := og hR
        refine va_lald hx hb hK hP 4 1 rfl rfl (ix_in z64) dX7_after_254 ?_
        refine lv_lload hx hb dX7_after_255 (lv_at hl 3 rfl) ?_
        obtain ⟨⟨r65, up_66, dn_67⟩, hC, hR⟩ := ob hR
        try dsimp only at hR
        refine rw_calli (va_runV (As := [.long (u63 p2.toNatClampNeg), .long u60]) (rest := []) ⟨hx, hb, hml, hown, ht⟩ (c_M_answer l dC dI ad tI tL tII tLL (0 : Int32) sts wgt rwd up dn u62 u63 sum gp bst few (u63 p2.toNatClampNeg) u60 r65 up_66 dn_67 hC.symm) ⟨callB_of 2 ht (goodG k_259) rfl rfl rfl (ht _ k_202) (ht _ k_260) (by decide +kernel) ⟨Nat.le_of_ble_eq_true rfl, Nat.le_of_ble_eq_true rfl⟩, (ht _ k_262), (ht _ k_261)⟩ (pre_vw hK hN hP hD (q0 := 0) (ci := 7) rfl rfl) rfl rfl hl.1 rfl (lv_room (Nat.le_of_ble_eq_true rfl)) dX7_after_257 ⟨Nat.zero_le _, Nat.zero_le _⟩) hD hS rfl (fun H locs hP hD hS => ?_)
        have hP : va_P (dC, dI) vwCl (wM ad tI tL tII tLL (0 : Int32) sts wgt rwd up_66 dn_67 u62 u63 sum gp bst few) H := hP
        have hD : va_D (rwA (wM ad tI tL tII tLL thr sts wgt rwd up dn cel rig sum gp bst few)) (wM ad tI tL tII tLL (0 : Int32) sts wgt rwd up_66 dn_67 u62 u63 sum gp bst few) := hD
        cases hR
        exact W.iret hx hb hr (fun t ht _ => ⟨rfl, by rw [ht]; exact hP, hS.F ht⟩) hS.2.2 dX7_after_260
      · replace hR := it_p c6 hR
        refine lv_bipush (v := (-2)) hx hb dX7_after_32 (by decide) ?_
        cases hR
        exact W.iret hx hb hr (fun t ht _ => ⟨rfl, by rw [ht]; exact hP, hS.F ht⟩) hS.2.2 dX7_after_34
    · replace hR := it_p c4 hR
      refine lv_iconst (v := (-1)) hx hb dX7_after_21 (by decide) ?_
      cases hR
      exact W.iret hx hb hr (fun t ht _ => ⟨rfl, by rw [ht]; exact hP, hS.F ht⟩) hS.2.2 dX7_after_22
abbrev RM_f_M_ends : Room := { frames := 3, cells := 0, slots := 0, locals := 66 }
abbrev W_M_ends : List Cond := .code yX7_ends cX7_ends 3 (some .int) :: tblG
set_option maxHeartbeats 4000000 in
set_option maxRecDepth 100000 in
theorem c_M_ends (l : Launch) (dC : Nat → ClassId) (dI : Nat → Nat → Nat) (ad : Nat → Nat) (tI tL tII tLL : ClassId) (thr : Int32) (sts : Int32) (wgt : Nat → Int32) (rwd : Nat → Int32) (up : Int64) (dn : Int64) (cel : Nat → Int64) (rig : Nat → Int64) (sum : Nat → Int64) (gp : Nat → Int32) (bst : Nat → Int32) (few : Int32)  (R0 : Int32) (hR : some R0 = f_M_ends sts wgt) : Met l yX7_ends W_M_ends RM_f_M_ends (roP (dC, dI) vwCl [(tI, .int), (tL, .long), (tII, .array .int), (tLL, .array .long)] (wM ad tI tL tII tLL thr sts wgt rwd up dn cel rig sum gp bst few) ([.ref (ad 0)] : List Value)) (roQ (some (.int R0))) 0 0 (fun _ => False) := by
  refine Met.ofW (cc := cX7_ends) (maxL := 3) (ret := (some .int)) (by decide) rfl ?_
  intro p e s m args below meth c s₁ B hml hv
  obtain ⟨rfl, hP, hK, hN⟩ := hv
  have hx := B.exec
  have hb := B.bytes
  have hr := B.returns
  have hts := atoms_spec (ws := W_M_ends) B.pre
  have ht := fun (w : Cond) (h : w ∈ tblG) => hts w (List.mem_cons_of_mem _ h)
  have hown : s.vm.findClass RX7 = some m.cls := findClass_of_methodNamed B.named
  have hlocks := B.notSynchronized
  have hl := lv_entry ([.ref (ad 0)] : List Value) (n := 3) (Nat.le_of_ble_eq_true rfl)
  rw [lg_entry_eq]
  generalize (lg_sl ([.ref (ad 0)] : List Value) ++ List.replicate (3 - (lg_sl ([.ref (ad 0)] : List Value)).length) Slot.unset).toArray = ls at hl ⊢
  have hl : lv_has ls 3 [(0, .ref (ad 0))] := hl
  rw [f_M_ends] at hR
  refine lv_iconst (v := 0) hx hb dX7_ends_0 (by decide) ?_
  refine lv_istore_n (lv' := [(1, .int (0 : Int32)), (0, .ref (ad 0))]) hx hb dX7_ends_1 rfl hl (by decide) rfl (fun ls hl => ?_)
  refine lv_iconst (v := 0) hx hb dX7_ends_2 (by decide) ?_
  refine lv_istore_n (lv' := [(2, .int (0 : Int32)), (1, .int (0 : Int32)), (0, .ref (ad 0))]) hx hb dX7_ends_3 rfl hl (by decide) rfl (fun ls hl => ?_)
  have L4_6 : ∀ (n : Nat) (x1_1 : Int32) (x2_2 : Int32), ∀ (o_x1_1 : Int32) (o_x2_2 : Int32), some (o_x1_1, o_x2_2) = f_M_ends_L4 sts wgt n x1_1 x2_2 → (∀ ls : Array Slot, lv_has ls 3 [(0, .ref (ad 0)), (1, .int o_x1_1), (2, .int o_x2_2)] → W p l e (headSpec W_M_ends RM_f_M_ends).room s m ([.ref (ad 0)] : List Value).toArray below meth c s.heap [] 0 0 (MQ below (roQ (some (.int R0))) ([.ref (ad 0)] : List Value).toArray s 0 0 (fun _ => False)) (F0 m 36 ls [])) → ∀ ls : Array Slot, lv_has ls 3 [(0, .ref (ad 0)), (1, .int x1_1), (2, .int x2_2)] → W p l e (headSpec W_M_ends RM_f_M_ends).room s m ([.ref (ad 0)] : List Value).toArray below meth c s.heap [] 0 0 (MQ below (roQ (some (.int R0))) ([.ref (ad 0)] : List Value).toArray s 0 0 (fun _ => False)) (F0 m 4 ls []) := by
    intro n
    induction n with
    | zero =>
      intro x1_1 x2_2 o_x1_1 o_x2_2 hR
      cases (show some _ = none from hR)
    | succ n ih =>
      intro x1_1 x2_2 o_x1_1 o_x2_2 hR hk ls hl
      rw [f_M_ends_L4_s] at hR
      obtain ⟨y, hR, hQ⟩ := ob hR
      replace hR := hR.symm
      rw [f_M_ends_B4] at hR
      refine lv_iload_n hx hb dX7_ends_4 rfl (lv_at hl 2 rfl) ?_
      refine lv_aload_n hx hb dX7_ends_5 rfl (lv_at hl 0 rfl) ?_
      refine va_get (D := (dC, dI)) (ci := 7) (v := .int sts) (C := RX7) (T := TX7) (N := 12) hx hb ht hinX7 hown hK hP 0 rfl rfl 1 (by decide) (ht _ k_205) (fun _ h9 => h9) rfl dX7_ends_6 ?_
      refine lv_icmp_ge (tgt := 36) hx hb dX7_ends_9 (by decide) (fun c3 => ?_) (fun c3 => ?_)
      · replace hR := it_p c3 hR
        cases hR
        cases (show some _ = some _ from hQ)
        exact hk ls (lv_sub hl [0, 1, 2] rfl)
      · replace hR := it_n c3 hR
        refine lv_aload_n hx hb dX7_ends_12 rfl (lv_at hl 0 rfl) ?_
        refine lv_iload_n hx hb dX7_ends_13 rfl (lv_at hl 2 rfl) ?_
        obtain ⟨r4, hC, hR⟩ := ob hR
        try dsimp only at hR
        refine ro_calli (va_runV (As := [.int x2_2]) (rest := []) ⟨hx, hb, hml, hown, ht⟩ (c_M_isEnd l dC dI ad tI tL tII tLL thr sts wgt rwd up dn cel rig sum gp bst few x2_2 r4 hC.symm) ⟨callB_of 1 ht (goodG k_245) rfl rfl rfl (ht _ k_202) (ht _ k_246) (by decide +kernel) ⟨Nat.le_of_ble_eq_true rfl, Nat.le_of_ble_eq_true rfl⟩, (ht _ k_248), (ht _ k_247)⟩ (pre_v hK hN hP (q0 := 0) (ci := 7) rfl rfl) rfl rfl hl.1 rfl (lv_room (Nat.le_of_ble_eq_true rfl)) dX7_ends_14 ⟨Nat.zero_le _, Nat.zero_le _⟩) ?_
        refine lv_if_eq (tgt := 28) hx hb dX7_ends_17 (by decide) (fun c5 => ?_) (fun c5 => ?_)
        · replace hR := it_p c5 hR
          refine lv_iload_n hx hb dX7_ends_28 rfl (lv_at hl 1 rfl) ?_
          refine lv_istore_n (lv' := [(1, .int x1_1), (0, .ref (ad 0)), (2, .int x2_2)]) hx hb dX7_ends_29 rfl hl (by decide) rfl (fun ls hl => ?_)
          refine lv_iinc (v := (x2_2 + 1)) (lv' := [(2, .int (x2_2 + 1)), (1, .int x1_1), (0, .ref (ad 0))]) hx hb dX7_ends_30 hl (k := 2) rfl rfl (by decide) rfl (fun ls hl => ?_)
          refine lv_goto (tgt := 4) hx hb dX7_ends_33 (by decide) ?_
          cases hR
          exact ih x1_1 (x2_2 + 1) o_x1_1 o_x2_2 hQ hk ls (lv_sub hl [2, 1, 0] rfl)
        · replace hR := it_n c5 hR
          refine lv_iload_n hx hb dX7_ends_20 rfl (lv_at hl 1 rfl) ?_
          refine lv_iconst (v := 1) hx hb dX7_ends_21 (by decide) ?_
          refine lv_iload_n hx hb dX7_ends_22 rfl (lv_at hl 2 rfl) ?_
          refine lv_ishl hx hb dX7_ends_23 ?_
          refine lv_ior hx hb dX7_ends_24 ?_
          refine lv_goto (tgt := 29) hx hb dX7_ends_25 (by decide) ?_
          refine lv_istore_n (lv' := [(1, .int (x1_1 ||| ((1 : Int32) <<< (x2_2 &&& 31)))), (0, .ref (ad 0)), (2, .int x2_2)]) hx hb dX7_ends_29 rfl hl (by decide) rfl (fun ls hl => ?_)
          refine lv_iinc (v := (x2_2 + 1)) (lv' := [(2, .int (x2_2 + 1)), (1, .int (x1_1 ||| ((1 : Int32) <<< (x2_2 &&& 31)))), (0, .ref (ad 0))]) hx hb dX7_ends_30 hl (k := 2) rfl rfl (by decide) rfl (fun ls hl => ?_)
          refine lv_goto (tgt := 4) hx hb dX7_ends_33 (by decide) ?_
          cases hR
          exact ih (x1_1 ||| ((1 : Int32) <<< (x2_2 &&& 31))) (x2_2 + 1) o_x1_1 o_x2_2 hQ hk ls (lv_sub hl [2, 1, 0] rfl)
  obtain ⟨⟨u7, u8⟩, hL, hR⟩ := ob hR
  try dsimp only at hR
  refine L4_6 300 (0 : Int32) (0 : Int32) u7 u8 hL.symm (fun ls hl => ?_) ls (lv_sub hl [2, 1, 0] rfl)
  refine lv_iload_n hx hb dX7_ends_36 rfl (lv_at hl 1 rfl) ?_
  cases hR
  exact W.iret hx hb hr (fun t ht _ => ⟨rfl, ht⟩) t_nil dX7_ends_37
abbrev RM_f_M_worth : Room := { frames := 4, cells := 0, slots := 0, locals := 96 }
abbrev W_M_worth : List Cond := .code yX7_worth cX7_worth 4 (some .int) :: tblG
set_option maxHeartbeats 4000000 in
set_option maxRecDepth 100000 in
theorem c_M_worth (l : Launch) (dC : Nat → ClassId) (dI : Nat → Nat → Nat) (ad : Nat → Nat) (tI tL tII tLL : ClassId) (thr : Int32) (sts : Int32) (wgt : Nat → Int32) (rwd : Nat → Int32) (up : Int64) (dn : Int64) (cel : Nat → Int64) (rig : Nat → Int64) (sum : Nat → Int64) (gp : Nat → Int32) (bst : Nat → Int32) (few : Int32) (p1 : Int32) (R0 : Int32) (R_thr : Int32) (R_up : Int64) (R_dn : Int64) (R_cel : Nat → Int64) (R_rig : Nat → Int64) (R_sum : Nat → Int64) (hR : some (R0, R_thr, R_up, R_dn, R_cel, R_rig, R_sum) = f_M_worth sts wgt rwd up dn cel rig sum p1) : Met l yX7_worth W_M_worth RM_f_M_worth (rwP (dC, dI) vwCl [(tI, .int), (tL, .long), (tII, .array .int), (tLL, .array .long)] (wM ad tI tL tII tLL thr sts wgt rwd up dn cel rig sum gp bst few) ([.ref (ad 0), .int p1] : List Value)) (rwQ (dC, dI) vwCl (wM ad tI tL tII tLL R_thr sts wgt rwd R_up R_dn R_cel R_rig R_sum gp bst few) (some (.int R0)) (rwA (wM ad tI tL tII tLL thr sts wgt rwd up dn cel rig sum gp bst few))) 0 0 (rwA (wM ad tI tL tII tLL thr sts wgt rwd up dn cel rig sum gp bst few)) := by
  refine Met.ofW (cc := cX7_worth) (maxL := 4) (ret := (some .int)) (by decide) rfl ?_
  intro p e s m args below meth c s₁ B hml hv
  obtain ⟨rfl, hP, hK, hN, hD⟩ := hv
  have hx := B.exec
  have hb := B.bytes
  have hr := B.returns
  have hts := atoms_spec (ws := W_M_worth) B.pre
  have ht := fun (w : Cond) (h : w ∈ tblG) => hts w (List.mem_cons_of_mem _ h)
  have hown : s.vm.findClass RX7 = some m.cls := findClass_of_methodNamed B.named
  have hlocks := B.notSynchronized
  have hl := lv_entry ([.ref (ad 0), .int p1] : List Value) (n := 4) (Nat.le_of_ble_eq_true rfl)
  rw [lg_entry_eq]
  generalize (lg_sl ([.ref (ad 0), .int p1] : List Value) ++ List.replicate (4 - (lg_sl ([.ref (ad 0), .int p1] : List Value)).length) Slot.unset).toArray = ls at hl ⊢
  have hl : lv_has ls 4 [(0, .ref (ad 0)), (1, .int p1)] := hl
  have hD := hD.own
  have hS : va_S (rwA (wM ad tI tL tII tLL thr sts wgt rwd up dn cel rig sum gp bst few)) s.heap s.heap [] := va_S.rf
  suffices K : ∀ (H : Heap) (locs : List Loc), va_P (dC, dI) vwCl (wM ad tI tL tII tLL thr sts wgt rwd up dn cel rig sum gp bst few) H → va_D (rwA (wM ad tI tL tII tLL thr sts wgt rwd up dn cel rig sum gp bst few)) (wM ad tI tL tII tLL thr sts wgt rwd up dn cel rig sum gp bst few) → va_S (rwA (wM ad tI tL tII tLL thr sts wgt rwd up dn cel rig sum gp bst few)) s.heap H locs → W p l e (headSpec W_M_worth RM_f_M_worth).room s m ([.ref (ad 0), .int p1] : List Value).toArray below meth c H locs 0 0 (MQ below (rwQ (dC, dI) vwCl (wM ad tI tL tII tLL R_thr sts wgt rwd R_up R_dn R_cel R_rig R_sum gp bst few) (some (.int R0)) (rwA (wM ad tI tL tII tLL thr sts wgt rwd up dn cel rig sum gp bst few))) ([.ref (ad 0), .int p1] : List Value).toArray s 0 0 (rwA (wM ad tI tL tII tLL thr sts wgt rwd up dn cel rig sum gp bst few))) (F0 m 0 ls []) from K s.heap [] hP hD hS
  clear hP hD hS
  intro H locs hP hD hS
  rw [f_M_worth] at hR
  refine lv_aload_n hx hb dX7_worth_0 rfl (lv_at hl 0 rfl) ?_
  refine lv_iconst (v := 0) hx hb dX7_worth_1 (by decide) ?_
  refine va_put (D := (dC, dI)) (ci := 7) (v := .int (0 : Int32)) (ty := .int) (C := RX7) (T := TX7) (N := 12) hx hb ht hinX7 tyX7 tyX7_ok nmX7 hown hK hP hD hS 0 rfl rfl 0 (by decide) (ht _ k_220) (fun _ h9 => h9) rfl (by decide +kernel) rfl rfl (Nat.le_of_ble_eq_true rfl) dX7_worth_2 (fun H locs hP hD hS => ?_)
  have hP : va_P (dC, dI) vwCl (wM ad tI tL tII tLL (0 : Int32) sts wgt rwd up dn cel rig sum gp bst few) H := hP
  have hD : va_D (rwA (wM ad tI tL tII tLL thr sts wgt rwd up dn cel rig sum gp bst few)) (wM ad tI tL tII tLL (0 : Int32) sts wgt rwd up dn cel rig sum gp bst few) := hD
  refine lv_aload_n hx hb dX7_worth_5 rfl (lv_at hl 0 rfl) ?_
  refine lv_iload_n hx hb dX7_worth_6 rfl (lv_at hl 1 rfl) ?_
  obtain ⟨r1, hC, hR⟩ := ob hR
  try dsimp only at hR
  refine ro_calli (va_runV (As := [.int p1]) (rest := []) ⟨hx, hb, hml, hown, ht⟩ (c_M_isState l dC dI ad tI tL tII tLL (0 : Int32) sts wgt rwd up dn cel rig sum gp bst few p1 r1 hC.symm) ⟨callB_of 1 ht (goodG k_222) rfl rfl rfl (ht _ k_202) (ht _ k_223) (by decide +kernel) ⟨Nat.le_of_ble_eq_true rfl, Nat.le_of_ble_eq_true rfl⟩, (ht _ k_225), (ht _ k_224)⟩ (pre_v hK hN hP (q0 := 0) (ci := 7) rfl rfl) rfl rfl hl.1 rfl (lv_room (Nat.le_of_ble_eq_true rfl)) dX7_worth_7 ⟨Nat.zero_le _, Nat.zero_le _⟩) ?_
  refine lv_if_ne (tgt := 15) hx hb dX7_worth_10 (by decide) (fun c2 => ?_) (fun c2 => ?_)
  · replace hR := it_n c2 hR
    refine lv_aload_n hx hb dX7_worth_15 rfl (lv_at hl 0 rfl) ?_
    refine lv_iload_n hx hb dX7_worth_16 rfl (lv_at hl 1 rfl) ?_
    refine lv_aload_n hx hb dX7_worth_17 rfl (lv_at hl 0 rfl) ?_
    obtain ⟨r3, hC, hR⟩ := ob hR
    try dsimp only at hR
    refine ro_calli (va_runV (As := []) (rest := [.int p1, .ref (ad 0)]) ⟨hx, hb, hml, hown, ht⟩ (c_M_ends l dC dI ad tI tL tII tLL (0 : Int32) sts wgt rwd up dn cel rig sum gp bst few  r3 hC.symm) ⟨callB_of 0 ht (goodG k_284) rfl rfl rfl (ht _ k_202) (ht _ k_285) (by decide +kernel) ⟨Nat.le_of_ble_eq_true rfl, Nat.le_of_ble_eq_true rfl⟩, (ht _ k_287), (ht _ k_286)⟩ (pre_v hK hN hP (q0 := 0) (ci := 7) rfl rfl) rfl rfl hl.1 rfl (lv_room (Nat.le_of_ble_eq_true rfl)) dX7_worth_18 ⟨Nat.zero_le _, Nat.zero_le _⟩) ?_
    obtain ⟨r4, hC, hR⟩ := ob hR
    try dsimp only at hR
    refine ro_calli (va_runV (As := [.int p1, .int r3]) (rest := []) ⟨hx, hb, hml, hown, ht⟩ (c_M_isSure l dC dI ad tI tL tII tLL (0 : Int32) sts wgt rwd up dn cel rig sum gp bst few p1 r3 r4 hC.symm) ⟨callB_of 2 ht (goodG k_279) rfl rfl rfl (ht _ k_202) (ht _ k_280) (by decide +kernel) ⟨Nat.le_of_ble_eq_true rfl, Nat.le_of_ble_eq_true rfl⟩, (ht _ k_282), (ht _ k_281)⟩ (pre_v hK hN hP (q0 := 0) (ci := 7) rfl rfl) rfl rfl hl.1 rfl (lv_room (Nat.le_of_ble_eq_true rfl)) dX7_worth_21 ⟨Nat.zero_le _, Nat.zero_le _⟩) ?_
    refine lv_if_ne (tgt := 30) hx hb dX7_worth_24 (by decide) (fun c5 => ?_) (fun c5 => ?_)
    · replace hR := it_n c5 hR
      refine lv_aload_n hx hb dX7_worth_30 rfl (lv_at hl 0 rfl) ?_
      refine lv_iconst (v := 1) hx hb dX7_worth_31 (by decide) ?_
      refine lv_iload_n hx hb dX7_worth_32 rfl (lv_at hl 1 rfl) ?_
      refine lv_ishl hx hb dX7_worth_33 ?_
      refine lv_iconst (v := 0) hx hb dX7_worth_34 (by decide) ?_
      obtain ⟨r6, hC, hR⟩ := ob hR
      try dsimp only at hR
      refine ro_calli (va_runV (As := [.int ((1 : Int32) <<< (p1 &&& 31)), .int (0 : Int32)]) (rest := []) ⟨hx, hb, hml, hown, ht⟩ (c_M_reach l dC dI ad tI tL tII tLL (0 : Int32) sts wgt rwd up dn cel rig sum gp bst few ((1 : Int32) <<< (p1 &&& 31)) (0 : Int32) r6 hC.symm) ⟨callB_of 2 ht (goodG k_226) rfl rfl rfl (ht _ k_202) (ht _ k_227) (by decide +kernel) ⟨Nat.le_of_ble_eq_true rfl, Nat.le_of_ble_eq_true rfl⟩, (ht _ k_229), (ht _ k_228)⟩ (pre_v hK hN hP (q0 := 0) (ci := 7) rfl rfl) rfl rfl hl.1 rfl (lv_room (Nat.le_of_ble_eq_true rfl)) dX7_worth_35 ⟨Nat.zero_le _, Nat.zero_le _⟩) ?_
      refine lv_istore_n (lv' := [(2, .int r6), (0, .ref (ad 0)), (1, .int p1)]) hx hb dX7_worth_38 rfl hl (by decide) rfl (fun ls hl => ?_)
      refine lv_iconst (v := 0) hx hb dX7_worth_39 (by decide) ?_
      refine lv_istore_n (lv' := [(3, .int (0 : Int32)), (2, .int r6), (0, .ref (ad 0)), (1, .int p1)]) hx hb dX7_worth_40 rfl hl (by decide) rfl (fun ls hl => ?_)
      have L41_24 : ∀ (thr_8 : Int32), ∀ (n : Nat) (x3_7 : Int32) (cel_9 : Nat → Int64) (rig_10 : Nat → Int64), ∀ (o_x3_7 : Int32) (o_cel_9 : Nat → Int64) (o_rig_10 : Nat → Int64), some (o_x3_7, o_cel_9, o_rig_10) = f_M_worth_L41 sts wgt rwd r6 n x3_7 cel_9 rig_10 → (∀ (H : Heap) (locs : List Loc), va_P (dC, dI) vwCl (wM ad tI tL tII tLL thr_8 sts wgt rwd up dn o_cel_9 o_rig_10 sum gp bst few) H → va_D (rwA (wM ad tI tL tII tLL thr sts wgt rwd up dn cel rig sum gp bst few)) (wM ad tI tL tII tLL thr_8 sts wgt rwd up dn o_cel_9 o_rig_10 sum gp bst few) → va_S (rwA (wM ad tI tL tII tLL thr sts wgt rwd up dn cel rig sum gp bst few)) s.heap H locs → ∀ ls : Array Slot, lv_has ls 4 [(0, .ref (ad 0)), (1, .int p1), (2, .int r6), (3, .int o_x3_7)] → W p l e (headSpec W_M_worth RM_f_M_worth).room s m ([.ref (ad 0), .int p1] : List Value).toArray below meth c H locs 0 0 (MQ below (rwQ (dC, dI) vwCl (wM ad tI tL tII tLL R_thr sts wgt rwd R_up R_dn R_cel R_rig R_sum gp bst few) (some (.int R0)) (rwA (wM ad tI tL tII tLL thr sts wgt rwd up dn cel rig sum gp bst few))) ([.ref (ad 0), .int p1] : List Value).toArray s 0 0 (rwA (wM ad tI tL tII tLL thr sts wgt rwd up dn cel rig sum gp bst few))) (F0 m 99 ls [])) → ∀ (H : Heap) (locs : List Loc), va_P (dC, dI) vwCl (wM ad tI tL tII tLL thr_8 sts wgt rwd up dn cel_9 rig_10 sum gp bst few) H → va_D (rwA (wM ad tI tL tII tLL thr sts wgt rwd up dn cel rig sum gp bst few)) (wM ad tI tL tII tLL thr_8 sts wgt rwd up dn cel_9 rig_10 sum gp bst few) → va_S (rwA (wM ad tI tL tII tLL thr sts wgt rwd up dn cel rig sum gp bst few)) s.heap H locs → ∀ ls : Array Slot, lv_has ls 4 [(0, .ref (ad 0)), (1, .int p1), (2, .int r6), (3, .int x3_7)] → W p l e (headSpec W_M_worth RM_f_M_worth).room s m ([.ref (ad 0), .int p1] : List Value).toArray below meth c H locs 0 0 (MQ below (rwQ (dC, dI) vwCl (wM ad tI tL tII tLL R_thr sts wgt rwd R_up R_dn R_cel R_rig R_sum gp bst few) (some (.int R0)) (rwA (wM ad tI tL tII tLL thr sts wgt rwd up dn cel rig sum gp bst few))) ([.ref (ad 0), .int p1] : List Value).toArray s 0 0 (rwA (wM ad tI tL tII tLL thr sts wgt rwd up dn cel rig sum gp bst few))) (F0 m 41 ls []) := by
        intro thr_8
        intro n
        induction n with
        | zero =>
          intro x3_7 cel_9 rig_10 o_x3_7 o_cel_9 o_rig_10 hR
          cases (show some _ = none from hR)
        | succ n ih =>
          intro x3_7 cel_9 rig_10 o_x3_7 o_cel_9 o_rig_10 hR hk H locs hP hD hS ls hl
          rw [f_M_worth_L41_s] at hR
          obtain ⟨y, hR, hQ⟩ := ob hR
          replace hR := hR.symm
          rw [f_M_worth_B41] at hR
          refine lv_iload_n hx hb dX7_worth_41 rfl (lv_at hl 3 rfl) ?_
          refine lv_aload_n hx hb dX7_worth_42 rfl (lv_at hl 0 rfl) ?_
          refine va_get (D := (dC, dI)) (ci := 7) (v := .int sts) (C := RX7) (T := TX7) (N := 12) hx hb ht hinX7 hown hK hP 0 rfl rfl 1 (by decide) (ht _ k_205) (fun _ h9 => h9) rfl dX7_worth_43 ?_
          refine lv_icmp_ge (tgt := 99) hx hb dX7_worth_46 (by decide) (fun c11 => ?_) (fun c11 => ?_)
          · replace hR := it_p c11 hR
            cases hR
            cases (show some _ = some _ from hQ)
            exact hk H locs hP hD hS ls (lv_sub hl [0, 1, 2, 3] rfl)
          · replace hR := it_n c11 hR
            refine lv_aload_n hx hb dX7_worth_49 rfl (lv_at hl 0 rfl) ?_
            refine lv_iload_n hx hb dX7_worth_50 rfl (lv_at hl 3 rfl) ?_
            obtain ⟨r12, hC, hR⟩ := ob hR
            try dsimp only at hR
            refine ro_calli (va_runV (As := [.int x3_7]) (rest := []) ⟨hx, hb, hml, hown, ht⟩ (c_M_isEnd l dC dI ad tI tL tII tLL thr_8 sts wgt rwd up dn cel_9 rig_10 sum gp bst few x3_7 r12 hC.symm) ⟨callB_of 1 ht (goodG k_245) rfl rfl rfl (ht _ k_202) (ht _ k_246) (by decide +kernel) ⟨Nat.le_of_ble_eq_true rfl, Nat.le_of_ble_eq_true rfl⟩, (ht _ k_248), (ht _ k_247)⟩ (pre_v hK hN hP (q0 := 0) (ci := 7) rfl rfl) rfl rfl hl.1 rfl (lv_room (Nat.le_of_ble_eq_true rfl)) dX7_worth_51 ⟨Nat.zero_le _, Nat.zero_le _⟩) ?_
            refine lv_if_ne (tgt := 65) hx hb dX7_worth_54 (by decide) (fun c13 => ?_) (fun c13 => ?_)
            · replace hR := it_n c13 hR
              refine lv_aload_n hx hb dX7_worth_65 rfl (lv_at hl 0 rfl) ?_
              refine lv_iload_n hx hb dX7_worth_66 rfl (lv_at hl 3 rfl) ?_
              refine lv_lconst (v := 0) hx hb dX7_worth_67 (by decide) ?_
              obtain ⟨⟨cel_14, rig_15⟩, hC, hR⟩ := ob hR
              try dsimp only at hR
              refine rw_callv (va_runV (As := [.int x3_7, .long (0 : Int64)]) (rest := []) ⟨hx, hb, hml, hown, ht⟩ (c_M_fix l dC dI ad tI tL tII tLL thr_8 sts wgt rwd up dn cel_9 rig_10 sum gp bst few x3_7 (0 : Int64) cel_14 rig_15 hC.symm) ⟨callB_of 2 ht (goodG k_263) rfl rfl rfl (ht _ k_202) (ht _ k_264) (by decide +kernel) ⟨Nat.le_of_ble_eq_true rfl, Nat.le_of_ble_eq_true rfl⟩, (ht _ k_266), (ht _ k_265)⟩ (pre_vw hK hN hP hD (q0 := 0) (ci := 7) rfl rfl) rfl rfl hl.1 rfl (lv_room (Nat.le_of_ble_eq_true rfl)) dX7_worth_68 ⟨Nat.zero_le _, Nat.zero_le _⟩) hD hS rfl (fun H locs hP hD hS => ?_)
              have hP : va_P (dC, dI) vwCl (wM ad tI tL tII tLL thr_8 sts wgt rwd up dn cel_14 rig_15 sum gp bst few) H := hP
              have hD : va_D (rwA (wM ad tI tL tII tLL thr sts wgt rwd up dn cel rig sum gp bst few)) (wM ad tI tL tII tLL thr_8 sts wgt rwd up dn cel_14 rig_15 sum gp bst few) := hD
              refine lv_goto (tgt := 93) hx hb dX7_worth_71 (by decide) ?_
              refine lv_iinc (v := (x3_7 + 1)) (lv' := [(3, .int (x3_7 + 1)), (0, .ref (ad 0)), (1, .int p1), (2, .int r6)]) hx hb dX7_worth_93 hl (k := 3) rfl rfl (by decide) rfl (fun ls hl => ?_)
              refine lv_goto (tgt := 41) hx hb dX7_worth_96 (by decide) ?_
              cases hR
              exact ih (x3_7 + 1) cel_14 rig_15 o_x3_7 o_cel_9 o_rig_10 hQ hk H locs hP hD hS ls (lv_sub hl [1, 2, 3, 0] rfl)
            · replace hR := it_p c13 hR
              refine lv_iload_n hx hb dX7_worth_57 rfl (lv_at hl 2 rfl) ?_
              refine lv_iload_n hx hb dX7_worth_58 rfl (lv_at hl 3 rfl) ?_
              obtain ⟨r16, hC, hR⟩ := ob hR
              try dsimp only at hR
              refine ro_calli (va_runS (As := [.int r6, .int x3_7]) (rest := []) ⟨hx, hb, hml, hown, ht⟩ (c_M_has l dC dI ad tI tL tII tLL  r6 x3_7 r16 hC.symm) ⟨callB_of 2 ht (goodG k_201) rfl rfl rfl (ht _ k_202) (ht _ k_203) (by decide +kernel) ⟨Nat.le_of_ble_eq_true rfl, Nat.le_of_ble_eq_true rfl⟩, (ht _ k_204)⟩ (pre_s hK hN (hP.sub (ws' := []) [] rfl)) rfl rfl hl.1 rfl (lv_room (Nat.le_of_ble_eq_true rfl)) dX7_worth_59 ⟨Nat.zero_le _, Nat.zero_le _⟩) ?_
              refine lv_if_ne (tgt := 74) hx hb dX7_worth_62 (by decide) (fun c17 => ?_) (fun c17 => ?_)
              · replace hR := it_n c17 hR
                refine lv_aload_n hx hb dX7_worth_74 rfl (lv_at hl 0 rfl) ?_
                refine lv_iload_n hx hb dX7_worth_75 rfl (lv_at hl 3 rfl) ?_
                refine lv_aload_n hx hb dX7_worth_76 rfl (lv_at hl 0 rfl) ?_
                refine lv_iload_n hx hb dX7_worth_77 rfl (lv_at hl 3 rfl) ?_
                obtain ⟨r18, hC, hR⟩ := ob hR
                try dsimp only at hR
                refine ro_calli (va_runV (As := [.int x3_7]) (rest := [.int x3_7, .ref (ad 0)]) ⟨hx, hb, hml, hown, ht⟩ (c_M_total l dC dI ad tI tL tII tLL thr_8 sts wgt rwd up dn cel_9 rig_10 sum gp bst few x3_7 r18 hC.symm) ⟨callB_of 1 ht (goodG k_214) rfl rfl rfl (ht _ k_202) (ht _ k_215) (by decide +kernel) ⟨Nat.le_of_ble_eq_true rfl, Nat.le_of_ble_eq_true rfl⟩, (ht _ k_217), (ht _ k_216)⟩ (pre_v hK hN hP (q0 := 0) (ci := 7) rfl rfl) rfl rfl hl.1 rfl (lv_room (Nat.le_of_ble_eq_true rfl)) dX7_worth_78 ⟨Nat.zero_le _, Nat.zero_le _⟩) ?_
                refine lv_i2l hx hb dX7_worth_81 rfl ?_
                refine lv_aload_n hx hb dX7_worth_82 rfl (lv_at hl 0 rfl) ?_
                refine va_get (D := (dC, dI)) (ci := 7) (v := .ref (ad 2)) (C := RX7) (T := TX7) (N := 12) hx hb ht hinX7 hown hK hP 0 rfl rfl 3 (by decide) (ht _ k_221) (fun _ h9 => h9) rfl dX7_worth_83 ?_
                refine lv_iload_n hx hb dX7_worth_86 rfl (lv_at hl 3 rfl) ?_
                obtain ⟨z19, hR⟩ := og hR
                refine va_iald hx hb hK hP 2 0 rfl rfl (ix_in z19) dX7_worth_87 ?_
                refine lv_i2l hx hb dX7_worth_88 rfl ?_
                refine lv_lmul hx hb dX7_worth_89 ?_
                obtain ⟨⟨cel_20, rig_21⟩, hC, hR⟩ := ob hR
                try dsimp only at hR
                refine rw_callv (va_runV (As := [.int x3_7, .long ((r18.toInt64) * ((rwd x3_7.toNatClampNeg).toInt64))]) (rest := []) ⟨hx, hb, hml, hown, ht⟩ (c_M_lay l dC dI ad tI tL tII tLL thr_8 sts wgt rwd up dn cel_9 rig_10 sum gp bst few x3_7 ((r18.toInt64) * ((rwd x3_7.toNatClampNeg).toInt64)) cel_20 rig_21 hC.symm) ⟨callB_of 2 ht (goodG k_267) rfl rfl rfl (ht _ k_202) (ht _ k_268) (by decide +kernel) ⟨Nat.le_of_ble_eq_true rfl, Nat.le_of_ble_eq_true rfl⟩, (ht _ k_270), (ht _ k_269)⟩ (pre_vw hK hN hP hD (q0 := 0) (ci := 7) rfl rfl) rfl rfl hl.1 rfl (lv_room (Nat.le_of_ble_eq_true rfl)) dX7_worth_90 ⟨Nat.zero_le _, Nat.zero_le _⟩) hD hS rfl (fun H locs hP hD hS => ?_)
                have hP : va_P (dC, dI) vwCl (wM ad tI tL tII tLL thr_8 sts wgt rwd up dn cel_20 rig_21 sum gp bst few) H := hP
                have hD : va_D (rwA (wM ad tI tL tII tLL thr sts wgt rwd up dn cel rig sum gp bst few)) (wM ad tI tL tII tLL thr_8 sts wgt rwd up dn cel_20 rig_21 sum gp bst few) := hD
                refine lv_iinc (v := (x3_7 + 1)) (lv' := [(3, .int (x3_7 + 1)), (0, .ref (ad 0)), (1, .int p1), (2, .int r6)]) hx hb dX7_worth_93 hl (k := 3) rfl rfl (by decide) rfl (fun ls hl => ?_)
                refine lv_goto (tgt := 41) hx hb dX7_worth_96 (by decide) ?_
                cases hR
                exact ih (x3_7 + 1) cel_20 rig_21 o_x3_7 o_cel_9 o_rig_10 hQ hk H locs hP hD hS ls (lv_sub hl [1, 2, 3, 0] rfl)
              · replace hR := it_p c17 hR
                refine lv_aload_n hx hb dX7_worth_65 rfl (lv_at hl 0 rfl) ?_
                refine lv_iload_n hx hb dX7_worth_66 rfl (lv_at hl 3 rfl) ?_
                refine lv_lconst (v := 0) hx hb dX7_worth_67 (by decide) ?_
                obtain ⟨⟨cel_22, rig_23⟩, hC, hR⟩ := ob hR
                try dsimp only at hR
                refine rw_callv (va_runV (As := [.int x3_7, .long (0 : Int64)]) (rest := []) ⟨hx, hb, hml, hown, ht⟩ (c_M_fix l dC dI ad tI tL tII tLL thr_8 sts wgt rwd up dn cel_9 rig_10 sum gp bst few x3_7 (0 : Int64) cel_22 rig_23 hC.symm) ⟨callB_of 2 ht (goodG k_263) rfl rfl rfl (ht _ k_202) (ht _ k_264) (by decide +kernel) ⟨Nat.le_of_ble_eq_true rfl, Nat.le_of_ble_eq_true rfl⟩, (ht _ k_266), (ht _ k_265)⟩ (pre_vw hK hN hP hD (q0 := 0) (ci := 7) rfl rfl) rfl rfl hl.1 rfl (lv_room (Nat.le_of_ble_eq_true rfl)) dX7_worth_68 ⟨Nat.zero_le _, Nat.zero_le _⟩) hD hS rfl (fun H locs hP hD hS => ?_)
                have hP : va_P (dC, dI) vwCl (wM ad tI tL tII tLL thr_8 sts wgt rwd up dn cel_22 rig_23 sum gp bst few) H := hP
                have hD : va_D (rwA (wM ad tI tL tII tLL thr sts wgt rwd up dn cel rig sum gp bst few)) (wM ad tI tL tII tLL thr_8 sts wgt rwd up dn cel_22 rig_23 sum gp bst few) := hD
                refine lv_goto (tgt := 93) hx hb dX7_worth_71 (by decide) ?_
                refine lv_iinc (v := (x3_7 + 1)) (lv' := [(3, .int (x3_7 + 1)), (0, .ref (ad 0)), (1, .int p1), (2, .int r6)]) hx hb dX7_worth_93 hl (k := 3) rfl rfl (by decide) rfl (fun ls hl => ?_)
                refine lv_goto (tgt := 41) hx hb dX7_worth_96 (by decide) ?_
                cases hR
                exact ih (x3_7 + 1) cel_22 rig_23 o_x3_7 o_cel_9 o_rig_10 hQ hk H locs hP hD hS ls (lv_sub hl [1, 2, 3, 0] rfl)
      obtain ⟨⟨u25, u26, u27⟩, hL, hR⟩ := ob hR
      try dsimp only at hR
      refine L41_24 (0 : Int32) 300 (0 : Int32) cel rig u25 u26 u27 hL.symm (fun H locs hP hD hS ls hl => ?_) H locs hP hD hS ls (lv_sub hl [2, 3, 1, 0] rfl)
      refine lv_aload_n hx hb dX7_worth_99 rfl (lv_at hl 0 rfl) ?_
      refine lv_iload_n hx hb dX7_worth_100 rfl (lv_at hl 1 rfl) ?_
      obtain ⟨⟨r28, up_29, dn_30, sum_31⟩, hC, hR⟩ := ob hR
      try dsimp only at hR
      refine rw_calli (va_runV (As := [.int p1]) (rest := []) ⟨hx, hb, hml, hown, ht⟩ (c_M_solved l dC dI ad tI tL tII tLL (0 : Int32) sts wgt rwd up dn u26 u27 sum gp bst few p1 r28 up_29 dn_30 sum_31 hC.symm) ⟨callB_of 1 ht (goodG k_275) rfl rfl rfl (ht _ k_202) (ht _ k_276) (by decide +kernel) ⟨Nat.le_of_ble_eq_true rfl, Nat.le_of_ble_eq_true rfl⟩, (ht _ k_278), (ht _ k_277)⟩ (pre_vw hK hN hP hD (q0 := 0) (ci := 7) rfl rfl) rfl rfl hl.1 rfl (lv_room (Nat.le_of_ble_eq_true rfl)) dX7_worth_101 ⟨Nat.zero_le _, Nat.zero_le _⟩) hD hS rfl (fun H locs hP hD hS => ?_)
      have hP : va_P (dC, dI) vwCl (wM ad tI tL tII tLL (0 : Int32) sts wgt rwd up_29 dn_30 u26 u27 sum_31 gp bst few) H := hP
      have hD : va_D (rwA (wM ad tI tL tII tLL thr sts wgt rwd up dn cel rig sum gp bst few)) (wM ad tI tL tII tLL (0 : Int32) sts wgt rwd up_29 dn_30 u26 u27 sum_31 gp bst few) := hD
      cases hR
      exact W.iret hx hb hr (fun t ht _ => ⟨rfl, by rw [ht]; exact hP, hS.F ht⟩) hS.2.2 dX7_worth_104
    · replace hR := it_p c5 hR
      refine lv_bipush (v := (-3)) hx hb dX7_worth_27 (by decide) ?_
      cases hR
      exact W.iret hx hb hr (fun t ht _ => ⟨rfl, by rw [ht]; exact hP, hS.F ht⟩) hS.2.2 dX7_worth_29
  · replace hR := it_p c2 hR
    refine lv_iconst (v := (-1)) hx hb dX7_worth_13 (by decide) ?_
    cases hR
    exact W.iret hx hb hr (fun t ht _ => ⟨rfl, by rw [ht]; exact hP, hS.F ht⟩) hS.2.2 dX7_worth_14
abbrev RM_f_M_weightTo : Room := { frames := 1, cells := 0, slots := 0, locals := 22 }
abbrev W_M_weightTo : List Cond := .code yX7_weightTo cX7_weightTo 5 (some .int) :: tblG
set_option maxHeartbeats 4000000 in
set_option maxRecDepth 100000 in
theorem c_M_weightTo (l : Launch) (dC : Nat → ClassId) (dI : Nat → Nat → Nat) (ad : Nat → Nat) (tI tL tII tLL : ClassId) (thr : Int32) (sts : Int32) (wgt : Nat → Int32) (rwd : Nat → Int32) (up : Int64) (dn : Int64) (cel : Nat → Int64) (rig : Nat → Int64) (sum : Nat → Int64) (gp : Nat → Int32) (bst : Nat → Int32) (few : Int32) (p1 : Int32) (p2 : Int32) (R0 : Int32) (hR : some R0 = f_M_weightTo sts wgt gp p1 p2) : Met l yX7_weightTo W_M_weightTo RM_f_M_weightTo (roP (dC, dI) vwCl [(tI, .int), (tL, .long), (tII, .array .int), (tLL, .array .long)] (wM ad tI tL tII tLL thr sts wgt rwd up dn cel rig sum gp bst few) ([.ref (ad 0), .int p1, .int p2] : List Value)) (roQ (some (.int R0))) 0 0 (fun _ => False) := by
  refine Met.ofW (cc := cX7_weightTo) (maxL := 5) (ret := (some .int)) (by decide) rfl ?_
  intro p e s m args below meth c s₁ B hml hv
  obtain ⟨rfl, hP, hK, hN⟩ := hv
  have hx := B.exec
  have hb := B.bytes
  have hr := B.returns
  have hts := atoms_spec (ws := W_M_weightTo) B.pre
  have ht := fun (w : Cond) (h : w ∈ tblG) => hts w (List.mem_cons_of_mem _ h)
  have hown : s.vm.findClass RX7 = some m.cls := findClass_of_methodNamed B.named
  have hlocks := B.notSynchronized
  have hl := lv_entry ([.ref (ad 0), .int p1, .int p2] : List Value) (n := 5) (Nat.le_of_ble_eq_true rfl)
  rw [lg_entry_eq]
  generalize (lg_sl ([.ref (ad 0), .int p1, .int p2] : List Value) ++ List.replicate (5 - (lg_sl ([.ref (ad 0), .int p1, .int p2] : List Value)).length) Slot.unset).toArray = ls at hl ⊢
  have hl : lv_has ls 5 [(0, .ref (ad 0)), (1, .int p1), (2, .int p2)] := hl
  rw [f_M_weightTo] at hR
  refine lv_iconst (v := 0) hx hb dX7_weightTo_0 (by decide) ?_
  refine lv_istore_n (lv' := [(3, .int (0 : Int32)), (0, .ref (ad 0)), (1, .int p1), (2, .int p2)]) hx hb dX7_weightTo_1 rfl hl (by decide) rfl (fun ls hl => ?_)
  refine lv_iconst (v := 0) hx hb dX7_weightTo_2 (by decide) ?_
  refine lv_istore (lv' := [(4, .int (0 : Int32)), (3, .int (0 : Int32)), (0, .ref (ad 0)), (1, .int p1), (2, .int p2)]) hx hb dX7_weightTo_3 hl (by decide) rfl (fun ls hl => ?_)
  have L5_7 : ∀ (n : Nat) (x3_1 : Int32) (x4_2 : Int32), ∀ (o_x3_1 : Int32) (o_x4_2 : Int32), some (o_x3_1, o_x4_2) = f_M_weightTo_L5 sts wgt gp p1 p2 n x3_1 x4_2 → (∀ ls : Array Slot, lv_has ls 5 [(0, .ref (ad 0)), (1, .int p1), (2, .int p2), (3, .int o_x3_1), (4, .int o_x4_2)] → W p l e (headSpec W_M_weightTo RM_f_M_weightTo).room s m ([.ref (ad 0), .int p1, .int p2] : List Value).toArray below meth c s.heap [] 0 0 (MQ below (roQ (some (.int R0))) ([.ref (ad 0), .int p1, .int p2] : List Value).toArray s 0 0 (fun _ => False)) (F0 m 45 ls [])) → ∀ ls : Array Slot, lv_has ls 5 [(0, .ref (ad 0)), (1, .int p1), (2, .int p2), (3, .int x3_1), (4, .int x4_2)] → W p l e (headSpec W_M_weightTo RM_f_M_weightTo).room s m ([.ref (ad 0), .int p1, .int p2] : List Value).toArray below meth c s.heap [] 0 0 (MQ below (roQ (some (.int R0))) ([.ref (ad 0), .int p1, .int p2] : List Value).toArray s 0 0 (fun _ => False)) (F0 m 5 ls []) := by
    intro n
    induction n with
    | zero =>
      intro x3_1 x4_2 o_x3_1 o_x4_2 hR
      cases (show some _ = none from hR)
    | succ n ih =>
      intro x3_1 x4_2 o_x3_1 o_x4_2 hR hk ls hl
      rw [f_M_weightTo_L5_s] at hR
      obtain ⟨y, hR, hQ⟩ := ob hR
      replace hR := hR.symm
      rw [f_M_weightTo_B5] at hR
      refine lv_iload hx hb dX7_weightTo_5 (lv_at hl 4 rfl) ?_
      refine lv_aload_n hx hb dX7_weightTo_7 rfl (lv_at hl 0 rfl) ?_
      refine va_get (D := (dC, dI)) (ci := 7) (v := .int sts) (C := RX7) (T := TX7) (N := 12) hx hb ht hinX7 hown hK hP 0 rfl rfl 1 (by decide) (ht _ k_205) (fun _ h9 => h9) rfl dX7_weightTo_8 ?_
      refine lv_icmp_ge (tgt := 45) hx hb dX7_weightTo_11 (by decide) (fun c3 => ?_) (fun c3 => ?_)
      · replace hR := it_p c3 hR
        cases hR
        cases (show some _ = some _ from hQ)
        exact hk ls (lv_sub hl [0, 1, 2, 3, 4] rfl)
      · replace hR := it_n c3 hR
        refine lv_iload_n hx hb dX7_weightTo_14 rfl (lv_at hl 3 rfl) ?_
        refine lv_aload_n hx hb dX7_weightTo_15 rfl (lv_at hl 0 rfl) ?_
        refine va_get (D := (dC, dI)) (ci := 7) (v := .ref (ad 6)) (C := RX7) (T := TX7) (N := 12) hx hb ht hinX7 hown hK hP 0 rfl rfl 9 (by decide) (ht _ k_288) (fun _ h9 => h9) rfl dX7_weightTo_16 ?_
        refine lv_iload hx hb dX7_weightTo_19 (lv_at hl 4 rfl) ?_
        obtain ⟨z4, hR⟩ := og hR
        refine va_iald hx hb hK hP 6 0 rfl rfl (ix_in z4) dX7_weightTo_21 ?_
        refine lv_iload_n hx hb dX7_weightTo_22 rfl (lv_at hl 2 rfl) ?_
        refine lv_icmp_ne (tgt := 36) hx hb dX7_weightTo_23 (by decide) (fun c5 => ?_) (fun c5 => ?_)
        · replace hR := it_n c5 hR
          refine lv_iconst (v := 0) hx hb dX7_weightTo_36 (by decide) ?_
          refine lv_iadd hx hb dX7_weightTo_37 ?_
          refine lv_istore_n (lv' := [(3, .int (x3_1 + (0 : Int32))), (0, .ref (ad 0)), (1, .int p1), (2, .int p2), (4, .int x4_2)]) hx hb dX7_weightTo_38 rfl hl (by decide) rfl (fun ls hl => ?_)
          refine lv_iinc (v := (x4_2 + 1)) (lv' := [(4, .int (x4_2 + 1)), (3, .int (x3_1 + (0 : Int32))), (0, .ref (ad 0)), (1, .int p1), (2, .int p2)]) hx hb dX7_weightTo_39 hl (k := 4) rfl rfl (by decide) rfl (fun ls hl => ?_)
          refine lv_goto (tgt := 5) hx hb dX7_weightTo_42 (by decide) ?_
          cases hR
          exact ih (x3_1 + (0 : Int32)) (x4_2 + 1) o_x3_1 o_x4_2 hQ hk ls (lv_sub hl [2, 3, 4, 1, 0] rfl)
        · replace hR := it_p c5 hR
          refine lv_aload_n hx hb dX7_weightTo_26 rfl (lv_at hl 0 rfl) ?_
          refine lv_iload_n hx hb dX7_weightTo_27 rfl (lv_at hl 1 rfl) ?_
          refine lv_iload hx hb dX7_weightTo_28 (lv_at hl 4 rfl) ?_
          obtain ⟨r6, hC, hR⟩ := ob hR
          try dsimp only at hR
          refine ro_calli (va_runV (As := [.int p1, .int x4_2]) (rest := [.int x3_1]) ⟨hx, hb, hml, hown, ht⟩ (c_M_w l dC dI ad tI tL tII tLL thr sts wgt rwd up dn cel rig sum gp bst few p1 x4_2 r6 hC.symm) ⟨callB_of 2 ht (goodG k_210) rfl rfl rfl (ht _ k_202) (ht _ k_211) (by decide +kernel) ⟨Nat.le_of_ble_eq_true rfl, Nat.le_of_ble_eq_true rfl⟩, (ht _ k_213), (ht _ k_212)⟩ (pre_v hK hN hP (q0 := 0) (ci := 7) rfl rfl) rfl rfl hl.1 rfl (lv_room (Nat.le_of_ble_eq_true rfl)) dX7_weightTo_30 ⟨Nat.zero_le _, Nat.zero_le _⟩) ?_
          refine lv_goto (tgt := 37) hx hb dX7_weightTo_33 (by decide) ?_
          refine lv_iadd hx hb dX7_weightTo_37 ?_
          refine lv_istore_n (lv' := [(3, .int (x3_1 + r6)), (0, .ref (ad 0)), (1, .int p1), (2, .int p2), (4, .int x4_2)]) hx hb dX7_weightTo_38 rfl hl (by decide) rfl (fun ls hl => ?_)
          refine lv_iinc (v := (x4_2 + 1)) (lv' := [(4, .int (x4_2 + 1)), (3, .int (x3_1 + r6)), (0, .ref (ad 0)), (1, .int p1), (2, .int p2)]) hx hb dX7_weightTo_39 hl (k := 4) rfl rfl (by decide) rfl (fun ls hl => ?_)
          refine lv_goto (tgt := 5) hx hb dX7_weightTo_42 (by decide) ?_
          cases hR
          exact ih (x3_1 + r6) (x4_2 + 1) o_x3_1 o_x4_2 hQ hk ls (lv_sub hl [2, 3, 4, 1, 0] rfl)
  obtain ⟨⟨u8, u9⟩, hL, hR⟩ := ob hR
  try dsimp only at hR
  refine L5_7 300 (0 : Int32) (0 : Int32) u8 u9 hL.symm (fun ls hl => ?_) ls (lv_sub hl [2, 3, 4, 1, 0] rfl)
  refine lv_iload_n hx hb dX7_weightTo_45 rfl (lv_at hl 3 rfl) ?_
  cases hR
  exact W.iret hx hb hr (fun t ht _ => ⟨rfl, ht⟩) t_nil dX7_weightTo_46
