abbrev RM_f_M_reach : Room := { frames := 1, cells := 0, slots := 0, locals := 22 }
abbrev W_M_reach : List Cond := .code yX7_reach cX7_reach 8 (some .int) :: tblG
set_option maxHeartbeats 4000000 in
set_option maxRecDepth 100000 in
theorem c_M_reach (l : Launch) (dC : Nat → ClassId) (dI : Nat → Nat → Nat) (ad : Nat → Nat) (tI tL tII tLL : ClassId) (thr : Int32) (sts : Int32) (wgt : Nat → Int32) (rwd : Nat → Int32) (up : Int64) (dn : Int64) (cel : Nat → Int64) (rig : Nat → Int64) (sum : Nat → Int64) (gp : Nat → Int32) (bst : Nat → Int32) (few : Int32) (p1 : Int32) (p2 : Int32) (R0 : Int32) (hR : some R0 = f_M_reach sts wgt p1 p2) : Met l yX7_reach W_M_reach RM_f_M_reach (roP (dC, dI) vwCl [(tI, .int), (tL, .long), (tII, .array .int), (tLL, .array .long)] (wM ad tI tL tII tLL thr sts wgt rwd up dn cel rig sum gp bst few) ([.ref (ad 0), .int p1, .int p2] : List Value)) (roQ (some (.int R0))) 0 0 (fun _ => False) := by
  refine Met.ofW (cc := cX7_reach) (maxL := 8) (ret := (some .int)) (by decide) rfl ?_
  intro p e s m args below meth c s₁ B hml hv
  obtain ⟨rfl, hP, hK, hN⟩ := hv
  have hx := B.exec
  have hb := B.bytes
  have hr := B.returns
  have hts := atoms_spec (ws := W_M_reach) B.pre
  have ht := fun (w : Cond) (h : w ∈ tblG) => hts w (List.mem_cons_of_mem _ h)
  have hown : s.vm.findClass RX7 = some m.cls := findClass_of_methodNamed B.named
  have hlocks := B.notSynchronized
  have hl := lv_entry ([.ref (ad 0), .int p1, .int p2] : List Value) (n := 8) (Nat.le_of_ble_eq_true rfl)
  rw [lg_entry_eq]
  generalize (lg_sl ([.ref (ad 0), .int p1, .int p2] : List Value) ++ List.replicate (8 - (lg_sl ([.ref (ad 0), .int p1, .int p2] : List Value)).length) Slot.unset).toArray = ls at hl ⊢
  have hl : lv_has ls 8 [(0, .ref (ad 0)), (1, .int p1), (2, .int p2)] := hl
  rw [f_M_reach] at hR
  refine lv_iload_n hx hb dX7_reach_0 rfl (lv_at hl 1 rfl) ?_
  refine lv_istore_n (lv' := [(3, .int p1), (0, .ref (ad 0)), (1, .int p1), (2, .int p2)]) hx hb dX7_reach_1 rfl hl (by decide) rfl (fun ls hl => ?_)
  refine lv_iconst (v := 1) hx hb dX7_reach_2 (by decide) ?_
  refine lv_istore (lv' := [(4, .int (1 : Int32)), (3, .int p1), (0, .ref (ad 0)), (1, .int p1), (2, .int p2)]) hx hb dX7_reach_3 hl (by decide) rfl (fun ls hl => ?_)
  have L5_23 : ∀ (n : Nat) (x3_1 : Int32) (x4_2 : Int32), ∀ (o_x3_1 : Int32) (o_x4_2 : Int32), some (o_x3_1, o_x4_2) = f_M_reach_L5 sts wgt p2 n x3_1 x4_2 → (∀ ls : Array Slot, lv_has ls 8 [(0, .ref (ad 0)), (2, .int p2), (3, .int o_x3_1), (4, .int o_x4_2)] → W p l e (headSpec W_M_reach RM_f_M_reach).room s m ([.ref (ad 0), .int p1, .int p2] : List Value).toArray below meth c s.heap [] 0 0 (MQ below (roQ (some (.int R0))) ([.ref (ad 0), .int p1, .int p2] : List Value).toArray s 0 0 (fun _ => False)) (F0 m 111 ls [])) → ∀ ls : Array Slot, lv_has ls 8 [(0, .ref (ad 0)), (2, .int p2), (3, .int x3_1), (4, .int x4_2)] → W p l e (headSpec W_M_reach RM_f_M_reach).room s m ([.ref (ad 0), .int p1, .int p2] : List Value).toArray below meth c s.heap [] 0 0 (MQ below (roQ (some (.int R0))) ([.ref (ad 0), .int p1, .int p2] : List Value).toArray s 0 0 (fun _ => False)) (F0 m 5 ls []) := by
    intro n
    induction n with
    | zero =>
      intro x3_1 x4_2 o_x3_1 o_x4_2 hR
      cases (show some _ = none from hR)
    | succ n ih =>
      intro x3_1 x4_2 o_x3_1 o_x4_2 hR hk ls hl
      rw [f_M_reach_L5_s] at hR
      obtain ⟨y, hR, hQ⟩ := ob hR
      replace hR := hR.symm
      rw [f_M_reach_B5] at hR
      refine lv_iload hx hb dX7_reach_5 (lv_at hl 3 rfl) ?_
      refine lv_if_eq (tgt := 111) hx hb dX7_reach_7 (by decide) (fun c3 => ?_) (fun c3 => ?_)
      · replace hR := it_p c3 hR
        cases hR
        cases (show some _ = some _ from hQ)
        exact hk ls (lv_sub hl [0, 1, 2, 3] rfl)
      · replace hR := it_n c3 hR
        refine lv_iload_n hx hb dX7_reach_10 rfl (lv_at hl 2 rfl) ?_
        refine lv_istore (lv' := [(5, .int x3_1), (0, .ref (ad 0)), (2, .int p2), (3, .int x3_1), (4, .int x4_2)]) hx hb dX7_reach_11 hl (by decide) rfl (fun ls hl => ?_)
        refine lv_iconst (v := 0) hx hb dX7_reach_13 (by decide) ?_
        refine lv_istore (lv' := [(6, .int (0 : Int32)), (5, .int x3_1), (0, .ref (ad 0)), (2, .int p2), (3, .int x3_1), (4, .int x4_2)]) hx hb dX7_reach_14 hl (by decide) rfl (fun ls hl => ?_)
        have L16_19 : ∀ (n : Nat) (x5_4 : Int32) (x6_5 : Int32), ∀ (o_x5_4 : Int32) (o_x6_5 : Int32), some (o_x5_4, o_x6_5) = f_M_reach_L16 sts wgt p2 x3_1 n x5_4 x6_5 → (∀ ls : Array Slot, lv_has ls 8 [(0, .ref (ad 0)), (2, .int p2), (3, .int x3_1), (5, .int o_x5_4), (6, .int o_x6_5)] → W p l e (headSpec W_M_reach RM_f_M_reach).room s m ([.ref (ad 0), .int p1, .int p2] : List Value).toArray below meth c s.heap [] 0 0 (MQ below (roQ (some (.int R0))) ([.ref (ad 0), .int p1, .int p2] : List Value).toArray s 0 0 (fun _ => False)) (F0 m 92 ls [])) → ∀ ls : Array Slot, lv_has ls 8 [(0, .ref (ad 0)), (2, .int p2), (3, .int x3_1), (5, .int x5_4), (6, .int x6_5)] → W p l e (headSpec W_M_reach RM_f_M_reach).room s m ([.ref (ad 0), .int p1, .int p2] : List Value).toArray below meth c s.heap [] 0 0 (MQ below (roQ (some (.int R0))) ([.ref (ad 0), .int p1, .int p2] : List Value).toArray s 0 0 (fun _ => False)) (F0 m 16 ls []) := by
          intro n
          induction n with
          | zero =>
            intro x5_4 x6_5 o_x5_4 o_x6_5 hR
            cases (show some _ = none from hR)
          | succ n ih =>
            intro x5_4 x6_5 o_x5_4 o_x6_5 hR hk ls hl
            rw [f_M_reach_L16_s] at hR
            obtain ⟨y, hR, hQ⟩ := ob hR
            replace hR := hR.symm
            rw [f_M_reach_B16] at hR
            refine lv_iload hx hb dX7_reach_16 (lv_at hl 4 rfl) ?_
            refine lv_aload_n hx hb dX7_reach_18 rfl (lv_at hl 0 rfl) ?_
            refine va_get (D := (dC, dI)) (ci := 7) (v := .int sts) (C := RX7) (T := TX7) (N := 12) hx hb ht hinX7 hown hK hP 0 rfl rfl 1 (by decide) (ht _ k_205) (fun _ h9 => h9) rfl dX7_reach_19 ?_
            refine lv_icmp_ge (tgt := 92) hx hb dX7_reach_22 (by decide) (fun c6 => ?_) (fun c6 => ?_)
            · replace hR := it_p c6 hR
              cases hR
              cases (show some _ = some _ from hQ)
              exact hk ls (lv_sub hl [0, 1, 2, 3, 4] rfl)
            · replace hR := it_n c6 hR
              refine lv_iconst (v := 0) hx hb dX7_reach_25 (by decide) ?_
              refine lv_istore (lv' := [(7, .int (0 : Int32)), (0, .ref (ad 0)), (2, .int p2), (3, .int x3_1), (5, .int x5_4), (6, .int x6_5)]) hx hb dX7_reach_26 hl (by decide) rfl (fun ls hl => ?_)
              have L28_16 : ∀ (n : Nat) (x5_7 : Int32) (x7_8 : Int32), ∀ (o_x5_7 : Int32) (o_x7_8 : Int32), some (o_x5_7, o_x7_8) = f_M_reach_L28 sts wgt p2 x3_1 x6_5 n x5_7 x7_8 → (∀ ls : Array Slot, lv_has ls 8 [(0, .ref (ad 0)), (2, .int p2), (3, .int x3_1), (5, .int o_x5_7), (6, .int x6_5), (7, .int o_x7_8)] → W p l e (headSpec W_M_reach RM_f_M_reach).room s m ([.ref (ad 0), .int p1, .int p2] : List Value).toArray below meth c s.heap [] 0 0 (MQ below (roQ (some (.int R0))) ([.ref (ad 0), .int p1, .int p2] : List Value).toArray s 0 0 (fun _ => False)) (F0 m 86 ls [])) → ∀ ls : Array Slot, lv_has ls 8 [(0, .ref (ad 0)), (2, .int p2), (3, .int x3_1), (5, .int x5_7), (6, .int x6_5), (7, .int x7_8)] → W p l e (headSpec W_M_reach RM_f_M_reach).room s m ([.ref (ad 0), .int p1, .int p2] : List Value).toArray below meth c s.heap [] 0 0 (MQ below (roQ (some (.int R0))) ([.ref (ad 0), .int p1, .int p2] : List Value).toArray s 0 0 (fun _ => False)) (F0 m 28 ls []) := by
                intro n
                induction n with
                | zero =>
                  intro x5_7 x7_8 o_x5_7 o_x7_8 hR
                  cases (show some _ = none from hR)
                | succ n ih =>
                  intro x5_7 x7_8 o_x5_7 o_x7_8 hR hk ls hl
                  rw [f_M_reach_L28_s] at hR
                  obtain ⟨y, hR, hQ⟩ := ob hR
                  replace hR := hR.symm
                  rw [f_M_reach_B28] at hR
                  refine lv_iload hx hb dX7_reach_28 (lv_at hl 5 rfl) ?_
                  refine lv_aload_n hx hb dX7_reach_30 rfl (lv_at hl 0 rfl) ?_
                  refine va_get (D := (dC, dI)) (ci := 7) (v := .int sts) (C := RX7) (T := TX7) (N := 12) hx hb ht hinX7 hown hK hP 0 rfl rfl 1 (by decide) (ht _ k_205) (fun _ h9 => h9) rfl dX7_reach_31 ?_
                  refine lv_icmp_ge (tgt := 86) hx hb dX7_reach_34 (by decide) (fun c9 => ?_) (fun c9 => ?_)
                  · replace hR := it_p c9 hR
                    cases hR
                    cases (show some _ = some _ from hQ)
                    exact hk ls (lv_sub hl [0, 1, 2, 3, 4, 5] rfl)
                  · replace hR := it_n c9 hR
                    refine lv_iload_n hx hb dX7_reach_37 rfl (lv_at hl 2 rfl) ?_
                    refine lv_iload hx hb dX7_reach_38 (lv_at hl 4 rfl) ?_
                    obtain ⟨r10, hC, hR⟩ := ob hR
                    try dsimp only at hR
                    refine ro_calli (va_runS (As := [.int x3_1, .int x6_5]) (rest := []) ⟨hx, hb, hml, hown, ht⟩ (c_M_has l dC dI ad tI tL tII tLL  x3_1 x6_5 r10 hC.symm) ⟨callB_of 2 ht (goodG k_201) rfl rfl rfl (ht _ k_202) (ht _ k_203) (by decide +kernel) ⟨Nat.le_of_ble_eq_true rfl, Nat.le_of_ble_eq_true rfl⟩, (ht _ k_204)⟩ (pre_s hK hN (hP.sub (ws' := []) [] rfl)) rfl rfl hl.1 rfl (lv_room (Nat.le_of_ble_eq_true rfl)) dX7_reach_40 ⟨Nat.zero_le _, Nat.zero_le _⟩) ?_
                    refine lv_if_eq (tgt := 86) hx hb dX7_reach_43 (by decide) (fun c11 => ?_) (fun c11 => ?_)
                    · replace hR := it_p c11 hR
                      cases hR
                      cases (show some _ = some _ from hQ)
                      exact hk ls (lv_sub hl [0, 1, 2, 3, 4, 5] rfl)
                    · replace hR := it_n c11 hR
                      refine lv_iload_n hx hb dX7_reach_46 rfl (lv_at hl 1 rfl) ?_
                      refine lv_iload hx hb dX7_reach_47 (lv_at hl 4 rfl) ?_
                      obtain ⟨r12, hC, hR⟩ := ob hR
                      try dsimp only at hR
                      refine ro_calli (va_runS (As := [.int p2, .int x6_5]) (rest := []) ⟨hx, hb, hml, hown, ht⟩ (c_M_has l dC dI ad tI tL tII tLL  p2 x6_5 r12 hC.symm) ⟨callB_of 2 ht (goodG k_201) rfl rfl rfl (ht _ k_202) (ht _ k_203) (by decide +kernel) ⟨Nat.le_of_ble_eq_true rfl, Nat.le_of_ble_eq_true rfl⟩, (ht _ k_204)⟩ (pre_s hK hN (hP.sub (ws' := []) [] rfl)) rfl rfl hl.1 rfl (lv_room (Nat.le_of_ble_eq_true rfl)) dX7_reach_49 ⟨Nat.zero_le _, Nat.zero_le _⟩) ?_
                      refine lv_if_ne (tgt := 86) hx hb dX7_reach_52 (by decide) (fun c13 => ?_) (fun c13 => ?_)
                      · replace hR := it_n c13 hR
                        cases hR
                        cases (show some _ = some _ from hQ)
                        exact hk ls (lv_sub hl [0, 1, 2, 3, 4, 5] rfl)
                      · replace hR := it_p c13 hR
                        refine lv_aload_n hx hb dX7_reach_55 rfl (lv_at hl 0 rfl) ?_
                        refine lv_iload hx hb dX7_reach_56 (lv_at hl 4 rfl) ?_
                        refine lv_iload hx hb dX7_reach_58 (lv_at hl 5 rfl) ?_
                        obtain ⟨r14, hC, hR⟩ := ob hR
                        try dsimp only at hR
                        refine ro_calli (va_runV (As := [.int x6_5, .int x7_8]) (rest := []) ⟨hx, hb, hml, hown, ht⟩ (c_M_w l dC dI ad tI tL tII tLL thr sts wgt rwd up dn cel rig sum gp bst few x6_5 x7_8 r14 hC.symm) ⟨callB_of 2 ht (goodG k_210) rfl rfl rfl (ht _ k_202) (ht _ k_211) (by decide +kernel) ⟨Nat.le_of_ble_eq_true rfl, Nat.le_of_ble_eq_true rfl⟩, (ht _ k_213), (ht _ k_212)⟩ (pre_v hK hN hP (q0 := 0) (ci := 7) rfl rfl) rfl rfl hl.1 rfl (lv_room (Nat.le_of_ble_eq_true rfl)) dX7_reach_60 ⟨Nat.zero_le _, Nat.zero_le _⟩) ?_
                        refine lv_if_le (tgt := 76) hx hb dX7_reach_63 (by decide) (fun c15 => ?_) (fun c15 => ?_)
                        · replace hR := it_p c15 hR
                          refine lv_iload hx hb dX7_reach_76 (lv_at hl 3 rfl) ?_
                          refine lv_istore (lv' := [(5, .int x5_7), (0, .ref (ad 0)), (2, .int p2), (3, .int x3_1), (6, .int x6_5), (7, .int x7_8)]) hx hb dX7_reach_78 hl (by decide) rfl (fun ls hl => ?_)
                          refine lv_iinc (v := (x7_8 + 1)) (lv' := [(7, .int (x7_8 + 1)), (5, .int x5_7), (0, .ref (ad 0)), (2, .int p2), (3, .int x3_1), (6, .int x6_5)]) hx hb dX7_reach_80 hl (k := 5) rfl rfl (by decide) rfl (fun ls hl => ?_)
                          refine lv_goto (tgt := 28) hx hb dX7_reach_83 (by decide) ?_
                          cases hR
                          exact ih x5_7 (x7_8 + 1) o_x5_7 o_x7_8 hQ hk ls (lv_sub hl [2, 3, 4, 1, 5, 0] rfl)
                        · replace hR := it_n c15 hR
                          refine lv_iload hx hb dX7_reach_66 (lv_at hl 3 rfl) ?_
                          refine lv_iconst (v := 1) hx hb dX7_reach_68 (by decide) ?_
                          refine lv_iload hx hb dX7_reach_69 (lv_at hl 5 rfl) ?_
                          refine lv_ishl hx hb dX7_reach_71 ?_
                          refine lv_ior hx hb dX7_reach_72 ?_
                          refine lv_goto (tgt := 78) hx hb dX7_reach_73 (by decide) ?_
                          refine lv_istore (lv' := [(5, .int (x5_7 ||| ((1 : Int32) <<< (x7_8 &&& 31)))), (0, .ref (ad 0)), (2, .int p2), (3, .int x3_1), (6, .int x6_5), (7, .int x7_8)]) hx hb dX7_reach_78 hl (by decide) rfl (fun ls hl => ?_)
                          refine lv_iinc (v := (x7_8 + 1)) (lv' := [(7, .int (x7_8 + 1)), (5, .int (x5_7 ||| ((1 : Int32) <<< (x7_8 &&& 31)))), (0, .ref (ad 0)), (2, .int p2), (3, .int x3_1), (6, .int x6_5)]) hx hb dX7_reach_80 hl (k := 5) rfl rfl (by decide) rfl (fun ls hl => ?_)
                          refine lv_goto (tgt := 28) hx hb dX7_reach_83 (by decide) ?_
                          cases hR
                          exact ih (x5_7 ||| ((1 : Int32) <<< (x7_8 &&& 31))) (x7_8 + 1) o_x5_7 o_x7_8 hQ hk ls (lv_sub hl [2, 3, 4, 1, 5, 0] rfl)
              obtain ⟨⟨u17, u18⟩, hL, hR⟩ := ob hR
              try dsimp only at hR
              refine L28_16 300 x5_4 (0 : Int32) u17 u18 hL.symm (fun ls hl => ?_) ls (lv_sub hl [1, 2, 3, 4, 5, 0] rfl)
              refine lv_iinc (v := (x6_5 + 1)) (lv' := [(6, .int (x6_5 + 1)), (0, .ref (ad 0)), (2, .int p2), (3, .int x3_1), (5, .int u17), (7, .int u18)]) hx hb dX7_reach_86 hl (k := 4) rfl rfl (by decide) rfl (fun ls hl => ?_)
              refine lv_goto (tgt := 16) hx hb dX7_reach_89 (by decide) ?_
              cases hR
              exact ih u17 (x6_5 + 1) o_x5_4 o_x6_5 hQ hk ls (lv_sub hl [1, 2, 3, 4, 0] rfl)
        obtain ⟨⟨u20, u21⟩, hL, hR⟩ := ob hR
        try dsimp only at hR
        refine L16_19 300 x3_1 (0 : Int32) u20 u21 hL.symm (fun ls hl => ?_) ls (lv_sub hl [2, 3, 4, 1, 0] rfl)
        refine lv_iload hx hb dX7_reach_92 (lv_at hl 3 rfl) ?_
        refine lv_iload_n hx hb dX7_reach_94 rfl (lv_at hl 2 rfl) ?_
        refine lv_icmp_eq (tgt := 102) hx hb dX7_reach_95 (by decide) (fun c22 => ?_) (fun c22 => ?_)
        · replace hR := it_p c22 hR
          refine lv_iconst (v := 0) hx hb dX7_reach_102 (by decide) ?_
          refine lv_istore (lv' := [(4, .int (0 : Int32)), (0, .ref (ad 0)), (2, .int p2), (3, .int x3_1), (5, .int u20), (6, .int u21)]) hx hb dX7_reach_103 hl (by decide) rfl (fun ls hl => ?_)
          refine lv_iload hx hb dX7_reach_105 (lv_at hl 4 rfl) ?_
          refine lv_istore_n (lv' := [(3, .int u20), (4, .int (0 : Int32)), (0, .ref (ad 0)), (2, .int p2), (5, .int u20), (6, .int u21)]) hx hb dX7_reach_107 rfl hl (by decide) rfl (fun ls hl => ?_)
          refine lv_goto (tgt := 5) hx hb dX7_reach_108 (by decide) ?_
          cases hR
          exact ih u20 (0 : Int32) o_x3_1 o_x4_2 hQ hk ls (lv_sub hl [2, 3, 0, 1] rfl)
        · replace hR := it_n c22 hR
          refine lv_iconst (v := 1) hx hb dX7_reach_98 (by decide) ?_
          refine lv_goto (tgt := 103) hx hb dX7_reach_99 (by decide) ?_
          refine lv_istore (lv' := [(4, .int (1 : Int32)), (0, .ref (ad 0)), (2, .int p2), (3, .int x3_1), (5, .int u20), (6, .int u21)]) hx hb dX7_reach_103 hl (by decide) rfl (fun ls hl => ?_)
          refine lv_iload hx hb dX7_reach_105 (lv_at hl 4 rfl) ?_
          refine lv_istore_n (lv' := [(3, .int u20), (4, .int (1 : Int32)), (0, .ref (ad 0)), (2, .int p2), (5, .int u20), (6, .int u21)]) hx hb dX7_reach_107 rfl hl (by decide) rfl (fun ls hl => ?_)
          refine lv_goto (tgt := 5) hx hb dX7_reach_108 (by decide) ?_
          cases hR
          exact ih u20 (1 : Int32) o_x3_1 o_x4_2 hQ hk ls (lv_sub hl [2, 3, 0, 1] rfl)
  obtain ⟨⟨u24, u25⟩, hL, hR⟩ := ob hR
  try dsimp only at hR
  refine L5_23 300 p1 (1 : Int32) u24 u25 hL.symm (fun ls hl => ?_) ls (lv_sub hl [2, 4, 1, 0] rfl)
  refine lv_iload_n hx hb dX7_reach_111 rfl (lv_at hl 2 rfl) ?_
  cases hR
  exact W.iret hx hb hr (fun t ht _ => ⟨rfl, ht⟩) t_nil dX7_reach_112
abbrev RM_f_M_whence : Room := { frames := 2, cells := 0, slots := 0, locals := 49 }
abbrev W_M_whence : List Cond := .code yX7_whence cX7_whence 5 (some .int) :: tblG
set_option maxHeartbeats 4000000 in
set_option maxRecDepth 100000 in
theorem c_M_whence (l : Launch) (dC : Nat → ClassId) (dI : Nat → Nat → Nat) (ad : Nat → Nat) (tI tL tII tLL : ClassId) (thr : Int32) (sts : Int32) (wgt : Nat → Int32) (rwd : Nat → Int32) (up : Int64) (dn : Int64) (cel : Nat → Int64) (rig : Nat → Int64) (sum : Nat → Int64) (gp : Nat → Int32) (bst : Nat → Int32) (few : Int32) (p1 : Int32) (p2 : Int32) (R0 : Int32) (hR : some R0 = f_M_whence sts wgt p1 p2) : Met l yX7_whence W_M_whence RM_f_M_whence (roP (dC, dI) vwCl [(tI, .int), (tL, .long), (tII, .array .int), (tLL, .array .long)] (wM ad tI tL tII tLL thr sts wgt rwd up dn cel rig sum gp bst few) ([.ref (ad 0), .int p1, .int p2] : List Value)) (roQ (some (.int R0))) 0 0 (fun _ => False) := by
  refine Met.ofW (cc := cX7_whence) (maxL := 5) (ret := (some .int)) (by decide) rfl ?_
  intro p e s m args below meth c s₁ B hml hv
  obtain ⟨rfl, hP, hK, hN⟩ := hv
  have hx := B.exec
  have hb := B.bytes
  have hr := B.returns
  have hts := atoms_spec (ws := W_M_whence) B.pre
  have ht := fun (w : Cond) (h : w ∈ tblG) => hts w (List.mem_cons_of_mem _ h)
  have hown : s.vm.findClass RX7 = some m.cls := findClass_of_methodNamed B.named
  have hlocks := B.notSynchronized
  have hl := lv_entry ([.ref (ad 0), .int p1, .int p2] : List Value) (n := 5) (Nat.le_of_ble_eq_true rfl)
  rw [lg_entry_eq]
  generalize (lg_sl ([.ref (ad 0), .int p1, .int p2] : List Value) ++ List.replicate (5 - (lg_sl ([.ref (ad 0), .int p1, .int p2] : List Value)).length) Slot.unset).toArray = ls at hl ⊢
  have hl : lv_has ls 5 [(0, .ref (ad 0)), (1, .int p1), (2, .int p2)] := hl
  rw [f_M_whence] at hR
  refine lv_iconst (v := 0) hx hb dX7_whence_0 (by decide) ?_
  refine lv_istore_n (lv' := [(3, .int (0 : Int32)), (0, .ref (ad 0)), (1, .int p1), (2, .int p2)]) hx hb dX7_whence_1 rfl hl (by decide) rfl (fun ls hl => ?_)
  refine lv_iconst (v := 0) hx hb dX7_whence_2 (by decide) ?_
  refine lv_istore (lv' := [(4, .int (0 : Int32)), (3, .int (0 : Int32)), (0, .ref (ad 0)), (1, .int p1), (2, .int p2)]) hx hb dX7_whence_3 hl (by decide) rfl (fun ls hl => ?_)
  have L5_6 : ∀ (n : Nat) (x3_1 : Int32) (x4_2 : Int32), ∀ (o_x3_1 : Int32) (o_x4_2 : Int32), some (o_x3_1, o_x4_2) = f_M_whence_L5 sts wgt p1 p2 n x3_1 x4_2 → (∀ ls : Array Slot, lv_has ls 5 [(0, .ref (ad 0)), (1, .int p1), (2, .int p2), (3, .int o_x3_1), (4, .int o_x4_2)] → W p l e (headSpec W_M_whence RM_f_M_whence).room s m ([.ref (ad 0), .int p1, .int p2] : List Value).toArray below meth c s.heap [] 0 0 (MQ below (roQ (some (.int R0))) ([.ref (ad 0), .int p1, .int p2] : List Value).toArray s 0 0 (fun _ => False)) (F0 m 45 ls [])) → ∀ ls : Array Slot, lv_has ls 5 [(0, .ref (ad 0)), (1, .int p1), (2, .int p2), (3, .int x3_1), (4, .int x4_2)] → W p l e (headSpec W_M_whence RM_f_M_whence).room s m ([.ref (ad 0), .int p1, .int p2] : List Value).toArray below meth c s.heap [] 0 0 (MQ below (roQ (some (.int R0))) ([.ref (ad 0), .int p1, .int p2] : List Value).toArray s 0 0 (fun _ => False)) (F0 m 5 ls []) := by
    intro n
    induction n with
    | zero =>
      intro x3_1 x4_2 o_x3_1 o_x4_2 hR
      cases (show some _ = none from hR)
    | succ n ih =>
      intro x3_1 x4_2 o_x3_1 o_x4_2 hR hk ls hl
      rw [f_M_whence_L5_s] at hR
      obtain ⟨y, hR, hQ⟩ := ob hR
      replace hR := hR.symm
      rw [f_M_whence_B5] at hR
      refine lv_iload hx hb dX7_whence_5 (lv_at hl 4 rfl) ?_
      refine lv_aload_n hx hb dX7_whence_7 rfl (lv_at hl 0 rfl) ?_
      refine va_get (D := (dC, dI)) (ci := 7) (v := .int sts) (C := RX7) (T := TX7) (N := 12) hx hb ht hinX7 hown hK hP 0 rfl rfl 1 (by decide) (ht _ k_205) (fun _ h9 => h9) rfl dX7_whence_8 ?_
      refine lv_icmp_ge (tgt := 45) hx hb dX7_whence_11 (by decide) (fun c3 => ?_) (fun c3 => ?_)
      · replace hR := it_p c3 hR
        cases hR
        cases (show some _ = some _ from hQ)
        exact hk ls (lv_sub hl [0, 1, 2, 3, 4] rfl)
      · replace hR := it_n c3 hR
        refine lv_aload_n hx hb dX7_whence_14 rfl (lv_at hl 0 rfl) ?_
        refine lv_iconst (v := 1) hx hb dX7_whence_15 (by decide) ?_
        refine lv_iload hx hb dX7_whence_16 (lv_at hl 4 rfl) ?_
        refine lv_ishl hx hb dX7_whence_18 ?_
        refine lv_iload_n hx hb dX7_whence_19 rfl (lv_at hl 2 rfl) ?_
        obtain ⟨r4, hC, hR⟩ := ob hR
        try dsimp only at hR
        refine ro_calli (va_runV (As := [.int ((1 : Int32) <<< (x4_2 &&& 31)), .int p2]) (rest := []) ⟨hx, hb, hml, hown, ht⟩ (c_M_reach l dC dI ad tI tL tII tLL thr sts wgt rwd up dn cel rig sum gp bst few ((1 : Int32) <<< (x4_2 &&& 31)) p2 r4 hC.symm) ⟨callB_of 2 ht (goodG k_226) rfl rfl rfl (ht _ k_202) (ht _ k_227) (by decide +kernel) ⟨Nat.le_of_ble_eq_true rfl, Nat.le_of_ble_eq_true rfl⟩, (ht _ k_229), (ht _ k_228)⟩ (pre_v hK hN hP (q0 := 0) (ci := 7) rfl rfl) rfl rfl hl.1 rfl (lv_room (Nat.le_of_ble_eq_true rfl)) dX7_whence_20 ⟨Nat.zero_le _, Nat.zero_le _⟩) ?_
        refine lv_iload_n hx hb dX7_whence_23 rfl (lv_at hl 1 rfl) ?_
        refine lv_iand hx hb dX7_whence_24 ?_
        refine lv_if_eq (tgt := 37) hx hb dX7_whence_25 (by decide) (fun c5 => ?_) (fun c5 => ?_)
        · replace hR := it_p c5 hR
          refine lv_iload_n hx hb dX7_whence_37 rfl (lv_at hl 3 rfl) ?_
          refine lv_istore_n (lv' := [(3, .int x3_1), (0, .ref (ad 0)), (1, .int p1), (2, .int p2), (4, .int x4_2)]) hx hb dX7_whence_38 rfl hl (by decide) rfl (fun ls hl => ?_)
          refine lv_iinc (v := (x4_2 + 1)) (lv' := [(4, .int (x4_2 + 1)), (3, .int x3_1), (0, .ref (ad 0)), (1, .int p1), (2, .int p2)]) hx hb dX7_whence_39 hl (k := 4) rfl rfl (by decide) rfl (fun ls hl => ?_)
          refine lv_goto (tgt := 5) hx hb dX7_whence_42 (by decide) ?_
          cases hR
          exact ih x3_1 (x4_2 + 1) o_x3_1 o_x4_2 hQ hk ls (lv_sub hl [2, 3, 4, 1, 0] rfl)
        · replace hR := it_n c5 hR
          refine lv_iload_n hx hb dX7_whence_28 rfl (lv_at hl 3 rfl) ?_
          refine lv_iconst (v := 1) hx hb dX7_whence_29 (by decide) ?_
          refine lv_iload hx hb dX7_whence_30 (lv_at hl 4 rfl) ?_
          refine lv_ishl hx hb dX7_whence_32 ?_
          refine lv_ior hx hb dX7_whence_33 ?_
          refine lv_goto (tgt := 38) hx hb dX7_whence_34 (by decide) ?_
          refine lv_istore_n (lv' := [(3, .int (x3_1 ||| ((1 : Int32) <<< (x4_2 &&& 31)))), (0, .ref (ad 0)), (1, .int p1), (2, .int p2), (4, .int x4_2)]) hx hb dX7_whence_38 rfl hl (by decide) rfl (fun ls hl => ?_)
          refine lv_iinc (v := (x4_2 + 1)) (lv' := [(4, .int (x4_2 + 1)), (3, .int (x3_1 ||| ((1 : Int32) <<< (x4_2 &&& 31)))), (0, .ref (ad 0)), (1, .int p1), (2, .int p2)]) hx hb dX7_whence_39 hl (k := 4) rfl rfl (by decide) rfl (fun ls hl => ?_)
          refine lv_goto (tgt := 5) hx hb dX7_whence_42 (by decide) ?_
          cases hR
          exact ih (x3_1 ||| ((1 : Int32) <<< (x4_2 &&& 31))) (x4_2 + 1) o_x3_1 o_x4_2 hQ hk ls (lv_sub hl [2, 3, 4, 1, 0] rfl)
  obtain ⟨⟨u7, u8⟩, hL, hR⟩ := ob hR
  try dsimp only at hR
  refine L5_6 300 (0 : Int32) (0 : Int32) u7 u8 hL.symm (fun ls hl => ?_) ls (lv_sub hl [2, 3, 4, 1, 0] rfl)
  refine lv_iload_n hx hb dX7_whence_45 rfl (lv_at hl 3 rfl) ?_
  cases hR
  exact W.iret hx hb hr (fun t ht _ => ⟨rfl, ht⟩) t_nil dX7_whence_46
abbrev RM_f_M_partOf : Room := { frames := 3, cells := 0, slots := 0, locals := 73 }
abbrev W_M_partOf : List Cond := .code yX7_partOf cX7_partOf 2 (some .int) :: tblG
set_option maxHeartbeats 4000000 in
set_option maxRecDepth 100000 in
theorem c_M_partOf (l : Launch) (dC : Nat → ClassId) (dI : Nat → Nat → Nat) (ad : Nat → Nat) (tI tL tII tLL : ClassId) (thr : Int32) (sts : Int32) (wgt : Nat → Int32) (rwd : Nat → Int32) (up : Int64) (dn : Int64) (cel : Nat → Int64) (rig : Nat → Int64) (sum : Nat → Int64) (gp : Nat → Int32) (bst : Nat → Int32) (few : Int32) (p1 : Int32) (R0 : Int32) (hR : some R0 = f_M_partOf sts wgt p1) : Met l yX7_partOf W_M_partOf RM_f_M_partOf (roP (dC, dI) vwCl [(tI, .int), (tL, .long), (tII, .array .int), (tLL, .array .long)] (wM ad tI tL tII tLL thr sts wgt rwd up dn cel rig sum gp bst few) ([.ref (ad 0), .int p1] : List Value)) (roQ (some (.int R0))) 0 0 (fun _ => False) := by
  refine Met.ofW (cc := cX7_partOf) (maxL := 2) (ret := (some .int)) (by decide) rfl ?_
  intro p e s m args below meth c s₁ B hml hv
  obtain ⟨rfl, hP, hK, hN⟩ := hv
  have hx := B.exec
  have hb := B.bytes
  have hr := B.returns
  have hts := atoms_spec (ws := W_M_partOf) B.pre
  have ht := fun (w : Cond) (h : w ∈ tblG) => hts w (List.mem_cons_of_mem _ h)
  have hown : s.vm.findClass RX7 = some m.cls := findClass_of_methodNamed B.named
  have hlocks := B.notSynchronized
  have hl := lv_entry ([.ref (ad 0), .int p1] : List Value) (n := 2) (Nat.le_of_ble_eq_true rfl)
  rw [lg_entry_eq]
  generalize (lg_sl ([.ref (ad 0), .int p1] : List Value) ++ List.replicate (2 - (lg_sl ([.ref (ad 0), .int p1] : List Value)).length) Slot.unset).toArray = ls at hl ⊢
  have hl : lv_has ls 2 [(0, .ref (ad 0)), (1, .int p1)] := hl
  rw [f_M_partOf] at hR
  refine lv_aload_n hx hb dX7_partOf_0 rfl (lv_at hl 0 rfl) ?_
  refine lv_iconst (v := 1) hx hb dX7_partOf_1 (by decide) ?_
  refine lv_iload_n hx hb dX7_partOf_2 rfl (lv_at hl 1 rfl) ?_
  refine lv_ishl hx hb dX7_partOf_3 ?_
  refine lv_iconst (v := 0) hx hb dX7_partOf_4 (by decide) ?_
  obtain ⟨r1, hC, hR⟩ := ob hR
  try dsimp only at hR
  refine ro_calli (va_runV (As := [.int ((1 : Int32) <<< (p1 &&& 31)), .int (0 : Int32)]) (rest := []) ⟨hx, hb, hml, hown, ht⟩ (c_M_reach l dC dI ad tI tL tII tLL thr sts wgt rwd up dn cel rig sum gp bst few ((1 : Int32) <<< (p1 &&& 31)) (0 : Int32) r1 hC.symm) ⟨callB_of 2 ht (goodG k_226) rfl rfl rfl (ht _ k_202) (ht _ k_227) (by decide +kernel) ⟨Nat.le_of_ble_eq_true rfl, Nat.le_of_ble_eq_true rfl⟩, (ht _ k_229), (ht _ k_228)⟩ (pre_v hK hN hP (q0 := 0) (ci := 7) rfl rfl) rfl rfl hl.1 rfl (lv_room (Nat.le_of_ble_eq_true rfl)) dX7_partOf_5 ⟨Nat.zero_le _, Nat.zero_le _⟩) ?_
  refine lv_aload_n hx hb dX7_partOf_8 rfl (lv_at hl 0 rfl) ?_
  refine lv_iconst (v := 1) hx hb dX7_partOf_9 (by decide) ?_
  refine lv_iload_n hx hb dX7_partOf_10 rfl (lv_at hl 1 rfl) ?_
  refine lv_ishl hx hb dX7_partOf_11 ?_
  refine lv_iconst (v := 0) hx hb dX7_partOf_12 (by decide) ?_
  obtain ⟨r2, hC, hR⟩ := ob hR
  try dsimp only at hR
  refine ro_calli (va_runV (As := [.int ((1 : Int32) <<< (p1 &&& 31)), .int (0 : Int32)]) (rest := [.int r1]) ⟨hx, hb, hml, hown, ht⟩ (c_M_whence l dC dI ad tI tL tII tLL thr sts wgt rwd up dn cel rig sum gp bst few ((1 : Int32) <<< (p1 &&& 31)) (0 : Int32) r2 hC.symm) ⟨callB_of 2 ht (goodG k_230) rfl rfl rfl (ht _ k_202) (ht _ k_231) (by decide +kernel) ⟨Nat.le_of_ble_eq_true rfl, Nat.le_of_ble_eq_true rfl⟩, (ht _ k_233), (ht _ k_232)⟩ (pre_v hK hN hP (q0 := 0) (ci := 7) rfl rfl) rfl rfl hl.1 rfl (lv_room (Nat.le_of_ble_eq_true rfl)) dX7_partOf_13 ⟨Nat.zero_le _, Nat.zero_le _⟩) ?_
  refine lv_iand hx hb dX7_partOf_16 ?_
  cases hR
  exact W.iret hx hb hr (fun t ht _ => ⟨rfl, ht⟩) t_nil dX7_partOf_17
abbrev RM_f_M_isClosed : Room := { frames := 4, cells := 0, slots := 0, locals := 94 }
abbrev W_M_isClosed : List Cond := .code yX7_isClosed cX7_isClosed 2 (some .boolean) :: tblG
set_option maxHeartbeats 4000000 in
set_option maxRecDepth 100000 in
theorem c_M_isClosed (l : Launch) (dC : Nat → ClassId) (dI : Nat → Nat → Nat) (ad : Nat → Nat) (tI tL tII tLL : ClassId) (thr : Int32) (sts : Int32) (wgt : Nat → Int32) (rwd : Nat → Int32) (up : Int64) (dn : Int64) (cel : Nat → Int64) (rig : Nat → Int64) (sum : Nat → Int64) (gp : Nat → Int32) (bst : Nat → Int32) (few : Int32) (p1 : Int32) (R0 : Int32) (hR : some R0 = f_M_isClosed sts wgt p1) : Met l yX7_isClosed W_M_isClosed RM_f_M_isClosed (roP (dC, dI) vwCl [(tI, .int), (tL, .long), (tII, .array .int), (tLL, .array .long)] (wM ad tI tL tII tLL thr sts wgt rwd up dn cel rig sum gp bst few) ([.ref (ad 0), .int p1] : List Value)) (roQ (some (.int R0))) 0 0 (fun _ => False) := by
  refine Met.ofW (cc := cX7_isClosed) (maxL := 2) (ret := (some .boolean)) (by decide) rfl ?_
  intro p e s m args below meth c s₁ B hml hv
  obtain ⟨rfl, hP, hK, hN⟩ := hv
  have hx := B.exec
  have hb := B.bytes
  have hr := B.returns
  have hts := atoms_spec (ws := W_M_isClosed) B.pre
  have ht := fun (w : Cond) (h : w ∈ tblG) => hts w (List.mem_cons_of_mem _ h)
  have hown : s.vm.findClass RX7 = some m.cls := findClass_of_methodNamed B.named
  have hlocks := B.notSynchronized
  have hl := lv_entry ([.ref (ad 0), .int p1] : List Value) (n := 2) (Nat.le_of_ble_eq_true rfl)
  rw [lg_entry_eq]
  generalize (lg_sl ([.ref (ad 0), .int p1] : List Value) ++ List.replicate (2 - (lg_sl ([.ref (ad 0), .int p1] : List Value)).length) Slot.unset).toArray = ls at hl ⊢
  have hl : lv_has ls 2 [(0, .ref (ad 0)), (1, .int p1)] := hl
  rw [f_M_isClosed] at hR
  refine lv_aload_n hx hb dX7_isClosed_0 rfl (lv_at hl 0 rfl) ?_
  refine lv_iconst (v := 1) hx hb dX7_isClosed_1 (by decide) ?_
  refine lv_iload_n hx hb dX7_isClosed_2 rfl (lv_at hl 1 rfl) ?_
  refine lv_ishl hx hb dX7_isClosed_3 ?_
  refine lv_iconst (v := 0) hx hb dX7_isClosed_4 (by decide) ?_
  obtain ⟨r1, hC, hR⟩ := ob hR
  try dsimp only at hR
  refine ro_calli (va_runV (As := [.int ((1 : Int32) <<< (p1 &&& 31)), .int (0 : Int32)]) (rest := []) ⟨hx, hb, hml, hown, ht⟩ (c_M_reach l dC dI ad tI tL tII tLL thr sts wgt rwd up dn cel rig sum gp bst few ((1 : Int32) <<< (p1 &&& 31)) (0 : Int32) r1 hC.symm) ⟨callB_of 2 ht (goodG k_226) rfl rfl rfl (ht _ k_202) (ht _ k_227) (by decide +kernel) ⟨Nat.le_of_ble_eq_true rfl, Nat.le_of_ble_eq_true rfl⟩, (ht _ k_229), (ht _ k_228)⟩ (pre_v hK hN hP (q0 := 0) (ci := 7) rfl rfl) rfl rfl hl.1 rfl (lv_room (Nat.le_of_ble_eq_true rfl)) dX7_isClosed_5 ⟨Nat.zero_le _, Nat.zero_le _⟩) ?_
  refine lv_aload_n hx hb dX7_isClosed_8 rfl (lv_at hl 0 rfl) ?_
  refine lv_iload_n hx hb dX7_isClosed_9 rfl (lv_at hl 1 rfl) ?_
  obtain ⟨r2, hC, hR⟩ := ob hR
  try dsimp only at hR
  refine ro_calli (va_runV (As := [.int p1]) (rest := [.int r1]) ⟨hx, hb, hml, hown, ht⟩ (c_M_partOf l dC dI ad tI tL tII tLL thr sts wgt rwd up dn cel rig sum gp bst few p1 r2 hC.symm) ⟨callB_of 1 ht (goodG k_234) rfl rfl rfl (ht _ k_202) (ht _ k_235) (by decide +kernel) ⟨Nat.le_of_ble_eq_true rfl, Nat.le_of_ble_eq_true rfl⟩, (ht _ k_237), (ht _ k_236)⟩ (pre_v hK hN hP (q0 := 0) (ci := 7) rfl rfl) rfl rfl hl.1 rfl (lv_room (Nat.le_of_ble_eq_true rfl)) dX7_isClosed_10 ⟨Nat.zero_le _, Nat.zero_le _⟩) ?_
  refine lv_iconst (v := (-1)) hx hb dX7_isClosed_13 (by decide) ?_
  refine lv_ixor hx hb dX7_isClosed_14 ?_
  refine lv_iand hx hb dX7_isClosed_15 ?_
  refine lv_if_ne (tgt := 23) hx hb dX7_isClosed_16 (by decide) (fun c3 => ?_) (fun c3 => ?_)
  · replace hR := it_n c3 hR
    refine lv_iconst (v := 0) hx hb dX7_isClosed_23 (by decide) ?_
    cases hR
    exact W.zret hx hb hr rfl (fun t ht _ => ⟨rfl, ht⟩) t_nil dX7_isClosed_24
  · replace hR := it_p c3 hR
    refine lv_iconst (v := 1) hx hb dX7_isClosed_19 (by decide) ?_
    refine lv_goto (tgt := 24) hx hb dX7_isClosed_20 (by decide) ?_
    cases hR
    exact W.zret hx hb hr rfl (fun t ht _ => ⟨rfl, ht⟩) t_nil dX7_isClosed_24
abbrev RM_f_M_part : Room := { frames := 4, cells := 0, slots := 0, locals := 94 }
abbrev W_M_part : List Cond := .code yX7_part cX7_part 2 (some .int) :: tblG
set_option maxHeartbeats 4000000 in
set_option maxRecDepth 100000 in
theorem c_M_part (l : Launch) (dC : Nat → ClassId) (dI : Nat → Nat → Nat) (ad : Nat → Nat) (tI tL tII tLL : ClassId) (thr : Int32) (sts : Int32) (wgt : Nat → Int32) (rwd : Nat → Int32) (up : Int64) (dn : Int64) (cel : Nat → Int64) (rig : Nat → Int64) (sum : Nat → Int64) (gp : Nat → Int32) (bst : Nat → Int32) (few : Int32) (p1 : Int32) (R0 : Int32) (R_thr : Int32) (hR : some (R0, R_thr) = f_M_part sts wgt p1) : Met l yX7_part W_M_part RM_f_M_part (rwP (dC, dI) vwCl [(tI, .int), (tL, .long), (tII, .array .int), (tLL, .array .long)] (wM ad tI tL tII tLL thr sts wgt rwd up dn cel rig sum gp bst few) ([.ref (ad 0), .int p1] : List Value)) (rwQ (dC, dI) vwCl (wM ad tI tL tII tLL R_thr sts wgt rwd up dn cel rig sum gp bst few) (some (.int R0)) (rwA (wM ad tI tL tII tLL thr sts wgt rwd up dn cel rig sum gp bst few))) 0 0 (rwA (wM ad tI tL tII tLL thr sts wgt rwd up dn cel rig sum gp bst few)) := by
  refine Met.ofW (cc := cX7_part) (maxL := 2) (ret := (some .int)) (by decide) rfl ?_
  intro p e s m args below meth c s₁ B hml hv
  obtain ⟨rfl, hP, hK, hN, hD⟩ := hv
  have hx := B.exec
  have hb := B.bytes
  have hr := B.returns
  have hts := atoms_spec (ws := W_M_part) B.pre
  have ht := fun (w : Cond) (h : w ∈ tblG) => hts w (List.mem_cons_of_mem _ h)
  have hown : s.vm.findClass RX7 = some m.cls := findClass_of_methodNamed B.named
  have hlocks := B.notSynchronized
  have hl := lv_entry ([.ref (ad 0), .int p1] : List Value) (n := 2) (Nat.le_of_ble_eq_true rfl)
  rw [lg_entry_eq]
  generalize (lg_sl ([.ref (ad 0), .int p1] : List Value) ++ List.replicate (2 - (lg_sl ([.ref (ad 0), .int p1] : List Value)).length) Slot.unset).toArray = ls at hl ⊢
  have hl : lv_has ls 2 [(0, .ref (ad 0)), (1, .int p1)] := hl
  have hD := hD.own
  have hS : va_S (rwA (wM ad tI tL tII tLL thr sts wgt rwd up dn cel rig sum gp bst few)) s.heap s.heap [] := va_S.rf
  suffices K : ∀ (H : Heap) (locs : List Loc), va_P (dC, dI) vwCl (wM ad tI tL tII tLL thr sts wgt rwd up dn cel rig sum gp bst few) H → va_D (rwA (wM ad tI tL tII tLL thr sts wgt rwd up dn cel rig sum gp bst few)) (wM ad tI tL tII tLL thr sts wgt rwd up dn cel rig sum gp bst few) → va_S (rwA (wM ad tI tL tII tLL thr sts wgt rwd up dn cel rig sum gp bst few)) s.heap H locs → W p l e (headSpec W_M_part RM_f_M_part).room s m ([.ref (ad 0), .int p1] : List Value).toArray below meth c H locs 0 0 (MQ below (rwQ (dC, dI) vwCl (wM ad tI tL tII tLL R_thr sts wgt rwd up dn cel rig sum gp bst few) (some (.int R0)) (rwA (wM ad tI tL tII tLL thr sts wgt rwd up dn cel rig sum gp bst few))) ([.ref (ad 0), .int p1] : List Value).toArray s 0 0 (rwA (wM ad tI tL tII tLL thr sts wgt rwd up dn cel rig sum gp bst few))) (F0 m 0 ls []) from K s.heap [] hP hD hS
  clear hP hD hS
  intro H locs hP hD hS
  rw [f_M_part] at hR
  refine lv_aload_n hx hb dX7_part_0 rfl (lv_at hl 0 rfl) ?_
  refine lv_iconst (v := 0) hx hb dX7_part_1 (by decide) ?_
  refine va_put (D := (dC, dI)) (ci := 7) (v := .int (0 : Int32)) (ty := .int) (C := RX7) (T := TX7) (N := 12) hx hb ht hinX7 tyX7 tyX7_ok nmX7 hown hK hP hD hS 0 rfl rfl 0 (by decide) (ht _ k_220) (fun _ h9 => h9) rfl (by decide +kernel) rfl rfl (Nat.le_of_ble_eq_true rfl) dX7_part_2 (fun H locs hP hD hS => ?_)
  have hP : va_P (dC, dI) vwCl (wM ad tI tL tII tLL (0 : Int32) sts wgt rwd up dn cel rig sum gp bst few) H := hP
  have hD : va_D (rwA (wM ad tI tL tII tLL thr sts wgt rwd up dn cel rig sum gp bst few)) (wM ad tI tL tII tLL (0 : Int32) sts wgt rwd up dn cel rig sum gp bst few) := hD
  refine lv_aload_n hx hb dX7_part_5 rfl (lv_at hl 0 rfl) ?_
  refine lv_iload_n hx hb dX7_part_6 rfl (lv_at hl 1 rfl) ?_
  obtain ⟨r1, hC, hR⟩ := ob hR
  try dsimp only at hR
  refine ro_calli (va_runV (As := [.int p1]) (rest := []) ⟨hx, hb, hml, hown, ht⟩ (c_M_isState l dC dI ad tI tL tII tLL (0 : Int32) sts wgt rwd up dn cel rig sum gp bst few p1 r1 hC.symm) ⟨callB_of 1 ht (goodG k_222) rfl rfl rfl (ht _ k_202) (ht _ k_223) (by decide +kernel) ⟨Nat.le_of_ble_eq_true rfl, Nat.le_of_ble_eq_true rfl⟩, (ht _ k_225), (ht _ k_224)⟩ (pre_v hK hN hP (q0 := 0) (ci := 7) rfl rfl) rfl rfl hl.1 rfl (lv_room (Nat.le_of_ble_eq_true rfl)) dX7_part_7 ⟨Nat.zero_le _, Nat.zero_le _⟩) ?_
  refine lv_if_eq (tgt := 24) hx hb dX7_part_10 (by decide) (fun c2 => ?_) (fun c2 => ?_)
  · replace hR := it_p c2 hR
    refine lv_iconst (v := (-1)) hx hb dX7_part_24 (by decide) ?_
    cases hR
    exact W.iret hx hb hr (fun t ht _ => ⟨rfl, by rw [ht]; exact hP, hS.F ht⟩) hS.2.2 dX7_part_25
  · replace hR := it_n c2 hR
    refine lv_aload_n hx hb dX7_part_13 rfl (lv_at hl 0 rfl) ?_
    refine lv_iload_n hx hb dX7_part_14 rfl (lv_at hl 1 rfl) ?_
    obtain ⟨r3, hC, hR⟩ := ob hR
    try dsimp only at hR
    refine ro_calli (va_runV (As := [.int p1]) (rest := []) ⟨hx, hb, hml, hown, ht⟩ (c_M_partOf l dC dI ad tI tL tII tLL (0 : Int32) sts wgt rwd up dn cel rig sum gp bst few p1 r3 hC.symm) ⟨callB_of 1 ht (goodG k_234) rfl rfl rfl (ht _ k_202) (ht _ k_235) (by decide +kernel) ⟨Nat.le_of_ble_eq_true rfl, Nat.le_of_ble_eq_true rfl⟩, (ht _ k_237), (ht _ k_236)⟩ (pre_v hK hN hP (q0 := 0) (ci := 7) rfl rfl) rfl rfl hl.1 rfl (lv_room (Nat.le_of_ble_eq_true rfl)) dX7_part_15 ⟨Nat.zero_le _, Nat.zero_le _⟩) ?_
    obtain ⟨r4, hC, hR⟩ := ob hR
    try dsimp only at hR
    refine ro_calli (va_runS (As := [.int r3]) (rest := []) ⟨hx, hb, hml, hown, ht⟩ (c_M_least l dC dI ad tI tL tII tLL  r3 r4 hC.symm) ⟨callB_of 1 ht (goodG k_238) rfl rfl rfl (ht _ k_202) (ht _ k_239) (by decide +kernel) ⟨Nat.le_of_ble_eq_true rfl, Nat.le_of_ble_eq_true rfl⟩, (ht _ k_240)⟩ (pre_s hK hN (hP.sub (ws' := []) [] rfl)) rfl rfl hl.1 rfl (lv_room (Nat.le_of_ble_eq_true rfl)) dX7_part_18 ⟨Nat.zero_le _, Nat.zero_le _⟩) ?_
    refine lv_goto (tgt := 25) hx hb dX7_part_21 (by decide) ?_
    cases hR
    exact W.iret hx hb hr (fun t ht _ => ⟨rfl, by rw [ht]; exact hP, hS.F ht⟩) hS.2.2 dX7_part_25
abbrev RM_f_M_closed : Room := { frames := 5, cells := 0, slots := 0, locals := 115 }
abbrev W_M_closed : List Cond := .code yX7_closed cX7_closed 2 (some .int) :: tblG
set_option maxHeartbeats 4000000 in
set_option maxRecDepth 100000 in
theorem c_M_closed (l : Launch) (dC : Nat → ClassId) (dI : Nat → Nat → Nat) (ad : Nat → Nat) (tI tL tII tLL : ClassId) (thr : Int32) (sts : Int32) (wgt : Nat → Int32) (rwd : Nat → Int32) (up : Int64) (dn : Int64) (cel : Nat → Int64) (rig : Nat → Int64) (sum : Nat → Int64) (gp : Nat → Int32) (bst : Nat → Int32) (few : Int32) (p1 : Int32) (R0 : Int32) (R_thr : Int32) (hR : some (R0, R_thr) = f_M_closed sts wgt p1) : Met l yX7_closed W_M_closed RM_f_M_closed (rwP (dC, dI) vwCl [(tI, .int), (tL, .long), (tII, .array .int), (tLL, .array .long)] (wM ad tI tL tII tLL thr sts wgt rwd up dn cel rig sum gp bst few) ([.ref (ad 0), .int p1] : List Value)) (rwQ (dC, dI) vwCl (wM ad tI tL tII tLL R_thr sts wgt rwd up dn cel rig sum gp bst few) (some (.int R0)) (rwA (wM ad tI tL tII tLL thr sts wgt rwd up dn cel rig sum gp bst few))) 0 0 (rwA (wM ad tI tL tII tLL thr sts wgt rwd up dn cel rig sum gp bst few)) := by
  refine Met.ofW (cc := cX7_closed) (maxL := 2) (ret := (some .int)) (by decide) rfl ?_
  intro p e s m args below meth c s₁ B hml hv
  obtain ⟨rfl, hP, hK, hN, hD⟩ := hv
  have hx := B.exec
  have hb := B.bytes
  have hr := B.returns
  have hts := atoms_spec (ws := W_M_closed) B.pre
  have ht := fun (w : Cond) (h : w ∈ tblG) => hts w (List.mem_cons_of_mem _ h)
  have hown : s.vm.findClass RX7 = some m.cls := findClass_of_methodNamed B.named
  have hlocks := B.notSynchronized
  have hl := lv_entry ([.ref (ad 0), .int p1] : List Value) (n := 2) (Nat.le_of_ble_eq_true rfl)
  rw [lg_entry_eq]
  generalize (lg_sl ([.ref (ad 0), .int p1] : List Value) ++ List.replicate (2 - (lg_sl ([.ref (ad 0), .int p1] : List Value)).length) Slot.unset).toArray = ls at hl ⊢
  have hl : lv_has ls 2 [(0, .ref (ad 0)), (1, .int p1)] := hl
  have hD := hD.own
  have hS : va_S (rwA (wM ad tI tL tII tLL thr sts wgt rwd up dn cel rig sum gp bst few)) s.heap s.heap [] := va_S.rf
  suffices K : ∀ (H : Heap) (locs : List Loc), va_P (dC, dI) vwCl (wM ad tI tL tII tLL thr sts wgt rwd up dn cel rig sum gp bst few) H → va_D (rwA (wM ad tI tL tII tLL thr sts wgt rwd up dn cel rig sum gp bst few)) (wM ad tI tL tII tLL thr sts wgt rwd up dn cel rig sum gp bst few) → va_S (rwA (wM ad tI tL tII tLL thr sts wgt rwd up dn cel rig sum gp bst few)) s.heap H locs → W p l e (headSpec W_M_closed RM_f_M_closed).room s m ([.ref (ad 0), .int p1] : List Value).toArray below meth c H locs 0 0 (MQ below (rwQ (dC, dI) vwCl (wM ad tI tL tII tLL R_thr sts wgt rwd up dn cel rig sum gp bst few) (some (.int R0)) (rwA (wM ad tI tL tII tLL thr sts wgt rwd up dn cel rig sum gp bst few))) ([.ref (ad 0), .int p1] : List Value).toArray s 0 0 (rwA (wM ad tI tL tII tLL thr sts wgt rwd up dn cel rig sum gp bst few))) (F0 m 0 ls []) from K s.heap [] hP hD hS
  clear hP hD hS
  intro H locs hP hD hS
  rw [f_M_closed] at hR
  refine lv_aload_n hx hb dX7_closed_0 rfl (lv_at hl 0 rfl) ?_
  refine lv_iconst (v := 0) hx hb dX7_closed_1 (by decide) ?_
  refine va_put (D := (dC, dI)) (ci := 7) (v := .int (0 : Int32)) (ty := .int) (C := RX7) (T := TX7) (N := 12) hx hb ht hinX7 tyX7 tyX7_ok nmX7 hown hK hP hD hS 0 rfl rfl 0 (by decide) (ht _ k_220) (fun _ h9 => h9) rfl (by decide +kernel) rfl rfl (Nat.le_of_ble_eq_true rfl) dX7_closed_2 (fun H locs hP hD hS => ?_)
  have hP : va_P (dC, dI) vwCl (wM ad tI tL tII tLL (0 : Int32) sts wgt rwd up dn cel rig sum gp bst few) H := hP
  have hD : va_D (rwA (wM ad tI tL tII tLL thr sts wgt rwd up dn cel rig sum gp bst few)) (wM ad tI tL tII tLL (0 : Int32) sts wgt rwd up dn cel rig sum gp bst few) := hD
  refine lv_aload_n hx hb dX7_closed_5 rfl (lv_at hl 0 rfl) ?_
  refine lv_iload_n hx hb dX7_closed_6 rfl (lv_at hl 1 rfl) ?_
  obtain ⟨r1, hC, hR⟩ := ob hR
  try dsimp only at hR
  refine ro_calli (va_runV (As := [.int p1]) (rest := []) ⟨hx, hb, hml, hown, ht⟩ (c_M_isState l dC dI ad tI tL tII tLL (0 : Int32) sts wgt rwd up dn cel rig sum gp bst few p1 r1 hC.symm) ⟨callB_of 1 ht (goodG k_222) rfl rfl rfl (ht _ k_202) (ht _ k_223) (by decide +kernel) ⟨Nat.le_of_ble_eq_true rfl, Nat.le_of_ble_eq_true rfl⟩, (ht _ k_225), (ht _ k_224)⟩ (pre_v hK hN hP (q0 := 0) (ci := 7) rfl rfl) rfl rfl hl.1 rfl (lv_room (Nat.le_of_ble_eq_true rfl)) dX7_closed_7 ⟨Nat.zero_le _, Nat.zero_le _⟩) ?_
  refine lv_if_ne (tgt := 17) hx hb dX7_closed_10 (by decide) (fun c2 => ?_) (fun c2 => ?_)
  · replace hR := it_n c2 hR
    refine lv_aload_n hx hb dX7_closed_17 rfl (lv_at hl 0 rfl) ?_
    refine lv_iload_n hx hb dX7_closed_18 rfl (lv_at hl 1 rfl) ?_
    obtain ⟨r3, hC, hR⟩ := ob hR
    try dsimp only at hR
    refine ro_calli (va_runV (As := [.int p1]) (rest := []) ⟨hx, hb, hml, hown, ht⟩ (c_M_isClosed l dC dI ad tI tL tII tLL (0 : Int32) sts wgt rwd up dn cel rig sum gp bst few p1 r3 hC.symm) ⟨callB_of 1 ht (goodG k_241) rfl rfl rfl (ht _ k_202) (ht _ k_242) (by decide +kernel) ⟨Nat.le_of_ble_eq_true rfl, Nat.le_of_ble_eq_true rfl⟩, (ht _ k_244), (ht _ k_243)⟩ (pre_v hK hN hP (q0 := 0) (ci := 7) rfl rfl) rfl rfl hl.1 rfl (lv_room (Nat.le_of_ble_eq_true rfl)) dX7_closed_19 ⟨Nat.zero_le _, Nat.zero_le _⟩) ?_
    refine lv_if_eq (tgt := 29) hx hb dX7_closed_22 (by decide) (fun c4 => ?_) (fun c4 => ?_)
    · replace hR := it_p c4 hR
      refine lv_iconst (v := 0) hx hb dX7_closed_29 (by decide) ?_
      cases hR
      exact W.iret hx hb hr (fun t ht _ => ⟨rfl, by rw [ht]; exact hP, hS.F ht⟩) hS.2.2 dX7_closed_30
    · replace hR := it_n c4 hR
      refine lv_iconst (v := 1) hx hb dX7_closed_25 (by decide) ?_
      refine lv_goto (tgt := 30) hx hb dX7_closed_26 (by decide) ?_
      cases hR
      exact W.iret hx hb hr (fun t ht _ => ⟨rfl, by rw [ht]; exact hP, hS.F ht⟩) hS.2.2 dX7_closed_30
  · replace hR := it_p c2 hR
    refine lv_iconst (v := (-1)) hx hb dX7_closed_13 (by decide) ?_
    refine lv_goto (tgt := 30) hx hb dX7_closed_14 (by decide) ?_
    cases hR
    exact W.iret hx hb hr (fun t ht _ => ⟨rfl, by rw [ht]; exact hP, hS.F ht⟩) hS.2.2 dX7_closed_30
abbrev RM_f_M_period : Room := { frames := 3, cells := 0, slots := 0, locals := 66 }
abbrev W_M_period : List Cond := .code yX7_period cX7_period 8 (some .int) :: tblG
set_option maxHeartbeats 4000000 in
set_option maxRecDepth 100000 in
theorem c_M_period (l : Launch) (dC : Nat → ClassId) (dI : Nat → Nat → Nat) (ad : Nat → Nat) (tI tL tII tLL : ClassId) (thr : Int32) (sts : Int32) (wgt : Nat → Int32) (rwd : Nat → Int32) (up : Int64) (dn : Int64) (cel : Nat → Int64) (rig : Nat → Int64) (sum : Nat → Int64) (gp : Nat → Int32) (bst : Nat → Int32) (few : Int32) (p1 : Int32) (R0 : Int32) (R_thr : Int32) (hR : some (R0, R_thr) = f_M_period sts wgt p1) : Met l yX7_period W_M_period RM_f_M_period (rwP (dC, dI) vwCl [(tI, .int), (tL, .long), (tII, .array .int), (tLL, .array .long)] (wM ad tI tL tII tLL thr sts wgt rwd up dn cel rig sum gp bst few) ([.ref (ad 0), .int p1] : List Value)) (rwQ (dC, dI) vwCl (wM ad tI tL tII tLL R_thr sts wgt rwd up dn cel rig sum gp bst few) (some (.int R0)) (rwA (wM ad tI tL tII tLL thr sts wgt rwd up dn cel rig sum gp bst few))) 0 0 (rwA (wM ad tI tL tII tLL thr sts wgt rwd up dn cel rig sum gp bst few)) := by
  refine Met.ofW (cc := cX7_period) (maxL := 8) (ret := (some .int)) (by decide) rfl ?_
  intro p e s m args below meth c s₁ B hml hv
  obtain ⟨rfl, hP, hK, hN, hD⟩ := hv
  have hx := B.exec
  have hb := B.bytes
  have hr := B.returns
  have hts := atoms_spec (ws := W_M_period) B.pre
  have ht := fun (w : Cond) (h : w ∈ tblG) => hts w (List.mem_cons_of_mem _ h)
  have hown : s.vm.findClass RX7 = some m.cls := findClass_of_methodNamed B.named
  have hlocks := B.notSynchronized
  have hl := lv_entry ([.ref (ad 0), .int p1] : List Value) (n := 8) (Nat.le_of_ble_eq_true rfl)
  rw [lg_entry_eq]
  generalize (lg_sl ([.ref (ad 0), .int p1] : List Value) ++ List.replicate (8 - (lg_sl ([.ref (ad 0), .int p1] : List Value)).length) Slot.unset).toArray = ls at hl ⊢
  have hl : lv_has ls 8 [(0, .ref (ad 0)), (1, .int p1)] := hl
  have hD := hD.own
  have hS : va_S (rwA (wM ad tI tL tII tLL thr sts wgt rwd up dn cel rig sum gp bst few)) s.heap s.heap [] := va_S.rf
  suffices K : ∀ (H : Heap) (locs : List Loc), va_P (dC, dI) vwCl (wM ad tI tL tII tLL thr sts wgt rwd up dn cel rig sum gp bst few) H → va_D (rwA (wM ad tI tL tII tLL thr sts wgt rwd up dn cel rig sum gp bst few)) (wM ad tI tL tII tLL thr sts wgt rwd up dn cel rig sum gp bst few) → va_S (rwA (wM ad tI tL tII tLL thr sts wgt rwd up dn cel rig sum gp bst few)) s.heap H locs → W p l e (headSpec W_M_period RM_f_M_period).room s m ([.ref (ad 0), .int p1] : List Value).toArray below meth c H locs 0 0 (MQ below (rwQ (dC, dI) vwCl (wM ad tI tL tII tLL R_thr sts wgt rwd up dn cel rig sum gp bst few) (some (.int R0)) (rwA (wM ad tI tL tII tLL thr sts wgt rwd up dn cel rig sum gp bst few))) ([.ref (ad 0), .int p1] : List Value).toArray s 0 0 (rwA (wM ad tI tL tII tLL thr sts wgt rwd up dn cel rig sum gp bst few))) (F0 m 0 ls []) from K s.heap [] hP hD hS
  clear hP hD hS
  intro H locs hP hD hS
  rw [f_M_period] at hR
  refine lv_aload_n hx hb dX7_period_0 rfl (lv_at hl 0 rfl) ?_
  refine lv_iconst (v := 0) hx hb dX7_period_1 (by decide) ?_
  refine va_put (D := (dC, dI)) (ci := 7) (v := .int (0 : Int32)) (ty := .int) (C := RX7) (T := TX7) (N := 12) hx hb ht hinX7 tyX7 tyX7_ok nmX7 hown hK hP hD hS 0 rfl rfl 0 (by decide) (ht _ k_220) (fun _ h9 => h9) rfl (by decide +kernel) rfl rfl (Nat.le_of_ble_eq_true rfl) dX7_period_2 (fun H locs hP hD hS => ?_)
  have hP : va_P (dC, dI) vwCl (wM ad tI tL tII tLL (0 : Int32) sts wgt rwd up dn cel rig sum gp bst few) H := hP
  have hD : va_D (rwA (wM ad tI tL tII tLL thr sts wgt rwd up dn cel rig sum gp bst few)) (wM ad tI tL tII tLL (0 : Int32) sts wgt rwd up dn cel rig sum gp bst few) := hD
  refine lv_aload_n hx hb dX7_period_5 rfl (lv_at hl 0 rfl) ?_
  refine lv_iload_n hx hb dX7_period_6 rfl (lv_at hl 1 rfl) ?_
  obtain ⟨r1, hC, hR⟩ := ob hR
  try dsimp only at hR
  refine ro_calli (va_runV (As := [.int p1]) (rest := []) ⟨hx, hb, hml, hown, ht⟩ (c_M_isState l dC dI ad tI tL tII tLL (0 : Int32) sts wgt rwd up dn cel rig sum gp bst few p1 r1 hC.symm) ⟨callB_of 1 ht (goodG k_222) rfl rfl rfl (ht _ k_202) (ht _ k_223) (by decide +kernel) ⟨Nat.le_of_ble_eq_true rfl, Nat.le_of_ble_eq_true rfl⟩, (ht _ k_225), (ht _ k_224)⟩ (pre_v hK hN hP (q0 := 0) (ci := 7) rfl rfl) rfl rfl hl.1 rfl (lv_room (Nat.le_of_ble_eq_true rfl)) dX7_period_7 ⟨Nat.zero_le _, Nat.zero_le _⟩) ?_
  refine lv_if_ne (tgt := 15) hx hb dX7_period_10 (by decide) (fun c2 => ?_) (fun c2 => ?_)
  · replace hR := it_n c2 hR
    refine lv_aload_n hx hb dX7_period_15 rfl (lv_at hl 0 rfl) ?_
    refine lv_iload_n hx hb dX7_period_16 rfl (lv_at hl 1 rfl) ?_
    obtain ⟨r3, hC, hR⟩ := ob hR
    try dsimp only at hR
    refine ro_calli (va_runV (As := [.int p1]) (rest := []) ⟨hx, hb, hml, hown, ht⟩ (c_M_isEnd l dC dI ad tI tL tII tLL (0 : Int32) sts wgt rwd up dn cel rig sum gp bst few p1 r3 hC.symm) ⟨callB_of 1 ht (goodG k_245) rfl rfl rfl (ht _ k_202) (ht _ k_246) (by decide +kernel) ⟨Nat.le_of_ble_eq_true rfl, Nat.le_of_ble_eq_true rfl⟩, (ht _ k_248), (ht _ k_247)⟩ (pre_v hK hN hP (q0 := 0) (ci := 7) rfl rfl) rfl rfl hl.1 rfl (lv_room (Nat.le_of_ble_eq_true rfl)) dX7_period_17 ⟨Nat.zero_le _, Nat.zero_le _⟩) ?_
    refine lv_if_eq (tgt := 25) hx hb dX7_period_20 (by decide) (fun c4 => ?_) (fun c4 => ?_)
    · replace hR := it_p c4 hR
      refine lv_iconst (v := 1) hx hb dX7_period_25 (by decide) ?_
      refine lv_iload_n hx hb dX7_period_26 rfl (lv_at hl 1 rfl) ?_
      refine lv_ishl hx hb dX7_period_27 ?_
      refine lv_istore_n (lv' := [(2, .int ((1 : Int32) <<< (p1 &&& 31))), (0, .ref (ad 0)), (1, .int p1)]) hx hb dX7_period_28 rfl hl (by decide) rfl (fun ls hl => ?_)
      refine lv_iconst (v := 0) hx hb dX7_period_29 (by decide) ?_
      refine lv_istore_n (lv' := [(3, .int (0 : Int32)), (2, .int ((1 : Int32) <<< (p1 &&& 31))), (0, .ref (ad 0)), (1, .int p1)]) hx hb dX7_period_30 rfl hl (by decide) rfl (fun ls hl => ?_)
      refine lv_iconst (v := 1) hx hb dX7_period_31 (by decide) ?_
      refine lv_istore (lv' := [(4, .int (1 : Int32)), (3, .int (0 : Int32)), (2, .int ((1 : Int32) <<< (p1 &&& 31))), (0, .ref (ad 0)), (1, .int p1)]) hx hb dX7_period_32 hl (by decide) rfl (fun ls hl => ?_)
      have L34_35 : ∀ (thr_8 : Int32), ∀ (n : Nat) (x2_5 : Int32) (x3_6 : Int32) (x4_7 : Int32), ∀ (o_x2_5 : Int32) (o_x3_6 : Int32) (o_x4_7 : Int32), some (o_x2_5, o_x3_6, o_x4_7) = f_M_period_L34 sts wgt p1 n x2_5 x3_6 x4_7 → (∀ (H : Heap) (locs : List Loc), va_P (dC, dI) vwCl (wM ad tI tL tII tLL thr_8 sts wgt rwd up dn cel rig sum gp bst few) H → va_D (rwA (wM ad tI tL tII tLL thr sts wgt rwd up dn cel rig sum gp bst few)) (wM ad tI tL tII tLL thr_8 sts wgt rwd up dn cel rig sum gp bst few) → va_S (rwA (wM ad tI tL tII tLL thr sts wgt rwd up dn cel rig sum gp bst few)) s.heap H locs → ∀ ls : Array Slot, lv_has ls 8 [(0, .ref (ad 0)), (1, .int p1), (2, .int o_x2_5), (3, .int o_x3_6), (4, .int o_x4_7)] → W p l e (headSpec W_M_period RM_f_M_period).room s m ([.ref (ad 0), .int p1] : List Value).toArray below meth c H locs 0 0 (MQ below (rwQ (dC, dI) vwCl (wM ad tI tL tII tLL R_thr sts wgt rwd up dn cel rig sum gp bst few) (some (.int R0)) (rwA (wM ad tI tL tII tLL thr sts wgt rwd up dn cel rig sum gp bst few))) ([.ref (ad 0), .int p1] : List Value).toArray s 0 0 (rwA (wM ad tI tL tII tLL thr sts wgt rwd up dn cel rig sum gp bst few))) (F0 m 156 ls [])) → ∀ (H : Heap) (locs : List Loc), va_P (dC, dI) vwCl (wM ad tI tL tII tLL thr_8 sts wgt rwd up dn cel rig sum gp bst few) H → va_D (rwA (wM ad tI tL tII tLL thr sts wgt rwd up dn cel rig sum gp bst few)) (wM ad tI tL tII tLL thr_8 sts wgt rwd up dn cel rig sum gp bst few) → va_S (rwA (wM ad tI tL tII tLL thr sts wgt rwd up dn cel rig sum gp bst few)) s.heap H locs → ∀ ls : Array Slot, lv_has ls 8 [(0, .ref (ad 0)), (1, .int p1), (2, .int x2_5), (3, .int x3_6), (4, .int x4_7)] → W p l e (headSpec W_M_period RM_f_M_period).room s m ([.ref (ad 0), .int p1] : List Value).toArray below meth c H locs 0 0 (MQ below (rwQ (dC, dI) vwCl (wM ad tI tL tII tLL R_thr sts wgt rwd up dn cel rig sum gp bst few) (some (.int R0)) (rwA (wM ad tI tL tII tLL thr sts wgt rwd up dn cel rig sum gp bst few))) ([.ref (ad 0), .int p1] : List Value).toArray s 0 0 (rwA (wM ad tI tL tII tLL thr sts wgt rwd up dn cel rig sum gp bst few))) (F0 m 34 ls []) := by
        intro thr_8
        intro n
        induction n with
        | zero =>
          intro x2_5 x3_6 x4_7 o_x2_5 o_x3_6 o_x4_7 hR
          cases (show some _ = none from hR)
        | succ n ih =>
          intro x2_5 x3_6 x4_7 o_x2_5 o_x3_6 o_x4_7 hR hk H locs hP hD hS ls hl
          rw [f_M_period_L34_s] at hR
          obtain ⟨y, hR, hQ⟩ := ob hR
          replace hR := hR.symm
          rw [f_M_period_B34] at hR
          refine lv_iload hx hb dX7_period_34 (lv_at hl 4 rfl) ?_
          refine lv_bipush (v := 30) hx hb dX7_period_36 (by decide) ?_
          refine lv_icmp_gt (tgt := 156) hx hb dX7_period_38 (by decide) (fun c9 => ?_) (fun c9 => ?_)
          · replace hR := it_p c9 hR
            cases hR
            cases (show some _ = some _ from hQ)
            exact hk H locs hP hD hS ls (lv_sub hl [0, 1, 2, 3, 4] rfl)
          · replace hR := it_n c9 hR
            refine lv_iconst (v := 0) hx hb dX7_period_41 (by decide) ?_
            refine lv_istore (lv' := [(5, .int (0 : Int32)), (0, .ref (ad 0)), (1, .int p1), (2, .int x2_5), (3, .int x3_6), (4, .int x4_7)]) hx hb dX7_period_42 hl (by decide) rfl (fun ls hl => ?_)
            refine lv_iconst (v := 0) hx hb dX7_period_44 (by decide) ?_
            refine lv_istore (lv' := [(6, .int (0 : Int32)), (5, .int (0 : Int32)), (0, .ref (ad 0)), (1, .int p1), (2, .int x2_5), (3, .int x3_6), (4, .int x4_7)]) hx hb dX7_period_45 hl (by decide) rfl (fun ls hl => ?_)
            have L47_23 : ∀ (n : Nat) (x5_10 : Int32) (x6_11 : Int32), ∀ (o_x5_10 : Int32) (o_x6_11 : Int32), some (o_x5_10, o_x6_11) = f_M_period_L47 sts wgt x2_5 n x5_10 x6_11 → (∀ (H : Heap) (locs : List Loc), va_P (dC, dI) vwCl (wM ad tI tL tII tLL thr_8 sts wgt rwd up dn cel rig sum gp bst few) H → va_D (rwA (wM ad tI tL tII tLL thr sts wgt rwd up dn cel rig sum gp bst few)) (wM ad tI tL tII tLL thr_8 sts wgt rwd up dn cel rig sum gp bst few) → va_S (rwA (wM ad tI tL tII tLL thr sts wgt rwd up dn cel rig sum gp bst few)) s.heap H locs → ∀ ls : Array Slot, lv_has ls 8 [(0, .ref (ad 0)), (1, .int p1), (2, .int x2_5), (3, .int x3_6), (4, .int x4_7), (5, .int o_x5_10), (6, .int o_x6_11)] → W p l e (headSpec W_M_period RM_f_M_period).room s m ([.ref (ad 0), .int p1] : List Value).toArray below meth c H locs 0 0 (MQ below (rwQ (dC, dI) vwCl (wM ad tI tL tII tLL R_thr sts wgt rwd up dn cel rig sum gp bst few) (some (.int R0)) (rwA (wM ad tI tL tII tLL thr sts wgt rwd up dn cel rig sum gp bst few))) ([.ref (ad 0), .int p1] : List Value).toArray s 0 0 (rwA (wM ad tI tL tII tLL thr sts wgt rwd up dn cel rig sum gp bst few))) (F0 m 114 ls [])) → ∀ (H : Heap) (locs : List Loc), va_P (dC, dI) vwCl (wM ad tI tL tII tLL thr_8 sts wgt rwd up dn cel rig sum gp bst few) H → va_D (rwA (wM ad tI tL tII tLL thr sts wgt rwd up dn cel rig sum gp bst few)) (wM ad tI tL tII tLL thr_8 sts wgt rwd up dn cel rig sum gp bst few) → va_S (rwA (wM ad tI tL tII tLL thr sts wgt rwd up dn cel rig sum gp bst few)) s.heap H locs → ∀ ls : Array Slot, lv_has ls 8 [(0, .ref (ad 0)), (1, .int p1), (2, .int x2_5), (3, .int x3_6), (4, .int x4_7), (5, .int x5_10), (6, .int x6_11)] → W p l e (headSpec W_M_period RM_f_M_period).room s m ([.ref (ad 0), .int p1] : List Value).toArray below meth c H locs 0 0 (MQ below (rwQ (dC, dI) vwCl (wM ad tI tL tII tLL R_thr sts wgt rwd up dn cel rig sum gp bst few) (some (.int R0)) (rwA (wM ad tI tL tII tLL thr sts wgt rwd up dn cel rig sum gp bst few))) ([.ref (ad 0), .int p1] : List Value).toArray s 0 0 (rwA (wM ad tI tL tII tLL thr sts wgt rwd up dn cel rig sum gp bst few))) (F0 m 47 ls []) := by
              intro n
              induction n with
              | zero =>
                intro x5_10 x6_11 o_x5_10 o_x6_11 hR
                cases (show some _ = none from hR)
              | succ n ih =>
                intro x5_10 x6_11 o_x5_10 o_x6_11 hR hk H locs hP hD hS ls hl
                rw [f_M_period_L47_s] at hR
                obtain ⟨y, hR, hQ⟩ := ob hR
                replace hR := hR.symm
                rw [f_M_period_B47] at hR
                refine lv_iload hx hb dX7_period_47 (lv_at hl 6 rfl) ?_
                refine lv_aload_n hx hb dX7_period_49 rfl (lv_at hl 0 rfl) ?_
                refine va_get (D := (dC, dI)) (ci := 7) (v := .int sts) (C := RX7) (T := TX7) (N := 12) hx hb ht hinX7 hown hK hP 0 rfl rfl 1 (by decide) (ht _ k_205) (fun _ h9 => h9) rfl dX7_period_50 ?_
                refine lv_icmp_ge (tgt := 114) hx hb dX7_period_53 (by decide) (fun c12 => ?_) (fun c12 => ?_)
                · replace hR := it_p c12 hR
                  cases hR
                  cases (show some _ = some _ from hQ)
                  exact hk H locs hP hD hS ls (lv_sub hl [0, 1, 2, 3, 4, 5, 6] rfl)
                · replace hR := it_n c12 hR
                  refine lv_iconst (v := 0) hx hb dX7_period_56 (by decide) ?_
                  refine lv_istore (lv' := [(7, .int (0 : Int32)), (0, .ref (ad 0)), (1, .int p1), (2, .int x2_5), (3, .int x3_6), (4, .int x4_7), (5, .int x5_10), (6, .int x6_11)]) hx hb dX7_period_57 hl (by decide) rfl (fun ls hl => ?_)
                  have L59_20 : ∀ (n : Nat) (x5_13 : Int32) (x7_14 : Int32), ∀ (o_x5_13 : Int32) (o_x7_14 : Int32), some (o_x5_13, o_x7_14) = f_M_period_L59 sts wgt x2_5 x6_11 n x5_13 x7_14 → (∀ (H : Heap) (locs : List Loc), va_P (dC, dI) vwCl (wM ad tI tL tII tLL thr_8 sts wgt rwd up dn cel rig sum gp bst few) H → va_D (rwA (wM ad tI tL tII tLL thr sts wgt rwd up dn cel rig sum gp bst few)) (wM ad tI tL tII tLL thr_8 sts wgt rwd up dn cel rig sum gp bst few) → va_S (rwA (wM ad tI tL tII tLL thr sts wgt rwd up dn cel rig sum gp bst few)) s.heap H locs → ∀ ls : Array Slot, lv_has ls 8 [(0, .ref (ad 0)), (1, .int p1), (2, .int x2_5), (3, .int x3_6), (4, .int x4_7), (5, .int o_x5_13), (6, .int x6_11), (7, .int o_x7_14)] → W p l e (headSpec W_M_period RM_f_M_period).room s m ([.ref (ad 0), .int p1] : List Value).toArray below meth c H locs 0 0 (MQ below (rwQ (dC, dI) vwCl (wM ad tI tL tII tLL R_thr sts wgt rwd up dn cel rig sum gp bst few) (some (.int R0)) (rwA (wM ad tI tL tII tLL thr sts wgt rwd up dn cel rig sum gp bst few))) ([.ref (ad 0), .int p1] : List Value).toArray s 0 0 (rwA (wM ad tI tL tII tLL thr sts wgt rwd up dn cel rig sum gp bst few))) (F0 m 108 ls [])) → ∀ (H : Heap) (locs : List Loc), va_P (dC, dI) vwCl (wM ad tI tL tII tLL thr_8 sts wgt rwd up dn cel rig sum gp bst few) H → va_D (rwA (wM ad tI tL tII tLL thr sts wgt rwd up dn cel rig sum gp bst few)) (wM ad tI tL tII tLL thr_8 sts wgt rwd up dn cel rig sum gp bst few) → va_S (rwA (wM ad tI tL tII tLL thr sts wgt rwd up dn cel rig sum gp bst few)) s.heap H locs → ∀ ls : Array Slot, lv_has ls 8 [(0, .ref (ad 0)), (1, .int p1), (2, .int x2_5), (3, .int x3_6), (4, .int x4_7), (5, .int x5_13), (6, .int x6_11), (7, .int x7_14)] → W p l e (headSpec W_M_period RM_f_M_period).room s m ([.ref (ad 0), .int p1] : List Value).toArray below meth c H locs 0 0 (MQ below (rwQ (dC, dI) vwCl (wM ad tI tL tII tLL R_thr sts wgt rwd up dn cel rig sum gp bst few) (some (.int R0)) (rwA (wM ad tI tL tII tLL thr sts wgt rwd up dn cel rig sum gp bst few))) ([.ref (ad 0), .int p1] : List Value).toArray s 0 0 (rwA (wM ad tI tL tII tLL thr sts wgt rwd up dn cel rig sum gp bst few))) (F0 m 59 ls []) := by
                    intro n
                    induction n with
                    | zero =>
                      intro x5_13 x7_14 o_x5_13 o_x7_14 hR
                      cases (show some _ = none from hR)
                    | succ n ih =>
                      intro x5_13 x7_14 o_x5_13 o_x7_14 hR hk H locs hP hD hS ls hl
                      rw [f_M_period_L59_s] at hR
                      obtain ⟨y, hR, hQ⟩ := ob hR
                      replace hR := hR.symm
                      rw [f_M_period_B59] at hR
                      refine lv_iload hx hb dX7_period_59 (lv_at hl 7 rfl) ?_
                      refine lv_aload_n hx hb dX7_period_61 rfl (lv_at hl 0 rfl) ?_
                      refine va_get (D := (dC, dI)) (ci := 7) (v := .int sts) (C := RX7) (T := TX7) (N := 12) hx hb ht hinX7 hown hK hP 0 rfl rfl 1 (by decide) (ht _ k_205) (fun _ h9 => h9) rfl dX7_period_62 ?_
                      refine lv_icmp_ge (tgt := 108) hx hb dX7_period_65 (by decide) (fun c15 => ?_) (fun c15 => ?_)
                      · replace hR := it_p c15 hR
                        cases hR
                        cases (show some _ = some _ from hQ)
                        exact hk H locs hP hD hS ls (lv_sub hl [0, 1, 2, 3, 4, 5, 6, 7] rfl)
                      · replace hR := it_n c15 hR
                        refine lv_iload_n hx hb dX7_period_68 rfl (lv_at hl 2 rfl) ?_
                        refine lv_iload hx hb dX7_period_69 (lv_at hl 6 rfl) ?_
                        obtain ⟨r16, hC, hR⟩ := ob hR
                        try dsimp only at hR
                        refine ro_calli (va_runS (As := [.int x2_5, .int x6_11]) (rest := []) ⟨hx, hb, hml, hown, ht⟩ (c_M_has l dC dI ad tI tL tII tLL  x2_5 x6_11 r16 hC.symm) ⟨callB_of 2 ht (goodG k_201) rfl rfl rfl (ht _ k_202) (ht _ k_203) (by decide +kernel) ⟨Nat.le_of_ble_eq_true rfl, Nat.le_of_ble_eq_true rfl⟩, (ht _ k_204)⟩ (pre_s hK hN (hP.sub (ws' := []) [] rfl)) rfl rfl hl.1 rfl (lv_room (Nat.le_of_ble_eq_true rfl)) dX7_period_71 ⟨Nat.zero_le _, Nat.zero_le _⟩) ?_
                        refine lv_if_eq (tgt := 108) hx hb dX7_period_74 (by decide) (fun c17 => ?_) (fun c17 => ?_)
                        · replace hR := it_p c17 hR
                          cases hR
                          cases (show some _ = some _ from hQ)
                          exact hk H locs hP hD hS ls (lv_sub hl [0, 1, 2, 3, 4, 5, 6, 7] rfl)
                        · replace hR := it_n c17 hR
                          refine lv_aload_n hx hb dX7_period_77 rfl (lv_at hl 0 rfl) ?_
                          refine lv_iload hx hb dX7_period_78 (lv_at hl 6 rfl) ?_
                          refine lv_iload hx hb dX7_period_80 (lv_at hl 7 rfl) ?_
                          obtain ⟨r18, hC, hR⟩ := ob hR
                          try dsimp only at hR
                          refine ro_calli (va_runV (As := [.int x6_11, .int x7_14]) (rest := []) ⟨hx, hb, hml, hown, ht⟩ (c_M_w l dC dI ad tI tL tII tLL thr_8 sts wgt rwd up dn cel rig sum gp bst few x6_11 x7_14 r18 hC.symm) ⟨callB_of 2 ht (goodG k_210) rfl rfl rfl (ht _ k_202) (ht _ k_211) (by decide +kernel) ⟨Nat.le_of_ble_eq_true rfl, Nat.le_of_ble_eq_true rfl⟩, (ht _ k_213), (ht _ k_212)⟩ (pre_v hK hN hP (q0 := 0) (ci := 7) rfl rfl) rfl rfl hl.1 rfl (lv_room (Nat.le_of_ble_eq_true rfl)) dX7_period_82 ⟨Nat.zero_le _, Nat.zero_le _⟩) ?_
                          refine lv_if_le (tgt := 98) hx hb dX7_period_85 (by decide) (fun c19 => ?_) (fun c19 => ?_)
                          · replace hR := it_p c19 hR
                            refine lv_iload hx hb dX7_period_98 (lv_at hl 5 rfl) ?_
                            refine lv_istore (lv' := [(5, .int x5_13), (0, .ref (ad 0)), (1, .int p1), (2, .int x2_5), (3, .int x3_6), (4, .int x4_7), (6, .int x6_11), (7, .int x7_14)]) hx hb dX7_period_100 hl (by decide) rfl (fun ls hl => ?_)
                            refine lv_iinc (v := (x7_14 + 1)) (lv' := [(7, .int (x7_14 + 1)), (5, .int x5_13), (0, .ref (ad 0)), (1, .int p1), (2, .int x2_5), (3, .int x3_6), (4, .int x4_7), (6, .int x6_11)]) hx hb dX7_period_102 hl (k := 7) rfl rfl (by decide) rfl (fun ls hl => ?_)
                            refine lv_goto (tgt := 59) hx hb dX7_period_105 (by decide) ?_
                            cases hR
                            exact ih x5_13 (x7_14 + 1) o_x5_13 o_x7_14 hQ hk H locs hP hD hS ls (lv_sub hl [2, 3, 4, 5, 6, 1, 7, 0] rfl)
                          · replace hR := it_n c19 hR
                            refine lv_iload hx hb dX7_period_88 (lv_at hl 5 rfl) ?_
                            refine lv_iconst (v := 1) hx hb dX7_period_90 (by decide) ?_
                            refine lv_iload hx hb dX7_period_91 (lv_at hl 7 rfl) ?_
                            refine lv_ishl hx hb dX7_period_93 ?_
                            refine lv_ior hx hb dX7_period_94 ?_
                            refine lv_goto (tgt := 100) hx hb dX7_period_95 (by decide) ?_
                            refine lv_istore (lv' := [(5, .int (x5_13 ||| ((1 : Int32) <<< (x7_14 &&& 31)))), (0, .ref (ad 0)), (1, .int p1), (2, .int x2_5), (3, .int x3_6), (4, .int x4_7), (6, .int x6_11), (7, .int x7_14)]) hx hb dX7_period_100 hl (by decide) rfl (fun ls hl => ?_)
                            refine lv_iinc (v := (x7_14 + 1)) (lv' := [(7, .int (x7_14 + 1)), (5, .int (x5_13 ||| ((1 : Int32) <<< (x7_14 &&& 31)))), (0, .ref (ad 0)), (1, .int p1), (2, .int x2_5), (3, .int x3_6), (4, .int x4_7), (6, .int x6_11)]) hx hb dX7_period_102 hl (k := 7) rfl rfl (by decide) rfl (fun ls hl => ?_)
                            refine lv_goto (tgt := 59) hx hb dX7_period_105 (by decide) ?_
                            cases hR
                            exact ih (x5_13 ||| ((1 : Int32) <<< (x7_14 &&& 31))) (x7_14 + 1) o_x5_13 o_x7_14 hQ hk H locs hP hD hS ls (lv_sub hl [2, 3, 4, 5, 6, 1, 7, 0] rfl)
                  obtain ⟨⟨u21, u22⟩, hL, hR⟩ := ob hR
                  try dsimp only at hR
                  refine L59_20 300 x5_10 (0 : Int32) u21 u22 hL.symm (fun H locs hP hD hS ls hl => ?_) H locs hP hD hS ls (lv_sub hl [1, 2, 3, 4, 5, 6, 7, 0] rfl)
                  refine lv_iinc (v := (x6_11 + 1)) (lv' := [(6, .int (x6_11 + 1)), (0, .ref (ad 0)), (1, .int p1), (2, .int x2_5), (3, .int x3_6), (4, .int x4_7), (5, .int u21), (7, .int u22)]) hx hb dX7_period_108 hl (k := 6) rfl rfl (by decide) rfl (fun ls hl => ?_)
                  refine lv_goto (tgt := 47) hx hb dX7_period_111 (by decide) ?_
                  cases hR
                  exact ih u21 (x6_11 + 1) o_x5_10 o_x6_11 hQ hk H locs hP hD hS ls (lv_sub hl [1, 2, 3, 4, 5, 6, 0] rfl)
            obtain ⟨⟨u24, u25⟩, hL, hR⟩ := ob hR
            try dsimp only at hR
            refine L47_23 300 (0 : Int32) (0 : Int32) u24 u25 hL.symm (fun H locs hP hD hS ls hl => ?_) H locs hP hD hS ls (lv_sub hl [2, 3, 4, 5, 6, 1, 0] rfl)
            refine lv_iload hx hb dX7_period_114 (lv_at hl 5 rfl) ?_
            refine lv_istore_n (lv' := [(2, .int u24), (0, .ref (ad 0)), (1, .int p1), (3, .int x3_6), (4, .int x4_7), (5, .int u24), (6, .int u25)]) hx hb dX7_period_116 rfl hl (by decide) rfl (fun ls hl => ?_)
            refine lv_iload_n hx hb dX7_period_117 rfl (lv_at hl 0 rfl) ?_
            refine lv_iload_n hx hb dX7_period_118 rfl (lv_at hl 2 rfl) ?_
            obtain ⟨r26, hC, hR⟩ := ob hR
            try dsimp only at hR
            refine ro_calli (va_runS (As := [.int u24, .int p1]) (rest := []) ⟨hx, hb, hml, hown, ht⟩ (c_M_has l dC dI ad tI tL tII tLL  u24 p1 r26 hC.symm) ⟨callB_of 2 ht (goodG k_201) rfl rfl rfl (ht _ k_202) (ht _ k_203) (by decide +kernel) ⟨Nat.le_of_ble_eq_true rfl, Nat.le_of_ble_eq_true rfl⟩, (ht _ k_204)⟩ (pre_s hK hN (hP.sub (ws' := []) [] rfl)) rfl rfl hl.1 rfl (lv_room (Nat.le_of_ble_eq_true rfl)) dX7_period_119 ⟨Nat.zero_le _, Nat.zero_le _⟩) ?_
            refine lv_if_eq (tgt := 150) hx hb dX7_period_122 (by decide) (fun c27 => ?_) (fun c27 => ?_)
            · replace hR := it_p c27 hR
              refine lv_iinc (v := (x4_7 + 1)) (lv' := [(4, .int (x4_7 + 1)), (2, .int u24), (0, .ref (ad 0)), (1, .int p1), (3, .int x3_6), (5, .int u24), (6, .int u25)]) hx hb dX7_period_150 hl (k := 4) rfl rfl (by decide) rfl (fun ls hl => ?_)
              refine lv_goto (tgt := 34) hx hb dX7_period_153 (by decide) ?_
              cases hR
              exact ih u24 x3_6 (x4_7 + 1) o_x2_5 o_x3_6 o_x4_7 hQ hk H locs hP hD hS ls (lv_sub hl [2, 3, 1, 4, 0] rfl)
            · replace hR := it_n c27 hR
              refine lv_iload hx hb dX7_period_125 (lv_at hl 4 rfl) ?_
              refine lv_istore (lv' := [(6, .int x4_7), (2, .int u24), (0, .ref (ad 0)), (1, .int p1), (3, .int x3_6), (4, .int x4_7), (5, .int u24)]) hx hb dX7_period_127 hl (by decide) rfl (fun ls hl => ?_)
              have L129_32 : ∀ (n : Nat) (x3_28 : Int32) (x6_29 : Int32), ∀ (o_x3_28 : Int32) (o_x6_29 : Int32), some (o_x3_28, o_x6_29) = f_M_period_L129 n x3_28 x6_29 → (∀ (H : Heap) (locs : List Loc), va_P (dC, dI) vwCl (wM ad tI tL tII tLL thr_8 sts wgt rwd up dn cel rig sum gp bst few) H → va_D (rwA (wM ad tI tL tII tLL thr sts wgt rwd up dn cel rig sum gp bst few)) (wM ad tI tL tII tLL thr_8 sts wgt rwd up dn cel rig sum gp bst few) → va_S (rwA (wM ad tI tL tII tLL thr sts wgt rwd up dn cel rig sum gp bst few)) s.heap H locs → ∀ ls : Array Slot, lv_has ls 8 [(0, .ref (ad 0)), (1, .int p1), (2, .int u24), (3, .int o_x3_28), (4, .int x4_7), (6, .int o_x6_29)] → W p l e (headSpec W_M_period RM_f_M_period).room s m ([.ref (ad 0), .int p1] : List Value).toArray below meth c H locs 0 0 (MQ below (rwQ (dC, dI) vwCl (wM ad tI tL tII tLL R_thr sts wgt rwd up dn cel rig sum gp bst few) (some (.int R0)) (rwA (wM ad tI tL tII tLL thr sts wgt rwd up dn cel rig sum gp bst few))) ([.ref (ad 0), .int p1] : List Value).toArray s 0 0 (rwA (wM ad tI tL tII tLL thr sts wgt rwd up dn cel rig sum gp bst few))) (F0 m 150 ls [])) → ∀ (H : Heap) (locs : List Loc), va_P (dC, dI) vwCl (wM ad tI tL tII tLL thr_8 sts wgt rwd up dn cel rig sum gp bst few) H → va_D (rwA (wM ad tI tL tII tLL thr sts wgt rwd up dn cel rig sum gp bst few)) (wM ad tI tL tII tLL thr_8 sts wgt rwd up dn cel rig sum gp bst few) → va_S (rwA (wM ad tI tL tII tLL thr sts wgt rwd up dn cel rig sum gp bst few)) s.heap H locs → ∀ ls : Array Slot, lv_has ls 8 [(0, .ref (ad 0)), (1, .int p1), (2, .int u24), (3, .int x3_28), (4, .int x4_7), (6, .int x6_29)] → W p l e (headSpec W_M_period RM_f_M_period).room s m ([.ref (ad 0), .int p1] : List Value).toArray below meth c H locs 0 0 (MQ below (rwQ (dC, dI) vwCl (wM ad tI tL tII tLL R_thr sts wgt rwd up dn cel rig sum gp bst few) (some (.int R0)) (rwA (wM ad tI tL tII tLL thr sts wgt rwd up dn cel rig sum gp bst few))) ([.ref (ad 0), .int p1] : List Value).toArray s 0 0 (rwA (wM ad tI tL tII tLL thr sts wgt rwd up dn cel rig sum gp bst few))) (F0 m 129 ls []) := by
                intro n
                induction n with
                | zero =>
                  intro x3_28 x6_29 o_x3_28 o_x6_29 hR
                  cases (show some _ = none from hR)
                | succ n ih =>
                  intro x3_28 x6_29 o_x3_28 o_x6_29 hR hk H locs hP hD hS ls hl
                  rw [f_M_period_L129_s] at hR
                  obtain ⟨y, hR, hQ⟩ := ob hR
                  replace hR := hR.symm
                  rw [f_M_period_B129] at hR
                  refine lv_iload hx hb dX7_period_129 (lv_at hl 5 rfl) ?_
                  refine lv_if_eq (tgt := 150) hx hb dX7_period_131 (by decide) (fun c30 => ?_) (fun c30 => ?_)
                  · replace hR := it_p c30 hR
                    cases hR
                    cases (show some _ = some _ from hQ)
                    exact hk H locs hP hD hS ls (lv_sub hl [0, 1, 2, 3, 4, 5] rfl)
                  · replace hR := it_n c30 hR
                    refine lv_iload_n hx hb dX7_period_134 rfl (lv_at hl 3 rfl) ?_
                    refine lv_iload hx hb dX7_period_135 (lv_at hl 5 rfl) ?_
                    obtain ⟨z31, hR⟩ := og hR
                    refine lv_irem hx hb dX7_period_137 z31 ?_
                    refine lv_istore (lv' := [(7, .int (x3_28 - x3_28 / x6_29 * x6_29)), (0, .ref (ad 0)), (1, .int p1), (2, .int u24), (3, .int x3_28), (4, .int x4_7), (6, .int x6_29)]) hx hb dX7_period_138 hl (by decide) rfl (fun ls hl => ?_)
                    refine lv_iload hx hb dX7_period_140 (lv_at hl 6 rfl) ?_
                    refine lv_istore_n (lv' := [(3, .int x6_29), (7, .int (x3_28 - x3_28 / x6_29 * x6_29)), (0, .ref (ad 0)), (1, .int p1), (2, .int u24), (4, .int x4_7), (6, .int x6_29)]) hx hb dX7_period_142 rfl hl (by decide) rfl (fun ls hl => ?_)
                    refine lv_iload hx hb dX7_period_143 (lv_at hl 1 rfl) ?_
                    refine lv_istore (lv' := [(6, .int (x3_28 - x3_28 / x6_29 * x6_29)), (3, .int x6_29), (7, .int (x3_28 - x3_28 / x6_29 * x6_29)), (0, .ref (ad 0)), (1, .int p1), (2, .int u24), (4, .int x4_7)]) hx hb dX7_period_145 hl (by decide) rfl (fun ls hl => ?_)
                    refine lv_goto (tgt := 129) hx hb dX7_period_147 (by decide) ?_
                    cases hR
                    exact ih x6_29 (x3_28 - x3_28 / x6_29 * x6_29) o_x3_28 o_x6_29 hQ hk H locs hP hD hS ls (lv_sub hl [3, 4, 5, 1, 6, 0] rfl)
              obtain ⟨⟨u33, u34⟩, hL, hR⟩ := ob hR
              try dsimp only at hR
              refine L129_32 300 x3_6 x4_7 u33 u34 hL.symm (fun H locs hP hD hS ls hl => ?_) H locs hP hD hS ls (lv_sub hl [2, 3, 1, 4, 5, 0] rfl)
              refine lv_iinc (v := (x4_7 + 1)) (lv' := [(4, .int (x4_7 + 1)), (0, .ref (ad 0)), (1, .int p1), (2, .int u24), (3, .int u33), (6, .int u34)]) hx hb dX7_period_150 hl (k := 4) rfl rfl (by decide) rfl (fun ls hl => ?_)
              refine lv_goto (tgt := 34) hx hb dX7_period_153 (by decide) ?_
              cases hR
              exact ih u24 u33 (x4_7 + 1) o_x2_5 o_x3_6 o_x4_7 hQ hk H locs hP hD hS ls (lv_sub hl [1, 2, 3, 4, 0] rfl)
      obtain ⟨⟨u36, u37, u38⟩, hL, hR⟩ := ob hR
      try dsimp only at hR
      refine L34_35 (0 : Int32) 300 ((1 : Int32) <<< (p1 &&& 31)) (0 : Int32) (1 : Int32) u36 u37 u38 hL.symm (fun H locs hP hD hS ls hl => ?_) H locs hP hD hS ls (lv_sub hl [3, 4, 2, 1, 0] rfl)
      refine lv_iload_n hx hb dX7_period_156 rfl (lv_at hl 3 rfl) ?_
      cases hR
      exact W.iret hx hb hr (fun t ht _ => ⟨rfl, by rw [ht]; exact hP, hS.F ht⟩) hS.2.2 dX7_period_157
    · replace hR := it_n c4 hR
      refine lv_iconst (v := 1) hx hb dX7_period_23 (by decide) ?_
      cases hR
      exact W.iret hx hb hr (fun t ht _ => ⟨rfl, by rw [ht]; exact hP, hS.F ht⟩) hS.2.2 dX7_period_24
  · replace hR := it_p c2 hR
    refine lv_iconst (v := (-1)) hx hb dX7_period_13 (by decide) ?_
    cases hR
    exact W.iret hx hb hr (fun t ht _ => ⟨rfl, by rw [ht]; exact hP, hS.F ht⟩) hS.2.2 dX7_period_14
abbrev RM_f_M_fix : Room := { frames := 0, cells := 0, slots := 0, locals := 0 }
abbrev W_M_fix : List Cond := .code yX7_fix cX7_fix 5 none :: tblG
set_option maxHeartbeats 4000000 in
set_option maxRecDepth 100000 in
theorem c_M_fix (l : Launch) (dC : Nat → ClassId) (dI : Nat → Nat → Nat) (ad : Nat → Nat) (tI tL tII tLL : ClassId) (thr : Int32) (sts : Int32) (wgt : Nat → Int32) (rwd : Nat → Int32) (up : Int64) (dn : Int64) (cel : Nat → Int64) (rig : Nat → Int64) (sum : Nat → Int64) (gp : Nat → Int32) (bst : Nat → Int32) (few : Int32) (p1 : Int32) (p2 : Int64) (R_cel : Nat → Int64) (R_rig : Nat → Int64) (hR : some (R_cel, R_rig) = f_M_fix sts cel rig p1 p2) : Met l yX7_fix W_M_fix RM_f_M_fix (rwP (dC, dI) vwCl [(tI, .int), (tL, .long), (tII, .array .int), (tLL, .array .long)] (wM ad tI tL tII tLL thr sts wgt rwd up dn cel rig sum gp bst few) ([.ref (ad 0), .int p1, .long p2] : List Value)) (rwQ (dC, dI) vwCl (wM ad tI tL tII tLL thr sts wgt rwd up dn R_cel R_rig sum gp bst few) none (rwA (wM ad tI tL tII tLL thr sts wgt rwd up dn cel rig sum gp bst few))) 0 0 (rwA (wM ad tI tL tII tLL thr sts wgt rwd up dn cel rig sum gp bst few)) := by
  refine Met.ofW (cc := cX7_fix) (maxL := 5) (ret := none) (by decide) rfl ?_
  intro p e s m args below meth c s₁ B hml hv
  obtain ⟨rfl, hP, hK, hN, hD⟩ := hv
  have hx := B.exec
  have hb := B.bytes
  have hr := B.returns
  have hts := atoms_spec (ws := W_M_fix) B.pre
  have ht := fun (w : Cond) (h : w ∈ tblG) => hts w (List.mem_cons_of_mem _ h)
  have hown : s.vm.findClass RX7 = some m.cls := findClass_of_methodNamed B.named
  have hlocks := B.notSynchronized
  have hl := lv_entry ([.ref (ad 0), .int p1, .long p2] : List Value) (n := 5) (Nat.le_of_ble_eq_true rfl)
  rw [lg_entry_eq]
  generalize (lg_sl ([.ref (ad 0), .int p1, .long p2] : List Value) ++ List.replicate (5 - (lg_sl ([.ref (ad 0), .int p1, .long p2] : List Value)).length) Slot.unset).toArray = ls at hl ⊢
  have hl : lv_has ls 5 [(0, .ref (ad 0)), (1, .int p1), (2, .long p2)] := hl
  have hD := hD.own
  have hS : va_S (rwA (wM ad tI tL tII tLL thr sts wgt rwd up dn cel rig sum gp bst few)) s.heap s.heap [] := va_S.rf
  suffices K : ∀ (H : Heap) (locs : List Loc), va_P (dC, dI) vwCl (wM ad tI tL tII tLL thr sts wgt rwd up dn cel rig sum gp bst few) H → va_D (rwA (wM ad tI tL tII tLL thr sts wgt rwd up dn cel rig sum gp bst few)) (wM ad tI tL tII tLL thr sts wgt rwd up dn cel rig sum gp bst few) → va_S (rwA (wM ad tI tL tII tLL thr sts wgt rwd up dn cel rig sum gp bst few)) s.heap H locs → W p l e (headSpec W_M_fix RM_f_M_fix).room s m ([.ref (ad 0), .int p1, .long p2] : List Value).toArray below meth c H locs 0 0 (MQ below (rwQ (dC, dI) vwCl (wM ad tI tL tII tLL thr sts wgt rwd up dn R_cel R_rig sum gp bst few) none (rwA (wM ad tI tL tII tLL thr sts wgt rwd up dn cel rig sum gp bst few))) ([.ref (ad 0), .int p1, .long p2] : List Value).toArray s 0 0 (rwA (wM ad tI tL tII tLL thr sts wgt rwd up dn cel rig sum gp bst few))) (F0 m 0 ls []) from K s.heap [] hP hD hS
  clear hP hD hS
  intro H locs hP hD hS
  rw [f_M_fix] at hR
  refine lv_iconst (v := 0) hx hb dX7_fix_0 (by decide) ?_
  refine lv_istore (lv' := [(4, .int (0 : Int32)), (0, .ref (ad 0)), (1, .int p1), (2, .long p2)]) hx hb dX7_fix_1 hl (by decide) rfl (fun ls hl => ?_)
  have L3_7 : ∀ (n : Nat) (x4_1 : Int32) (cel_2 : Nat → Int64), ∀ (o_x4_1 : Int32) (o_cel_2 : Nat → Int64), some (o_x4_1, o_cel_2) = f_M_fix_L3 sts p1 n x4_1 cel_2 → (∀ (H : Heap) (locs : List Loc), va_P (dC, dI) vwCl (wM ad tI tL tII tLL thr sts wgt rwd up dn o_cel_2 rig sum gp bst few) H → va_D (rwA (wM ad tI tL tII tLL thr sts wgt rwd up dn cel rig sum gp bst few)) (wM ad tI tL tII tLL thr sts wgt rwd up dn o_cel_2 rig sum gp bst few) → va_S (rwA (wM ad tI tL tII tLL thr sts wgt rwd up dn cel rig sum gp bst few)) s.heap H locs → ∀ ls : Array Slot, lv_has ls 5 [(0, .ref (ad 0)), (1, .int p1), (2, .long p2), (4, .int o_x4_1)] → W p l e (headSpec W_M_fix RM_f_M_fix).room s m ([.ref (ad 0), .int p1, .long p2] : List Value).toArray below meth c H locs 0 0 (MQ below (rwQ (dC, dI) vwCl (wM ad tI tL tII tLL thr sts wgt rwd up dn R_cel R_rig sum gp bst few) none (rwA (wM ad tI tL tII tLL thr sts wgt rwd up dn cel rig sum gp bst few))) ([.ref (ad 0), .int p1, .long p2] : List Value).toArray s 0 0 (rwA (wM ad tI tL tII tLL thr sts wgt rwd up dn cel rig sum gp bst few))) (F0 m 41 ls [])) → ∀ (H : Heap) (locs : List Loc), va_P (dC, dI) vwCl (wM ad tI tL tII tLL thr sts wgt rwd up dn cel_2 rig sum gp bst few) H → va_D (rwA (wM ad tI tL tII tLL thr sts wgt rwd up dn cel rig sum gp bst few)) (wM ad tI tL tII tLL thr sts wgt rwd up dn cel_2 rig sum gp bst few) → va_S (rwA (wM ad tI tL tII tLL thr sts wgt rwd up dn cel rig sum gp bst few)) s.heap H locs → ∀ ls : Array Slot, lv_has ls 5 [(0, .ref (ad 0)), (1, .int p1), (2, .long p2), (4, .int x4_1)] → W p l e (headSpec W_M_fix RM_f_M_fix).room s m ([.ref (ad 0), .int p1, .long p2] : List Value).toArray below meth c H locs 0 0 (MQ below (rwQ (dC, dI) vwCl (wM ad tI tL tII tLL thr sts wgt rwd up dn R_cel R_rig sum gp bst few) none (rwA (wM ad tI tL tII tLL thr sts wgt rwd up dn cel rig sum gp bst few))) ([.ref (ad 0), .int p1, .long p2] : List Value).toArray s 0 0 (rwA (wM ad tI tL tII tLL thr sts wgt rwd up dn cel rig sum gp bst few))) (F0 m 3 ls []) := by
    intro n
    induction n with
    | zero =>
      intro x4_1 cel_2 o_x4_1 o_cel_2 hR
      cases (show some _ = none from hR)
    | succ n ih =>
      intro x4_1 cel_2 o_x4_1 o_cel_2 hR hk H locs hP hD hS ls hl
      rw [f_M_fix_L3_s] at hR
      obtain ⟨y, hR, hQ⟩ := ob hR
      replace hR := hR.symm
      rw [f_M_fix_B3] at hR
      refine lv_iload hx hb dX7_fix_3 (lv_at hl 3 rfl) ?_
      refine lv_aload_n hx hb dX7_fix_5 rfl (lv_at hl 0 rfl) ?_
      refine va_get (D := (dC, dI)) (ci := 7) (v := .int sts) (C := RX7) (T := TX7) (N := 12) hx hb ht hinX7 hown hK hP 0 rfl rfl 1 (by decide) (ht _ k_205) (fun _ h9 => h9) rfl dX7_fix_6 ?_
      refine lv_icmp_ge (tgt := 41) hx hb dX7_fix_9 (by decide) (fun c3 => ?_) (fun c3 => ?_)
      · replace hR := it_p c3 hR
        cases hR
        cases (show some _ = some _ from hQ)
        exact hk H locs hP hD hS ls (lv_sub hl [0, 1, 2, 3] rfl)
      · replace hR := it_n c3 hR
        refine lv_aload_n hx hb dX7_fix_12 rfl (lv_at hl 0 rfl) ?_
        refine va_get (D := (dC, dI)) (ci := 7) (v := .ref (ad 3)) (C := RX7) (T := TX7) (N := 12) hx hb ht hinX7 hown hK hP 0 rfl rfl 6 (by decide) (ht _ k_249) (fun _ h9 => h9) rfl dX7_fix_13 ?_
        refine lv_bipush (v := 7) hx hb dX7_fix_16 (by decide) ?_
        refine lv_iload_n hx hb dX7_fix_18 rfl (lv_at hl 1 rfl) ?_
        refine lv_imul hx hb dX7_fix_19 ?_
        refine lv_iload hx hb dX7_fix_20 (lv_at hl 3 rfl) ?_
        refine lv_iadd hx hb dX7_fix_22 ?_
        refine lv_iload hx hb dX7_fix_23 (lv_at hl 3 rfl) ?_
        refine lv_iload_n hx hb dX7_fix_25 rfl (lv_at hl 1 rfl) ?_
        refine lv_icmp_ne (tgt := 33) hx hb dX7_fix_26 (by decide) (fun c4 => ?_) (fun c4 => ?_)
        · replace hR := it_n c4 hR
          refine lv_lconst (v := 0) hx hb dX7_fix_33 (by decide) ?_
          obtain ⟨z5, hR⟩ := og hR
          refine va_last hx hb hK hP hD hS 3 1 rfl rfl (ix_in z5) dX7_fix_34 (fun H locs hP hD hS => ?_)
          have hP : va_P (dC, dI) vwCl (wM ad tI tL tII tLL thr sts wgt rwd up dn (vp_updL cel_2 (((7 : Int32) * p1) + x4_1).toNatClampNeg (0 : Int64)) rig sum gp bst few) H := hP
          have hD : va_D (rwA (wM ad tI tL tII tLL thr sts wgt rwd up dn cel rig sum gp bst few)) (wM ad tI tL tII tLL thr sts wgt rwd up dn (vp_updL cel_2 (((7 : Int32) * p1) + x4_1).toNatClampNeg (0 : Int64)) rig sum gp bst few) := hD
          refine lv_iinc (v := (x4_1 + 1)) (lv' := [(4, .int (x4_1 + 1)), (0, .ref (ad 0)), (1, .int p1), (2, .long p2)]) hx hb dX7_fix_35 hl (k := 3) rfl rfl (by decide) rfl (fun ls hl => ?_)
          refine lv_goto (tgt := 3) hx hb dX7_fix_38 (by decide) ?_
          cases hR
          exact ih (x4_1 + 1) (vp_updL cel_2 (((7 : Int32) * p1) + x4_1).toNatClampNeg (0 : Int64)) o_x4_1 o_cel_2 hQ hk H locs hP hD hS ls (lv_sub hl [1, 2, 3, 0] rfl)
        · replace hR := it_p c4 hR
          refine lv_lconst (v := 1) hx hb dX7_fix_29 (by decide) ?_
          refine lv_goto (tgt := 34) hx hb dX7_fix_30 (by decide) ?_
          obtain ⟨z6, hR⟩ := og hR
          refine va_last hx hb hK hP hD hS 3 1 rfl rfl (ix_in z6) dX7_fix_34 (fun H locs hP hD hS => ?_)
          have hP : va_P (dC, dI) vwCl (wM ad tI tL tII tLL thr sts wgt rwd up dn (vp_updL cel_2 (((7 : Int32) * p1) + x4_1).toNatClampNeg (1 : Int64)) rig sum gp bst few) H := hP
          have hD : va_D (rwA (wM ad tI tL tII tLL thr sts wgt rwd up dn cel rig sum gp bst few)) (wM ad tI tL tII tLL thr sts wgt rwd up dn (vp_updL cel_2 (((7 : Int32) * p1) + x4_1).toNatClampNeg (1 : Int64)) rig sum gp bst few) := hD
          refine lv_iinc (v := (x4_1 + 1)) (lv' := [(4, .int (x4_1 + 1)), (0, .ref (ad 0)), (1, .int p1), (2, .long p2)]) hx hb dX7_fix_35 hl (k := 3) rfl rfl (by decide) rfl (fun ls hl => ?_)
          refine lv_goto (tgt := 3) hx hb dX7_fix_38 (by decide) ?_
          cases hR
          exact ih (x4_1 + 1) (vp_updL cel_2 (((7 : Int32) * p1) + x4_1).toNatClampNeg (1 : Int64)) o_x4_1 o_cel_2 hQ hk H locs hP hD hS ls (lv_sub hl [1, 2, 3, 0] rfl)
  obtain ⟨⟨u8, u9⟩, hL, hR⟩ := ob hR
  try dsimp only at hR
  refine L3_7 300 (0 : Int32) cel u8 u9 hL.symm (fun H locs hP hD hS ls hl => ?_) H locs hP hD hS ls (lv_sub hl [1, 2, 3, 0] rfl)
  refine lv_aload_n hx hb dX7_fix_41 rfl (lv_at hl 0 rfl) ?_
  refine va_get (D := (dC, dI)) (ci := 7) (v := .ref (ad 4)) (C := RX7) (T := TX7) (N := 12) hx hb ht hinX7 hown hK hP 0 rfl rfl 7 (by decide) (ht _ k_250) (fun _ h9 => h9) rfl dX7_fix_42 ?_
  refine lv_iload_n hx hb dX7_fix_45 rfl (lv_at hl 1 rfl) ?_
  refine lv_lload_n hx hb dX7_fix_46 rfl (lv_at hl 2 rfl) ?_
  obtain ⟨z10, hR⟩ := og hR
  refine va_last hx hb hK hP hD hS 4 1 rfl rfl (ix_in z10) dX7_fix_47 (fun H locs hP hD hS => ?_)
  have hP : va_P (dC, dI) vwCl (wM ad tI tL tII tLL thr sts wgt rwd up dn u9 (vp_updL rig p1.toNatClampNeg p2) sum gp bst few) H := hP
  have hD : va_D (rwA (wM ad tI tL tII tLL thr sts wgt rwd up dn cel rig sum gp bst few)) (wM ad tI tL tII tLL thr sts wgt rwd up dn u9 (vp_updL rig p1.toNatClampNeg p2) sum gp bst few) := hD
  cases hR
  exact W.vret hx hb hr (fun t ht _ => ⟨rfl, by rw [ht]; exact hP, hS.F ht⟩) hS.2.2 dX7_fix_48
