abbrev RM_f_M_again : Room := { frames := 4, cells := 0, slots := 0, locals := 97 }
abbrev W_M_again : List Cond := .code yX7_again cX7_again 7 (some .int) :: tblG
set_option maxHeartbeats 4000000 in
set_option maxRecDepth 100000 in
theorem c_M_again (l : Launch) (dC : Nat → ClassId) (dI : Nat → Nat → Nat) (ad : Nat → Nat) (tI tL tII tLL : ClassId) (thr : Int32) (sts : Int32) (wgt : Nat → Int32) (rwd : Nat → Int32) (up : Int64) (dn : Int64) (cel : Nat → Int64) (rig : Nat → Int64) (sum : Nat → Int64) (gp : Nat → Int32) (bst : Nat → Int32) (few : Int32) (p1 : Int32) (R0 : Int32) (R_thr : Int32) (R_up : Int64) (R_dn : Int64) (R_cel : Nat → Int64) (R_rig : Nat → Int64) (R_sum : Nat → Int64) (hR : some (R0, R_thr, R_up, R_dn, R_cel, R_rig, R_sum) = f_M_again sts wgt up dn cel rig sum p1) : Met l yX7_again W_M_again RM_f_M_again (rwP (dC, dI) vwCl [(tI, .int), (tL, .long), (tII, .array .int), (tLL, .array .long)] (wM ad tI tL tII tLL thr sts wgt rwd up dn cel rig sum gp bst few) ([.ref (ad 0), .int p1] : List Value)) (rwQ (dC, dI) vwCl (wM ad tI tL tII tLL R_thr sts wgt rwd R_up R_dn R_cel R_rig R_sum gp bst few) (some (.int R0)) (rwA (wM ad tI tL tII tLL thr sts wgt rwd up dn cel rig sum gp bst few))) 0 0 (rwA (wM ad tI tL tII tLL thr sts wgt rwd up dn cel rig sum gp bst few)) := by
  refine Met.ofW (cc := cX7_again) (maxL := 7) (ret := (some .int)) (by decide) rfl ?_
  intro p e s m args below meth c s₁ B hml hv
  obtain ⟨rfl, hP, hK, hN, hD⟩ := hv
  have hx := B.exec
  have hb := B.bytes
  have hr := B.returns
  have hts := atoms_spec (ws := W_M_again) B.pre
  have ht := fun (w : Cond) (h : w ∈ tblG) => hts w (List.mem_cons_of_mem _ h)
  have hown : s.vm.findClass RX7 = some m.cls := findClass_of_methodNamed B.named
  have hlocks := B.notSynchronized
  have hl := lv_entry ([.ref (ad 0), .int p1] : List Value) (n := 7) (Nat.le_of_ble_eq_true rfl)
  rw [lg_entry_eq]
  generalize (lg_sl ([.ref (ad 0), .int p1] : List Value) ++ List.replicate (7 - (lg_sl ([.ref (ad 0), .int p1] : List Value)).length) Slot.unset).toArray = ls at hl ⊢
  have hl : lv_has ls 7 [(0, .ref (ad 0)), (1, .int p1)] := hl
  have hD := hD.own
  have hS : va_S (rwA (wM ad tI tL tII tLL thr sts wgt rwd up dn cel rig sum gp bst few)) s.heap s.heap [] := va_S.rf
  suffices K : ∀ (H : Heap) (locs : List Loc), va_P (dC, dI) vwCl (wM ad tI tL tII tLL thr sts wgt rwd up dn cel rig sum gp bst few) H → va_D (rwA (wM ad tI tL tII tLL thr sts wgt rwd up dn cel rig sum gp bst few)) (wM ad tI tL tII tLL thr sts wgt rwd up dn cel rig sum gp bst few) → va_S (rwA (wM ad tI tL tII tLL thr sts wgt rwd up dn cel rig sum gp bst few)) s.heap H locs → W p l e (headSpec W_M_again RM_f_M_again).room s m ([.ref (ad 0), .int p1] : List Value).toArray below meth c H locs 0 0 (MQ below (rwQ (dC, dI) vwCl (wM ad tI tL tII tLL R_thr sts wgt rwd R_up R_dn R_cel R_rig R_sum gp bst few) (some (.int R0)) (rwA (wM ad tI tL tII tLL thr sts wgt rwd up dn cel rig sum gp bst few))) ([.ref (ad 0), .int p1] : List Value).toArray s 0 0 (rwA (wM ad tI tL tII tLL thr sts wgt rwd up dn cel rig sum gp bst few))) (F0 m 0 ls []) from K s.heap [] hP hD hS
  clear hP hD hS
  intro H locs hP hD hS
  rw [f_M_again] at hR
  refine lv_aload_n hx hb dX7_again_0 rfl (lv_at hl 0 rfl) ?_
  refine lv_iconst (v := 0) hx hb dX7_again_1 (by decide) ?_
  refine va_put (D := (dC, dI)) (ci := 7) (v := .int (0 : Int32)) (ty := .int) (C := RX7) (T := TX7) (N := 12) hx hb ht hinX7 tyX7 tyX7_ok nmX7 hown hK hP hD hS 0 rfl rfl 0 (by decide) (ht _ k_220) (fun _ h9 => h9) rfl (by decide +kernel) rfl rfl (Nat.le_of_ble_eq_true rfl) dX7_again_2 (fun H locs hP hD hS => ?_)
  have hP : va_P (dC, dI) vwCl (wM ad tI tL tII tLL (0 : Int32) sts wgt rwd up dn cel rig sum gp bst few) H := hP
  have hD : va_D (rwA (wM ad tI tL tII tLL thr sts wgt rwd up dn cel rig sum gp bst few)) (wM ad tI tL tII tLL (0 : Int32) sts wgt rwd up dn cel rig sum gp bst few) := hD
  refine lv_aload_n hx hb dX7_again_5 rfl (lv_at hl 0 rfl) ?_
  refine lv_iload_n hx hb dX7_again_6 rfl (lv_at hl 1 rfl) ?_
  obtain ⟨r1, hC, hR⟩ := ob hR
  try dsimp only at hR
  refine ro_calli (va_runV (As := [.int p1]) (rest := []) ⟨hx, hb, hml, hown, ht⟩ (c_M_isState l dC dI ad tI tL tII tLL (0 : Int32) sts wgt rwd up dn cel rig sum gp bst few p1 r1 hC.symm) ⟨callB_of 1 ht (goodG k_222) rfl rfl rfl (ht _ k_202) (ht _ k_223) (by decide +kernel) ⟨Nat.le_of_ble_eq_true rfl, Nat.le_of_ble_eq_true rfl⟩, (ht _ k_225), (ht _ k_224)⟩ (pre_v hK hN hP (q0 := 0) (ci := 7) rfl rfl) rfl rfl hl.1 rfl (lv_room (Nat.le_of_ble_eq_true rfl)) dX7_again_7 ⟨Nat.zero_le _, Nat.zero_le _⟩) ?_
  refine lv_if_ne (tgt := 15) hx hb dX7_again_10 (by decide) (fun c2 => ?_) (fun c2 => ?_)
  · replace hR := it_n c2 hR
    refine lv_aload_n hx hb dX7_again_15 rfl (lv_at hl 0 rfl) ?_
    refine lv_iload_n hx hb dX7_again_16 rfl (lv_at hl 1 rfl) ?_
    obtain ⟨r3, hC, hR⟩ := ob hR
    try dsimp only at hR
    refine ro_calli (va_runV (As := [.int p1]) (rest := []) ⟨hx, hb, hml, hown, ht⟩ (c_M_isEnd l dC dI ad tI tL tII tLL (0 : Int32) sts wgt rwd up dn cel rig sum gp bst few p1 r3 hC.symm) ⟨callB_of 1 ht (goodG k_245) rfl rfl rfl (ht _ k_202) (ht _ k_246) (by decide +kernel) ⟨Nat.le_of_ble_eq_true rfl, Nat.le_of_ble_eq_true rfl⟩, (ht _ k_248), (ht _ k_247)⟩ (pre_v hK hN hP (q0 := 0) (ci := 7) rfl rfl) rfl rfl hl.1 rfl (lv_room (Nat.le_of_ble_eq_true rfl)) dX7_again_17 ⟨Nat.zero_le _, Nat.zero_le _⟩) ?_
    refine lv_if_eq (tgt := 30) hx hb dX7_again_20 (by decide) (fun c4 => ?_) (fun c4 => ?_)
    · replace hR := it_p c4 hR
      refine lv_aload_n hx hb dX7_again_30 rfl (lv_at hl 0 rfl) ?_
      refine lv_iconst (v := 1) hx hb dX7_again_31 (by decide) ?_
      refine lv_iload_n hx hb dX7_again_32 rfl (lv_at hl 1 rfl) ?_
      refine lv_ishl hx hb dX7_again_33 ?_
      refine lv_iconst (v := 0) hx hb dX7_again_34 (by decide) ?_
      obtain ⟨⟨cel_5, rig_6⟩, hC, hR⟩ := ob hR
      try dsimp only at hR
      refine rw_callv (va_runV (As := [.int ((1 : Int32) <<< (p1 &&& 31)), .int (0 : Int32)]) (rest := []) ⟨hx, hb, hml, hown, ht⟩ (c_M_layOdds l dC dI ad tI tL tII tLL (0 : Int32) sts wgt rwd up dn cel rig sum gp bst few ((1 : Int32) <<< (p1 &&& 31)) (0 : Int32) cel_5 rig_6 hC.symm) ⟨callB_of 2 ht (goodG k_271) rfl rfl rfl (ht _ k_202) (ht _ k_272) (by decide +kernel) ⟨Nat.le_of_ble_eq_true rfl, Nat.le_of_ble_eq_true rfl⟩, (ht _ k_274), (ht _ k_273)⟩ (pre_vw hK hN hP hD (q0 := 0) (ci := 7) rfl rfl) rfl rfl hl.1 rfl (lv_room (Nat.le_of_ble_eq_true rfl)) dX7_again_35 ⟨Nat.zero_le _, Nat.zero_le _⟩) hD hS rfl (fun H locs hP hD hS => ?_)
      have hP : va_P (dC, dI) vwCl (wM ad tI tL tII tLL (0 : Int32) sts wgt rwd up dn cel_5 rig_6 sum gp bst few) H := hP
      have hD : va_D (rwA (wM ad tI tL tII tLL thr sts wgt rwd up dn cel rig sum gp bst few)) (wM ad tI tL tII tLL (0 : Int32) sts wgt rwd up dn cel_5 rig_6 sum gp bst few) := hD
      refine lv_aload_n hx hb dX7_again_38 rfl (lv_at hl 0 rfl) ?_
      refine lv_iconst (v := (-1)) hx hb dX7_again_39 (by decide) ?_
      obtain ⟨⟨r7, sum_8⟩, hC, hR⟩ := ob hR
      try dsimp only at hR
      refine rw_calll (va_runV (As := [.int (-1 : Int32)]) (rest := []) ⟨hx, hb, hml, hown, ht⟩ (c_M_all l dC dI ad tI tL tII tLL (0 : Int32) sts wgt rwd up dn cel_5 rig_6 sum gp bst few (-1 : Int32) r7 sum_8 hC.symm) ⟨callB_of 1 ht (goodG k_255) rfl rfl rfl (ht _ k_202) (ht _ k_256) (by decide +kernel) ⟨Nat.le_of_ble_eq_true rfl, Nat.le_of_ble_eq_true rfl⟩, (ht _ k_258), (ht _ k_257)⟩ (pre_vw hK hN hP hD (q0 := 0) (ci := 7) rfl rfl) rfl rfl hl.1 rfl (lv_room (Nat.le_of_ble_eq_true rfl)) dX7_again_40 ⟨Nat.zero_le _, Nat.zero_le _⟩) hD hS rfl (fun H locs hP hD hS => ?_)
      have hP : va_P (dC, dI) vwCl (wM ad tI tL tII tLL (0 : Int32) sts wgt rwd up dn cel_5 rig_6 sum_8 gp bst few) H := hP
      have hD : va_D (rwA (wM ad tI tL tII tLL thr sts wgt rwd up dn cel rig sum gp bst few)) (wM ad tI tL tII tLL (0 : Int32) sts wgt rwd up dn cel_5 rig_6 sum_8 gp bst few) := hD
      refine lv_lstore_n (lv' := [(2, .long r7), (0, .ref (ad 0)), (1, .int p1)]) hx hb dX7_again_43 rfl hl (by decide) rfl (fun ls hl => ?_)
      refine lv_lconst (v := 0) hx hb dX7_again_44 (by decide) ?_
      refine lv_lstore (lv' := [(4, .long (0 : Int64)), (2, .long r7), (0, .ref (ad 0)), (1, .int p1)]) hx hb dX7_again_45 hl (by decide) rfl (fun ls hl => ?_)
      refine lv_iconst (v := 0) hx hb dX7_again_47 (by decide) ?_
      refine lv_istore (lv' := [(6, .int (0 : Int32)), (4, .long (0 : Int64)), (2, .long r7), (0, .ref (ad 0)), (1, .int p1)]) hx hb dX7_again_48 hl (by decide) rfl (fun ls hl => ?_)
      have L50_19 : ∀ (thr_11 : Int32), ∀ (n : Nat) (x4_9 : Int64) (x6_10 : Int32) (sum_12 : Nat → Int64), ∀ (o_x4_9 : Int64) (o_x6_10 : Int32) (o_sum_12 : Nat → Int64), some (o_x4_9, o_x6_10, o_sum_12) = f_M_again_L50 sts wgt cel_5 rig_6 p1 n x4_9 x6_10 sum_12 → (∀ (H : Heap) (locs : List Loc), va_P (dC, dI) vwCl (wM ad tI tL tII tLL thr_11 sts wgt rwd up dn cel_5 rig_6 o_sum_12 gp bst few) H → va_D (rwA (wM ad tI tL tII tLL thr sts wgt rwd up dn cel rig sum gp bst few)) (wM ad tI tL tII tLL thr_11 sts wgt rwd up dn cel_5 rig_6 o_sum_12 gp bst few) → va_S (rwA (wM ad tI tL tII tLL thr sts wgt rwd up dn cel rig sum gp bst few)) s.heap H locs → ∀ ls : Array Slot, lv_has ls 7 [(0, .ref (ad 0)), (1, .int p1), (2, .long r7), (4, .long o_x4_9), (6, .int o_x6_10)] → W p l e (headSpec W_M_again RM_f_M_again).room s m ([.ref (ad 0), .int p1] : List Value).toArray below meth c H locs 0 0 (MQ below (rwQ (dC, dI) vwCl (wM ad tI tL tII tLL R_thr sts wgt rwd R_up R_dn R_cel R_rig R_sum gp bst few) (some (.int R0)) (rwA (wM ad tI tL tII tLL thr sts wgt rwd up dn cel rig sum gp bst few))) ([.ref (ad 0), .int p1] : List Value).toArray s 0 0 (rwA (wM ad tI tL tII tLL thr sts wgt rwd up dn cel rig sum gp bst few))) (F0 m 99 ls [])) → ∀ (H : Heap) (locs : List Loc), va_P (dC, dI) vwCl (wM ad tI tL tII tLL thr_11 sts wgt rwd up dn cel_5 rig_6 sum_12 gp bst few) H → va_D (rwA (wM ad tI tL tII tLL thr sts wgt rwd up dn cel rig sum gp bst few)) (wM ad tI tL tII tLL thr_11 sts wgt rwd up dn cel_5 rig_6 sum_12 gp bst few) → va_S (rwA (wM ad tI tL tII tLL thr sts wgt rwd up dn cel rig sum gp bst few)) s.heap H locs → ∀ ls : Array Slot, lv_has ls 7 [(0, .ref (ad 0)), (1, .int p1), (2, .long r7), (4, .long x4_9), (6, .int x6_10)] → W p l e (headSpec W_M_again RM_f_M_again).room s m ([.ref (ad 0), .int p1] : List Value).toArray below meth c H locs 0 0 (MQ below (rwQ (dC, dI) vwCl (wM ad tI tL tII tLL R_thr sts wgt rwd R_up R_dn R_cel R_rig R_sum gp bst few) (some (.int R0)) (rwA (wM ad tI tL tII tLL thr sts wgt rwd up dn cel rig sum gp bst few))) ([.ref (ad 0), .int p1] : List Value).toArray s 0 0 (rwA (wM ad tI tL tII tLL thr sts wgt rwd up dn cel rig sum gp bst few))) (F0 m 50 ls []) := by
        intro thr_11
        intro n
        induction n with
        | zero =>
          intro x4_9 x6_10 sum_12 o_x4_9 o_x6_10 o_sum_12 hR
          cases (show some _ = none from hR)
        | succ n ih =>
          intro x4_9 x6_10 sum_12 o_x4_9 o_x6_10 o_sum_12 hR hk H locs hP hD hS ls hl
          rw [f_M_again_L50_s] at hR
          obtain ⟨y, hR, hQ⟩ := ob hR
          replace hR := hR.symm
          rw [f_M_again_B50] at hR
          refine lv_iload hx hb dX7_again_50 (lv_at hl 4 rfl) ?_
          refine lv_aload_n hx hb dX7_again_52 rfl (lv_at hl 0 rfl) ?_
          refine va_get (D := (dC, dI)) (ci := 7) (v := .int sts) (C := RX7) (T := TX7) (N := 12) hx hb ht hinX7 hown hK hP 0 rfl rfl 1 (by decide) (ht _ k_205) (fun _ h9 => h9) rfl dX7_again_53 ?_
          refine lv_icmp_ge (tgt := 99) hx hb dX7_again_56 (by decide) (fun c13 => ?_) (fun c13 => ?_)
          · replace hR := it_p c13 hR
            cases hR
            cases (show some _ = some _ from hQ)
            exact hk H locs hP hD hS ls (lv_sub hl [0, 1, 2, 3, 4] rfl)
          · replace hR := it_n c13 hR
            refine lv_lload hx hb dX7_again_59 (lv_at hl 3 rfl) ?_
            refine lv_aload_n hx hb dX7_again_61 rfl (lv_at hl 0 rfl) ?_
            refine lv_iload_n hx hb dX7_again_62 rfl (lv_at hl 1 rfl) ?_
            refine lv_iload hx hb dX7_again_63 (lv_at hl 4 rfl) ?_
            obtain ⟨r14, hC, hR⟩ := ob hR
            try dsimp only at hR
            refine ro_calli (va_runV (As := [.int p1, .int x6_10]) (rest := [.long x4_9]) ⟨hx, hb, hml, hown, ht⟩ (c_M_w l dC dI ad tI tL tII tLL thr_11 sts wgt rwd up dn cel_5 rig_6 sum_12 gp bst few p1 x6_10 r14 hC.symm) ⟨callB_of 2 ht (goodG k_210) rfl rfl rfl (ht _ k_202) (ht _ k_211) (by decide +kernel) ⟨Nat.le_of_ble_eq_true rfl, Nat.le_of_ble_eq_true rfl⟩, (ht _ k_213), (ht _ k_212)⟩ (pre_v hK hN hP (q0 := 0) (ci := 7) rfl rfl) rfl rfl hl.1 rfl (lv_room (Nat.le_of_ble_eq_true rfl)) dX7_again_65 ⟨Nat.zero_le _, Nat.zero_le _⟩) ?_
            refine lv_if_le (tgt := 89) hx hb dX7_again_68 (by decide) (fun c15 => ?_) (fun c15 => ?_)
            · replace hR := it_p c15 hR
              refine lv_lconst (v := 0) hx hb dX7_again_89 (by decide) ?_
              refine lv_ladd hx hb dX7_again_90 ?_
              refine lv_lstore (lv' := [(4, .long (x4_9 + (0 : Int64))), (0, .ref (ad 0)), (1, .int p1), (2, .long r7), (6, .int x6_10)]) hx hb dX7_again_91 hl (by decide) rfl (fun ls hl => ?_)
              refine lv_iinc (v := (x6_10 + 1)) (lv' := [(6, .int (x6_10 + 1)), (4, .long (x4_9 + (0 : Int64))), (0, .ref (ad 0)), (1, .int p1), (2, .long r7)]) hx hb dX7_again_93 hl (k := 4) rfl rfl (by decide) rfl (fun ls hl => ?_)
              refine lv_goto (tgt := 50) hx hb dX7_again_96 (by decide) ?_
              cases hR
              exact ih (x4_9 + (0 : Int64)) (x6_10 + 1) sum_12 o_x4_9 o_x6_10 o_sum_12 hQ hk H locs hP hD hS ls (lv_sub hl [2, 3, 4, 1, 0] rfl)
            · replace hR := it_n c15 hR
              refine lv_aload_n hx hb dX7_again_71 rfl (lv_at hl 0 rfl) ?_
              refine lv_iload_n hx hb dX7_again_72 rfl (lv_at hl 1 rfl) ?_
              refine lv_iload hx hb dX7_again_73 (lv_at hl 4 rfl) ?_
              obtain ⟨r16, hC, hR⟩ := ob hR
              try dsimp only at hR
              refine ro_calli (va_runV (As := [.int p1, .int x6_10]) (rest := [.long x4_9]) ⟨hx, hb, hml, hown, ht⟩ (c_M_w l dC dI ad tI tL tII tLL thr_11 sts wgt rwd up dn cel_5 rig_6 sum_12 gp bst few p1 x6_10 r16 hC.symm) ⟨callB_of 2 ht (goodG k_210) rfl rfl rfl (ht _ k_202) (ht _ k_211) (by decide +kernel) ⟨Nat.le_of_ble_eq_true rfl, Nat.le_of_ble_eq_true rfl⟩, (ht _ k_213), (ht _ k_212)⟩ (pre_v hK hN hP (q0 := 0) (ci := 7) rfl rfl) rfl rfl hl.1 rfl (lv_room (Nat.le_of_ble_eq_true rfl)) dX7_again_75 ⟨Nat.zero_le _, Nat.zero_le _⟩) ?_
              refine lv_i2l hx hb dX7_again_78 rfl ?_
              refine lv_aload_n hx hb dX7_again_79 rfl (lv_at hl 0 rfl) ?_
              refine lv_iload hx hb dX7_again_80 (lv_at hl 4 rfl) ?_
              obtain ⟨⟨r17, sum_18⟩, hC, hR⟩ := ob hR
              try dsimp only at hR
              refine rw_calll (va_runV (As := [.int x6_10]) (rest := [.long (r16.toInt64), .long x4_9]) ⟨hx, hb, hml, hown, ht⟩ (c_M_all l dC dI ad tI tL tII tLL thr_11 sts wgt rwd up dn cel_5 rig_6 sum_12 gp bst few x6_10 r17 sum_18 hC.symm) ⟨callB_of 1 ht (goodG k_255) rfl rfl rfl (ht _ k_202) (ht _ k_256) (by decide +kernel) ⟨Nat.le_of_ble_eq_true rfl, Nat.le_of_ble_eq_true rfl⟩, (ht _ k_258), (ht _ k_257)⟩ (pre_vw hK hN hP hD (q0 := 0) (ci := 7) rfl rfl) rfl rfl hl.1 rfl (lv_room (Nat.le_of_ble_eq_true rfl)) dX7_again_82 ⟨Nat.zero_le _, Nat.zero_le _⟩) hD hS rfl (fun H locs hP hD hS => ?_)
              have hP : va_P (dC, dI) vwCl (wM ad tI tL tII tLL thr_11 sts wgt rwd up dn cel_5 rig_6 sum_18 gp bst few) H := hP
              have hD : va_D (rwA (wM ad tI tL tII tLL thr sts wgt rwd up dn cel rig sum gp bst few)) (wM ad tI tL tII tLL thr_11 sts wgt rwd up dn cel_5 rig_6 sum_18 gp bst few) := hD
              refine lv_lmul hx hb dX7_again_85 ?_
              refine lv_goto (tgt := 90) hx hb dX7_again_86 (by decide) ?_
              refine lv_ladd hx hb dX7_again_90 ?_
              refine lv_lstore (lv' := [(4, .long (x4_9 + ((r16.toInt64) * r17))), (0, .ref (ad 0)), (1, .int p1), (2, .long r7), (6, .int x6_10)]) hx hb dX7_again_91 hl (by decide) rfl (fun ls hl => ?_)
              refine lv_iinc (v := (x6_10 + 1)) (lv' := [(6, .int (x6_10 + 1)), (4, .long (x4_9 + ((r16.toInt64) * r17))), (0, .ref (ad 0)), (1, .int p1), (2, .long r7)]) hx hb dX7_again_93 hl (k := 4) rfl rfl (by decide) rfl (fun ls hl => ?_)
              refine lv_goto (tgt := 50) hx hb dX7_again_96 (by decide) ?_
              cases hR
              exact ih (x4_9 + ((r16.toInt64) * r17)) (x6_10 + 1) sum_18 o_x4_9 o_x6_10 o_sum_12 hQ hk H locs hP hD hS ls (lv_sub hl [2, 3, 4, 1, 0] rfl)
      obtain ⟨⟨u20, u21, u22⟩, hL, hR⟩ := ob hR
      try dsimp only at hR
      refine L50_19 (0 : Int32) 300 (0 : Int64) (0 : Int32) sum_8 u20 u21 u22 hL.symm (fun H locs hP hD hS ls hl => ?_) H locs hP hD hS ls (lv_sub hl [3, 4, 2, 1, 0] rfl)
      refine lv_aload_n hx hb dX7_again_99 rfl (lv_at hl 0 rfl) ?_
      refine lv_lload hx hb dX7_again_100 (lv_at hl 3 rfl) ?_
      refine lv_aload_n hx hb dX7_again_102 rfl (lv_at hl 0 rfl) ?_
      refine lv_iload_n hx hb dX7_again_103 rfl (lv_at hl 1 rfl) ?_
      obtain ⟨r23, hC, hR⟩ := ob hR
      try dsimp only at hR
      refine ro_calli (va_runV (As := [.int p1]) (rest := [.long u20, .ref (ad 0)]) ⟨hx, hb, hml, hown, ht⟩ (c_M_total l dC dI ad tI tL tII tLL (0 : Int32) sts wgt rwd up dn cel_5 rig_6 u22 gp bst few p1 r23 hC.symm) ⟨callB_of 1 ht (goodG k_214) rfl rfl rfl (ht _ k_202) (ht _ k_215) (by decide +kernel) ⟨Nat.le_of_ble_eq_true rfl, Nat.le_of_ble_eq_true rfl⟩, (ht _ k_217), (ht _ k_216)⟩ (pre_v hK hN hP (q0 := 0) (ci := 7) rfl rfl) rfl rfl hl.1 rfl (lv_room (Nat.le_of_ble_eq_true rfl)) dX7_again_104 ⟨Nat.zero_le _, Nat.zero_le _⟩) ?_
      refine lv_i2l hx hb dX7_again_107 rfl ?_
      refine lv_lload_n hx hb dX7_again_108 rfl (lv_at hl 2 rfl) ?_
      refine lv_lmul hx hb dX7_again_109 ?_
      obtain ⟨⟨r24, up_25, dn_26⟩, hC, hR⟩ := ob hR
      try dsimp only at hR
      refine rw_calli (va_runV (As := [.long u20, .long ((r23.toInt64) * r7)]) (rest := []) ⟨hx, hb, hml, hown, ht⟩ (c_M_answer l dC dI ad tI tL tII tLL (0 : Int32) sts wgt rwd up dn cel_5 rig_6 u22 gp bst few u20 ((r23.toInt64) * r7) r24 up_25 dn_26 hC.symm) ⟨callB_of 2 ht (goodG k_259) rfl rfl rfl (ht _ k_202) (ht _ k_260) (by decide +kernel) ⟨Nat.le_of_ble_eq_true rfl, Nat.le_of_ble_eq_true rfl⟩, (ht _ k_262), (ht _ k_261)⟩ (pre_vw hK hN hP hD (q0 := 0) (ci := 7) rfl rfl) rfl rfl hl.1 rfl (lv_room (Nat.le_of_ble_eq_true rfl)) dX7_again_110 ⟨Nat.zero_le _, Nat.zero_le _⟩) hD hS rfl (fun H locs hP hD hS => ?_)
      have hP : va_P (dC, dI) vwCl (wM ad tI tL tII tLL (0 : Int32) sts wgt rwd up_25 dn_26 cel_5 rig_6 u22 gp bst few) H := hP
      have hD : va_D (rwA (wM ad tI tL tII tLL thr sts wgt rwd up dn cel rig sum gp bst few)) (wM ad tI tL tII tLL (0 : Int32) sts wgt rwd up_25 dn_26 cel_5 rig_6 u22 gp bst few) := hD
      cases hR
      exact W.iret hx hb hr (fun t ht _ => ⟨rfl, by rw [ht]; exact hP, hS.F ht⟩) hS.2.2 dX7_again_113
    · replace hR := it_n c4 hR
      refine lv_aload_n hx hb dX7_again_23 rfl (lv_at hl 0 rfl) ?_
      refine lv_lconst (v := 1) hx hb dX7_again_24 (by decide) ?_
      refine lv_lconst (v := 1) hx hb dX7_again_25 (by decide) ?_
      obtain ⟨⟨r27, up_28, dn_29⟩, hC, hR⟩ := ob hR
      try dsimp only at hR
      refine rw_calli (va_runV (As := [.long (1 : Int64), .long (1 : Int64)]) (rest := []) ⟨hx, hb, hml, hown, ht⟩ (c_M_answer l dC dI ad tI tL tII tLL (0 : Int32) sts wgt rwd up dn cel rig sum gp bst few (1 : Int64) (1 : Int64) r27 up_28 dn_29 hC.symm) ⟨callB_of 2 ht (goodG k_259) rfl rfl rfl (ht _ k_202) (ht _ k_260) (by decide +kernel) ⟨Nat.le_of_ble_eq_true rfl, Nat.le_of_ble_eq_true rfl⟩, (ht _ k_262), (ht _ k_261)⟩ (pre_vw hK hN hP hD (q0 := 0) (ci := 7) rfl rfl) rfl rfl hl.1 rfl (lv_room (Nat.le_of_ble_eq_true rfl)) dX7_again_26 ⟨Nat.zero_le _, Nat.zero_le _⟩) hD hS rfl (fun H locs hP hD hS => ?_)
      have hP : va_P (dC, dI) vwCl (wM ad tI tL tII tLL (0 : Int32) sts wgt rwd up_28 dn_29 cel rig sum gp bst few) H := hP
      have hD : va_D (rwA (wM ad tI tL tII tLL thr sts wgt rwd up dn cel rig sum gp bst few)) (wM ad tI tL tII tLL (0 : Int32) sts wgt rwd up_28 dn_29 cel rig sum gp bst few) := hD
      cases hR
      exact W.iret hx hb hr (fun t ht _ => ⟨rfl, by rw [ht]; exact hP, hS.F ht⟩) hS.2.2 dX7_again_29
  · replace hR := it_p c2 hR
    refine lv_iconst (v := (-1)) hx hb dX7_again_13 (by decide) ?_
    cases hR
    exact W.iret hx hb hr (fun t ht _ => ⟨rfl, by rw [ht]; exact hP, hS.F ht⟩) hS.2.2 dX7_again_14
abbrev RM_f_M_before : Room := { frames := 4, cells := 0, slots := 0, locals := 97 }
abbrev W_M_before : List Cond := .code yX7_before cX7_before 4 (some .int) :: tblG
set_option maxHeartbeats 4000000 in
set_option maxRecDepth 100000 in
theorem c_M_before (l : Launch) (dC : Nat → ClassId) (dI : Nat → Nat → Nat) (ad : Nat → Nat) (tI tL tII tLL : ClassId) (thr : Int32) (sts : Int32) (wgt : Nat → Int32) (rwd : Nat → Int32) (up : Int64) (dn : Int64) (cel : Nat → Int64) (rig : Nat → Int64) (sum : Nat → Int64) (gp : Nat → Int32) (bst : Nat → Int32) (few : Int32) (p1 : Int32) (p2 : Int32) (p3 : Int32) (R0 : Int32) (R_thr : Int32) (R_up : Int64) (R_dn : Int64) (R_cel : Nat → Int64) (R_rig : Nat → Int64) (R_sum : Nat → Int64) (hR : some (R0, R_thr, R_up, R_dn, R_cel, R_rig, R_sum) = f_M_before sts wgt up dn cel rig sum p1 p2 p3) : Met l yX7_before W_M_before RM_f_M_before (rwP (dC, dI) vwCl [(tI, .int), (tL, .long), (tII, .array .int), (tLL, .array .long)] (wM ad tI tL tII tLL thr sts wgt rwd up dn cel rig sum gp bst few) ([.ref (ad 0), .int p1, .int p2, .int p3] : List Value)) (rwQ (dC, dI) vwCl (wM ad tI tL tII tLL R_thr sts wgt rwd R_up R_dn R_cel R_rig R_sum gp bst few) (some (.int R0)) (rwA (wM ad tI tL tII tLL thr sts wgt rwd up dn cel rig sum gp bst few))) 0 0 (rwA (wM ad tI tL tII tLL thr sts wgt rwd up dn cel rig sum gp bst few)) := by
  refine Met.ofW (cc := cX7_before) (maxL := 4) (ret := (some .int)) (by decide) rfl ?_
  intro p e s m args below meth c s₁ B hml hv
  obtain ⟨rfl, hP, hK, hN, hD⟩ := hv
  have hx := B.exec
  have hb := B.bytes
  have hr := B.returns
  have hts := atoms_spec (ws := W_M_before) B.pre
  have ht := fun (w : Cond) (h : w ∈ tblG) => hts w (List.mem_cons_of_mem _ h)
  have hown : s.vm.findClass RX7 = some m.cls := findClass_of_methodNamed B.named
  have hlocks := B.notSynchronized
  have hl := lv_entry ([.ref (ad 0), .int p1, .int p2, .int p3] : List Value) (n := 4) (Nat.le_of_ble_eq_true rfl)
  rw [lg_entry_eq]
  generalize (lg_sl ([.ref (ad 0), .int p1, .int p2, .int p3] : List Value) ++ List.replicate (4 - (lg_sl ([.ref (ad 0), .int p1, .int p2, .int p3] : List Value)).length) Slot.unset).toArray = ls at hl ⊢
  have hl : lv_has ls 4 [(0, .ref (ad 0)), (1, .int p1), (2, .int p2), (3, .int p3)] := hl
  have hD := hD.own
  have hS : va_S (rwA (wM ad tI tL tII tLL thr sts wgt rwd up dn cel rig sum gp bst few)) s.heap s.heap [] := va_S.rf
  suffices K : ∀ (H : Heap) (locs : List Loc), va_P (dC, dI) vwCl (wM ad tI tL tII tLL thr sts wgt rwd up dn cel rig sum gp bst few) H → va_D (rwA (wM ad tI tL tII tLL thr sts wgt rwd up dn cel rig sum gp bst few)) (wM ad tI tL tII tLL thr sts wgt rwd up dn cel rig sum gp bst few) → va_S (rwA (wM ad tI tL tII tLL thr sts wgt rwd up dn cel rig sum gp bst few)) s.heap H locs → W p l e (headSpec W_M_before RM_f_M_before).room s m ([.ref (ad 0), .int p1, .int p2, .int p3] : List Value).toArray below meth c H locs 0 0 (MQ below (rwQ (dC, dI) vwCl (wM ad tI tL tII tLL R_thr sts wgt rwd R_up R_dn R_cel R_rig R_sum gp bst few) (some (.int R0)) (rwA (wM ad tI tL tII tLL thr sts wgt rwd up dn cel rig sum gp bst few))) ([.ref (ad 0), .int p1, .int p2, .int p3] : List Value).toArray s 0 0 (rwA (wM ad tI tL tII tLL thr sts wgt rwd up dn cel rig sum gp bst few))) (F0 m 0 ls []) from K s.heap [] hP hD hS
  clear hP hD hS
  intro H locs hP hD hS
  rw [f_M_before] at hR
  refine lv_aload_n hx hb dX7_before_0 rfl (lv_at hl 0 rfl) ?_
  refine lv_iconst (v := 0) hx hb dX7_before_1 (by decide) ?_
  refine va_put (D := (dC, dI)) (ci := 7) (v := .int (0 : Int32)) (ty := .int) (C := RX7) (T := TX7) (N := 12) hx hb ht hinX7 tyX7 tyX7_ok nmX7 hown hK hP hD hS 0 rfl rfl 0 (by decide) (ht _ k_220) (fun _ h9 => h9) rfl (by decide +kernel) rfl rfl (Nat.le_of_ble_eq_true rfl) dX7_before_2 (fun H locs hP hD hS => ?_)
  have hP : va_P (dC, dI) vwCl (wM ad tI tL tII tLL (0 : Int32) sts wgt rwd up dn cel rig sum gp bst few) H := hP
  have hD : va_D (rwA (wM ad tI tL tII tLL thr sts wgt rwd up dn cel rig sum gp bst few)) (wM ad tI tL tII tLL (0 : Int32) sts wgt rwd up dn cel rig sum gp bst few) := hD
  refine lv_aload_n hx hb dX7_before_5 rfl (lv_at hl 0 rfl) ?_
  refine lv_iload_n hx hb dX7_before_6 rfl (lv_at hl 1 rfl) ?_
  obtain ⟨r1, hC, hR⟩ := ob hR
  try dsimp only at hR
  refine ro_calli (va_runV (As := [.int p1]) (rest := []) ⟨hx, hb, hml, hown, ht⟩ (c_M_isState l dC dI ad tI tL tII tLL (0 : Int32) sts wgt rwd up dn cel rig sum gp bst few p1 r1 hC.symm) ⟨callB_of 1 ht (goodG k_222) rfl rfl rfl (ht _ k_202) (ht _ k_223) (by decide +kernel) ⟨Nat.le_of_ble_eq_true rfl, Nat.le_of_ble_eq_true rfl⟩, (ht _ k_225), (ht _ k_224)⟩ (pre_v hK hN hP (q0 := 0) (ci := 7) rfl rfl) rfl rfl hl.1 rfl (lv_room (Nat.le_of_ble_eq_true rfl)) dX7_before_7 ⟨Nat.zero_le _, Nat.zero_le _⟩) ?_
  refine lv_if_eq (tgt := 29) hx hb dX7_before_10 (by decide) (fun c2 => ?_) (fun c2 => ?_)
  · replace hR := it_p c2 hR
    refine lv_iconst (v := (-1)) hx hb dX7_before_29 (by decide) ?_
    cases hR
    exact W.iret hx hb hr (fun t ht _ => ⟨rfl, by rw [ht]; exact hP, hS.F ht⟩) hS.2.2 dX7_before_30
  · replace hR := it_n c2 hR
    refine lv_aload_n hx hb dX7_before_13 rfl (lv_at hl 0 rfl) ?_
    refine lv_iload_n hx hb dX7_before_14 rfl (lv_at hl 2 rfl) ?_
    obtain ⟨r3, hC, hR⟩ := ob hR
    try dsimp only at hR
    refine ro_calli (va_runV (As := [.int p2]) (rest := []) ⟨hx, hb, hml, hown, ht⟩ (c_M_isState l dC dI ad tI tL tII tLL (0 : Int32) sts wgt rwd up dn cel rig sum gp bst few p2 r3 hC.symm) ⟨callB_of 1 ht (goodG k_222) rfl rfl rfl (ht _ k_202) (ht _ k_223) (by decide +kernel) ⟨Nat.le_of_ble_eq_true rfl, Nat.le_of_ble_eq_true rfl⟩, (ht _ k_225), (ht _ k_224)⟩ (pre_v hK hN hP (q0 := 0) (ci := 7) rfl rfl) rfl rfl hl.1 rfl (lv_room (Nat.le_of_ble_eq_true rfl)) dX7_before_15 ⟨Nat.zero_le _, Nat.zero_le _⟩) ?_
    refine lv_if_eq (tgt := 29) hx hb dX7_before_18 (by decide) (fun c4 => ?_) (fun c4 => ?_)
    · replace hR := it_p c4 hR
      refine lv_iconst (v := (-1)) hx hb dX7_before_29 (by decide) ?_
      cases hR
      exact W.iret hx hb hr (fun t ht _ => ⟨rfl, by rw [ht]; exact hP, hS.F ht⟩) hS.2.2 dX7_before_30
    · replace hR := it_n c4 hR
      refine lv_aload_n hx hb dX7_before_21 rfl (lv_at hl 0 rfl) ?_
      refine lv_iload_n hx hb dX7_before_22 rfl (lv_at hl 3 rfl) ?_
      obtain ⟨r5, hC, hR⟩ := ob hR
      try dsimp only at hR
      refine ro_calli (va_runV (As := [.int p3]) (rest := []) ⟨hx, hb, hml, hown, ht⟩ (c_M_isState l dC dI ad tI tL tII tLL (0 : Int32) sts wgt rwd up dn cel rig sum gp bst few p3 r5 hC.symm) ⟨callB_of 1 ht (goodG k_222) rfl rfl rfl (ht _ k_202) (ht _ k_223) (by decide +kernel) ⟨Nat.le_of_ble_eq_true rfl, Nat.le_of_ble_eq_true rfl⟩, (ht _ k_225), (ht _ k_224)⟩ (pre_v hK hN hP (q0 := 0) (ci := 7) rfl rfl) rfl rfl hl.1 rfl (lv_room (Nat.le_of_ble_eq_true rfl)) dX7_before_23 ⟨Nat.zero_le _, Nat.zero_le _⟩) ?_
      refine lv_if_ne (tgt := 31) hx hb dX7_before_26 (by decide) (fun c6 => ?_) (fun c6 => ?_)
      · replace hR := it_n c6 hR
        refine lv_iload_n hx hb dX7_before_31 rfl (lv_at hl 2 rfl) ?_
        refine lv_iload_n hx hb dX7_before_32 rfl (lv_at hl 3 rfl) ?_
        refine lv_icmp_ne (tgt := 39) hx hb dX7_before_33 (by decide) (fun c7 => ?_) (fun c7 => ?_)
        · replace hR := it_n c7 hR
          refine lv_aload_n hx hb dX7_before_39 rfl (lv_at hl 0 rfl) ?_
          refine lv_iconst (v := 1) hx hb dX7_before_40 (by decide) ?_
          refine lv_iload_n hx hb dX7_before_41 rfl (lv_at hl 2 rfl) ?_
          refine lv_ishl hx hb dX7_before_42 ?_
          refine lv_iconst (v := 1) hx hb dX7_before_43 (by decide) ?_
          refine lv_iload_n hx hb dX7_before_44 rfl (lv_at hl 3 rfl) ?_
          refine lv_ishl hx hb dX7_before_45 ?_
          obtain ⟨⟨cel_8, rig_9⟩, hC, hR⟩ := ob hR
          try dsimp only at hR
          refine rw_callv (va_runV (As := [.int ((1 : Int32) <<< (p2 &&& 31)), .int ((1 : Int32) <<< (p3 &&& 31))]) (rest := []) ⟨hx, hb, hml, hown, ht⟩ (c_M_layOdds l dC dI ad tI tL tII tLL (0 : Int32) sts wgt rwd up dn cel rig sum gp bst few ((1 : Int32) <<< (p2 &&& 31)) ((1 : Int32) <<< (p3 &&& 31)) cel_8 rig_9 hC.symm) ⟨callB_of 2 ht (goodG k_271) rfl rfl rfl (ht _ k_202) (ht _ k_272) (by decide +kernel) ⟨Nat.le_of_ble_eq_true rfl, Nat.le_of_ble_eq_true rfl⟩, (ht _ k_274), (ht _ k_273)⟩ (pre_vw hK hN hP hD (q0 := 0) (ci := 7) rfl rfl) rfl rfl hl.1 rfl (lv_room (Nat.le_of_ble_eq_true rfl)) dX7_before_46 ⟨Nat.zero_le _, Nat.zero_le _⟩) hD hS rfl (fun H locs hP hD hS => ?_)
          have hP : va_P (dC, dI) vwCl (wM ad tI tL tII tLL (0 : Int32) sts wgt rwd up dn cel_8 rig_9 sum gp bst few) H := hP
          have hD : va_D (rwA (wM ad tI tL tII tLL thr sts wgt rwd up dn cel rig sum gp bst few)) (wM ad tI tL tII tLL (0 : Int32) sts wgt rwd up dn cel_8 rig_9 sum gp bst few) := hD
          refine lv_aload_n hx hb dX7_before_49 rfl (lv_at hl 0 rfl) ?_
          refine lv_iload_n hx hb dX7_before_50 rfl (lv_at hl 1 rfl) ?_
          obtain ⟨⟨r10, up_11, dn_12, sum_13⟩, hC, hR⟩ := ob hR
          try dsimp only at hR
          refine rw_calli (va_runV (As := [.int p1]) (rest := []) ⟨hx, hb, hml, hown, ht⟩ (c_M_solved l dC dI ad tI tL tII tLL (0 : Int32) sts wgt rwd up dn cel_8 rig_9 sum gp bst few p1 r10 up_11 dn_12 sum_13 hC.symm) ⟨callB_of 1 ht (goodG k_275) rfl rfl rfl (ht _ k_202) (ht _ k_276) (by decide +kernel) ⟨Nat.le_of_ble_eq_true rfl, Nat.le_of_ble_eq_true rfl⟩, (ht _ k_278), (ht _ k_277)⟩ (pre_vw hK hN hP hD (q0 := 0) (ci := 7) rfl rfl) rfl rfl hl.1 rfl (lv_room (Nat.le_of_ble_eq_true rfl)) dX7_before_51 ⟨Nat.zero_le _, Nat.zero_le _⟩) hD hS rfl (fun H locs hP hD hS => ?_)
          have hP : va_P (dC, dI) vwCl (wM ad tI tL tII tLL (0 : Int32) sts wgt rwd up_11 dn_12 cel_8 rig_9 sum_13 gp bst few) H := hP
          have hD : va_D (rwA (wM ad tI tL tII tLL thr sts wgt rwd up dn cel rig sum gp bst few)) (wM ad tI tL tII tLL (0 : Int32) sts wgt rwd up_11 dn_12 cel_8 rig_9 sum_13 gp bst few) := hD
          cases hR
          exact W.iret hx hb hr (fun t ht _ => ⟨rfl, by rw [ht]; exact hP, hS.F ht⟩) hS.2.2 dX7_before_54
        · replace hR := it_p c7 hR
          refine lv_bipush (v := (-3)) hx hb dX7_before_36 (by decide) ?_
          cases hR
          exact W.iret hx hb hr (fun t ht _ => ⟨rfl, by rw [ht]; exact hP, hS.F ht⟩) hS.2.2 dX7_before_38
      · replace hR := it_p c6 hR
        refine lv_iconst (v := (-1)) hx hb dX7_before_29 (by decide) ?_
        cases hR
        exact W.iret hx hb hr (fun t ht _ => ⟨rfl, by rw [ht]; exact hP, hS.F ht⟩) hS.2.2 dX7_before_30
abbrev RM_f_M_isSure : Room := { frames := 3, cells := 0, slots := 0, locals := 73 }
abbrev W_M_isSure : List Cond := .code yX7_isSure cX7_isSure 4 (some .boolean) :: tblG
set_option maxHeartbeats 4000000 in
set_option maxRecDepth 100000 in
theorem c_M_isSure (l : Launch) (dC : Nat → ClassId) (dI : Nat → Nat → Nat) (ad : Nat → Nat) (tI tL tII tLL : ClassId) (thr : Int32) (sts : Int32) (wgt : Nat → Int32) (rwd : Nat → Int32) (up : Int64) (dn : Int64) (cel : Nat → Int64) (rig : Nat → Int64) (sum : Nat → Int64) (gp : Nat → Int32) (bst : Nat → Int32) (few : Int32) (p1 : Int32) (p2 : Int32) (R0 : Int32) (hR : some R0 = f_M_isSure sts wgt p1 p2) : Met l yX7_isSure W_M_isSure RM_f_M_isSure (roP (dC, dI) vwCl [(tI, .int), (tL, .long), (tII, .array .int), (tLL, .array .long)] (wM ad tI tL tII tLL thr sts wgt rwd up dn cel rig sum gp bst few) ([.ref (ad 0), .int p1, .int p2] : List Value)) (roQ (some (.int R0))) 0 0 (fun _ => False) := by
  refine Met.ofW (cc := cX7_isSure) (maxL := 4) (ret := (some .boolean)) (by decide) rfl ?_
  intro p e s m args below meth c s₁ B hml hv
  obtain ⟨rfl, hP, hK, hN⟩ := hv
  have hx := B.exec
  have hb := B.bytes
  have hr := B.returns
  have hts := atoms_spec (ws := W_M_isSure) B.pre
  have ht := fun (w : Cond) (h : w ∈ tblG) => hts w (List.mem_cons_of_mem _ h)
  have hown : s.vm.findClass RX7 = some m.cls := findClass_of_methodNamed B.named
  have hlocks := B.notSynchronized
  have hl := lv_entry ([.ref (ad 0), .int p1, .int p2] : List Value) (n := 4) (Nat.le_of_ble_eq_true rfl)
  rw [lg_entry_eq]
  generalize (lg_sl ([.ref (ad 0), .int p1, .int p2] : List Value) ++ List.replicate (4 - (lg_sl ([.ref (ad 0), .int p1, .int p2] : List Value)).length) Slot.unset).toArray = ls at hl ⊢
  have hl : lv_has ls 4 [(0, .ref (ad 0)), (1, .int p1), (2, .int p2)] := hl
  rw [f_M_isSure] at hR
  refine lv_aload_n hx hb dX7_isSure_0 rfl (lv_at hl 0 rfl) ?_
  refine lv_iconst (v := 1) hx hb dX7_isSure_1 (by decide) ?_
  refine lv_iload_n hx hb dX7_isSure_2 rfl (lv_at hl 1 rfl) ?_
  refine lv_ishl hx hb dX7_isSure_3 ?_
  refine lv_iload_n hx hb dX7_isSure_4 rfl (lv_at hl 2 rfl) ?_
  obtain ⟨r1, hC, hR⟩ := ob hR
  try dsimp only at hR
  refine ro_calli (va_runV (As := [.int ((1 : Int32) <<< (p1 &&& 31)), .int p2]) (rest := []) ⟨hx, hb, hml, hown, ht⟩ (c_M_reach l dC dI ad tI tL tII tLL thr sts wgt rwd up dn cel rig sum gp bst few ((1 : Int32) <<< (p1 &&& 31)) p2 r1 hC.symm) ⟨callB_of 2 ht (goodG k_226) rfl rfl rfl (ht _ k_202) (ht _ k_227) (by decide +kernel) ⟨Nat.le_of_ble_eq_true rfl, Nat.le_of_ble_eq_true rfl⟩, (ht _ k_229), (ht _ k_228)⟩ (pre_v hK hN hP (q0 := 0) (ci := 7) rfl rfl) rfl rfl hl.1 rfl (lv_room (Nat.le_of_ble_eq_true rfl)) dX7_isSure_5 ⟨Nat.zero_le _, Nat.zero_le _⟩) ?_
  refine lv_istore_n (lv' := [(3, .int r1), (0, .ref (ad 0)), (1, .int p1), (2, .int p2)]) hx hb dX7_isSure_8 rfl hl (by decide) rfl (fun ls hl => ?_)
  refine lv_iload_n hx hb dX7_isSure_9 rfl (lv_at hl 0 rfl) ?_
  refine lv_aload_n hx hb dX7_isSure_10 rfl (lv_at hl 1 rfl) ?_
  refine lv_iload_n hx hb dX7_isSure_11 rfl (lv_at hl 3 rfl) ?_
  refine lv_iload_n hx hb dX7_isSure_12 rfl (lv_at hl 3 rfl) ?_
  obtain ⟨r2, hC, hR⟩ := ob hR
  try dsimp only at hR
  refine ro_calli (va_runV (As := [.int p2, .int p2]) (rest := [.int r1]) ⟨hx, hb, hml, hown, ht⟩ (c_M_whence l dC dI ad tI tL tII tLL thr sts wgt rwd up dn cel rig sum gp bst few p2 p2 r2 hC.symm) ⟨callB_of 2 ht (goodG k_230) rfl rfl rfl (ht _ k_202) (ht _ k_231) (by decide +kernel) ⟨Nat.le_of_ble_eq_true rfl, Nat.le_of_ble_eq_true rfl⟩, (ht _ k_233), (ht _ k_232)⟩ (pre_v hK hN hP (q0 := 0) (ci := 7) rfl rfl) rfl rfl hl.1 rfl (lv_room (Nat.le_of_ble_eq_true rfl)) dX7_isSure_13 ⟨Nat.zero_le _, Nat.zero_le _⟩) ?_
  refine lv_iconst (v := (-1)) hx hb dX7_isSure_16 (by decide) ?_
  refine lv_ixor hx hb dX7_isSure_17 ?_
  refine lv_iand hx hb dX7_isSure_18 ?_
  refine lv_if_ne (tgt := 26) hx hb dX7_isSure_19 (by decide) (fun c3 => ?_) (fun c3 => ?_)
  · replace hR := it_n c3 hR
    refine lv_iconst (v := 0) hx hb dX7_isSure_26 (by decide) ?_
    cases hR
    exact W.zret hx hb hr rfl (fun t ht _ => ⟨rfl, ht⟩) t_nil dX7_isSure_27
  · replace hR := it_p c3 hR
    refine lv_iconst (v := 1) hx hb dX7_isSure_22 (by decide) ?_
    refine lv_goto (tgt := 27) hx hb dX7_isSure_23 (by decide) ?_
    cases hR
    exact W.zret hx hb hr rfl (fun t ht _ => ⟨rfl, ht⟩) t_nil dX7_isSure_27
abbrev RM_f_M_steps : Room := { frames := 4, cells := 0, slots := 0, locals := 96 }
abbrev W_M_steps : List Cond := .code yX7_steps cX7_steps 5 (some .int) :: tblG
set_option maxHeartbeats 4000000 in
set_option maxRecDepth 100000 in
theorem c_M_steps (l : Launch) (dC : Nat → ClassId) (dI : Nat → Nat → Nat) (ad : Nat → Nat) (tI tL tII tLL : ClassId) (thr : Int32) (sts : Int32) (wgt : Nat → Int32) (rwd : Nat → Int32) (up : Int64) (dn : Int64) (cel : Nat → Int64) (rig : Nat → Int64) (sum : Nat → Int64) (gp : Nat → Int32) (bst : Nat → Int32) (few : Int32) (p1 : Int32) (p2 : Int32) (R0 : Int32) (R_thr : Int32) (R_up : Int64) (R_dn : Int64) (R_cel : Nat → Int64) (R_rig : Nat → Int64) (R_sum : Nat → Int64) (hR : some (R0, R_thr, R_up, R_dn, R_cel, R_rig, R_sum) = f_M_steps sts wgt up dn cel rig sum p1 p2) : Met l yX7_steps W_M_steps RM_f_M_steps (rwP (dC, dI) vwCl [(tI, .int), (tL, .long), (tII, .array .int), (tLL, .array .long)] (wM ad tI tL tII tLL thr sts wgt rwd up dn cel rig sum gp bst few) ([.ref (ad 0), .int p1, .int p2] : List Value)) (rwQ (dC, dI) vwCl (wM ad tI tL tII tLL R_thr sts wgt rwd R_up R_dn R_cel R_rig R_sum gp bst few) (some (.int R0)) (rwA (wM ad tI tL tII tLL thr sts wgt rwd up dn cel rig sum gp bst few))) 0 0 (rwA (wM ad tI tL tII tLL thr sts wgt rwd up dn cel rig sum gp bst few)) := by
  refine Met.ofW (cc := cX7_steps) (maxL := 5) (ret := (some .int)) (by decide) rfl ?_
  intro p e s m args below meth c s₁ B hml hv
  obtain ⟨rfl, hP, hK, hN, hD⟩ := hv
  have hx := B.exec
  have hb := B.bytes
  have hr := B.returns
  have hts := atoms_spec (ws := W_M_steps) B.pre
  have ht := fun (w : Cond) (h : w ∈ tblG) => hts w (List.mem_cons_of_mem _ h)
  have hown : s.vm.findClass RX7 = some m.cls := findClass_of_methodNamed B.named
  have hlocks := B.notSynchronized
  have hl := lv_entry ([.ref (ad 0), .int p1, .int p2] : List Value) (n := 5) (Nat.le_of_ble_eq_true rfl)
  rw [lg_entry_eq]
  generalize (lg_sl ([.ref (ad 0), .int p1, .int p2] : List Value) ++ List.replicate (5 - (lg_sl ([.ref (ad 0), .int p1, .int p2] : List Value)).length) Slot.unset).toArray = ls at hl ⊢
  have hl : lv_has ls 5 [(0, .ref (ad 0)), (1, .int p1), (2, .int p2)] := hl
  have hD := hD.own
  have hS : va_S (rwA (wM ad tI tL tII tLL thr sts wgt rwd up dn cel rig sum gp bst few)) s.heap s.heap [] := va_S.rf
  suffices K : ∀ (H : Heap) (locs : List Loc), va_P (dC, dI) vwCl (wM ad tI tL tII tLL thr sts wgt rwd up dn cel rig sum gp bst few) H → va_D (rwA (wM ad tI tL tII tLL thr sts wgt rwd up dn cel rig sum gp bst few)) (wM ad tI tL tII tLL thr sts wgt rwd up dn cel rig sum gp bst few) → va_S (rwA (wM ad tI tL tII tLL thr sts wgt rwd up dn cel rig sum gp bst few)) s.heap H locs → W p l e (headSpec W_M_steps RM_f_M_steps).room s m ([.ref (ad 0), .int p1, .int p2] : List Value).toArray below meth c H locs 0 0 (MQ below (rwQ (dC, dI) vwCl (wM ad tI tL tII tLL R_thr sts wgt rwd R_up R_dn R_cel R_rig R_sum gp bst few) (some (.int R0)) (rwA (wM ad tI tL tII tLL thr sts wgt rwd up dn cel rig sum gp bst few))) ([.ref (ad 0), .int p1, .int p2] : List Value).toArray s 0 0 (rwA (wM ad tI tL tII tLL thr sts wgt rwd up dn cel rig sum gp bst few))) (F0 m 0 ls []) from K s.heap [] hP hD hS
  clear hP hD hS
  intro H locs hP hD hS
  rw [f_M_steps] at hR
  refine lv_aload_n hx hb dX7_steps_0 rfl (lv_at hl 0 rfl) ?_
  refine lv_iconst (v := 0) hx hb dX7_steps_1 (by decide) ?_
  refine va_put (D := (dC, dI)) (ci := 7) (v := .int (0 : Int32)) (ty := .int) (C := RX7) (T := TX7) (N := 12) hx hb ht hinX7 tyX7 tyX7_ok nmX7 hown hK hP hD hS 0 rfl rfl 0 (by decide) (ht _ k_220) (fun _ h9 => h9) rfl (by decide +kernel) rfl rfl (Nat.le_of_ble_eq_true rfl) dX7_steps_2 (fun H locs hP hD hS => ?_)
  have hP : va_P (dC, dI) vwCl (wM ad tI tL tII tLL (0 : Int32) sts wgt rwd up dn cel rig sum gp bst few) H := hP
  have hD : va_D (rwA (wM ad tI tL tII tLL thr sts wgt rwd up dn cel rig sum gp bst few)) (wM ad tI tL tII tLL (0 : Int32) sts wgt rwd up dn cel rig sum gp bst few) := hD
  refine lv_aload_n hx hb dX7_steps_5 rfl (lv_at hl 0 rfl) ?_
  refine lv_iload_n hx hb dX7_steps_6 rfl (lv_at hl 1 rfl) ?_
  obtain ⟨r1, hC, hR⟩ := ob hR
  try dsimp only at hR
  refine ro_calli (va_runV (As := [.int p1]) (rest := []) ⟨hx, hb, hml, hown, ht⟩ (c_M_isState l dC dI ad tI tL tII tLL (0 : Int32) sts wgt rwd up dn cel rig sum gp bst few p1 r1 hC.symm) ⟨callB_of 1 ht (goodG k_222) rfl rfl rfl (ht _ k_202) (ht _ k_223) (by decide +kernel) ⟨Nat.le_of_ble_eq_true rfl, Nat.le_of_ble_eq_true rfl⟩, (ht _ k_225), (ht _ k_224)⟩ (pre_v hK hN hP (q0 := 0) (ci := 7) rfl rfl) rfl rfl hl.1 rfl (lv_room (Nat.le_of_ble_eq_true rfl)) dX7_steps_7 ⟨Nat.zero_le _, Nat.zero_le _⟩) ?_
  refine lv_if_eq (tgt := 27) hx hb dX7_steps_10 (by decide) (fun c2 => ?_) (fun c2 => ?_)
  · replace hR := it_p c2 hR
    refine lv_iconst (v := (-1)) hx hb dX7_steps_27 (by decide) ?_
    cases hR
    exact W.iret hx hb hr (fun t ht _ => ⟨rfl, by rw [ht]; exact hP, hS.F ht⟩) hS.2.2 dX7_steps_28
  · replace hR := it_n c2 hR
    refine lv_iload_n hx hb dX7_steps_13 rfl (lv_at hl 2 rfl) ?_
    refine lv_if_lt (tgt := 27) hx hb dX7_steps_14 (by decide) (fun c3 => ?_) (fun c3 => ?_)
    · replace hR := it_p c3 hR
      refine lv_iconst (v := (-1)) hx hb dX7_steps_27 (by decide) ?_
      cases hR
      exact W.iret hx hb hr (fun t ht _ => ⟨rfl, by rw [ht]; exact hP, hS.F ht⟩) hS.2.2 dX7_steps_28
    · replace hR := it_n c3 hR
      refine lv_iload_n hx hb dX7_steps_17 rfl (lv_at hl 2 rfl) ?_
      refine lv_iconst (v := 1) hx hb dX7_steps_18 (by decide) ?_
      refine lv_aload_n hx hb dX7_steps_19 rfl (lv_at hl 0 rfl) ?_
      refine va_get (D := (dC, dI)) (ci := 7) (v := .int sts) (C := RX7) (T := TX7) (N := 12) hx hb ht hinX7 hown hK hP 0 rfl rfl 1 (by decide) (ht _ k_205) (fun _ h9 => h9) rfl dX7_steps_20 ?_
      refine lv_ishl hx hb dX7_steps_23 ?_
      refine lv_icmp_lt (tgt := 29) hx hb dX7_steps_24 (by decide) (fun c4 => ?_) (fun c4 => ?_)
      · replace hR := it_p c4 hR
        refine lv_aload_n hx hb dX7_steps_29 rfl (lv_at hl 0 rfl) ?_
        refine lv_iload_n hx hb dX7_steps_30 rfl (lv_at hl 1 rfl) ?_
        refine lv_iload_n hx hb dX7_steps_31 rfl (lv_at hl 2 rfl) ?_
        obtain ⟨r5, hC, hR⟩ := ob hR
        try dsimp only at hR
        refine ro_calli (va_runV (As := [.int p1, .int p2]) (rest := []) ⟨hx, hb, hml, hown, ht⟩ (c_M_isSure l dC dI ad tI tL tII tLL (0 : Int32) sts wgt rwd up dn cel rig sum gp bst few p1 p2 r5 hC.symm) ⟨callB_of 2 ht (goodG k_279) rfl rfl rfl (ht _ k_202) (ht _ k_280) (by decide +kernel) ⟨Nat.le_of_ble_eq_true rfl, Nat.le_of_ble_eq_true rfl⟩, (ht _ k_282), (ht _ k_281)⟩ (pre_v hK hN hP (q0 := 0) (ci := 7) rfl rfl) rfl rfl hl.1 rfl (lv_room (Nat.le_of_ble_eq_true rfl)) dX7_steps_32 ⟨Nat.zero_le _, Nat.zero_le _⟩) ?_
        refine lv_if_ne (tgt := 41) hx hb dX7_steps_35 (by decide) (fun c6 => ?_) (fun c6 => ?_)
        · replace hR := it_n c6 hR
          refine lv_aload_n hx hb dX7_steps_41 rfl (lv_at hl 0 rfl) ?_
          refine lv_iconst (v := 1) hx hb dX7_steps_42 (by decide) ?_
          refine lv_iload_n hx hb dX7_steps_43 rfl (lv_at hl 1 rfl) ?_
          refine lv_ishl hx hb dX7_steps_44 ?_
          refine lv_iload_n hx hb dX7_steps_45 rfl (lv_at hl 2 rfl) ?_
          obtain ⟨r7, hC, hR⟩ := ob hR
          try dsimp only at hR
          refine ro_calli (va_runV (As := [.int ((1 : Int32) <<< (p1 &&& 31)), .int p2]) (rest := []) ⟨hx, hb, hml, hown, ht⟩ (c_M_reach l dC dI ad tI tL tII tLL (0 : Int32) sts wgt rwd up dn cel rig sum gp bst few ((1 : Int32) <<< (p1 &&& 31)) p2 r7 hC.symm) ⟨callB_of 2 ht (goodG k_226) rfl rfl rfl (ht _ k_202) (ht _ k_227) (by decide +kernel) ⟨Nat.le_of_ble_eq_true rfl, Nat.le_of_ble_eq_true rfl⟩, (ht _ k_229), (ht _ k_228)⟩ (pre_v hK hN hP (q0 := 0) (ci := 7) rfl rfl) rfl rfl hl.1 rfl (lv_room (Nat.le_of_ble_eq_true rfl)) dX7_steps_46 ⟨Nat.zero_le _, Nat.zero_le _⟩) ?_
          refine lv_istore_n (lv' := [(3, .int r7), (0, .ref (ad 0)), (1, .int p1), (2, .int p2)]) hx hb dX7_steps_49 rfl hl (by decide) rfl (fun ls hl => ?_)
          refine lv_iconst (v := 0) hx hb dX7_steps_50 (by decide) ?_
          refine lv_istore (lv' := [(4, .int (0 : Int32)), (3, .int r7), (0, .ref (ad 0)), (1, .int p1), (2, .int p2)]) hx hb dX7_steps_51 hl (by decide) rfl (fun ls hl => ?_)
          have L53_24 : ∀ (thr_9 : Int32), ∀ (n : Nat) (x4_8 : Int32) (cel_10 : Nat → Int64) (rig_11 : Nat → Int64), ∀ (o_x4_8 : Int32) (o_cel_10 : Nat → Int64) (o_rig_11 : Nat → Int64), some (o_x4_8, o_cel_10, o_rig_11) = f_M_steps_L53 sts wgt p2 r7 n x4_8 cel_10 rig_11 → (∀ (H : Heap) (locs : List Loc), va_P (dC, dI) vwCl (wM ad tI tL tII tLL thr_9 sts wgt rwd up dn o_cel_10 o_rig_11 sum gp bst few) H → va_D (rwA (wM ad tI tL tII tLL thr sts wgt rwd up dn cel rig sum gp bst few)) (wM ad tI tL tII tLL thr_9 sts wgt rwd up dn o_cel_10 o_rig_11 sum gp bst few) → va_S (rwA (wM ad tI tL tII tLL thr sts wgt rwd up dn cel rig sum gp bst few)) s.heap H locs → ∀ ls : Array Slot, lv_has ls 5 [(0, .ref (ad 0)), (1, .int p1), (2, .int p2), (3, .int r7), (4, .int o_x4_8)] → W p l e (headSpec W_M_steps RM_f_M_steps).room s m ([.ref (ad 0), .int p1, .int p2] : List Value).toArray below meth c H locs 0 0 (MQ below (rwQ (dC, dI) vwCl (wM ad tI tL tII tLL R_thr sts wgt rwd R_up R_dn R_cel R_rig R_sum gp bst few) (some (.int R0)) (rwA (wM ad tI tL tII tLL thr sts wgt rwd up dn cel rig sum gp bst few))) ([.ref (ad 0), .int p1, .int p2] : List Value).toArray s 0 0 (rwA (wM ad tI tL tII tLL thr sts wgt rwd up dn cel rig sum gp bst few))) (F0 m 109 ls [])) → ∀ (H : Heap) (locs : List Loc), va_P (dC, dI) vwCl (wM ad tI tL tII tLL thr_9 sts wgt rwd up dn cel_10 rig_11 sum gp bst few) H → va_D (rwA (wM ad tI tL tII tLL thr sts wgt rwd up dn cel rig sum gp bst few)) (wM ad tI tL tII tLL thr_9 sts wgt rwd up dn cel_10 rig_11 sum gp bst few) → va_S (rwA (wM ad tI tL tII tLL thr sts wgt rwd up dn cel rig sum gp bst few)) s.heap H locs → ∀ ls : Array Slot, lv_has ls 5 [(0, .ref (ad 0)), (1, .int p1), (2, .int p2), (3, .int r7), (4, .int x4_8)] → W p l e (headSpec W_M_steps RM_f_M_steps).room s m ([.ref (ad 0), .int p1, .int p2] : List Value).toArray below meth c H locs 0 0 (MQ below (rwQ (dC, dI) vwCl (wM ad tI tL tII tLL R_thr sts wgt rwd R_up R_dn R_cel R_rig R_sum gp bst few) (some (.int R0)) (rwA (wM ad tI tL tII tLL thr sts wgt rwd up dn cel rig sum gp bst few))) ([.ref (ad 0), .int p1, .int p2] : List Value).toArray s 0 0 (rwA (wM ad tI tL tII tLL thr sts wgt rwd up dn cel rig sum gp bst few))) (F0 m 53 ls []) := by
            intro thr_9
            intro n
            induction n with
            | zero =>
              intro x4_8 cel_10 rig_11 o_x4_8 o_cel_10 o_rig_11 hR
              cases (show some _ = none from hR)
            | succ n ih =>
              intro x4_8 cel_10 rig_11 o_x4_8 o_cel_10 o_rig_11 hR hk H locs hP hD hS ls hl
              rw [f_M_steps_L53_s] at hR
              obtain ⟨y, hR, hQ⟩ := ob hR
              replace hR := hR.symm
              rw [f_M_steps_B53] at hR
              refine lv_iload hx hb dX7_steps_53 (lv_at hl 4 rfl) ?_
              refine lv_aload_n hx hb dX7_steps_55 rfl (lv_at hl 0 rfl) ?_
              refine va_get (D := (dC, dI)) (ci := 7) (v := .int sts) (C := RX7) (T := TX7) (N := 12) hx hb ht hinX7 hown hK hP 0 rfl rfl 1 (by decide) (ht _ k_205) (fun _ h9 => h9) rfl dX7_steps_56 ?_
              refine lv_icmp_ge (tgt := 109) hx hb dX7_steps_59 (by decide) (fun c12 => ?_) (fun c12 => ?_)
              · replace hR := it_p c12 hR
                cases hR
                cases (show some _ = some _ from hQ)
                exact hk H locs hP hD hS ls (lv_sub hl [0, 1, 2, 3, 4] rfl)
              · replace hR := it_n c12 hR
                refine lv_iload_n hx hb dX7_steps_62 rfl (lv_at hl 2 rfl) ?_
                refine lv_iload hx hb dX7_steps_63 (lv_at hl 4 rfl) ?_
                obtain ⟨r13, hC, hR⟩ := ob hR
                try dsimp only at hR
                refine ro_calli (va_runS (As := [.int p2, .int x4_8]) (rest := []) ⟨hx, hb, hml, hown, ht⟩ (c_M_has l dC dI ad tI tL tII tLL  p2 x4_8 r13 hC.symm) ⟨callB_of 2 ht (goodG k_201) rfl rfl rfl (ht _ k_202) (ht _ k_203) (by decide +kernel) ⟨Nat.le_of_ble_eq_true rfl, Nat.le_of_ble_eq_true rfl⟩, (ht _ k_204)⟩ (pre_s hK hN (hP.sub (ws' := []) [] rfl)) rfl rfl hl.1 rfl (lv_room (Nat.le_of_ble_eq_true rfl)) dX7_steps_65 ⟨Nat.zero_le _, Nat.zero_le _⟩) ?_
                refine lv_if_ne (tgt := 80) hx hb dX7_steps_68 (by decide) (fun c14 => ?_) (fun c14 => ?_)
                · replace hR := it_n c14 hR
                  refine lv_aload_n hx hb dX7_steps_80 rfl (lv_at hl 0 rfl) ?_
                  refine lv_iload hx hb dX7_steps_81 (lv_at hl 4 rfl) ?_
                  refine lv_lconst (v := 0) hx hb dX7_steps_83 (by decide) ?_
                  obtain ⟨⟨cel_15, rig_16⟩, hC, hR⟩ := ob hR
                  try dsimp only at hR
                  refine rw_callv (va_runV (As := [.int x4_8, .long (0 : Int64)]) (rest := []) ⟨hx, hb, hml, hown, ht⟩ (c_M_fix l dC dI ad tI tL tII tLL thr_9 sts wgt rwd up dn cel_10 rig_11 sum gp bst few x4_8 (0 : Int64) cel_15 rig_16 hC.symm) ⟨callB_of 2 ht (goodG k_263) rfl rfl rfl (ht _ k_202) (ht _ k_264) (by decide +kernel) ⟨Nat.le_of_ble_eq_true rfl, Nat.le_of_ble_eq_true rfl⟩, (ht _ k_266), (ht _ k_265)⟩ (pre_vw hK hN hP hD (q0 := 0) (ci := 7) rfl rfl) rfl rfl hl.1 rfl (lv_room (Nat.le_of_ble_eq_true rfl)) dX7_steps_84 ⟨Nat.zero_le _, Nat.zero_le _⟩) hD hS rfl (fun H locs hP hD hS => ?_)
                  have hP : va_P (dC, dI) vwCl (wM ad tI tL tII tLL thr_9 sts wgt rwd up dn cel_15 rig_16 sum gp bst few) H := hP
                  have hD : va_D (rwA (wM ad tI tL tII tLL thr sts wgt rwd up dn cel rig sum gp bst few)) (wM ad tI tL tII tLL thr_9 sts wgt rwd up dn cel_15 rig_16 sum gp bst few) := hD
                  refine lv_goto (tgt := 103) hx hb dX7_steps_87 (by decide) ?_
                  refine lv_iinc (v := (x4_8 + 1)) (lv' := [(4, .int (x4_8 + 1)), (0, .ref (ad 0)), (1, .int p1), (2, .int p2), (3, .int r7)]) hx hb dX7_steps_103 hl (k := 4) rfl rfl (by decide) rfl (fun ls hl => ?_)
                  refine lv_goto (tgt := 53) hx hb dX7_steps_106 (by decide) ?_
                  cases hR
                  exact ih (x4_8 + 1) cel_15 rig_16 o_x4_8 o_cel_10 o_rig_11 hQ hk H locs hP hD hS ls (lv_sub hl [1, 2, 3, 4, 0] rfl)
                · replace hR := it_p c14 hR
                  refine lv_iload_n hx hb dX7_steps_71 rfl (lv_at hl 3 rfl) ?_
                  refine lv_iload hx hb dX7_steps_72 (lv_at hl 4 rfl) ?_
                  obtain ⟨r17, hC, hR⟩ := ob hR
                  try dsimp only at hR
                  refine ro_calli (va_runS (As := [.int r7, .int x4_8]) (rest := []) ⟨hx, hb, hml, hown, ht⟩ (c_M_has l dC dI ad tI tL tII tLL  r7 x4_8 r17 hC.symm) ⟨callB_of 2 ht (goodG k_201) rfl rfl rfl (ht _ k_202) (ht _ k_203) (by decide +kernel) ⟨Nat.le_of_ble_eq_true rfl, Nat.le_of_ble_eq_true rfl⟩, (ht _ k_204)⟩ (pre_s hK hN (hP.sub (ws' := []) [] rfl)) rfl rfl hl.1 rfl (lv_room (Nat.le_of_ble_eq_true rfl)) dX7_steps_74 ⟨Nat.zero_le _, Nat.zero_le _⟩) ?_
                  refine lv_if_ne (tgt := 90) hx hb dX7_steps_77 (by decide) (fun c18 => ?_) (fun c18 => ?_)
                  · replace hR := it_n c18 hR
                    refine lv_aload_n hx hb dX7_steps_90 rfl (lv_at hl 0 rfl) ?_
                    refine lv_iload hx hb dX7_steps_91 (lv_at hl 4 rfl) ?_
                    refine lv_aload_n hx hb dX7_steps_93 rfl (lv_at hl 0 rfl) ?_
                    refine lv_iload hx hb dX7_steps_94 (lv_at hl 4 rfl) ?_
                    obtain ⟨r19, hC, hR⟩ := ob hR
                    try dsimp only at hR
                    refine ro_calli (va_runV (As := [.int x4_8]) (rest := [.int x4_8, .ref (ad 0)]) ⟨hx, hb, hml, hown, ht⟩ (c_M_total l dC dI ad tI tL tII tLL thr_9 sts wgt rwd up dn cel_10 rig_11 sum gp bst few x4_8 r19 hC.symm) ⟨callB_of 1 ht (goodG k_214) rfl rfl rfl (ht _ k_202) (ht _ k_215) (by decide +kernel) ⟨Nat.le_of_ble_eq_true rfl, Nat.le_of_ble_eq_true rfl⟩, (ht _ k_217), (ht _ k_216)⟩ (pre_v hK hN hP (q0 := 0) (ci := 7) rfl rfl) rfl rfl hl.1 rfl (lv_room (Nat.le_of_ble_eq_true rfl)) dX7_steps_96 ⟨Nat.zero_le _, Nat.zero_le _⟩) ?_
                    refine lv_i2l hx hb dX7_steps_99 rfl ?_
                    obtain ⟨⟨cel_20, rig_21⟩, hC, hR⟩ := ob hR
                    try dsimp only at hR
                    refine rw_callv (va_runV (As := [.int x4_8, .long (r19.toInt64)]) (rest := []) ⟨hx, hb, hml, hown, ht⟩ (c_M_lay l dC dI ad tI tL tII tLL thr_9 sts wgt rwd up dn cel_10 rig_11 sum gp bst few x4_8 (r19.toInt64) cel_20 rig_21 hC.symm) ⟨callB_of 2 ht (goodG k_267) rfl rfl rfl (ht _ k_202) (ht _ k_268) (by decide +kernel) ⟨Nat.le_of_ble_eq_true rfl, Nat.le_of_ble_eq_true rfl⟩, (ht _ k_270), (ht _ k_269)⟩ (pre_vw hK hN hP hD (q0 := 0) (ci := 7) rfl rfl) rfl rfl hl.1 rfl (lv_room (Nat.le_of_ble_eq_true rfl)) dX7_steps_100 ⟨Nat.zero_le _, Nat.zero_le _⟩) hD hS rfl (fun H locs hP hD hS => ?_)
                    have hP : va_P (dC, dI) vwCl (wM ad tI tL tII tLL thr_9 sts wgt rwd up dn cel_20 rig_21 sum gp bst few) H := hP
                    have hD : va_D (rwA (wM ad tI tL tII tLL thr sts wgt rwd up dn cel rig sum gp bst few)) (wM ad tI tL tII tLL thr_9 sts wgt rwd up dn cel_20 rig_21 sum gp bst few) := hD
                    refine lv_iinc (v := (x4_8 + 1)) (lv' := [(4, .int (x4_8 + 1)), (0, .ref (ad 0)), (1, .int p1), (2, .int p2), (3, .int r7)]) hx hb dX7_steps_103 hl (k := 4) rfl rfl (by decide) rfl (fun ls hl => ?_)
                    refine lv_goto (tgt := 53) hx hb dX7_steps_106 (by decide) ?_
                    cases hR
                    exact ih (x4_8 + 1) cel_20 rig_21 o_x4_8 o_cel_10 o_rig_11 hQ hk H locs hP hD hS ls (lv_sub hl [1, 2, 3, 4, 0] rfl)
                  · replace hR := it_p c18 hR
                    refine lv_aload_n hx hb dX7_steps_80 rfl (lv_at hl 0 rfl) ?_
                    refine lv_iload hx hb dX7_steps_81 (lv_at hl 4 rfl) ?_
                    refine lv_lconst (v := 0) hx hb dX7_steps_83 (by decide) ?_
                    obtain ⟨⟨cel_22, rig_23⟩, hC, hR⟩ := ob hR
                    try dsimp only at hR
                    refine rw_callv (va_runV (As := [.int x4_8, .long (0 : Int64)]) (rest := []) ⟨hx, hb, hml, hown, ht⟩ (c_M_fix l dC dI ad tI tL tII tLL thr_9 sts wgt rwd up dn cel_10 rig_11 sum gp bst few x4_8 (0 : Int64) cel_22 rig_23 hC.symm) ⟨callB_of 2 ht (goodG k_263) rfl rfl rfl (ht _ k_202) (ht _ k_264) (by decide +kernel) ⟨Nat.le_of_ble_eq_true rfl, Nat.le_of_ble_eq_true rfl⟩, (ht _ k_266), (ht _ k_265)⟩ (pre_vw hK hN hP hD (q0 := 0) (ci := 7) rfl rfl) rfl rfl hl.1 rfl (lv_room (Nat.le_of_ble_eq_true rfl)) dX7_steps_84 ⟨Nat.zero_le _, Nat.zero_le _⟩) hD hS rfl (fun H locs hP hD hS => ?_)
                    have hP : va_P (dC, dI) vwCl (wM ad tI tL tII tLL thr_9 sts wgt rwd up dn cel_22 rig_23 sum gp bst few) H := hP
                    have hD : va_D (rwA (wM ad tI tL tII tLL thr sts wgt rwd up dn cel rig sum gp bst few)) (wM ad tI tL tII tLL thr_9 sts wgt rwd up dn cel_22 rig_23 sum gp bst few) := hD
                    refine lv_goto (tgt := 103) hx hb dX7_steps_87 (by decide) ?_
                    refine lv_iinc (v := (x4_8 + 1)) (lv' := [(4, .int (x4_8 + 1)), (0, .ref (ad 0)), (1, .int p1), (2, .int p2), (3, .int r7)]) hx hb dX7_steps_103 hl (k := 4) rfl rfl (by decide) rfl (fun ls hl => ?_)
                    refine lv_goto (tgt := 53) hx hb dX7_steps_106 (by decide) ?_
                    cases hR
                    exact ih (x4_8 + 1) cel_22 rig_23 o_x4_8 o_cel_10 o_rig_11 hQ hk H locs hP hD hS ls (lv_sub hl [1, 2, 3, 4, 0] rfl)
          obtain ⟨⟨u25, u26, u27⟩, hL, hR⟩ := ob hR
          try dsimp only at hR
          refine L53_24 (0 : Int32) 300 (0 : Int32) cel rig u25 u26 u27 hL.symm (fun H locs hP hD hS ls hl => ?_) H locs hP hD hS ls (lv_sub hl [2, 3, 4, 1, 0] rfl)
          refine lv_aload_n hx hb dX7_steps_109 rfl (lv_at hl 0 rfl) ?_
          refine lv_iload_n hx hb dX7_steps_110 rfl (lv_at hl 1 rfl) ?_
          obtain ⟨⟨r28, up_29, dn_30, sum_31⟩, hC, hR⟩ := ob hR
          try dsimp only at hR
          refine rw_calli (va_runV (As := [.int p1]) (rest := []) ⟨hx, hb, hml, hown, ht⟩ (c_M_solved l dC dI ad tI tL tII tLL (0 : Int32) sts wgt rwd up dn u26 u27 sum gp bst few p1 r28 up_29 dn_30 sum_31 hC.symm) ⟨callB_of 1 ht (goodG k_275) rfl rfl rfl (ht _ k_202) (ht _ k_276) (by decide +kernel) ⟨Nat.le_of_ble_eq_true rfl, Nat.le_of_ble_eq_true rfl⟩, (ht _ k_278), (ht _ k_277)⟩ (pre_vw hK hN hP hD (q0 := 0) (ci := 7) rfl rfl) rfl rfl hl.1 rfl (lv_room (Nat.le_of_ble_eq_true rfl)) dX7_steps_111 ⟨Nat.zero_le _, Nat.zero_le _⟩) hD hS rfl (fun H locs hP hD hS => ?_)
          have hP : va_P (dC, dI) vwCl (wM ad tI tL tII tLL (0 : Int32) sts wgt rwd up_29 dn_30 u26 u27 sum_31 gp bst few) H := hP
          have hD : va_D (rwA (wM ad tI tL tII tLL thr sts wgt rwd up dn cel rig sum gp bst few)) (wM ad tI tL tII tLL (0 : Int32) sts wgt rwd up_29 dn_30 u26 u27 sum_31 gp bst few) := hD
          cases hR
          exact W.iret hx hb hr (fun t ht _ => ⟨rfl, by rw [ht]; exact hP, hS.F ht⟩) hS.2.2 dX7_steps_114
        · replace hR := it_p c6 hR
          refine lv_bipush (v := (-3)) hx hb dX7_steps_38 (by decide) ?_
          cases hR
          exact W.iret hx hb hr (fun t ht _ => ⟨rfl, by rw [ht]; exact hP, hS.F ht⟩) hS.2.2 dX7_steps_40
      · replace hR := it_n c4 hR
        refine lv_iconst (v := (-1)) hx hb dX7_steps_27 (by decide) ?_
        cases hR
        exact W.iret hx hb hr (fun t ht _ => ⟨rfl, by rw [ht]; exact hP, hS.F ht⟩) hS.2.2 dX7_steps_28
