abbrev RM_f_M_visits : Room := { frames := 5, cells := 0, slots := 0, locals := 115 }
abbrev W_M_visits : List Cond := .code yX7_visits cX7_visits 5 (some .int) :: tblG
set_option maxHeartbeats 4000000 in
set_option maxRecDepth 100000 in
theorem c_M_visits (l : Launch) (dC : Nat → ClassId) (dI : Nat → Nat → Nat) (ad : Nat → Nat) (tI tL tII tLL : ClassId) (thr : Int32) (sts : Int32) (wgt : Nat → Int32) (rwd : Nat → Int32) (up : Int64) (dn : Int64) (cel : Nat → Int64) (rig : Nat → Int64) (sum : Nat → Int64) (gp : Nat → Int32) (bst : Nat → Int32) (few : Int32) (p1 : Int32) (p2 : Int32) (R0 : Int32) (R_thr : Int32) (R_up : Int64) (R_dn : Int64) (R_cel : Nat → Int64) (R_rig : Nat → Int64) (R_sum : Nat → Int64) (hR : some (R0, R_thr, R_up, R_dn, R_cel, R_rig, R_sum) = f_M_visits sts wgt up dn cel rig sum p1 p2) : Met l yX7_visits W_M_visits RM_f_M_visits (rwP (dC, dI) vwCl [(tI, .int), (tL, .long), (tII, .array .int), (tLL, .array .long)] (wM ad tI tL tII tLL thr sts wgt rwd up dn cel rig sum gp bst few) ([.ref (ad 0), .int p1, .int p2] : List Value)) (rwQ (dC, dI) vwCl (wM ad tI tL tII tLL R_thr sts wgt rwd R_up R_dn R_cel R_rig R_sum gp bst few) (some (.int R0)) (rwA (wM ad tI tL tII tLL thr sts wgt rwd up dn cel rig sum gp bst few))) 0 0 (rwA (wM ad tI tL tII tLL thr sts wgt rwd up dn cel rig sum gp bst few)) := by
  refine Met.ofW (cc := cX7_visits) (maxL := 5) (ret := (some .int)) (by decide) rfl ?_
  intro p e s m args below meth c s₁ B hml hv
  obtain ⟨rfl, hP, hK, hN, hD⟩ := hv
  have hx := B.exec
  have hb := B.bytes
  have hr := B.returns
  have hts := atoms_spec (ws := W_M_visits) B.pre
  have ht := fun (w : Cond) (h : w ∈ tblG) => hts w (List.mem_cons_of_mem _ h)
  have hown : s.vm.findClass RX7 = some m.cls := findClass_of_methodNamed B.named
  have hlocks := B.notSynchronized
  have hl := lv_entry ([.ref (ad 0), .int p1, .int p2] : List Value) (n := 5) (Nat.le_of_ble_eq_true rfl)
  rw [lg_entry_eq]
  generalize (lg_sl ([.ref (ad 0), .int p1, .int p2] : List Value) ++ List.replicate (5 - (lg_sl ([.ref (ad 0), .int p1, .int p2] : List Value)).length) Slot.unset).toArray = ls at hl ⊢
  have hl : lv_has ls 5 [(0, .ref (ad 0)), (1, .int p1), (2, .int p2)] := hl
  have hD := hD.own
  have hS : va_S (rwA (wM ad tI tL tII tLL thr sts wgt rwd up dn cel rig sum gp bst few)) s.heap s.heap [] := va_S.rf
  suffices K : ∀ (H : Heap) (locs : List Loc), va_P (dC, dI) vwCl (wM ad tI tL tII tLL thr sts wgt rwd up dn cel rig sum gp bst few) H → va_D (rwA (wM ad tI tL tII tLL thr sts wgt rwd up dn cel rig sum gp bst few)) (wM ad tI tL tII tLL thr sts wgt rwd up dn cel rig sum gp bst few) → va_S (rwA (wM ad tI tL tII tLL thr sts wgt rwd up dn cel rig sum gp bst few)) s.heap H locs → W p l e (headSpec W_M_visits RM_f_M_visits).room s m ([.ref (ad 0), .int p1, .int p2] : List Value).toArray below meth c H locs 0 0 (MQ below (rwQ (dC, dI) vwCl (wM ad tI tL tII tLL R_thr sts wgt rwd R_up R_dn R_cel R_rig R_sum gp bst few) (some (.int R0)) (rwA (wM ad tI tL tII tLL thr sts wgt rwd up dn cel rig sum gp bst few))) ([.ref (ad 0), .int p1, .int p2] : List Value).toArray s 0 0 (rwA (wM ad tI tL tII tLL thr sts wgt rwd up dn cel rig sum gp bst few))) (F0 m 0 ls []) from K s.heap [] hP hD hS
  clear hP hD hS
  intro H locs hP hD hS
  rw [f_M_visits] at hR
  refine lv_aload_n hx hb dX7_visits_0 rfl (lv_at hl 0 rfl) ?_
  refine lv_iconst (v := 0) hx hb dX7_visits_1 (by decide) ?_
  refine va_put (D := (dC, dI)) (ci := 7) (v := .int (0 : Int32)) (ty := .int) (C := RX7) (T := TX7) (N := 12) hx hb ht hinX7 tyX7 tyX7_ok nmX7 hown hK hP hD hS 0 rfl rfl 0 (by decide) (ht _ k_220) (fun _ h9 => h9) rfl (by decide +kernel) rfl rfl (Nat.le_of_ble_eq_true rfl) dX7_visits_2 (fun H locs hP hD hS => ?_)
  have hP : va_P (dC, dI) vwCl (wM ad tI tL tII tLL (0 : Int32) sts wgt rwd up dn cel rig sum gp bst few) H := hP
  have hD : va_D (rwA (wM ad tI tL tII tLL thr sts wgt rwd up dn cel rig sum gp bst few)) (wM ad tI tL tII tLL (0 : Int32) sts wgt rwd up dn cel rig sum gp bst few) := hD
  refine lv_aload_n hx hb dX7_visits_5 rfl (lv_at hl 0 rfl) ?_
  refine lv_iload_n hx hb dX7_visits_6 rfl (lv_at hl 1 rfl) ?_
  obtain ⟨r1, hC, hR⟩ := ob hR
  try dsimp only at hR
  refine ro_calli (va_runV (As := [.int p1]) (rest := []) ⟨hx, hb, hml, hown, ht⟩ (c_M_isState l dC dI ad tI tL tII tLL (0 : Int32) sts wgt rwd up dn cel rig sum gp bst few p1 r1 hC.symm) ⟨callB_of 1 ht (goodG k_222) rfl rfl rfl (ht _ k_202) (ht _ k_223) (by decide +kernel) ⟨Nat.le_of_ble_eq_true rfl, Nat.le_of_ble_eq_true rfl⟩, (ht _ k_225), (ht _ k_224)⟩ (pre_v hK hN hP (q0 := 0) (ci := 7) rfl rfl) rfl rfl hl.1 rfl (lv_room (Nat.le_of_ble_eq_true rfl)) dX7_visits_7 ⟨Nat.zero_le _, Nat.zero_le _⟩) ?_
  refine lv_if_eq (tgt := 21) hx hb dX7_visits_10 (by decide) (fun c2 => ?_) (fun c2 => ?_)
  · replace hR := it_p c2 hR
    refine lv_iconst (v := (-1)) hx hb dX7_visits_21 (by decide) ?_
    cases hR
    exact W.iret hx hb hr (fun t ht _ => ⟨rfl, by rw [ht]; exact hP, hS.F ht⟩) hS.2.2 dX7_visits_22
  · replace hR := it_n c2 hR
    refine lv_aload_n hx hb dX7_visits_13 rfl (lv_at hl 0 rfl) ?_
    refine lv_iload_n hx hb dX7_visits_14 rfl (lv_at hl 2 rfl) ?_
    obtain ⟨r3, hC, hR⟩ := ob hR
    try dsimp only at hR
    refine ro_calli (va_runV (As := [.int p2]) (rest := []) ⟨hx, hb, hml, hown, ht⟩ (c_M_isState l dC dI ad tI tL tII tLL (0 : Int32) sts wgt rwd up dn cel rig sum gp bst few p2 r3 hC.symm) ⟨callB_of 1 ht (goodG k_222) rfl rfl rfl (ht _ k_202) (ht _ k_223) (by decide +kernel) ⟨Nat.le_of_ble_eq_true rfl, Nat.le_of_ble_eq_true rfl⟩, (ht _ k_225), (ht _ k_224)⟩ (pre_v hK hN hP (q0 := 0) (ci := 7) rfl rfl) rfl rfl hl.1 rfl (lv_room (Nat.le_of_ble_eq_true rfl)) dX7_visits_15 ⟨Nat.zero_le _, Nat.zero_le _⟩) ?_
    refine lv_if_ne (tgt := 23) hx hb dX7_visits_18 (by decide) (fun c4 => ?_) (fun c4 => ?_)
    · replace hR := it_n c4 hR
      refine lv_aload_n hx hb dX7_visits_23 rfl (lv_at hl 0 rfl) ?_
      refine lv_iconst (v := 1) hx hb dX7_visits_24 (by decide) ?_
      refine lv_iload_n hx hb dX7_visits_25 rfl (lv_at hl 2 rfl) ?_
      refine lv_ishl hx hb dX7_visits_26 ?_
      refine lv_iconst (v := 0) hx hb dX7_visits_27 (by decide) ?_
      obtain ⟨r5, hC, hR⟩ := ob hR
      try dsimp only at hR
      refine ro_calli (va_runV (As := [.int ((1 : Int32) <<< (p2 &&& 31)), .int (0 : Int32)]) (rest := []) ⟨hx, hb, hml, hown, ht⟩ (c_M_whence l dC dI ad tI tL tII tLL (0 : Int32) sts wgt rwd up dn cel rig sum gp bst few ((1 : Int32) <<< (p2 &&& 31)) (0 : Int32) r5 hC.symm) ⟨callB_of 2 ht (goodG k_230) rfl rfl rfl (ht _ k_202) (ht _ k_231) (by decide +kernel) ⟨Nat.le_of_ble_eq_true rfl, Nat.le_of_ble_eq_true rfl⟩, (ht _ k_233), (ht _ k_232)⟩ (pre_v hK hN hP (q0 := 0) (ci := 7) rfl rfl) rfl rfl hl.1 rfl (lv_room (Nat.le_of_ble_eq_true rfl)) dX7_visits_28 ⟨Nat.zero_le _, Nat.zero_le _⟩) ?_
      refine lv_istore_n (lv' := [(3, .int r5), (0, .ref (ad 0)), (1, .int p1), (2, .int p2)]) hx hb dX7_visits_31 rfl hl (by decide) rfl (fun ls hl => ?_)
      refine lv_iload_n hx hb dX7_visits_32 rfl (lv_at hl 0 rfl) ?_
      refine lv_iload_n hx hb dX7_visits_33 rfl (lv_at hl 2 rfl) ?_
      obtain ⟨r6, hC, hR⟩ := ob hR
      try dsimp only at hR
      refine ro_calli (va_runS (As := [.int r5, .int p1]) (rest := []) ⟨hx, hb, hml, hown, ht⟩ (c_M_has l dC dI ad tI tL tII tLL  r5 p1 r6 hC.symm) ⟨callB_of 2 ht (goodG k_201) rfl rfl rfl (ht _ k_202) (ht _ k_203) (by decide +kernel) ⟨Nat.le_of_ble_eq_true rfl, Nat.le_of_ble_eq_true rfl⟩, (ht _ k_204)⟩ (pre_s hK hN (hP.sub (ws' := []) [] rfl)) rfl rfl hl.1 rfl (lv_room (Nat.le_of_ble_eq_true rfl)) dX7_visits_34 ⟨Nat.zero_le _, Nat.zero_le _⟩) ?_
      refine lv_if_eq (tgt := 51) hx hb dX7_visits_37 (by decide) (fun c7 => ?_) (fun c7 => ?_)
      · replace hR := it_p c7 hR
        refine lv_iload_n hx hb dX7_visits_51 rfl (lv_at hl 0 rfl) ?_
        refine lv_iload_n hx hb dX7_visits_52 rfl (lv_at hl 2 rfl) ?_
        obtain ⟨r8, hC, hR⟩ := ob hR
        try dsimp only at hR
        refine ro_calli (va_runS (As := [.int r5, .int p1]) (rest := []) ⟨hx, hb, hml, hown, ht⟩ (c_M_has l dC dI ad tI tL tII tLL  r5 p1 r8 hC.symm) ⟨callB_of 2 ht (goodG k_201) rfl rfl rfl (ht _ k_202) (ht _ k_203) (by decide +kernel) ⟨Nat.le_of_ble_eq_true rfl, Nat.le_of_ble_eq_true rfl⟩, (ht _ k_204)⟩ (pre_s hK hN (hP.sub (ws' := []) [] rfl)) rfl rfl hl.1 rfl (lv_room (Nat.le_of_ble_eq_true rfl)) dX7_visits_53 ⟨Nat.zero_le _, Nat.zero_le _⟩) ?_
        refine lv_if_ne (tgt := 66) hx hb dX7_visits_56 (by decide) (fun c9 => ?_) (fun c9 => ?_)
        · replace hR := it_n c9 hR
          refine lv_iconst (v := 0) hx hb dX7_visits_66 (by decide) ?_
          refine lv_istore (lv' := [(4, .int (0 : Int32)), (3, .int r5), (0, .ref (ad 0)), (1, .int p1), (2, .int p2)]) hx hb dX7_visits_67 hl (by decide) rfl (fun ls hl => ?_)
          have L69_25 : ∀ (thr_11 : Int32), ∀ (n : Nat) (x4_10 : Int32) (cel_12 : Nat → Int64) (rig_13 : Nat → Int64), ∀ (o_x4_10 : Int32) (o_cel_12 : Nat → Int64) (o_rig_13 : Nat → Int64), some (o_x4_10, o_cel_12, o_rig_13) = f_M_visits_L69 sts wgt p2 r5 n x4_10 cel_12 rig_13 → (∀ (H : Heap) (locs : List Loc), va_P (dC, dI) vwCl (wM ad tI tL tII tLL thr_11 sts wgt rwd up dn o_cel_12 o_rig_13 sum gp bst few) H → va_D (rwA (wM ad tI tL tII tLL thr sts wgt rwd up dn cel rig sum gp bst few)) (wM ad tI tL tII tLL thr_11 sts wgt rwd up dn o_cel_12 o_rig_13 sum gp bst few) → va_S (rwA (wM ad tI tL tII tLL thr sts wgt rwd up dn cel rig sum gp bst few)) s.heap H locs → ∀ ls : Array Slot, lv_has ls 5 [(0, .ref (ad 0)), (1, .int p1), (2, .int p2), (3, .int r5), (4, .int o_x4_10)] → W p l e (headSpec W_M_visits RM_f_M_visits).room s m ([.ref (ad 0), .int p1, .int p2] : List Value).toArray below meth c H locs 0 0 (MQ below (rwQ (dC, dI) vwCl (wM ad tI tL tII tLL R_thr sts wgt rwd R_up R_dn R_cel R_rig R_sum gp bst few) (some (.int R0)) (rwA (wM ad tI tL tII tLL thr sts wgt rwd up dn cel rig sum gp bst few))) ([.ref (ad 0), .int p1, .int p2] : List Value).toArray s 0 0 (rwA (wM ad tI tL tII tLL thr sts wgt rwd up dn cel rig sum gp bst few))) (F0 m 126 ls [])) → ∀ (H : Heap) (locs : List Loc), va_P (dC, dI) vwCl (wM ad tI tL tII tLL thr_11 sts wgt rwd up dn cel_12 rig_13 sum gp bst few) H → va_D (rwA (wM ad tI tL tII tLL thr sts wgt rwd up dn cel rig sum gp bst few)) (wM ad tI tL tII tLL thr_11 sts wgt rwd up dn cel_12 rig_13 sum gp bst few) → va_S (rwA (wM ad tI tL tII tLL thr sts wgt rwd up dn cel rig sum gp bst few)) s.heap H locs → ∀ ls : Array Slot, lv_has ls 5 [(0, .ref (ad 0)), (1, .int p1), (2, .int p2), (3, .int r5), (4, .int x4_10)] → W p l e (headSpec W_M_visits RM_f_M_visits).room s m ([.ref (ad 0), .int p1, .int p2] : List Value).toArray below meth c H locs 0 0 (MQ below (rwQ (dC, dI) vwCl (wM ad tI tL tII tLL R_thr sts wgt rwd R_up R_dn R_cel R_rig R_sum gp bst few) (some (.int R0)) (rwA (wM ad tI tL tII tLL thr sts wgt rwd up dn cel rig sum gp bst few))) ([.ref (ad 0), .int p1, .int p2] : List Value).toArray s 0 0 (rwA (wM ad tI tL tII tLL thr sts wgt rwd up dn cel rig sum gp bst few))) (F0 m 69 ls []) := by
            intro thr_11
            intro n
            induction n with
            | zero =>
              intro x4_10 cel_12 rig_13 o_x4_10 o_cel_12 o_rig_13 hR
              cases (show some _ = none from hR)
            | succ n ih =>
              intro x4_10 cel_12 rig_13 o_x4_10 o_cel_12 o_rig_13 hR hk H locs hP hD hS ls hl
              rw [f_M_visits_L69_s] at hR
              obtain ⟨y, hR, hQ⟩ := ob hR
              replace hR := hR.symm
              rw [f_M_visits_B69] at hR
              refine lv_iload hx hb dX7_visits_69 (lv_at hl 4 rfl) ?_
              refine lv_aload_n hx hb dX7_visits_71 rfl (lv_at hl 0 rfl) ?_
              refine va_get (D := (dC, dI)) (ci := 7) (v := .int sts) (C := RX7) (T := TX7) (N := 12) hx hb ht hinX7 hown hK hP 0 rfl rfl 1 (by decide) (ht _ k_205) (fun _ h9 => h9) rfl dX7_visits_72 ?_
              refine lv_icmp_ge (tgt := 126) hx hb dX7_visits_75 (by decide) (fun c14 => ?_) (fun c14 => ?_)
              · replace hR := it_p c14 hR
                cases hR
                cases (show some _ = some _ from hQ)
                exact hk H locs hP hD hS ls (lv_sub hl [0, 1, 2, 3, 4] rfl)
              · replace hR := it_n c14 hR
                refine lv_iload_n hx hb dX7_visits_78 rfl (lv_at hl 3 rfl) ?_
                refine lv_iload hx hb dX7_visits_79 (lv_at hl 4 rfl) ?_
                obtain ⟨r15, hC, hR⟩ := ob hR
                try dsimp only at hR
                refine ro_calli (va_runS (As := [.int r5, .int x4_10]) (rest := []) ⟨hx, hb, hml, hown, ht⟩ (c_M_has l dC dI ad tI tL tII tLL  r5 x4_10 r15 hC.symm) ⟨callB_of 2 ht (goodG k_201) rfl rfl rfl (ht _ k_202) (ht _ k_203) (by decide +kernel) ⟨Nat.le_of_ble_eq_true rfl, Nat.le_of_ble_eq_true rfl⟩, (ht _ k_204)⟩ (pre_s hK hN (hP.sub (ws' := []) [] rfl)) rfl rfl hl.1 rfl (lv_room (Nat.le_of_ble_eq_true rfl)) dX7_visits_81 ⟨Nat.zero_le _, Nat.zero_le _⟩) ?_
                refine lv_if_eq (tgt := 113) hx hb dX7_visits_84 (by decide) (fun c16 => ?_) (fun c16 => ?_)
                · replace hR := it_p c16 hR
                  refine lv_aload_n hx hb dX7_visits_113 rfl (lv_at hl 0 rfl) ?_
                  refine lv_iload hx hb dX7_visits_114 (lv_at hl 4 rfl) ?_
                  refine lv_lconst (v := 0) hx hb dX7_visits_116 (by decide) ?_
                  obtain ⟨⟨cel_17, rig_18⟩, hC, hR⟩ := ob hR
                  try dsimp only at hR
                  refine rw_callv (va_runV (As := [.int x4_10, .long (0 : Int64)]) (rest := []) ⟨hx, hb, hml, hown, ht⟩ (c_M_fix l dC dI ad tI tL tII tLL thr_11 sts wgt rwd up dn cel_12 rig_13 sum gp bst few x4_10 (0 : Int64) cel_17 rig_18 hC.symm) ⟨callB_of 2 ht (goodG k_263) rfl rfl rfl (ht _ k_202) (ht _ k_264) (by decide +kernel) ⟨Nat.le_of_ble_eq_true rfl, Nat.le_of_ble_eq_true rfl⟩, (ht _ k_266), (ht _ k_265)⟩ (pre_vw hK hN hP hD (q0 := 0) (ci := 7) rfl rfl) rfl rfl hl.1 rfl (lv_room (Nat.le_of_ble_eq_true rfl)) dX7_visits_117 ⟨Nat.zero_le _, Nat.zero_le _⟩) hD hS rfl (fun H locs hP hD hS => ?_)
                  have hP : va_P (dC, dI) vwCl (wM ad tI tL tII tLL thr_11 sts wgt rwd up dn cel_17 rig_18 sum gp bst few) H := hP
                  have hD : va_D (rwA (wM ad tI tL tII tLL thr sts wgt rwd up dn cel rig sum gp bst few)) (wM ad tI tL tII tLL thr_11 sts wgt rwd up dn cel_17 rig_18 sum gp bst few) := hD
                  refine lv_iinc (v := (x4_10 + 1)) (lv' := [(4, .int (x4_10 + 1)), (0, .ref (ad 0)), (1, .int p1), (2, .int p2), (3, .int r5)]) hx hb dX7_visits_120 hl (k := 4) rfl rfl (by decide) rfl (fun ls hl => ?_)
                  refine lv_goto (tgt := 69) hx hb dX7_visits_123 (by decide) ?_
                  cases hR
                  exact ih (x4_10 + 1) cel_17 rig_18 o_x4_10 o_cel_12 o_rig_13 hQ hk H locs hP hD hS ls (lv_sub hl [1, 2, 3, 4, 0] rfl)
                · replace hR := it_n c16 hR
                  refine lv_aload_n hx hb dX7_visits_87 rfl (lv_at hl 0 rfl) ?_
                  refine lv_iload hx hb dX7_visits_88 (lv_at hl 4 rfl) ?_
                  refine lv_iload hx hb dX7_visits_90 (lv_at hl 4 rfl) ?_
                  refine lv_iload_n hx hb dX7_visits_92 rfl (lv_at hl 2 rfl) ?_
                  obtain ⟨j19, hJ, hR⟩ := ob hR
                  try dsimp only at hR
                  suffices hk20 : ∀ (H : Heap) (locs : List Loc), va_P (dC, dI) vwCl (wM ad tI tL tII tLL thr_11 sts wgt rwd up dn cel_12 rig_13 sum gp bst few) H → va_D (rwA (wM ad tI tL tII tLL thr sts wgt rwd up dn cel rig sum gp bst few)) (wM ad tI tL tII tLL thr_11 sts wgt rwd up dn cel_12 rig_13 sum gp bst few) → va_S (rwA (wM ad tI tL tII tLL thr sts wgt rwd up dn cel rig sum gp bst few)) s.heap H locs → ∀ ls : Array Slot, lv_has ls 5 [(0, .ref (ad 0)), (1, .int p1), (2, .int p2), (3, .int r5), (4, .int x4_10)] → W p l e (headSpec W_M_visits RM_f_M_visits).room s m ([.ref (ad 0), .int p1, .int p2] : List Value).toArray below meth c H locs 0 0 (MQ below (rwQ (dC, dI) vwCl (wM ad tI tL tII tLL R_thr sts wgt rwd R_up R_dn R_cel R_rig R_sum gp bst few) (some (.int R0)) (rwA (wM ad tI tL tII tLL thr sts wgt rwd up dn cel rig sum gp bst few))) ([.ref (ad 0), .int p1, .int p2] : List Value).toArray s 0 0 (rwA (wM ad tI tL tII tLL thr sts wgt rwd up dn cel rig sum gp bst few))) (F0 m 107 ls [.long j19, .int x4_10, .ref (ad 0)]) by
                    have hR := hJ.symm
                    refine lv_icmp_ne (tgt := 106) hx hb dX7_visits_93 (by decide) (fun c21 => ?_) (fun c21 => ?_)
                    · replace hR := it_n c21 hR
                      refine lv_lconst (v := 0) hx hb dX7_visits_106 (by decide) ?_
                      cases hR
                      exact hk20 H locs hP hD hS ls (lv_sub hl [0, 1, 2, 3, 4] rfl)
                    · replace hR := it_p c21 hR
                      refine lv_aload_n hx hb dX7_visits_96 rfl (lv_at hl 0 rfl) ?_
                      refine lv_iload hx hb dX7_visits_97 (lv_at hl 4 rfl) ?_
                      obtain ⟨r22, hC, hR⟩ := ob hR
                      try dsimp only at hR
                      refine ro_calli (va_runV (As := [.int x4_10]) (rest := [.int x4_10, .ref (ad 0)]) ⟨hx, hb, hml, hown, ht⟩ (c_M_total l dC dI ad tI tL tII tLL thr_11 sts wgt rwd up dn cel_12 rig_13 sum gp bst few x4_10 r22 hC.symm) ⟨callB_of 1 ht (goodG k_214) rfl rfl rfl (ht _ k_202) (ht _ k_215) (by decide +kernel) ⟨Nat.le_of_ble_eq_true rfl, Nat.le_of_ble_eq_true rfl⟩, (ht _ k_217), (ht _ k_216)⟩ (pre_v hK hN hP (q0 := 0) (ci := 7) rfl rfl) rfl rfl hl.1 rfl (lv_room (Nat.le_of_ble_eq_true rfl)) dX7_visits_99 ⟨Nat.zero_le _, Nat.zero_le _⟩) ?_
                      refine lv_i2l hx hb dX7_visits_102 rfl ?_
                      refine lv_goto (tgt := 107) hx hb dX7_visits_103 (by decide) ?_
                      cases hR
                      exact hk20 H locs hP hD hS ls (lv_sub hl [0, 1, 2, 3, 4] rfl)
                  intro H locs hP hD hS ls hl
                  obtain ⟨⟨cel_23, rig_24⟩, hC, hR⟩ := ob hR
                  try dsimp only at hR
                  refine rw_callv (va_runV (As := [.int x4_10, .long j19]) (rest := []) ⟨hx, hb, hml, hown, ht⟩ (c_M_lay l dC dI ad tI tL tII tLL thr_11 sts wgt rwd up dn cel_12 rig_13 sum gp bst few x4_10 j19 cel_23 rig_24 hC.symm) ⟨callB_of 2 ht (goodG k_267) rfl rfl rfl (ht _ k_202) (ht _ k_268) (by decide +kernel) ⟨Nat.le_of_ble_eq_true rfl, Nat.le_of_ble_eq_true rfl⟩, (ht _ k_270), (ht _ k_269)⟩ (pre_vw hK hN hP hD (q0 := 0) (ci := 7) rfl rfl) rfl rfl hl.1 rfl (lv_room (Nat.le_of_ble_eq_true rfl)) dX7_visits_107 ⟨Nat.zero_le _, Nat.zero_le _⟩) hD hS rfl (fun H locs hP hD hS => ?_)
                  have hP : va_P (dC, dI) vwCl (wM ad tI tL tII tLL thr_11 sts wgt rwd up dn cel_23 rig_24 sum gp bst few) H := hP
                  have hD : va_D (rwA (wM ad tI tL tII tLL thr sts wgt rwd up dn cel rig sum gp bst few)) (wM ad tI tL tII tLL thr_11 sts wgt rwd up dn cel_23 rig_24 sum gp bst few) := hD
                  refine lv_goto (tgt := 120) hx hb dX7_visits_110 (by decide) ?_
                  refine lv_iinc (v := (x4_10 + 1)) (lv' := [(4, .int (x4_10 + 1)), (0, .ref (ad 0)), (1, .int p1), (2, .int p2), (3, .int r5)]) hx hb dX7_visits_120 hl (k := 4) rfl rfl (by decide) rfl (fun ls hl => ?_)
                  refine lv_goto (tgt := 69) hx hb dX7_visits_123 (by decide) ?_
                  cases hR
                  exact ih (x4_10 + 1) cel_23 rig_24 o_x4_10 o_cel_12 o_rig_13 hQ hk H locs hP hD hS ls (lv_sub hl [1, 2, 3, 4, 0] rfl)
          obtain ⟨⟨u26, u27, u28⟩, hL, hR⟩ := ob hR
          try dsimp only at hR
          refine L69_25 (0 : Int32) 300 (0 : Int32) cel rig u26 u27 u28 hL.symm (fun H locs hP hD hS ls hl => ?_) H locs hP hD hS ls (lv_sub hl [2, 3, 4, 1, 0] rfl)
          refine lv_aload_n hx hb dX7_visits_126 rfl (lv_at hl 0 rfl) ?_
          refine lv_iload_n hx hb dX7_visits_127 rfl (lv_at hl 1 rfl) ?_
          obtain ⟨⟨r29, up_30, dn_31, sum_32⟩, hC, hR⟩ := ob hR
          try dsimp only at hR
          refine rw_calli (va_runV (As := [.int p1]) (rest := []) ⟨hx, hb, hml, hown, ht⟩ (c_M_solved l dC dI ad tI tL tII tLL (0 : Int32) sts wgt rwd up dn u27 u28 sum gp bst few p1 r29 up_30 dn_31 sum_32 hC.symm) ⟨callB_of 1 ht (goodG k_275) rfl rfl rfl (ht _ k_202) (ht _ k_276) (by decide +kernel) ⟨Nat.le_of_ble_eq_true rfl, Nat.le_of_ble_eq_true rfl⟩, (ht _ k_278), (ht _ k_277)⟩ (pre_vw hK hN hP hD (q0 := 0) (ci := 7) rfl rfl) rfl rfl hl.1 rfl (lv_room (Nat.le_of_ble_eq_true rfl)) dX7_visits_128 ⟨Nat.zero_le _, Nat.zero_le _⟩) hD hS rfl (fun H locs hP hD hS => ?_)
          have hP : va_P (dC, dI) vwCl (wM ad tI tL tII tLL (0 : Int32) sts wgt rwd up_30 dn_31 u27 u28 sum_32 gp bst few) H := hP
          have hD : va_D (rwA (wM ad tI tL tII tLL thr sts wgt rwd up dn cel rig sum gp bst few)) (wM ad tI tL tII tLL (0 : Int32) sts wgt rwd up_30 dn_31 u27 u28 sum_32 gp bst few) := hD
          cases hR
          exact W.iret hx hb hr (fun t ht _ => ⟨rfl, by rw [ht]; exact hP, hS.F ht⟩) hS.2.2 dX7_visits_131
        · replace hR := it_p c9 hR
          refine lv_aload_n hx hb dX7_visits_59 rfl (lv_at hl 1 rfl) ?_
          refine lv_lconst (v := 0) hx hb dX7_visits_60 (by decide) ?_
          refine lv_lconst (v := 1) hx hb dX7_visits_61 (by decide) ?_
          obtain ⟨⟨r33, up_34, dn_35⟩, hC, hR⟩ := ob hR
          try dsimp only at hR
          refine rw_calli (va_runV (As := [.long (0 : Int64), .long (1 : Int64)]) (rest := []) ⟨hx, hb, hml, hown, ht⟩ (c_M_answer l dC dI ad tI tL tII tLL (0 : Int32) sts wgt rwd up dn cel rig sum gp bst few (0 : Int64) (1 : Int64) r33 up_34 dn_35 hC.symm) ⟨callB_of 2 ht (goodG k_259) rfl rfl rfl (ht _ k_202) (ht _ k_260) (by decide +kernel) ⟨Nat.le_of_ble_eq_true rfl, Nat.le_of_ble_eq_true rfl⟩, (ht _ k_262), (ht _ k_261)⟩ (pre_vw hK hN hP hD (q0 := 0) (ci := 7) rfl rfl) rfl rfl hl.1 rfl (lv_room (Nat.le_of_ble_eq_true rfl)) dX7_visits_62 ⟨Nat.zero_le _, Nat.zero_le _⟩) hD hS rfl (fun H locs hP hD hS => ?_)
          have hP : va_P (dC, dI) vwCl (wM ad tI tL tII tLL (0 : Int32) sts wgt rwd up_34 dn_35 cel rig sum gp bst few) H := hP
          have hD : va_D (rwA (wM ad tI tL tII tLL thr sts wgt rwd up dn cel rig sum gp bst few)) (wM ad tI tL tII tLL (0 : Int32) sts wgt rwd up_34 dn_35 cel rig sum gp bst few) := hD
          cases hR
          exact W.iret hx hb hr (fun t ht _ => ⟨rfl, by rw [ht]; exact hP, hS.F ht⟩) hS.2.2 dX7_visits_65
      · replace hR := it_n c7 hR
        refine lv_aload_n hx hb dX7_visits_40 rfl (lv_at hl 1 rfl) ?_
        refine lv_iload_n hx hb dX7_visits_41 rfl (lv_at hl 3 rfl) ?_
        obtain ⟨r36, hC, hR⟩ := ob hR
        try dsimp only at hR
        refine ro_calli (va_runV (As := [.int p2]) (rest := []) ⟨hx, hb, hml, hown, ht⟩ (c_M_isClosed l dC dI ad tI tL tII tLL (0 : Int32) sts wgt rwd up dn cel rig sum gp bst few p2 r36 hC.symm) ⟨callB_of 1 ht (goodG k_241) rfl rfl rfl (ht _ k_202) (ht _ k_242) (by decide +kernel) ⟨Nat.le_of_ble_eq_true rfl, Nat.le_of_ble_eq_true rfl⟩, (ht _ k_244), (ht _ k_243)⟩ (pre_v hK hN hP (q0 := 0) (ci := 7) rfl rfl) rfl rfl hl.1 rfl (lv_room (Nat.le_of_ble_eq_true rfl)) dX7_visits_42 ⟨Nat.zero_le _, Nat.zero_le _⟩) ?_
        refine lv_if_eq (tgt := 51) hx hb dX7_visits_45 (by decide) (fun c37 => ?_) (fun c37 => ?_)
        · replace hR := it_p c37 hR
          refine lv_iload_n hx hb dX7_visits_51 rfl (lv_at hl 0 rfl) ?_
          refine lv_iload_n hx hb dX7_visits_52 rfl (lv_at hl 2 rfl) ?_
          obtain ⟨r38, hC, hR⟩ := ob hR
          try dsimp only at hR
          refine ro_calli (va_runS (As := [.int r5, .int p1]) (rest := []) ⟨hx, hb, hml, hown, ht⟩ (c_M_has l dC dI ad tI tL tII tLL  r5 p1 r38 hC.symm) ⟨callB_of 2 ht (goodG k_201) rfl rfl rfl (ht _ k_202) (ht _ k_203) (by decide +kernel) ⟨Nat.le_of_ble_eq_true rfl, Nat.le_of_ble_eq_true rfl⟩, (ht _ k_204)⟩ (pre_s hK hN (hP.sub (ws' := []) [] rfl)) rfl rfl hl.1 rfl (lv_room (Nat.le_of_ble_eq_true rfl)) dX7_visits_53 ⟨Nat.zero_le _, Nat.zero_le _⟩) ?_
          refine lv_if_ne (tgt := 66) hx hb dX7_visits_56 (by decide) (fun c39 => ?_) (fun c39 => ?_)
          · replace hR := it_n c39 hR
            refine lv_iconst (v := 0) hx hb dX7_visits_66 (by decide) ?_
            refine lv_istore (lv' := [(4, .int (0 : Int32)), (3, .int r5), (0, .ref (ad 0)), (1, .int p1), (2, .int p2)]) hx hb dX7_visits_67 hl (by decide) rfl (fun ls hl => ?_)
            have L69_55 : ∀ (thr_41 : Int32), ∀ (n : Nat) (x4_40 : Int32) (cel_42 : Nat → Int64) (rig_43 : Nat → Int64), ∀ (o_x4_40 : Int32) (o_cel_42 : Nat → Int64) (o_rig_43 : Nat → Int64), some (o_x4_40, o_cel_42, o_rig_43) = f_M_visits_L69b sts wgt p2 r5 n x4_40 cel_42 rig_43 → (∀ (H : Heap) (locs : List Loc), va_P (dC, dI) vwCl (wM ad tI tL tII tLL thr_41 sts wgt rwd up dn o_cel_42 o_rig_43 sum gp bst few) H → va_D (rwA (wM ad tI tL tII tLL thr sts wgt rwd up dn cel rig sum gp bst few)) (wM ad tI tL tII tLL thr_41 sts wgt rwd up dn o_cel_42 o_rig_43 sum gp bst few) → va_S (rwA (wM ad tI tL tII tLL thr sts wgt rwd up dn cel rig sum gp bst few)) s.heap H locs → ∀ ls : Array Slot, lv_has ls 5 [(0, .ref (ad 0)), (1, .int p1), (2, .int p2), (3, .int r5), (4, .int o_x4_40)] → W p l e (headSpec W_M_visits RM_f_M_visits).room s m ([.ref (ad 0), .int p1, .int p2] : List Value).toArray below meth c H locs 0 0 (MQ below (rwQ (dC, dI) vwCl (wM ad tI tL tII tLL R_thr sts wgt rwd R_up R_dn R_cel R_rig R_sum gp bst few) (some (.int R0)) (rwA (wM ad tI tL tII tLL thr sts wgt rwd up dn cel rig sum gp bst few))) ([.ref (ad 0), .int p1, .int p2] : List Value).toArray s 0 0 (rwA (wM ad tI tL tII tLL thr sts wgt rwd up dn cel rig sum gp bst few))) (F0 m 126 ls [])) → ∀ (H : Heap) (locs : List Loc), va_P (dC, dI) vwCl (wM ad tI tL tII tLL thr_41 sts wgt rwd up dn cel_42 rig_43 sum gp bst few) H → va_D (rwA (wM ad tI tL tII tLL thr sts wgt rwd up dn cel rig sum gp bst few)) (wM ad tI tL tII tLL thr_41 sts wgt rwd up dn cel_42 rig_43 sum gp bst few) → va_S (rwA (wM ad tI tL tII tLL thr sts wgt rwd up dn cel rig sum gp bst few)) s.heap H locs → ∀ ls : Array Slot, lv_has ls 5 [(0, .ref (ad 0)), (1, .int p1), (2, .int p2), (3, .int r5), (4, .int x4_40)] → W p l e (headSpec W_M_visits RM_f_M_visits).room s m ([.ref (ad 0), .int p1, .int p2] : List Value).toArray below meth c H locs 0 0 (MQ below (rwQ (dC, dI) vwCl (wM ad tI tL tII tLL R_thr sts wgt rwd R_up R_dn R_cel R_rig R_sum gp bst few) (some (.int R0)) (rwA (wM ad tI tL tII tLL thr sts wgt rwd up dn cel rig sum gp bst few))) ([.ref (ad 0), .int p1, .int p2] : List Value).toArray s 0 0 (rwA (wM ad tI tL tII tLL thr sts wgt rwd up dn cel rig sum gp bst few))) (F0 m 69 ls []) := by
              intro thr_41
              intro n
              induction n with
              | zero =>
                intro x4_40 cel_42 rig_43 o_x4_40 o_cel_42 o_rig_43 hR
                cases (show some _ = none from hR)
              | succ n ih =>
                intro x4_40 cel_42 rig_43 o_x4_40 o_cel_42 o_rig_43 hR hk H locs hP hD hS ls hl
                rw [f_M_visits_L69b_s] at hR
                obtain ⟨y, hR, hQ⟩ := ob hR
                replace hR := hR.symm
                rw [f_M_visits_B69b] at hR
                refine lv_iload hx hb dX7_visits_69 (lv_at hl 4 rfl) ?_
                refine lv_aload_n hx hb dX7_visits_71 rfl (lv_at hl 0 rfl) ?_
                refine va_get (D := (dC, dI)) (ci := 7) (v := .int sts) (C := RX7) (T := TX7) (N := 12) hx hb ht hinX7 hown hK hP 0 rfl rfl 1 (by decide) (ht _ k_205) (fun _ h9 => h9) rfl dX7_visits_72 ?_
                refine lv_icmp_ge (tgt := 126) hx hb dX7_visits_75 (by decide) (fun c44 => ?_) (fun c44 => ?_)
                · replace hR := it_p c44 hR
                  cases hR
                  cases (show some _ = some _ from hQ)
                  exact hk H locs hP hD hS ls (lv_sub hl [0, 1, 2, 3, 4] rfl)
                · replace hR := it_n c44 hR
                  refine lv_iload_n hx hb dX7_visits_78 rfl (lv_at hl 3 rfl) ?_
                  refine lv_iload hx hb dX7_visits_79 (lv_at hl 4 rfl) ?_
                  obtain ⟨r45, hC, hR⟩ := ob hR
                  try dsimp only at hR
                  refine ro_calli (va_runS (As := [.int r5, .int x4_40]) (rest := []) ⟨hx, hb, hml, hown, ht⟩ (c_M_has l dC dI ad tI tL tII tLL  r5 x4_40 r45 hC.symm) ⟨callB_of 2 ht (goodG k_201) rfl rfl rfl (ht _ k_202) (ht _ k_203) (by decide +kernel) ⟨Nat.le_of_ble_eq_true rfl, Nat.le_of_ble_eq_true rfl⟩, (ht _ k_204)⟩ (pre_s hK hN (hP.sub (ws' := []) [] rfl)) rfl rfl hl.1 rfl (lv_room (Nat.le_of_ble_eq_true rfl)) dX7_visits_81 ⟨Nat.zero_le _, Nat.zero_le _⟩) ?_
                  refine lv_if_eq (tgt := 113) hx hb dX7_visits_84 (by decide) (fun c46 => ?_) (fun c46 => ?_)
                  · replace hR := it_p c46 hR
                    refine lv_aload_n hx hb dX7_visits_113 rfl (lv_at hl 0 rfl) ?_
                    refine lv_iload hx hb dX7_visits_114 (lv_at hl 4 rfl) ?_
                    refine lv_lconst (v := 0) hx hb dX7_visits_116 (by decide) ?_
                    obtain ⟨⟨cel_47, rig_48⟩, hC, hR⟩ := ob hR
                    try dsimp only at hR
                    refine rw_callv (va_runV (As := [.int x4_40, .long (0 : Int64)]) (rest := []) ⟨hx, hb, hml, hown, ht⟩ (c_M_fix l dC dI ad tI tL tII tLL thr_41 sts wgt rwd up dn cel_42 rig_43 sum gp bst few x4_40 (0 : Int64) cel_47 rig_48 hC.symm) ⟨callB_of 2 ht (goodG k_263) rfl rfl rfl (ht _ k_202) (ht _ k_264) (by decide +kernel) ⟨Nat.le_of_ble_eq_true rfl, Nat.le_of_ble_eq_true rfl⟩, (ht _ k_266), (ht _ k_265)⟩ (pre_vw hK hN hP hD (q0 := 0) (ci := 7) rfl rfl) rfl rfl hl.1 rfl (lv_room (Nat.le_of_ble_eq_true rfl)) dX7_visits_117 ⟨Nat.zero_le _, Nat.zero_le _⟩) hD hS rfl (fun H locs hP hD hS => ?_)
                    have hP : va_P (dC, dI) vwCl (wM ad tI tL tII tLL thr_41 sts wgt rwd up dn cel_47 rig_48 sum gp bst few) H := hP
                    have hD : va_D (rwA (wM ad tI tL tII tLL thr sts wgt rwd up dn cel rig sum gp bst few)) (wM ad tI tL tII tLL thr_41 sts wgt rwd up dn cel_47 rig_48 sum gp bst few) := hD
                    refine lv_iinc (v := (x4_40 + 1)) (lv' := [(4, .int (x4_40 + 1)), (0, .ref (ad 0)), (1, .int p1), (2, .int p2), (3, .int r5)]) hx hb dX7_visits_120 hl (k := 4) rfl rfl (by decide) rfl (fun ls hl => ?_)
                    refine lv_goto (tgt := 69) hx hb dX7_visits_123 (by decide) ?_
                    cases hR
                    exact ih (x4_40 + 1) cel_47 rig_48 o_x4_40 o_cel_42 o_rig_43 hQ hk H locs hP hD hS ls (lv_sub hl [1, 2, 3, 4, 0] rfl)
                  · replace hR := it_n c46 hR
                    refine lv_aload_n hx hb dX7_visits_87 rfl (lv_at hl 0 rfl) ?_
                    refine lv_iload hx hb dX7_visits_88 (lv_at hl 4 rfl) ?_
                    refine lv_iload hx hb dX7_visits_90 (lv_at hl 4 rfl) ?_
                    refine lv_iload_n hx hb dX7_visits_92 rfl (lv_at hl 2 rfl) ?_
                    obtain ⟨j49, hJ, hR⟩ := ob hR
                    try dsimp only at hR
                    suffices hk50 : ∀ (H : Heap) (locs : List Loc), va_P (dC, dI) vwCl (wM ad tI tL tII tLL thr_41 sts wgt rwd up dn cel_42 rig_43 sum gp bst few) H → va_D (rwA (wM ad tI tL tII tLL thr sts wgt rwd up dn cel rig sum gp bst few)) (wM ad tI tL tII tLL thr_41 sts wgt rwd up dn cel_42 rig_43 sum gp bst few) → va_S (rwA (wM ad tI tL tII tLL thr sts wgt rwd up dn cel rig sum gp bst few)) s.heap H locs → ∀ ls : Array Slot, lv_has ls 5 [(0, .ref (ad 0)), (1, .int p1), (2, .int p2), (3, .int r5), (4, .int x4_40)] → W p l e (headSpec W_M_visits RM_f_M_visits).room s m ([.ref (ad 0), .int p1, .int p2] : List Value).toArray below meth c H locs 0 0 (MQ below (rwQ (dC, dI) vwCl (wM ad tI tL tII tLL R_thr sts wgt rwd R_up R_dn R_cel R_rig R_sum gp bst few) (some (.int R0)) (rwA (wM ad tI tL tII tLL thr sts wgt rwd up dn cel rig sum gp bst few))) ([.ref (ad 0), .int p1, .int p2] : List Value).toArray s 0 0 (rwA (wM ad tI tL tII tLL thr sts wgt rwd up dn cel rig sum gp bst few))) (F0 m 107 ls [.long j49, .int x4_40, .ref (ad 0)]) by
                      have hR := hJ.symm
                      refine lv_icmp_ne (tgt := 106) hx hb dX7_visits_93 (by decide) (fun c51 => ?_) (fun c51 => ?_)
                      · replace hR := it_n c51 hR
                        refine lv_lconst (v := 0) hx hb dX7_visits_106 (by decide) ?_
                        cases hR
                        exact hk50 H locs hP hD hS ls (lv_sub hl [0, 1, 2, 3, 4] rfl)
                      · replace hR := it_p c51 hR
                        refine lv_aload_n hx hb dX7_visits_96 rfl (lv_at hl 0 rfl) ?_
                        refine lv_iload hx hb dX7_visits_97 (lv_at hl 4 rfl) ?_
                        obtain ⟨r52, hC, hR⟩ := ob hR
                        try dsimp only at hR
                        refine ro_calli (va_runV (As := [.int x4_40]) (rest := [.int x4_40, .ref (ad 0)]) ⟨hx, hb, hml, hown, ht⟩ (c_M_total l dC dI ad tI tL tII tLL thr_41 sts wgt rwd up dn cel_42 rig_43 sum gp bst few x4_40 r52 hC.symm) ⟨callB_of 1 ht (goodG k_214) rfl rfl rfl (ht _ k_202) (ht _ k_215) (by decide +kernel) ⟨Nat.le_of_ble_eq_true rfl, Nat.le_of_ble_eq_true rfl⟩, (ht _ k_217), (ht _ k_216)⟩ (pre_v hK hN hP (q0 := 0) (ci := 7) rfl rfl) rfl rfl hl.1 rfl (lv_room (Nat.le_of_ble_eq_true rfl)) dX7_visits_99 ⟨Nat.zero_le _, Nat.zero_le _⟩) ?_
                        refine lv_i2l hx hb dX7_visits_102 rfl ?_
                        refine lv_goto (tgt := 107) hx hb dX7_visits_103 (by decide) ?_
                        cases hR
                        exact hk50 H locs hP hD hS ls (lv_sub hl [0, 1, 2, 3, 4] rfl)
                    intro H locs hP hD hS ls hl
                    obtain ⟨⟨cel_53, rig_54⟩, hC, hR⟩ := ob hR
                    try dsimp only at hR
                    refine rw_callv (va_runV (As := [.int x4_40, .long j49]) (rest := []) ⟨hx, hb, hml, hown, ht⟩ (c_M_lay l dC dI ad tI tL tII tLL thr_41 sts wgt rwd up dn cel_42 rig_43 sum gp bst few x4_40 j49 cel_53 rig_54 hC.symm) ⟨callB_of 2 ht (goodG k_267) rfl rfl rfl (ht _ k_202) (ht _ k_268) (by decide +kernel) ⟨Nat.le_of_ble_eq_true rfl, Nat.le_of_ble_eq_true rfl⟩, (ht _ k_270), (ht _ k_269)⟩ (pre_vw hK hN hP hD (q0 := 0) (ci := 7) rfl rfl) rfl rfl hl.1 rfl (lv_room (Nat.le_of_ble_eq_true rfl)) dX7_visits_107 ⟨Nat.zero_le _, Nat.zero_le _⟩) hD hS rfl (fun H locs hP hD hS => ?_)
                    have hP : va_P (dC, dI) vwCl (wM ad tI tL tII tLL thr_41 sts wgt rwd up dn cel_53 rig_54 sum gp bst few) H := hP
                    have hD : va_D (rwA (wM ad tI tL tII tLL thr sts wgt rwd up dn cel rig sum gp bst few)) (wM ad tI tL tII tLL thr_41 sts wgt rwd up dn cel_53 rig_54 sum gp bst few) := hD
                    refine lv_goto (tgt := 120) hx hb dX7_visits_110 (by decide) ?_
                    refine lv_iinc (v := (x4_40 + 1)) (lv' := [(4, .int (x4_40 + 1)), (0, .ref (ad 0)), (1, .int p1), (2, .int p2), (3, .int r5)]) hx hb dX7_visits_120 hl (k := 4) rfl rfl (by decide) rfl (fun ls hl => ?_)
                    refine lv_goto (tgt := 69) hx hb dX7_visits_123 (by decide) ?_
                    cases hR
                    exact ih (x4_40 + 1) cel_53 rig_54 o_x4_40 o_cel_42 o_rig_43 hQ hk H locs hP hD hS ls (lv_sub hl [1, 2, 3, 4, 0] rfl)
            obtain ⟨⟨u56, u57, u58⟩, hL, hR⟩ := ob hR
            try dsimp only at hR
            refine L69_55 (0 : Int32) 300 (0 : Int32) cel rig u56 u57 u58 hL.symm (fun H locs hP hD hS ls hl => ?_) H locs hP hD hS ls (lv_sub hl [2, 3, 4, 1, 0] rfl)
            refine lv_aload_n hx hb dX7_visits_126 rfl (lv_at hl 0 rfl) ?_
            refine lv_iload_n hx hb dX7_visits_127 rfl (lv_at hl 1 rfl) ?_
            obtain ⟨⟨r59, up_60, dn_61, sum_62⟩, hC, hR⟩ := ob hR
            try dsimp only at hR
            refine rw_calli (va_runV (As := [.int p1]) (rest := []) ⟨hx, hb, hml, hown, ht⟩ (c_M_solved l dC dI ad tI tL tII tLL (0 : Int32) sts wgt rwd up dn u57 u58 sum gp bst few p1 r59 up_60 dn_61 sum_62 hC.symm) ⟨callB_of 1 ht (goodG k_275) rfl rfl rfl (ht _ k_202) (ht _ k_276) (by decide +kernel) ⟨Nat.le_of_ble_eq_true rfl, Nat.le_of_ble_eq_true rfl⟩, (ht _ k_278), (ht _ k_277)⟩ (pre_vw hK hN hP hD (q0 := 0) (ci := 7) rfl rfl) rfl rfl hl.1 rfl (lv_room (Nat.le_of_ble_eq_true rfl)) dX7_visits_128 ⟨Nat.zero_le _, Nat.zero_le _⟩) hD hS rfl (fun H locs hP hD hS => ?_)
            have hP : va_P (dC, dI) vwCl (wM ad tI tL tII tLL (0 : Int32) sts wgt rwd up_60 dn_61 u57 u58 sum_62 gp bst few) H := hP
            have hD : va_D (rwA (wM ad tI tL tII tLL thr sts wgt rwd up dn cel rig sum gp bst few)) (wM ad tI tL tII tLL (0 : Int32) sts wgt rwd up_60 dn_61 u57 u58 sum_62 gp bst few) := hD
            cases hR
            exact W.iret hx hb hr (fun t ht _ => ⟨rfl, by rw [ht]; exact hP, hS.F ht⟩) hS.2.2 dX7_visits_131
          · replace hR := it_p c39 hR
            refine lv_aload_n hx hb dX7_visits_59 rfl (lv_at hl 1 rfl) ?_
            refine lv_lconst (v := 0) hx hb dX7_visits_60 (by decide) ?_
            refine lv_lconst (v := 1) hx hb dX7_visits_61 (by decide) ?_
            obtain ⟨⟨r63, up_64, dn_65⟩, hC, hR⟩ := ob hR
            try dsimp only at hR
            refine rw_calli (va_runV (As := [.long (0 : Int64), .long (1 : Int64)]) (rest := []) ⟨hx, hb, hml, hown, ht⟩ (c_M_answer l dC dI ad tI tL tII tLL (0 : Int32) sts wgt rwd up dn cel rig sum gp bst few (0 : Int64) (1 : Int64) r63 up_64 dn_65 hC.symm) ⟨callB_of 2 ht (goodG k_259) rfl rfl rfl (ht _ k_202) (ht _ k_260) (by decide +kernel) ⟨Nat.le_of_ble_eq_true rfl, Nat.le_of_ble_eq_true rfl⟩, (ht _ k_262), (ht _ k_261)⟩ (pre_vw hK hN hP hD (q0 := 0) (ci := 7) rfl rfl) rfl rfl hl.1 rfl (lv_room (Nat.le_of_ble_eq_true rfl)) dX7_visits_62 ⟨Nat.zero_le _, Nat.zero_le _⟩) hD hS rfl (fun H locs hP hD hS => ?_)
            have hP : va_P (dC, dI) vwCl (wM ad tI tL tII tLL (0 : Int32) sts wgt rwd up_64 dn_65 cel rig sum gp bst few) H := hP
            have hD : va_D (rwA (wM ad tI tL tII tLL thr sts wgt rwd up dn cel rig sum gp bst few)) (wM ad tI tL tII tLL (0 : Int32) sts wgt rwd up_64 dn_65 cel rig sum gp bst few) := hD
            cases hR
            exact W.iret hx hb hr (fun t ht _ => ⟨rfl, by rw [ht]; exact hP, hS.F ht⟩) hS.2.2 dX7_visits_65
        · replace hR := it_n c37 hR
          refine lv_bipush (v := (-3)) hx hb dX7_visits_48 (by decide) ?_
          cases hR
          exact W.iret hx hb hr (fun t ht _ => ⟨rfl, by rw [ht]; exact hP, hS.F ht⟩) hS.2.2 dX7_visits_50
    · replace hR := it_p c4 hR
      refine lv_iconst (v := (-1)) hx hb dX7_visits_21 (by decide) ?_
      cases hR
      exact W.iret hx hb hr (fun t ht _ => ⟨rfl, by rw [ht]; exact hP, hS.F ht⟩) hS.2.2 dX7_visits_22
abbrev RM_f_M_share : Room := { frames := 5, cells := 0, slots := 0, locals := 115 }
abbrev W_M_share : List Cond := .code yX7_share cX7_share 15 (some .int) :: tblG
set_option maxHeartbeats 4000000 in
set_option maxRecDepth 100000 in
theorem c_M_share (l : Launch) (dC : Nat → ClassId) (dI : Nat → Nat → Nat) (ad : Nat → Nat) (tI tL tII tLL : ClassId) (thr : Int32) (sts : Int32) (wgt : Nat → Int32) (rwd : Nat → Int32) (up : Int64) (dn : Int64) (cel : Nat → Int64) (rig : Nat → Int64) (sum : Nat → Int64) (gp : Nat → Int32) (bst : Nat → Int32) (few : Int32) (p1 : Int32) (p2 : Int32) (R0 : Int32) (R_thr : Int32) (R_up : Int64) (R_dn : Int64) (R_cel : Nat → Int64) (R_rig : Nat → Int64) (R_sum : Nat → Int64) (hR : some (R0, R_thr, R_up, R_dn, R_cel, R_rig, R_sum) = f_M_share sts wgt up dn cel rig sum p1 p2) : Met l yX7_share W_M_share RM_f_M_share (rwP (dC, dI) vwCl [(tI, .int), (tL, .long), (tII, .array .int), (tLL, .array .long)] (wM ad tI tL tII tLL thr sts wgt rwd up dn cel rig sum gp bst few) ([.ref (ad 0), .int p1, .int p2] : List Value)) (rwQ (dC, dI) vwCl (wM ad tI tL tII tLL R_thr sts wgt rwd R_up R_dn R_cel R_rig R_sum gp bst few) (some (.int R0)) (rwA (wM ad tI tL tII tLL thr sts wgt rwd up dn cel rig sum gp bst few))) 0 0 (rwA (wM ad tI tL tII tLL thr sts wgt rwd up dn cel rig sum gp bst few)) := by
  refine Met.ofW (cc := cX7_share) (maxL := 15) (ret := (some .int)) (by decide) rfl ?_
  intro p e s m args below meth c s₁ B hml hv
  obtain ⟨rfl, hP, hK, hN, hD⟩ := hv
  have hx := B.exec
  have hb := B.bytes
  have hr := B.returns
  have hts := atoms_spec (ws := W_M_share) B.pre
  have ht := fun (w : Cond) (h : w ∈ tblG) => hts w (List.mem_cons_of_mem _ h)
  have hown : s.vm.findClass RX7 = some m.cls := findClass_of_methodNamed B.named
  have hlocks := B.notSynchronized
  have hl := lv_entry ([.ref (ad 0), .int p1, .int p2] : List Value) (n := 15) (Nat.le_of_ble_eq_true rfl)
  rw [lg_entry_eq]
  generalize (lg_sl ([.ref (ad 0), .int p1, .int p2] : List Value) ++ List.replicate (15 - (lg_sl ([.ref (ad 0), .int p1, .int p2] : List Value)).length) Slot.unset).toArray = ls at hl ⊢
  have hl : lv_has ls 15 [(0, .ref (ad 0)), (1, .int p1), (2, .int p2)] := hl
  have hD := hD.own
  have hS : va_S (rwA (wM ad tI tL tII tLL thr sts wgt rwd up dn cel rig sum gp bst few)) s.heap s.heap [] := va_S.rf
  suffices K : ∀ (H : Heap) (locs : List Loc), va_P (dC, dI) vwCl (wM ad tI tL tII tLL thr sts wgt rwd up dn cel rig sum gp bst few) H → va_D (rwA (wM ad tI tL tII tLL thr sts wgt rwd up dn cel rig sum gp bst few)) (wM ad tI tL tII tLL thr sts wgt rwd up dn cel rig sum gp bst few) → va_S (rwA (wM ad tI tL tII tLL thr sts wgt rwd up dn cel rig sum gp bst few)) s.heap H locs → W p l e (headSpec W_M_share RM_f_M_share).room s m ([.ref (ad 0), .int p1, .int p2] : List Value).toArray below meth c H locs 0 0 (MQ below (rwQ (dC, dI) vwCl (wM ad tI tL tII tLL R_thr sts wgt rwd R_up R_dn R_cel R_rig R_sum gp bst few) (some (.int R0)) (rwA (wM ad tI tL tII tLL thr sts wgt rwd up dn cel rig sum gp bst few))) ([.ref (ad 0), .int p1, .int p2] : List Value).toArray s 0 0 (rwA (wM ad tI tL tII tLL thr sts wgt rwd up dn cel rig sum gp bst few))) (F0 m 0 ls []) from K s.heap [] hP hD hS
  clear hP hD hS
  intro H locs hP hD hS
  rw [f_M_share] at hR
  refine lv_aload_n hx hb dX7_share_0 rfl (lv_at hl 0 rfl) ?_
  refine lv_iconst (v := 0) hx hb dX7_share_1 (by decide) ?_
  refine va_put (D := (dC, dI)) (ci := 7) (v := .int (0 : Int32)) (ty := .int) (C := RX7) (T := TX7) (N := 12) hx hb ht hinX7 tyX7 tyX7_ok nmX7 hown hK hP hD hS 0 rfl rfl 0 (by decide) (ht _ k_220) (fun _ h9 => h9) rfl (by decide +kernel) rfl rfl (Nat.le_of_ble_eq_true rfl) dX7_share_2 (fun H locs hP hD hS => ?_)
  have hP : va_P (dC, dI) vwCl (wM ad tI tL tII tLL (0 : Int32) sts wgt rwd up dn cel rig sum gp bst few) H := hP
  have hD : va_D (rwA (wM ad tI tL tII tLL thr sts wgt rwd up dn cel rig sum gp bst few)) (wM ad tI tL tII tLL (0 : Int32) sts wgt rwd up dn cel rig sum gp bst few) := hD
  refine lv_aload_n hx hb dX7_share_5 rfl (lv_at hl 0 rfl) ?_
  refine lv_iload_n hx hb dX7_share_6 rfl (lv_at hl 1 rfl) ?_
  obtain ⟨r1, hC, hR⟩ := ob hR
  try dsimp only at hR
  refine ro_calli (va_runV (As := [.int p1]) (rest := []) ⟨hx, hb, hml, hown, ht⟩ (c_M_isState l dC dI ad tI tL tII tLL (0 : Int32) sts wgt rwd up dn cel rig sum gp bst few p1 r1 hC.symm) ⟨callB_of 1 ht (goodG k_222) rfl rfl rfl (ht _ k_202) (ht _ k_223) (by decide +kernel) ⟨Nat.le_of_ble_eq_true rfl, Nat.le_of_ble_eq_true rfl⟩, (ht _ k_225), (ht _ k_224)⟩ (pre_v hK hN hP (q0 := 0) (ci := 7) rfl rfl) rfl rfl hl.1 rfl (lv_room (Nat.le_of_ble_eq_true rfl)) dX7_share_7 ⟨Nat.zero_le _, Nat.zero_le _⟩) ?_
  refine lv_if_eq (tgt := 21) hx hb dX7_share_10 (by decide) (fun c2 => ?_) (fun c2 => ?_)
  · replace hR := it_p c2 hR
    refine lv_iconst (v := (-1)) hx hb dX7_share_21 (by decide) ?_
    cases hR
    exact W.iret hx hb hr (fun t ht _ => ⟨rfl, by rw [ht]; exact hP, hS.F ht⟩) hS.2.2 dX7_share_22
  · replace hR := it_n c2 hR
    refine lv_aload_n hx hb dX7_share_13 rfl (lv_at hl 0 rfl) ?_
    refine lv_iload_n hx hb dX7_share_14 rfl (lv_at hl 2 rfl) ?_
    obtain ⟨r3, hC, hR⟩ := ob hR
    try dsimp only at hR
    refine ro_calli (va_runV (As := [.int p2]) (rest := []) ⟨hx, hb, hml, hown, ht⟩ (c_M_isState l dC dI ad tI tL tII tLL (0 : Int32) sts wgt rwd up dn cel rig sum gp bst few p2 r3 hC.symm) ⟨callB_of 1 ht (goodG k_222) rfl rfl rfl (ht _ k_202) (ht _ k_223) (by decide +kernel) ⟨Nat.le_of_ble_eq_true rfl, Nat.le_of_ble_eq_true rfl⟩, (ht _ k_225), (ht _ k_224)⟩ (pre_v hK hN hP (q0 := 0) (ci := 7) rfl rfl) rfl rfl hl.1 rfl (lv_room (Nat.le_of_ble_eq_true rfl)) dX7_share_15 ⟨Nat.zero_le _, Nat.zero_le _⟩) ?_
    refine lv_if_ne (tgt := 23) hx hb dX7_share_18 (by decide) (fun c4 => ?_) (fun c4 => ?_)
    · replace hR := it_n c4 hR
      refine lv_aload_n hx hb dX7_share_23 rfl (lv_at hl 0 rfl) ?_
      refine lv_iload_n hx hb dX7_share_24 rfl (lv_at hl 2 rfl) ?_
      obtain ⟨r5, hC, hR⟩ := ob hR
      try dsimp only at hR
      refine ro_calli (va_runV (As := [.int p2]) (rest := []) ⟨hx, hb, hml, hown, ht⟩ (c_M_isClosed l dC dI ad tI tL tII tLL (0 : Int32) sts wgt rwd up dn cel rig sum gp bst few p2 r5 hC.symm) ⟨callB_of 1 ht (goodG k_241) rfl rfl rfl (ht _ k_202) (ht _ k_242) (by decide +kernel) ⟨Nat.le_of_ble_eq_true rfl, Nat.le_of_ble_eq_true rfl⟩, (ht _ k_244), (ht _ k_243)⟩ (pre_v hK hN hP (q0 := 0) (ci := 7) rfl rfl) rfl rfl hl.1 rfl (lv_room (Nat.le_of_ble_eq_true rfl)) dX7_share_25 ⟨Nat.zero_le _, Nat.zero_le _⟩) ?_
      refine lv_if_ne (tgt := 38) hx hb dX7_share_28 (by decide) (fun c6 => ?_) (fun c6 => ?_)
      · replace hR := it_n c6 hR
        refine lv_aload_n hx hb dX7_share_38 rfl (lv_at hl 0 rfl) ?_
        refine lv_iload_n hx hb dX7_share_39 rfl (lv_at hl 2 rfl) ?_
        obtain ⟨r7, hC, hR⟩ := ob hR
        try dsimp only at hR
        refine ro_calli (va_runV (As := [.int p2]) (rest := []) ⟨hx, hb, hml, hown, ht⟩ (c_M_partOf l dC dI ad tI tL tII tLL (0 : Int32) sts wgt rwd up dn cel rig sum gp bst few p2 r7 hC.symm) ⟨callB_of 1 ht (goodG k_234) rfl rfl rfl (ht _ k_202) (ht _ k_235) (by decide +kernel) ⟨Nat.le_of_ble_eq_true rfl, Nat.le_of_ble_eq_true rfl⟩, (ht _ k_237), (ht _ k_236)⟩ (pre_v hK hN hP (q0 := 0) (ci := 7) rfl rfl) rfl rfl hl.1 rfl (lv_room (Nat.le_of_ble_eq_true rfl)) dX7_share_40 ⟨Nat.zero_le _, Nat.zero_le _⟩) ?_
        refine lv_istore_n (lv' := [(3, .int r7), (0, .ref (ad 0)), (1, .int p1), (2, .int p2)]) hx hb dX7_share_43 rfl hl (by decide) rfl (fun ls hl => ?_)
        refine lv_aload_n hx hb dX7_share_44 rfl (lv_at hl 1 rfl) ?_
        refine lv_iload_n hx hb dX7_share_45 rfl (lv_at hl 0 rfl) ?_
        refine lv_iconst (v := 0) hx hb dX7_share_46 (by decide) ?_
        obtain ⟨⟨cel_8, rig_9⟩, hC, hR⟩ := ob hR
        try dsimp only at hR
        refine rw_callv (va_runV (As := [.int r7, .int (0 : Int32)]) (rest := []) ⟨hx, hb, hml, hown, ht⟩ (c_M_layOdds l dC dI ad tI tL tII tLL (0 : Int32) sts wgt rwd up dn cel rig sum gp bst few r7 (0 : Int32) cel_8 rig_9 hC.symm) ⟨callB_of 2 ht (goodG k_271) rfl rfl rfl (ht _ k_202) (ht _ k_272) (by decide +kernel) ⟨Nat.le_of_ble_eq_true rfl, Nat.le_of_ble_eq_true rfl⟩, (ht _ k_274), (ht _ k_273)⟩ (pre_vw hK hN hP hD (q0 := 0) (ci := 7) rfl rfl) rfl rfl hl.1 rfl (lv_room (Nat.le_of_ble_eq_true rfl)) dX7_share_47 ⟨Nat.zero_le _, Nat.zero_le _⟩) hD hS rfl (fun H locs hP hD hS => ?_)
        have hP : va_P (dC, dI) vwCl (wM ad tI tL tII tLL (0 : Int32) sts wgt rwd up dn cel_8 rig_9 sum gp bst few) H := hP
        have hD : va_D (rwA (wM ad tI tL tII tLL thr sts wgt rwd up dn cel rig sum gp bst few)) (wM ad tI tL tII tLL (0 : Int32) sts wgt rwd up dn cel_8 rig_9 sum gp bst few) := hD
        refine lv_aload_n hx hb dX7_share_50 rfl (lv_at hl 1 rfl) ?_
        refine lv_iload_n hx hb dX7_share_51 rfl (lv_at hl 2 rfl) ?_
        obtain ⟨⟨r10, up_11, dn_12, sum_13⟩, hC, hR⟩ := ob hR
        try dsimp only at hR
        refine rw_calli (va_runV (As := [.int p1]) (rest := []) ⟨hx, hb, hml, hown, ht⟩ (c_M_solved l dC dI ad tI tL tII tLL (0 : Int32) sts wgt rwd up dn cel_8 rig_9 sum gp bst few p1 r10 up_11 dn_12 sum_13 hC.symm) ⟨callB_of 1 ht (goodG k_275) rfl rfl rfl (ht _ k_202) (ht _ k_276) (by decide +kernel) ⟨Nat.le_of_ble_eq_true rfl, Nat.le_of_ble_eq_true rfl⟩, (ht _ k_278), (ht _ k_277)⟩ (pre_vw hK hN hP hD (q0 := 0) (ci := 7) rfl rfl) rfl rfl hl.1 rfl (lv_room (Nat.le_of_ble_eq_true rfl)) dX7_share_52 ⟨Nat.zero_le _, Nat.zero_le _⟩) hD hS rfl (fun H locs hP hD hS => ?_)
        have hP : va_P (dC, dI) vwCl (wM ad tI tL tII tLL (0 : Int32) sts wgt rwd up_11 dn_12 cel_8 rig_9 sum_13 gp bst few) H := hP
        have hD : va_D (rwA (wM ad tI tL tII tLL thr sts wgt rwd up dn cel rig sum gp bst few)) (wM ad tI tL tII tLL (0 : Int32) sts wgt rwd up_11 dn_12 cel_8 rig_9 sum_13 gp bst few) := hD
        refine lv_pop hx hb dX7_share_55 rfl ?_
        refine lv_aload_n hx hb dX7_share_56 rfl (lv_at hl 1 rfl) ?_
        refine va_get (D := (dC, dI)) (ci := 7) (v := .long up_11) (C := RX7) (T := TX7) (N := 12) hx hb ht hinX7 hown hK hP 0 rfl rfl 4 (by decide) (ht _ k_218) (fun _ h9 => h9) rfl dX7_share_57 ?_
        refine lv_lstore (lv' := [(4, .long up_11), (3, .int r7), (0, .ref (ad 0)), (1, .int p1), (2, .int p2)]) hx hb dX7_share_60 hl (by decide) rfl (fun ls hl => ?_)
        refine lv_aload_n hx hb dX7_share_62 rfl (lv_at hl 2 rfl) ?_
        refine va_get (D := (dC, dI)) (ci := 7) (v := .long dn_12) (C := RX7) (T := TX7) (N := 12) hx hb ht hinX7 hown hK hP 0 rfl rfl 5 (by decide) (ht _ k_219) (fun _ h9 => h9) rfl dX7_share_63 ?_
        refine lv_lstore (lv' := [(6, .long dn_12), (4, .long up_11), (3, .int r7), (0, .ref (ad 0)), (1, .int p1), (2, .int p2)]) hx hb dX7_share_66 hl (by decide) rfl (fun ls hl => ?_)
        refine lv_aload_n hx hb dX7_share_68 rfl (lv_at hl 3 rfl) ?_
        refine lv_iload_n hx hb dX7_share_69 rfl (lv_at hl 5 rfl) ?_
        obtain ⟨r14, hC, hR⟩ := ob hR
        try dsimp only at hR
        refine ro_calli (va_runV (As := [.int p2]) (rest := []) ⟨hx, hb, hml, hown, ht⟩ (c_M_isEnd l dC dI ad tI tL tII tLL (0 : Int32) sts wgt rwd up_11 dn_12 cel_8 rig_9 sum_13 gp bst few p2 r14 hC.symm) ⟨callB_of 1 ht (goodG k_245) rfl rfl rfl (ht _ k_202) (ht _ k_246) (by decide +kernel) ⟨Nat.le_of_ble_eq_true rfl, Nat.le_of_ble_eq_true rfl⟩, (ht _ k_248), (ht _ k_247)⟩ (pre_v hK hN hP (q0 := 0) (ci := 7) rfl rfl) rfl rfl hl.1 rfl (lv_room (Nat.le_of_ble_eq_true rfl)) dX7_share_70 ⟨Nat.zero_le _, Nat.zero_le _⟩) ?_
        refine lv_if_eq (tgt := 85) hx hb dX7_share_73 (by decide) (fun c15 => ?_) (fun c15 => ?_)
        · replace hR := it_p c15 hR
          refine lv_lconst (v := 0) hx hb dX7_share_85 (by decide) ?_
          refine lv_lstore (lv' := [(8, .long (0 : Int64)), (6, .long dn_12), (4, .long up_11), (3, .int r7), (0, .ref (ad 0)), (1, .int p1), (2, .int p2)]) hx hb dX7_share_86 hl (by decide) rfl (fun ls hl => ?_)
          refine lv_lconst (v := 0) hx hb dX7_share_88 (by decide) ?_
          refine lv_lstore (lv' := [(10, .long (0 : Int64)), (8, .long (0 : Int64)), (6, .long dn_12), (4, .long up_11), (3, .int r7), (0, .ref (ad 0)), (1, .int p1), (2, .int p2)]) hx hb dX7_share_89 hl (by decide) rfl (fun ls hl => ?_)
          refine lv_iconst (v := 0) hx hb dX7_share_91 (by decide) ?_
          refine lv_istore (lv' := [(12, .int (0 : Int32)), (10, .long (0 : Int64)), (8, .long (0 : Int64)), (6, .long dn_12), (4, .long up_11), (3, .int r7), (0, .ref (ad 0)), (1, .int p1), (2, .int p2)]) hx hb dX7_share_92 hl (by decide) rfl (fun ls hl => ?_)
          have L94_56 : ∀ (thr_19 : Int32), ∀ (n : Nat) (x8_16 : Int64) (x10_17 : Int64) (x12_18 : Int32) (cel_20 : Nat → Int64) (rig_21 : Nat → Int64) (sum_22 : Nat → Int64), ∀ (o_x8_16 : Int64) (o_x10_17 : Int64) (o_x12_18 : Int32) (o_cel_20 : Nat → Int64) (o_rig_21 : Nat → Int64) (o_sum_22 : Nat → Int64), some (o_x8_16, o_x10_17, o_x12_18, o_cel_20, o_rig_21, o_sum_22) = f_M_share_L94 sts wgt p2 r7 n x8_16 x10_17 x12_18 cel_20 rig_21 sum_22 → (∀ (H : Heap) (locs : List Loc), va_P (dC, dI) vwCl (wM ad tI tL tII tLL thr_19 sts wgt rwd up_11 dn_12 o_cel_20 o_rig_21 o_sum_22 gp bst few) H → va_D (rwA (wM ad tI tL tII tLL thr sts wgt rwd up dn cel rig sum gp bst few)) (wM ad tI tL tII tLL thr_19 sts wgt rwd up_11 dn_12 o_cel_20 o_rig_21 o_sum_22 gp bst few) → va_S (rwA (wM ad tI tL tII tLL thr sts wgt rwd up dn cel rig sum gp bst few)) s.heap H locs → ∀ ls : Array Slot, lv_has ls 15 [(0, .ref (ad 0)), (2, .int p2), (3, .int r7), (4, .long up_11), (6, .long dn_12), (8, .long o_x8_16), (10, .long o_x10_17), (12, .int o_x12_18)] → W p l e (headSpec W_M_share RM_f_M_share).room s m ([.ref (ad 0), .int p1, .int p2] : List Value).toArray below meth c H locs 0 0 (MQ below (rwQ (dC, dI) vwCl (wM ad tI tL tII tLL R_thr sts wgt rwd R_up R_dn R_cel R_rig R_sum gp bst few) (some (.int R0)) (rwA (wM ad tI tL tII tLL thr sts wgt rwd up dn cel rig sum gp bst few))) ([.ref (ad 0), .int p1, .int p2] : List Value).toArray s 0 0 (rwA (wM ad tI tL tII tLL thr sts wgt rwd up dn cel rig sum gp bst few))) (F0 m 249 ls [])) → ∀ (H : Heap) (locs : List Loc), va_P (dC, dI) vwCl (wM ad tI tL tII tLL thr_19 sts wgt rwd up_11 dn_12 cel_20 rig_21 sum_22 gp bst few) H → va_D (rwA (wM ad tI tL tII tLL thr sts wgt rwd up dn cel rig sum gp bst few)) (wM ad tI tL tII tLL thr_19 sts wgt rwd up_11 dn_12 cel_20 rig_21 sum_22 gp bst few) → va_S (rwA (wM ad tI tL tII tLL thr sts wgt rwd up dn cel rig sum gp bst few)) s.heap H locs → ∀ ls : Array Slot, lv_has ls 15 [(0, .ref (ad 0)), (2, .int p2), (3, .int r7), (4, .long up_11), (6, .long dn_12), (8, .long x8_16), (10, .long x10_17), (12, .int x12_18)] → W p l e (headSpec W_M_share RM_f_M_share).room s m ([.ref (ad 0), .int p1, .int p2] : List Value).toArray below meth c H locs 0 0 (MQ below (rwQ (dC, dI) vwCl (wM ad tI tL tII tLL R_thr sts wgt rwd R_up R_dn R_cel R_rig R_sum gp bst few) (some (.int R0)) (rwA (wM ad tI tL tII tLL thr sts wgt rwd up dn cel rig sum gp bst few))) ([.ref (ad 0), .int p1, .int p2] : List Value).toArray s 0 0 (rwA (wM ad tI tL tII tLL thr sts wgt rwd up dn cel rig sum gp bst few))) (F0 m 94 ls []) := by
            intro thr_19
            intro n
            induction n with
            | zero =>
              intro x8_16 x10_17 x12_18 cel_20 rig_21 sum_22 o_x8_16 o_x10_17 o_x12_18 o_cel_20 o_rig_21 o_sum_22 hR
              cases (show some _ = none from hR)
            | succ n ih =>
              intro x8_16 x10_17 x12_18 cel_20 rig_21 sum_22 o_x8_16 o_x10_17 o_x12_18 o_cel_20 o_rig_21 o_sum_22 hR hk H locs hP hD hS ls hl
              rw [f_M_share_L94_s] at hR
              obtain ⟨y, hR, hQ⟩ := ob hR
              replace hR := hR.symm
              rw [f_M_share_B94] at hR
              refine lv_iload hx hb dX7_share_94 (lv_at hl 7 rfl) ?_
              refine lv_aload_n hx hb dX7_share_96 rfl (lv_at hl 0 rfl) ?_
              refine va_get (D := (dC, dI)) (ci := 7) (v := .int sts) (C := RX7) (T := TX7) (N := 12) hx hb ht hinX7 hown hK hP 0 rfl rfl 1 (by decide) (ht _ k_205) (fun _ h9 => h9) rfl dX7_share_97 ?_
              refine lv_icmp_ge (tgt := 249) hx hb dX7_share_100 (by decide) (fun c23 => ?_) (fun c23 => ?_)
              · replace hR := it_p c23 hR
                cases hR
                cases (show some _ = some _ from hQ)
                exact hk H locs hP hD hS ls (lv_sub hl [0, 1, 2, 3, 4, 5, 6, 7] rfl)
              · replace hR := it_n c23 hR
                refine lv_iload_n hx hb dX7_share_103 rfl (lv_at hl 2 rfl) ?_
                refine lv_iload hx hb dX7_share_104 (lv_at hl 7 rfl) ?_
                obtain ⟨r24, hC, hR⟩ := ob hR
                try dsimp only at hR
                refine ro_calli (va_runS (As := [.int r7, .int x12_18]) (rest := []) ⟨hx, hb, hml, hown, ht⟩ (c_M_has l dC dI ad tI tL tII tLL  r7 x12_18 r24 hC.symm) ⟨callB_of 2 ht (goodG k_201) rfl rfl rfl (ht _ k_202) (ht _ k_203) (by decide +kernel) ⟨Nat.le_of_ble_eq_true rfl, Nat.le_of_ble_eq_true rfl⟩, (ht _ k_204)⟩ (pre_s hK hN (hP.sub (ws' := []) [] rfl)) rfl rfl hl.1 rfl (lv_room (Nat.le_of_ble_eq_true rfl)) dX7_share_106 ⟨Nat.zero_le _, Nat.zero_le _⟩) ?_
                refine lv_if_eq (tgt := 243) hx hb dX7_share_109 (by decide) (fun c25 => ?_) (fun c25 => ?_)
                · replace hR := it_p c25 hR
                  refine lv_iinc (v := (x12_18 + 1)) (lv' := [(12, .int (x12_18 + 1)), (0, .ref (ad 0)), (2, .int p2), (3, .int r7), (4, .long up_11), (6, .long dn_12), (8, .long x8_16), (10, .long x10_17)]) hx hb dX7_share_243 hl (k := 7) rfl rfl (by decide) rfl (fun ls hl => ?_)
                  refine lv_goto (tgt := 94) hx hb dX7_share_246 (by decide) ?_
                  cases hR
                  exact ih x8_16 x10_17 (x12_18 + 1) cel_20 rig_21 sum_22 o_x8_16 o_x10_17 o_x12_18 o_cel_20 o_rig_21 o_sum_22 hQ hk H locs hP hD hS ls (lv_sub hl [1, 2, 3, 4, 5, 6, 7, 0] rfl)
                · replace hR := it_n c25 hR
                  refine lv_iconst (v := 0) hx hb dX7_share_112 (by decide) ?_
                  refine lv_istore (lv' := [(13, .int (0 : Int32)), (0, .ref (ad 0)), (2, .int p2), (3, .int r7), (4, .long up_11), (6, .long dn_12), (8, .long x8_16), (10, .long x10_17), (12, .int x12_18)]) hx hb dX7_share_113 hl (by decide) rfl (fun ls hl => ?_)
                  have L115_39 : ∀ (n : Nat) (x13_26 : Int32) (cel_27 : Nat → Int64) (rig_28 : Nat → Int64), ∀ (o_x13_26 : Int32) (o_cel_27 : Nat → Int64) (o_rig_28 : Nat → Int64), some (o_x13_26, o_cel_27, o_rig_28) = f_M_share_L115 sts wgt r7 x12_18 n x13_26 cel_27 rig_28 → (∀ (H : Heap) (locs : List Loc), va_P (dC, dI) vwCl (wM ad tI tL tII tLL thr_19 sts wgt rwd up_11 dn_12 o_cel_27 o_rig_28 sum_22 gp bst few) H → va_D (rwA (wM ad tI tL tII tLL thr sts wgt rwd up dn cel rig sum gp bst few)) (wM ad tI tL tII tLL thr_19 sts wgt rwd up_11 dn_12 o_cel_27 o_rig_28 sum_22 gp bst few) → va_S (rwA (wM ad tI tL tII tLL thr sts wgt rwd up dn cel rig sum gp bst few)) s.heap H locs → ∀ ls : Array Slot, lv_has ls 15 [(0, .ref (ad 0)), (2, .int p2), (3, .int r7), (4, .long up_11), (6, .long dn_12), (8, .long x8_16), (10, .long x10_17), (12, .int x12_18), (13, .int o_x13_26)] → W p l e (headSpec W_M_share RM_f_M_share).room s m ([.ref (ad 0), .int p1, .int p2] : List Value).toArray below meth c H locs 0 0 (MQ below (rwQ (dC, dI) vwCl (wM ad tI tL tII tLL R_thr sts wgt rwd R_up R_dn R_cel R_rig R_sum gp bst few) (some (.int R0)) (rwA (wM ad tI tL tII tLL thr sts wgt rwd up dn cel rig sum gp bst few))) ([.ref (ad 0), .int p1, .int p2] : List Value).toArray s 0 0 (rwA (wM ad tI tL tII tLL thr sts wgt rwd up dn cel rig sum gp bst few))) (F0 m 163 ls [])) → ∀ (H : Heap) (locs : List Loc), va_P (dC, dI) vwCl (wM ad tI tL tII tLL thr_19 sts wgt rwd up_11 dn_12 cel_27 rig_28 sum_22 gp bst few) H → va_D (rwA (wM ad tI tL tII tLL thr sts wgt rwd up dn cel rig sum gp bst few)) (wM ad tI tL tII tLL thr_19 sts wgt rwd up_11 dn_12 cel_27 rig_28 sum_22 gp bst few) → va_S (rwA (wM ad tI tL tII tLL thr sts wgt rwd up dn cel rig sum gp bst few)) s.heap H locs → ∀ ls : Array Slot, lv_has ls 15 [(0, .ref (ad 0)), (2, .int p2), (3, .int r7), (4, .long up_11), (6, .long dn_12), (8, .long x8_16), (10, .long x10_17), (12, .int x12_18), (13, .int x13_26)] → W p l e (headSpec W_M_share RM_f_M_share).room s m ([.ref (ad 0), .int p1, .int p2] : List Value).toArray below meth c H locs 0 0 (MQ below (rwQ (dC, dI) vwCl (wM ad tI tL tII tLL R_thr sts wgt rwd R_up R_dn R_cel R_rig R_sum gp bst few) (some (.int R0)) (rwA (wM ad tI tL tII tLL thr sts wgt rwd up dn cel rig sum gp bst few))) ([.ref (ad 0), .int p1, .int p2] : List Value).toArray s 0 0 (rwA (wM ad tI tL tII tLL thr sts wgt rwd up dn cel rig sum gp bst few))) (F0 m 115 ls []) := by
                    intro n
                    induction n with
                    | zero =>
                      intro x13_26 cel_27 rig_28 o_x13_26 o_cel_27 o_rig_28 hR
                      cases (show some _ = none from hR)
                    | succ n ih =>
                      intro x13_26 cel_27 rig_28 o_x13_26 o_cel_27 o_rig_28 hR hk H locs hP hD hS ls hl
                      rw [f_M_share_L115_s] at hR
                      obtain ⟨y, hR, hQ⟩ := ob hR
                      replace hR := hR.symm
                      rw [f_M_share_B115] at hR
                      refine lv_iload hx hb dX7_share_115 (lv_at hl 8 rfl) ?_
                      refine lv_aload_n hx hb dX7_share_117 rfl (lv_at hl 0 rfl) ?_
                      refine va_get (D := (dC, dI)) (ci := 7) (v := .int sts) (C := RX7) (T := TX7) (N := 12) hx hb ht hinX7 hown hK hP 0 rfl rfl 1 (by decide) (ht _ k_205) (fun _ h9 => h9) rfl dX7_share_118 ?_
                      refine lv_icmp_ge (tgt := 163) hx hb dX7_share_121 (by decide) (fun c29 => ?_) (fun c29 => ?_)
                      · replace hR := it_p c29 hR
                        cases hR
                        cases (show some _ = some _ from hQ)
                        exact hk H locs hP hD hS ls (lv_sub hl [0, 1, 2, 3, 4, 5, 6, 7, 8] rfl)
                      · replace hR := it_n c29 hR
                        refine lv_iload_n hx hb dX7_share_124 rfl (lv_at hl 2 rfl) ?_
                        refine lv_iload hx hb dX7_share_125 (lv_at hl 8 rfl) ?_
                        obtain ⟨r30, hC, hR⟩ := ob hR
                        try dsimp only at hR
                        refine ro_calli (va_runS (As := [.int r7, .int x13_26]) (rest := []) ⟨hx, hb, hml, hown, ht⟩ (c_M_has l dC dI ad tI tL tII tLL  r7 x13_26 r30 hC.symm) ⟨callB_of 2 ht (goodG k_201) rfl rfl rfl (ht _ k_202) (ht _ k_203) (by decide +kernel) ⟨Nat.le_of_ble_eq_true rfl, Nat.le_of_ble_eq_true rfl⟩, (ht _ k_204)⟩ (pre_s hK hN (hP.sub (ws' := []) [] rfl)) rfl rfl hl.1 rfl (lv_room (Nat.le_of_ble_eq_true rfl)) dX7_share_127 ⟨Nat.zero_le _, Nat.zero_le _⟩) ?_
                        refine lv_if_eq (tgt := 150) hx hb dX7_share_130 (by decide) (fun c31 => ?_) (fun c31 => ?_)
                        · replace hR := it_p c31 hR
                          refine lv_aload_n hx hb dX7_share_150 rfl (lv_at hl 0 rfl) ?_
                          refine lv_iload hx hb dX7_share_151 (lv_at hl 8 rfl) ?_
                          refine lv_lconst (v := 0) hx hb dX7_share_153 (by decide) ?_
                          obtain ⟨⟨cel_32, rig_33⟩, hC, hR⟩ := ob hR
                          try dsimp only at hR
                          refine rw_callv (va_runV (As := [.int x13_26, .long (0 : Int64)]) (rest := []) ⟨hx, hb, hml, hown, ht⟩ (c_M_fix l dC dI ad tI tL tII tLL thr_19 sts wgt rwd up_11 dn_12 cel_27 rig_28 sum_22 gp bst few x13_26 (0 : Int64) cel_32 rig_33 hC.symm) ⟨callB_of 2 ht (goodG k_263) rfl rfl rfl (ht _ k_202) (ht _ k_264) (by decide +kernel) ⟨Nat.le_of_ble_eq_true rfl, Nat.le_of_ble_eq_true rfl⟩, (ht _ k_266), (ht _ k_265)⟩ (pre_vw hK hN hP hD (q0 := 0) (ci := 7) rfl rfl) rfl rfl hl.1 rfl (lv_room (Nat.le_of_ble_eq_true rfl)) dX7_share_154 ⟨Nat.zero_le _, Nat.zero_le _⟩) hD hS rfl (fun H locs hP hD hS => ?_)
                          have hP : va_P (dC, dI) vwCl (wM ad tI tL tII tLL thr_19 sts wgt rwd up_11 dn_12 cel_32 rig_33 sum_22 gp bst few) H := hP
                          have hD : va_D (rwA (wM ad tI tL tII tLL thr sts wgt rwd up dn cel rig sum gp bst few)) (wM ad tI tL tII tLL thr_19 sts wgt rwd up_11 dn_12 cel_32 rig_33 sum_22 gp bst few) := hD
                          refine lv_iinc (v := (x13_26 + 1)) (lv' := [(13, .int (x13_26 + 1)), (0, .ref (ad 0)), (2, .int p2), (3, .int r7), (4, .long up_11), (6, .long dn_12), (8, .long x8_16), (10, .long x10_17), (12, .int x12_18)]) hx hb dX7_share_157 hl (k := 8) rfl rfl (by decide) rfl (fun ls hl => ?_)
                          refine lv_goto (tgt := 115) hx hb dX7_share_160 (by decide) ?_
                          cases hR
                          exact ih (x13_26 + 1) cel_32 rig_33 o_x13_26 o_cel_27 o_rig_28 hQ hk H locs hP hD hS ls (lv_sub hl [1, 2, 3, 4, 5, 6, 7, 8, 0] rfl)
                        · replace hR := it_n c31 hR
                          refine lv_iload hx hb dX7_share_133 (lv_at hl 8 rfl) ?_
                          refine lv_iload hx hb dX7_share_135 (lv_at hl 7 rfl) ?_
                          refine lv_icmp_eq (tgt := 150) hx hb dX7_share_137 (by decide) (fun c34 => ?_) (fun c34 => ?_)
                          · replace hR := it_p c34 hR
                            refine lv_aload_n hx hb dX7_share_150 rfl (lv_at hl 0 rfl) ?_
                            refine lv_iload hx hb dX7_share_151 (lv_at hl 8 rfl) ?_
                            refine lv_lconst (v := 0) hx hb dX7_share_153 (by decide) ?_
                            obtain ⟨⟨cel_35, rig_36⟩, hC, hR⟩ := ob hR
                            try dsimp only at hR
                            refine rw_callv (va_runV (As := [.int x13_26, .long (0 : Int64)]) (rest := []) ⟨hx, hb, hml, hown, ht⟩ (c_M_fix l dC dI ad tI tL tII tLL thr_19 sts wgt rwd up_11 dn_12 cel_27 rig_28 sum_22 gp bst few x13_26 (0 : Int64) cel_35 rig_36 hC.symm) ⟨callB_of 2 ht (goodG k_263) rfl rfl rfl (ht _ k_202) (ht _ k_264) (by decide +kernel) ⟨Nat.le_of_ble_eq_true rfl, Nat.le_of_ble_eq_true rfl⟩, (ht _ k_266), (ht _ k_265)⟩ (pre_vw hK hN hP hD (q0 := 0) (ci := 7) rfl rfl) rfl rfl hl.1 rfl (lv_room (Nat.le_of_ble_eq_true rfl)) dX7_share_154 ⟨Nat.zero_le _, Nat.zero_le _⟩) hD hS rfl (fun H locs hP hD hS => ?_)
                            have hP : va_P (dC, dI) vwCl (wM ad tI tL tII tLL thr_19 sts wgt rwd up_11 dn_12 cel_35 rig_36 sum_22 gp bst few) H := hP
                            have hD : va_D (rwA (wM ad tI tL tII tLL thr sts wgt rwd up dn cel rig sum gp bst few)) (wM ad tI tL tII tLL thr_19 sts wgt rwd up_11 dn_12 cel_35 rig_36 sum_22 gp bst few) := hD
                            refine lv_iinc (v := (x13_26 + 1)) (lv' := [(13, .int (x13_26 + 1)), (0, .ref (ad 0)), (2, .int p2), (3, .int r7), (4, .long up_11), (6, .long dn_12), (8, .long x8_16), (10, .long x10_17), (12, .int x12_18)]) hx hb dX7_share_157 hl (k := 8) rfl rfl (by decide) rfl (fun ls hl => ?_)
                            refine lv_goto (tgt := 115) hx hb dX7_share_160 (by decide) ?_
                            cases hR
                            exact ih (x13_26 + 1) cel_35 rig_36 o_x13_26 o_cel_27 o_rig_28 hQ hk H locs hP hD hS ls (lv_sub hl [1, 2, 3, 4, 5, 6, 7, 8, 0] rfl)
                          · replace hR := it_n c34 hR
                            refine lv_aload_n hx hb dX7_share_140 rfl (lv_at hl 0 rfl) ?_
                            refine lv_iload hx hb dX7_share_141 (lv_at hl 8 rfl) ?_
                            refine lv_lconst (v := 0) hx hb dX7_share_143 (by decide) ?_
                            obtain ⟨⟨cel_37, rig_38⟩, hC, hR⟩ := ob hR
                            try dsimp only at hR
                            refine rw_callv (va_runV (As := [.int x13_26, .long (0 : Int64)]) (rest := []) ⟨hx, hb, hml, hown, ht⟩ (c_M_lay l dC dI ad tI tL tII tLL thr_19 sts wgt rwd up_11 dn_12 cel_27 rig_28 sum_22 gp bst few x13_26 (0 : Int64) cel_37 rig_38 hC.symm) ⟨callB_of 2 ht (goodG k_267) rfl rfl rfl (ht _ k_202) (ht _ k_268) (by decide +kernel) ⟨Nat.le_of_ble_eq_true rfl, Nat.le_of_ble_eq_true rfl⟩, (ht _ k_270), (ht _ k_269)⟩ (pre_vw hK hN hP hD (q0 := 0) (ci := 7) rfl rfl) rfl rfl hl.1 rfl (lv_room (Nat.le_of_ble_eq_true rfl)) dX7_share_144 ⟨Nat.zero_le _, Nat.zero_le _⟩) hD hS rfl (fun H locs hP hD hS => ?_)
                            have hP : va_P (dC, dI) vwCl (wM ad tI tL tII tLL thr_19 sts wgt rwd up_11 dn_12 cel_37 rig_38 sum_22 gp bst few) H := hP
                            have hD : va_D (rwA (wM ad tI tL tII tLL thr sts wgt rwd up dn cel rig sum gp bst few)) (wM ad tI tL tII tLL thr_19 sts wgt rwd up_11 dn_12 cel_37 rig_38 sum_22 gp bst few) := hD
                            refine lv_goto (tgt := 157) hx hb dX7_share_147 (by decide) ?_
                            refine lv_iinc (v := (x13_26 + 1)) (lv' := [(13, .int (x13_26 + 1)), (0, .ref (ad 0)), (2, .int p2), (3, .int r7), (4, .long up_11), (6, .long dn_12), (8, .long x8_16), (10, .long x10_17), (12, .int x12_18)]) hx hb dX7_share_157 hl (k := 8) rfl rfl (by decide) rfl (fun ls hl => ?_)
                            refine lv_goto (tgt := 115) hx hb dX7_share_160 (by decide) ?_
                            cases hR
                            exact ih (x13_26 + 1) cel_37 rig_38 o_x13_26 o_cel_27 o_rig_28 hQ hk H locs hP hD hS ls (lv_sub hl [1, 2, 3, 4, 5, 6, 7, 8, 0] rfl)
                  obtain ⟨⟨u40, u41, u42⟩, hL, hR⟩ := ob hR
                  try dsimp only at hR
                  refine L115_39 300 (0 : Int32) cel_20 rig_21 u40 u41 u42 hL.symm (fun H locs hP hD hS ls hl => ?_) H locs hP hD hS ls (lv_sub hl [1, 2, 3, 4, 5, 6, 7, 8, 0] rfl)
                  refine lv_iconst (v := 0) hx hb dX7_share_163 (by decide) ?_
                  refine lv_istore (lv' := [(13, .int (0 : Int32)), (0, .ref (ad 0)), (2, .int p2), (3, .int r7), (4, .long up_11), (6, .long dn_12), (8, .long x8_16), (10, .long x10_17), (12, .int x12_18)]) hx hb dX7_share_164 hl (by decide) rfl (fun ls hl => ?_)
                  have L166_49 : ∀ (n : Nat) (x13_43 : Int32) (cel_44 : Nat → Int64), ∀ (o_x13_43 : Int32) (o_cel_44 : Nat → Int64), some (o_x13_43, o_cel_44) = f_M_share_L166 sts x12_18 n x13_43 cel_44 → (∀ (H : Heap) (locs : List Loc), va_P (dC, dI) vwCl (wM ad tI tL tII tLL thr_19 sts wgt rwd up_11 dn_12 o_cel_44 u42 sum_22 gp bst few) H → va_D (rwA (wM ad tI tL tII tLL thr sts wgt rwd up dn cel rig sum gp bst few)) (wM ad tI tL tII tLL thr_19 sts wgt rwd up_11 dn_12 o_cel_44 u42 sum_22 gp bst few) → va_S (rwA (wM ad tI tL tII tLL thr sts wgt rwd up dn cel rig sum gp bst few)) s.heap H locs → ∀ ls : Array Slot, lv_has ls 15 [(0, .ref (ad 0)), (2, .int p2), (3, .int r7), (4, .long up_11), (6, .long dn_12), (8, .long x8_16), (10, .long x10_17), (12, .int x12_18), (13, .int o_x13_43)] → W p l e (headSpec W_M_share RM_f_M_share).room s m ([.ref (ad 0), .int p1, .int p2] : List Value).toArray below meth c H locs 0 0 (MQ below (rwQ (dC, dI) vwCl (wM ad tI tL tII tLL R_thr sts wgt rwd R_up R_dn R_cel R_rig R_sum gp bst few) (some (.int R0)) (rwA (wM ad tI tL tII tLL thr sts wgt rwd up dn cel rig sum gp bst few))) ([.ref (ad 0), .int p1, .int p2] : List Value).toArray s 0 0 (rwA (wM ad tI tL tII tLL thr sts wgt rwd up dn cel rig sum gp bst few))) (F0 m 206 ls [])) → ∀ (H : Heap) (locs : List Loc), va_P (dC, dI) vwCl (wM ad tI tL tII tLL thr_19 sts wgt rwd up_11 dn_12 cel_44 u42 sum_22 gp bst few) H → va_D (rwA (wM ad tI tL tII tLL thr sts wgt rwd up dn cel rig sum gp bst few)) (wM ad tI tL tII tLL thr_19 sts wgt rwd up_11 dn_12 cel_44 u42 sum_22 gp bst few) → va_S (rwA (wM ad tI tL tII tLL thr sts wgt rwd up dn cel rig sum gp bst few)) s.heap H locs → ∀ ls : Array Slot, lv_has ls 15 [(0, .ref (ad 0)), (2, .int p2), (3, .int r7), (4, .long up_11), (6, .long dn_12), (8, .long x8_16), (10, .long x10_17), (12, .int x12_18), (13, .int x13_43)] → W p l e (headSpec W_M_share RM_f_M_share).room s m ([.ref (ad 0), .int p1, .int p2] : List Value).toArray below meth c H locs 0 0 (MQ below (rwQ (dC, dI) vwCl (wM ad tI tL tII tLL R_thr sts wgt rwd R_up R_dn R_cel R_rig R_sum gp bst few) (some (.int R0)) (rwA (wM ad tI tL tII tLL thr sts wgt rwd up dn cel rig sum gp bst few))) ([.ref (ad 0), .int p1, .int p2] : List Value).toArray s 0 0 (rwA (wM ad tI tL tII tLL thr sts wgt rwd up dn cel rig sum gp bst few))) (F0 m 166 ls []) := by
                    intro n
                    induction n with
                    | zero =>
                      intro x13_43 cel_44 o_x13_43 o_cel_44 hR
                      cases (show some _ = none from hR)
                    | succ n ih =>
                      intro x13_43 cel_44 o_x13_43 o_cel_44 hR hk H locs hP hD hS ls hl
                      rw [f_M_share_L166_s] at hR
                      obtain ⟨y, hR, hQ⟩ := ob hR
                      replace hR := hR.symm
                      rw [f_M_share_B166] at hR
                      refine lv_iload hx hb dX7_share_166 (lv_at hl 8 rfl) ?_
                      refine lv_aload_n hx hb dX7_share_168 rfl (lv_at hl 0 rfl) ?_
                      refine va_get (D := (dC, dI)) (ci := 7) (v := .int sts) (C := RX7) (T := TX7) (N := 12) hx hb ht hinX7 hown hK hP 0 rfl rfl 1 (by decide) (ht _ k_205) (fun _ h9 => h9) rfl dX7_share_169 ?_
                      refine lv_icmp_ge (tgt := 206) hx hb dX7_share_172 (by decide) (fun c45 => ?_) (fun c45 => ?_)
                      · replace hR := it_p c45 hR
                        cases hR
                        cases (show some _ = some _ from hQ)
                        exact hk H locs hP hD hS ls (lv_sub hl [0, 1, 2, 3, 4, 5, 6, 7, 8] rfl)
                      · replace hR := it_n c45 hR
                        refine lv_aload_n hx hb dX7_share_175 rfl (lv_at hl 0 rfl) ?_
                        refine va_get (D := (dC, dI)) (ci := 7) (v := .ref (ad 3)) (C := RX7) (T := TX7) (N := 12) hx hb ht hinX7 hown hK hP 0 rfl rfl 6 (by decide) (ht _ k_249) (fun _ h9 => h9) rfl dX7_share_176 ?_
                        refine lv_bipush (v := 7) hx hb dX7_share_179 (by decide) ?_
                        refine lv_iload hx hb dX7_share_181 (lv_at hl 8 rfl) ?_
                        refine lv_imul hx hb dX7_share_183 ?_
                        refine lv_iload hx hb dX7_share_184 (lv_at hl 7 rfl) ?_
                        refine lv_iadd hx hb dX7_share_186 ?_
                        refine lv_iload hx hb dX7_share_187 (lv_at hl 8 rfl) ?_
                        refine lv_iload hx hb dX7_share_189 (lv_at hl 7 rfl) ?_
                        refine lv_icmp_ne (tgt := 198) hx hb dX7_share_191 (by decide) (fun c46 => ?_) (fun c46 => ?_)
                        · replace hR := it_n c46 hR
                          refine lv_lconst (v := 0) hx hb dX7_share_198 (by decide) ?_
                          obtain ⟨z47, hR⟩ := og hR
                          refine va_last hx hb hK hP hD hS 3 1 rfl rfl (ix_in z47) dX7_share_199 (fun H locs hP hD hS => ?_)
                          have hP : va_P (dC, dI) vwCl (wM ad tI tL tII tLL thr_19 sts wgt rwd up_11 dn_12 (vp_updL cel_44 (((7 : Int32) * x13_43) + x12_18).toNatClampNeg (0 : Int64)) u42 sum_22 gp bst few) H := hP
                          have hD : va_D (rwA (wM ad tI tL tII tLL thr sts wgt rwd up dn cel rig sum gp bst few)) (wM ad tI tL tII tLL thr_19 sts wgt rwd up_11 dn_12 (vp_updL cel_44 (((7 : Int32) * x13_43) + x12_18).toNatClampNeg (0 : Int64)) u42 sum_22 gp bst few) := hD
                          refine lv_iinc (v := (x13_43 + 1)) (lv' := [(13, .int (x13_43 + 1)), (0, .ref (ad 0)), (2, .int p2), (3, .int r7), (4, .long up_11), (6, .long dn_12), (8, .long x8_16), (10, .long x10_17), (12, .int x12_18)]) hx hb dX7_share_200 hl (k := 8) rfl rfl (by decide) rfl (fun ls hl => ?_)
                          refine lv_goto (tgt := 166) hx hb dX7_share_203 (by decide) ?_
                          cases hR
                          exact ih (x13_43 + 1) (vp_updL cel_44 (((7 : Int32) * x13_43) + x12_18).toNatClampNeg (0 : Int64)) o_x13_43 o_cel_44 hQ hk H locs hP hD hS ls (lv_sub hl [1, 2, 3, 4, 5, 6, 7, 8, 0] rfl)
                        · replace hR := it_p c46 hR
                          refine lv_lconst (v := 1) hx hb dX7_share_194 (by decide) ?_
                          refine lv_goto (tgt := 199) hx hb dX7_share_195 (by decide) ?_
                          obtain ⟨z48, hR⟩ := og hR
                          refine va_last hx hb hK hP hD hS 3 1 rfl rfl (ix_in z48) dX7_share_199 (fun H locs hP hD hS => ?_)
                          have hP : va_P (dC, dI) vwCl (wM ad tI tL tII tLL thr_19 sts wgt rwd up_11 dn_12 (vp_updL cel_44 (((7 : Int32) * x13_43) + x12_18).toNatClampNeg (1 : Int64)) u42 sum_22 gp bst few) H := hP
                          have hD : va_D (rwA (wM ad tI tL tII tLL thr sts wgt rwd up dn cel rig sum gp bst few)) (wM ad tI tL tII tLL thr_19 sts wgt rwd up_11 dn_12 (vp_updL cel_44 (((7 : Int32) * x13_43) + x12_18).toNatClampNeg (1 : Int64)) u42 sum_22 gp bst few) := hD
                          refine lv_iinc (v := (x13_43 + 1)) (lv' := [(13, .int (x13_43 + 1)), (0, .ref (ad 0)), (2, .int p2), (3, .int r7), (4, .long up_11), (6, .long dn_12), (8, .long x8_16), (10, .long x10_17), (12, .int x12_18)]) hx hb dX7_share_200 hl (k := 8) rfl rfl (by decide) rfl (fun ls hl => ?_)
                          refine lv_goto (tgt := 166) hx hb dX7_share_203 (by decide) ?_
                          cases hR
                          exact ih (x13_43 + 1) (vp_updL cel_44 (((7 : Int32) * x13_43) + x12_18).toNatClampNeg (1 : Int64)) o_x13_43 o_cel_44 hQ hk H locs hP hD hS ls (lv_sub hl [1, 2, 3, 4, 5, 6, 7, 8, 0] rfl)
                  obtain ⟨⟨u50, u51⟩, hL, hR⟩ := ob hR
                  try dsimp only at hR
                  refine L166_49 300 (0 : Int32) u41 u50 u51 hL.symm (fun H locs hP hD hS ls hl => ?_) H locs hP hD hS ls (lv_sub hl [1, 2, 3, 4, 5, 6, 7, 8, 0] rfl)
                  refine lv_aload_n hx hb dX7_share_206 rfl (lv_at hl 0 rfl) ?_
                  refine lv_iload hx hb dX7_share_207 (lv_at hl 7 rfl) ?_
                  obtain ⟨r52, hC, hR⟩ := ob hR
                  try dsimp only at hR
                  refine ro_calli (va_runV (As := [.int x12_18]) (rest := []) ⟨hx, hb, hml, hown, ht⟩ (c_M_total l dC dI ad tI tL tII tLL thr_19 sts wgt rwd up_11 dn_12 u51 u42 sum_22 gp bst few x12_18 r52 hC.symm) ⟨callB_of 1 ht (goodG k_214) rfl rfl rfl (ht _ k_202) (ht _ k_215) (by decide +kernel) ⟨Nat.le_of_ble_eq_true rfl, Nat.le_of_ble_eq_true rfl⟩, (ht _ k_217), (ht _ k_216)⟩ (pre_v hK hN hP (q0 := 0) (ci := 7) rfl rfl) rfl rfl hl.1 rfl (lv_room (Nat.le_of_ble_eq_true rfl)) dX7_share_209 ⟨Nat.zero_le _, Nat.zero_le _⟩) ?_
                  refine lv_i2l hx hb dX7_share_212 rfl ?_
                  refine lv_aload_n hx hb dX7_share_213 rfl (lv_at hl 0 rfl) ?_
                  refine lv_iconst (v := (-1)) hx hb dX7_share_214 (by decide) ?_
                  obtain ⟨⟨r53, sum_54⟩, hC, hR⟩ := ob hR
                  try dsimp only at hR
                  refine rw_calll (va_runV (As := [.int (-1 : Int32)]) (rest := [.long (r52.toInt64)]) ⟨hx, hb, hml, hown, ht⟩ (c_M_all l dC dI ad tI tL tII tLL thr_19 sts wgt rwd up_11 dn_12 u51 u42 sum_22 gp bst few (-1 : Int32) r53 sum_54 hC.symm) ⟨callB_of 1 ht (goodG k_255) rfl rfl rfl (ht _ k_202) (ht _ k_256) (by decide +kernel) ⟨Nat.le_of_ble_eq_true rfl, Nat.le_of_ble_eq_true rfl⟩, (ht _ k_258), (ht _ k_257)⟩ (pre_vw hK hN hP hD (q0 := 0) (ci := 7) rfl rfl) rfl rfl hl.1 rfl (lv_room (Nat.le_of_ble_eq_true rfl)) dX7_share_215 ⟨Nat.zero_le _, Nat.zero_le _⟩) hD hS rfl (fun H locs hP hD hS => ?_)
                  have hP : va_P (dC, dI) vwCl (wM ad tI tL tII tLL thr_19 sts wgt rwd up_11 dn_12 u51 u42 sum_54 gp bst few) H := hP
                  have hD : va_D (rwA (wM ad tI tL tII tLL thr sts wgt rwd up dn cel rig sum gp bst few)) (wM ad tI tL tII tLL thr_19 sts wgt rwd up_11 dn_12 u51 u42 sum_54 gp bst few) := hD
                  refine lv_lmul hx hb dX7_share_218 ?_
                  refine lv_lstore (lv' := [(13, .long ((r52.toInt64) * r53)), (0, .ref (ad 0)), (2, .int p2), (3, .int r7), (4, .long up_11), (6, .long dn_12), (8, .long x8_16), (10, .long x10_17), (12, .int x12_18)]) hx hb dX7_share_219 hl (by decide) rfl (fun ls hl => ?_)
                  refine lv_iload hx hb dX7_share_221 (lv_at hl 8 rfl) ?_
                  refine lv_iload_n hx hb dX7_share_223 rfl (lv_at hl 2 rfl) ?_
                  refine lv_icmp_ne (tgt := 232) hx hb dX7_share_224 (by decide) (fun c55 => ?_) (fun c55 => ?_)
                  · replace hR := it_n c55 hR
                    refine lv_lload hx hb dX7_share_232 (lv_at hl 6 rfl) ?_
                    refine lv_lstore (lv' := [(8, .long x8_16), (13, .long ((r52.toInt64) * r53)), (0, .ref (ad 0)), (2, .int p2), (3, .int r7), (4, .long up_11), (6, .long dn_12), (10, .long x10_17), (12, .int x12_18)]) hx hb dX7_share_234 hl (by decide) rfl (fun ls hl => ?_)
                    refine lv_lload hx hb dX7_share_236 (lv_at hl 7 rfl) ?_
                    refine lv_lload hx hb dX7_share_238 (lv_at hl 1 rfl) ?_
                    refine lv_ladd hx hb dX7_share_240 ?_
                    refine lv_lstore (lv' := [(10, .long (x10_17 + ((r52.toInt64) * r53))), (8, .long x8_16), (13, .long ((r52.toInt64) * r53)), (0, .ref (ad 0)), (2, .int p2), (3, .int r7), (4, .long up_11), (6, .long dn_12), (12, .int x12_18)]) hx hb dX7_share_241 hl (by decide) rfl (fun ls hl => ?_)
                    refine lv_iinc (v := (x12_18 + 1)) (lv' := [(12, .int (x12_18 + 1)), (10, .long (x10_17 + ((r52.toInt64) * r53))), (8, .long x8_16), (13, .long ((r52.toInt64) * r53)), (0, .ref (ad 0)), (2, .int p2), (3, .int r7), (4, .long up_11), (6, .long dn_12)]) hx hb dX7_share_243 hl (k := 8) rfl rfl (by decide) rfl (fun ls hl => ?_)
                    refine lv_goto (tgt := 94) hx hb dX7_share_246 (by decide) ?_
                    cases hR
                    exact ih x8_16 (x10_17 + ((r52.toInt64) * r53)) (x12_18 + 1) u51 u42 sum_54 o_x8_16 o_x10_17 o_x12_18 o_cel_20 o_rig_21 o_sum_22 hQ hk H locs hP hD hS ls (lv_sub hl [4, 5, 6, 7, 8, 2, 1, 0] rfl)
                  · replace hR := it_p c55 hR
                    refine lv_lload hx hb dX7_share_227 (lv_at hl 0 rfl) ?_
                    refine lv_goto (tgt := 234) hx hb dX7_share_229 (by decide) ?_
                    refine lv_lstore (lv' := [(8, .long ((r52.toInt64) * r53)), (13, .long ((r52.toInt64) * r53)), (0, .ref (ad 0)), (2, .int p2), (3, .int r7), (4, .long up_11), (6, .long dn_12), (10, .long x10_17), (12, .int x12_18)]) hx hb dX7_share_234 hl (by decide) rfl (fun ls hl => ?_)
                    refine lv_lload hx hb dX7_share_236 (lv_at hl 7 rfl) ?_
                    refine lv_lload hx hb dX7_share_238 (lv_at hl 1 rfl) ?_
                    refine lv_ladd hx hb dX7_share_240 ?_
                    refine lv_lstore (lv' := [(10, .long (x10_17 + ((r52.toInt64) * r53))), (8, .long ((r52.toInt64) * r53)), (13, .long ((r52.toInt64) * r53)), (0, .ref (ad 0)), (2, .int p2), (3, .int r7), (4, .long up_11), (6, .long dn_12), (12, .int x12_18)]) hx hb dX7_share_241 hl (by decide) rfl (fun ls hl => ?_)
                    refine lv_iinc (v := (x12_18 + 1)) (lv' := [(12, .int (x12_18 + 1)), (10, .long (x10_17 + ((r52.toInt64) * r53))), (8, .long ((r52.toInt64) * r53)), (13, .long ((r52.toInt64) * r53)), (0, .ref (ad 0)), (2, .int p2), (3, .int r7), (4, .long up_11), (6, .long dn_12)]) hx hb dX7_share_243 hl (k := 8) rfl rfl (by decide) rfl (fun ls hl => ?_)
                    refine lv_goto (tgt := 94) hx hb dX7_share_246 (by decide) ?_
                    cases hR
                    exact ih ((r52.toInt64) * r53) (x10_17 + ((r52.toInt64) * r53)) (x12_18 + 1) u51 u42 sum_54 o_x8_16 o_x10_17 o_x12_18 o_cel_20 o_rig_21 o_sum_22 hQ hk H locs hP hD hS ls (lv_sub hl [4, 5, 6, 7, 8, 2, 1, 0] rfl)
          obtain ⟨⟨u57, u58, u59, u60, u61, u62⟩, hL, hR⟩ := ob hR
          try dsimp only at hR
          refine L94_56 (0 : Int32) 300 (0 : Int64) (0 : Int64) (0 : Int32) cel_8 rig_9 sum_13 u57 u58 u59 u60 u61 u62 hL.symm (fun H locs hP hD hS ls hl => ?_) H locs hP hD hS ls (lv_sub hl [6, 8, 5, 4, 3, 2, 1, 0] rfl)
          refine lv_aload_n hx hb dX7_share_249 rfl (lv_at hl 0 rfl) ?_
          refine lv_lload hx hb dX7_share_250 (lv_at hl 5 rfl) ?_
          refine lv_lload hx hb dX7_share_252 (lv_at hl 6 rfl) ?_
          obtain ⟨⟨r63, up_64, dn_65⟩, hC, hR⟩ := ob hR
          try dsimp only at hR
          refine rw_calli (va_runV (As := [.long u57, .long u58]) (rest := []) ⟨hx, hb, hml, hown, ht⟩ (c_M_answer l dC dI ad tI tL tII tLL (0 : Int32) sts wgt rwd up_11 dn_12 u60 u61 u62 gp bst few u57 u58 r63 up_64 dn_65 hC.symm) ⟨callB_of 2 ht (goodG k_259) rfl rfl rfl (ht _ k_202) (ht _ k_260) (by decide +kernel) ⟨Nat.le_of_ble_eq_true rfl, Nat.le_of_ble_eq_true rfl⟩, (ht _ k_262), (ht _ k_261)⟩ (pre_vw hK hN hP hD (q0 := 0) (ci := 7) rfl rfl) rfl rfl hl.1 rfl (lv_room (Nat.le_of_ble_eq_true rfl)) dX7_share_254 ⟨Nat.zero_le _, Nat.zero_le _⟩) hD hS rfl (fun H locs hP hD hS => ?_)
          have hP : va_P (dC, dI) vwCl (wM ad tI tL tII tLL (0 : Int32) sts wgt rwd up_64 dn_65 u60 u61 u62 gp bst few) H := hP
          have hD : va_D (rwA (wM ad tI tL tII tLL thr sts wgt rwd up dn cel rig sum gp bst few)) (wM ad tI tL tII tLL (0 : Int32) sts wgt rwd up_64 dn_65 u60 u61 u62 gp bst few) := hD
          refine lv_pop hx hb dX7_share_257 rfl ?_
          refine lv_aload_n hx hb dX7_share_258 rfl (lv_at hl 0 rfl) ?_
          refine lv_lload hx hb dX7_share_259 (lv_at hl 3 rfl) ?_
          refine lv_aload_n hx hb dX7_share_261 rfl (lv_at hl 0 rfl) ?_
          refine va_get (D := (dC, dI)) (ci := 7) (v := .long up_64) (C := RX7) (T := TX7) (N := 12) hx hb ht hinX7 hown hK hP 0 rfl rfl 4 (by decide) (ht _ k_218) (fun _ h9 => h9) rfl dX7_share_262 ?_
          refine lv_lmul hx hb dX7_share_265 ?_
          refine lv_lload hx hb dX7_share_266 (lv_at hl 4 rfl) ?_
          refine lv_aload_n hx hb dX7_share_268 rfl (lv_at hl 0 rfl) ?_
          refine va_get (D := (dC, dI)) (ci := 7) (v := .long dn_65) (C := RX7) (T := TX7) (N := 12) hx hb ht hinX7 hown hK hP 0 rfl rfl 5 (by decide) (ht _ k_219) (fun _ h9 => h9) rfl dX7_share_269 ?_
          refine lv_lmul hx hb dX7_share_272 ?_
          obtain ⟨⟨r66, up_67, dn_68⟩, hC, hR⟩ := ob hR
          try dsimp only at hR
          refine rw_calli (va_runV (As := [.long (up_11 * up_64), .long (dn_12 * dn_65)]) (rest := []) ⟨hx, hb, hml, hown, ht⟩ (c_M_answer l dC dI ad tI tL tII tLL (0 : Int32) sts wgt rwd up_64 dn_65 u60 u61 u62 gp bst few (up_11 * up_64) (dn_12 * dn_65) r66 up_67 dn_68 hC.symm) ⟨callB_of 2 ht (goodG k_259) rfl rfl rfl (ht _ k_202) (ht _ k_260) (by decide +kernel) ⟨Nat.le_of_ble_eq_true rfl, Nat.le_of_ble_eq_true rfl⟩, (ht _ k_262), (ht _ k_261)⟩ (pre_vw hK hN hP hD (q0 := 0) (ci := 7) rfl rfl) rfl rfl hl.1 rfl (lv_room (Nat.le_of_ble_eq_true rfl)) dX7_share_273 ⟨Nat.zero_le _, Nat.zero_le _⟩) hD hS rfl (fun H locs hP hD hS => ?_)
          have hP : va_P (dC, dI) vwCl (wM ad tI tL tII tLL (0 : Int32) sts wgt rwd up_67 dn_68 u60 u61 u62 gp bst few) H := hP
          have hD : va_D (rwA (wM ad tI tL tII tLL thr sts wgt rwd up dn cel rig sum gp bst few)) (wM ad tI tL tII tLL (0 : Int32) sts wgt rwd up_67 dn_68 u60 u61 u62 gp bst few) := hD
          cases hR
          exact W.iret hx hb hr (fun t ht _ => ⟨rfl, by rw [ht]; exact hP, hS.F ht⟩) hS.2.2 dX7_share_276
        · replace hR := it_n c15 hR
          refine lv_aload_n hx hb dX7_share_76 rfl (lv_at hl 3 rfl) ?_
          refine lv_lload hx hb dX7_share_77 (lv_at hl 1 rfl) ?_
          refine lv_lload hx hb dX7_share_79 (lv_at hl 0 rfl) ?_
          obtain ⟨⟨r69, up_70, dn_71⟩, hC, hR⟩ := ob hR
          try dsimp only at hR
          refine rw_calli (va_runV (As := [.long up_11, .long dn_12]) (rest := []) ⟨hx, hb, hml, hown, ht⟩ (c_M_answer l dC dI ad tI tL tII tLL (0 : Int32) sts wgt rwd up_11 dn_12 cel_8 rig_9 sum_13 gp bst few up_11 dn_12 r69 up_70 dn_71 hC.symm) ⟨callB_of 2 ht (goodG k_259) rfl rfl rfl (ht _ k_202) (ht _ k_260) (by decide +kernel) ⟨Nat.le_of_ble_eq_true rfl, Nat.le_of_ble_eq_true rfl⟩, (ht _ k_262), (ht _ k_261)⟩ (pre_vw hK hN hP hD (q0 := 0) (ci := 7) rfl rfl) rfl rfl hl.1 rfl (lv_room (Nat.le_of_ble_eq_true rfl)) dX7_share_81 ⟨Nat.zero_le _, Nat.zero_le _⟩) hD hS rfl (fun H locs hP hD hS => ?_)
          have hP : va_P (dC, dI) vwCl (wM ad tI tL tII tLL (0 : Int32) sts wgt rwd up_70 dn_71 cel_8 rig_9 sum_13 gp bst few) H := hP
          have hD : va_D (rwA (wM ad tI tL tII tLL thr sts wgt rwd up dn cel rig sum gp bst few)) (wM ad tI tL tII tLL (0 : Int32) sts wgt rwd up_70 dn_71 cel_8 rig_9 sum_13 gp bst few) := hD
          cases hR
          exact W.iret hx hb hr (fun t ht _ => ⟨rfl, by rw [ht]; exact hP, hS.F ht⟩) hS.2.2 dX7_share_84
      · replace hR := it_p c6 hR
        refine lv_aload_n hx hb dX7_share_31 rfl (lv_at hl 0 rfl) ?_
        refine lv_lconst (v := 0) hx hb dX7_share_32 (by decide) ?_
        refine lv_lconst (v := 1) hx hb dX7_share_33 (by decide) ?_
        obtain ⟨⟨r72, up_73, dn_74⟩, hC, hR⟩ := ob hR
        try dsimp only at hR
        refine rw_calli (va_runV (As := [.long (0 : Int64), .long (1 : Int64)]) (rest := []) ⟨hx, hb, hml, hown, ht⟩ (c_M_answer l dC dI ad tI tL tII tLL (0 : Int32) sts wgt rwd up dn cel rig sum gp bst few (0 : Int64) (1 : Int64) r72 up_73 dn_74 hC.symm) ⟨callB_of 2 ht (goodG k_259) rfl rfl rfl (ht _ k_202) (ht _ k_260) (by decide +kernel) ⟨Nat.le_of_ble_eq_true rfl, Nat.le_of_ble_eq_true rfl⟩, (ht _ k_262), (ht _ k_261)⟩ (pre_vw hK hN hP hD (q0 := 0) (ci := 7) rfl rfl) rfl rfl hl.1 rfl (lv_room (Nat.le_of_ble_eq_true rfl)) dX7_share_34 ⟨Nat.zero_le _, Nat.zero_le _⟩) hD hS rfl (fun H locs hP hD hS => ?_)
        have hP : va_P (dC, dI) vwCl (wM ad tI tL tII tLL (0 : Int32) sts wgt rwd up_73 dn_74 cel rig sum gp bst few) H := hP
        have hD : va_D (rwA (wM ad tI tL tII tLL thr sts wgt rwd up dn cel rig sum gp bst few)) (wM ad tI tL tII tLL (0 : Int32) sts wgt rwd up_73 dn_74 cel rig sum gp bst few) := hD
        cases hR
        exact W.iret hx hb hr (fun t ht _ => ⟨rfl, by rw [ht]; exact hP, hS.F ht⟩) hS.2.2 dX7_share_37
    · replace hR := it_p c4 hR
      refine lv_iconst (v := (-1)) hx hb dX7_share_21 (by decide) ?_
      cases hR
      exact W.iret hx hb hr (fun t ht _ => ⟨rfl, by rw [ht]; exact hP, hS.F ht⟩) hS.2.2 dX7_share_22
