abbrev RM_f_M_lay : Room := { frames := 2, cells := 0, slots := 0, locals := 45 }
abbrev W_M_lay : List Cond := .code yX7_lay cX7_lay 5 none :: tblG
set_option maxHeartbeats 4000000 in
set_option maxRecDepth 100000 in
theorem c_M_lay (l : Launch) (dC : Nat → ClassId) (dI : Nat → Nat → Nat) (ad : Nat → Nat) (tI tL tII tLL : ClassId) (thr : Int32) (sts : Int32) (wgt : Nat → Int32) (rwd : Nat → Int32) (up : Int64) (dn : Int64) (cel : Nat → Int64) (rig : Nat → Int64) (sum : Nat → Int64) (gp : Nat → Int32) (bst : Nat → Int32) (few : Int32) (p1 : Int32) (p2 : Int64) (R_cel : Nat → Int64) (R_rig : Nat → Int64) (hR : some (R_cel, R_rig) = f_M_lay sts wgt cel rig p1 p2) : Met l yX7_lay W_M_lay RM_f_M_lay (rwP (dC, dI) vwCl [(tI, .int), (tL, .long), (tII, .array .int), (tLL, .array .long)] (wM ad tI tL tII tLL thr sts wgt rwd up dn cel rig sum gp bst few) ([.ref (ad 0), .int p1, .long p2] : List Value)) (rwQ (dC, dI) vwCl (wM ad tI tL tII tLL thr sts wgt rwd up dn R_cel R_rig sum gp bst few) none (rwA (wM ad tI tL tII tLL thr sts wgt rwd up dn cel rig sum gp bst few))) 0 0 (rwA (wM ad tI tL tII tLL thr sts wgt rwd up dn cel rig sum gp bst few)) := by
  refine Met.ofW (cc := cX7_lay) (maxL := 5) (ret := none) (by decide) rfl ?_
  intro p e s m args below meth c s₁ B hml hv
  obtain ⟨rfl, hP, hK, hN, hD⟩ := hv
  have hx := B.exec
  have hb := B.bytes
  have hr := B.returns
  have hts := atoms_spec (ws := W_M_lay) B.pre
  have ht := fun (w : Cond) (h : w ∈ tblG) => hts w (List.mem_cons_of_mem _ h)
  have hown : s.vm.findClass RX7 = some m.cls := findClass_of_methodNamed B.named
  have hlocks := B.notSynchronized
  have hl := lv_entry ([.ref (ad 0), .int p1, .long p2] : List Value) (n := 5) (Nat.le_of_ble_eq_true rfl)
  rw [lg_entry_eq]
  generalize (lg_sl ([.ref (ad 0), .int p1, .long p2] : List Value) ++ List.replicate (5 - (lg_sl ([.ref (ad 0), .int p1, .long p2] : List Value)).length) Slot.unset).toArray = ls at hl ⊢
  have hl : lv_has ls 5 [(0, .ref (ad 0)), (1, .int p1), (2, .long p2)] := hl
  have hD := hD.own
  have hS : va_S (rwA (wM ad tI tL tII tLL thr sts wgt rwd up dn cel rig sum gp bst few)) s.heap s.heap [] := va_S.rf
  suffices K : ∀ (H : Heap) (locs : List Loc), va_P (dC, dI) vwCl (wM ad tI tL tII tLL thr sts wgt rwd up dn cel rig sum gp bst few) H → va_D (rwA (wM ad tI tL tII tLL thr sts wgt rwd up dn cel rig sum gp bst few)) (wM ad tI tL tII tLL thr sts wgt rwd up dn cel rig sum gp bst few) → va_S (rwA (wM ad tI tL tII tLL thr sts wgt rwd up dn cel rig sum gp bst few)) s.heap H locs → W p l e (headSpec W_M_lay RM_f_M_lay).room s m ([.ref (ad 0), .int p1, .long p2] : List Value).toArray below meth c H locs 0 0 (MQ below (rwQ (dC, dI) vwCl (wM ad tI tL tII tLL thr sts wgt rwd up dn R_cel R_rig sum gp bst few) none (rwA (wM ad tI tL tII tLL thr sts wgt rwd up dn cel rig sum gp bst few))) ([.ref (ad 0), .int p1, .long p2] : List Value).toArray s 0 0 (rwA (wM ad tI tL tII tLL thr sts wgt rwd up dn cel rig sum gp bst few))) (F0 m 0 ls []) from K s.heap [] hP hD hS
  clear hP hD hS
  intro H locs hP hD hS
  rw [f_M_lay] at hR
  refine lv_iconst (v := 0) hx hb dX7_lay_0 (by decide) ?_
  refine lv_istore (lv' := [(4, .int (0 : Int32)), (0, .ref (ad 0)), (1, .int p1), (2, .long p2)]) hx hb dX7_lay_1 hl (by decide) rfl (fun ls hl => ?_)
  have L3_10 : ∀ (n : Nat) (x4_1 : Int32) (cel_2 : Nat → Int64), ∀ (o_x4_1 : Int32) (o_cel_2 : Nat → Int64), some (o_x4_1, o_cel_2) = f_M_lay_L3 sts wgt p1 n x4_1 cel_2 → (∀ (H : Heap) (locs : List Loc), va_P (dC, dI) vwCl (wM ad tI tL tII tLL thr sts wgt rwd up dn o_cel_2 rig sum gp bst few) H → va_D (rwA (wM ad tI tL tII tLL thr sts wgt rwd up dn cel rig sum gp bst few)) (wM ad tI tL tII tLL thr sts wgt rwd up dn o_cel_2 rig sum gp bst few) → va_S (rwA (wM ad tI tL tII tLL thr sts wgt rwd up dn cel rig sum gp bst few)) s.heap H locs → ∀ ls : Array Slot, lv_has ls 5 [(0, .ref (ad 0)), (1, .int p1), (2, .long p2), (4, .int o_x4_1)] → W p l e (headSpec W_M_lay RM_f_M_lay).room s m ([.ref (ad 0), .int p1, .long p2] : List Value).toArray below meth c H locs 0 0 (MQ below (rwQ (dC, dI) vwCl (wM ad tI tL tII tLL thr sts wgt rwd up dn R_cel R_rig sum gp bst few) none (rwA (wM ad tI tL tII tLL thr sts wgt rwd up dn cel rig sum gp bst few))) ([.ref (ad 0), .int p1, .long p2] : List Value).toArray s 0 0 (rwA (wM ad tI tL tII tLL thr sts wgt rwd up dn cel rig sum gp bst few))) (F0 m 54 ls [])) → ∀ (H : Heap) (locs : List Loc), va_P (dC, dI) vwCl (wM ad tI tL tII tLL thr sts wgt rwd up dn cel_2 rig sum gp bst few) H → va_D (rwA (wM ad tI tL tII tLL thr sts wgt rwd up dn cel rig sum gp bst few)) (wM ad tI tL tII tLL thr sts wgt rwd up dn cel_2 rig sum gp bst few) → va_S (rwA (wM ad tI tL tII tLL thr sts wgt rwd up dn cel rig sum gp bst few)) s.heap H locs → ∀ ls : Array Slot, lv_has ls 5 [(0, .ref (ad 0)), (1, .int p1), (2, .long p2), (4, .int x4_1)] → W p l e (headSpec W_M_lay RM_f_M_lay).room s m ([.ref (ad 0), .int p1, .long p2] : List Value).toArray below meth c H locs 0 0 (MQ below (rwQ (dC, dI) vwCl (wM ad tI tL tII tLL thr sts wgt rwd up dn R_cel R_rig sum gp bst few) none (rwA (wM ad tI tL tII tLL thr sts wgt rwd up dn cel rig sum gp bst few))) ([.ref (ad 0), .int p1, .long p2] : List Value).toArray s 0 0 (rwA (wM ad tI tL tII tLL thr sts wgt rwd up dn cel rig sum gp bst few))) (F0 m 3 ls []) := by
    intro n
    induction n with
    | zero =>
      intro x4_1 cel_2 o_x4_1 o_cel_2 hR
      cases (show some _ = none from hR)
    | succ n ih =>
      intro x4_1 cel_2 o_x4_1 o_cel_2 hR hk H locs hP hD hS ls hl
      rw [f_M_lay_L3_s] at hR
      obtain ⟨y, hR, hQ⟩ := ob hR
      replace hR := hR.symm
      rw [f_M_lay_B3] at hR
      refine lv_iload hx hb dX7_lay_3 (lv_at hl 3 rfl) ?_
      refine lv_aload_n hx hb dX7_lay_5 rfl (lv_at hl 0 rfl) ?_
      refine va_get (D := (dC, dI)) (ci := 7) (v := .int sts) (C := RX7) (T := TX7) (N := 12) hx hb ht hinX7 hown hK hP 0 rfl rfl 1 (by decide) (ht _ k_205) (fun _ h9 => h9) rfl dX7_lay_6 ?_
      refine lv_icmp_ge (tgt := 54) hx hb dX7_lay_9 (by decide) (fun c3 => ?_) (fun c3 => ?_)
      · replace hR := it_p c3 hR
        cases hR
        cases (show some _ = some _ from hQ)
        exact hk H locs hP hD hS ls (lv_sub hl [0, 1, 2, 3] rfl)
      · replace hR := it_n c3 hR
        refine lv_aload_n hx hb dX7_lay_12 rfl (lv_at hl 0 rfl) ?_
        refine va_get (D := (dC, dI)) (ci := 7) (v := .ref (ad 3)) (C := RX7) (T := TX7) (N := 12) hx hb ht hinX7 hown hK hP 0 rfl rfl 6 (by decide) (ht _ k_249) (fun _ h9 => h9) rfl dX7_lay_13 ?_
        refine lv_bipush (v := 7) hx hb dX7_lay_16 (by decide) ?_
        refine lv_iload_n hx hb dX7_lay_18 rfl (lv_at hl 1 rfl) ?_
        refine lv_imul hx hb dX7_lay_19 ?_
        refine lv_iload hx hb dX7_lay_20 (lv_at hl 3 rfl) ?_
        refine lv_iadd hx hb dX7_lay_22 ?_
        refine lv_iload hx hb dX7_lay_23 (lv_at hl 3 rfl) ?_
        refine lv_iload_n hx hb dX7_lay_25 rfl (lv_at hl 1 rfl) ?_
        obtain ⟨j4, hJ, hR⟩ := ob hR
        try dsimp only at hR
        suffices hk5 : ∀ (H : Heap) (locs : List Loc), va_P (dC, dI) vwCl (wM ad tI tL tII tLL thr sts wgt rwd up dn cel_2 rig sum gp bst few) H → va_D (rwA (wM ad tI tL tII tLL thr sts wgt rwd up dn cel rig sum gp bst few)) (wM ad tI tL tII tLL thr sts wgt rwd up dn cel_2 rig sum gp bst few) → va_S (rwA (wM ad tI tL tII tLL thr sts wgt rwd up dn cel rig sum gp bst few)) s.heap H locs → ∀ ls : Array Slot, lv_has ls 5 [(0, .ref (ad 0)), (1, .int p1), (2, .long p2), (4, .int x4_1)] → W p l e (headSpec W_M_lay RM_f_M_lay).room s m ([.ref (ad 0), .int p1, .long p2] : List Value).toArray below meth c H locs 0 0 (MQ below (rwQ (dC, dI) vwCl (wM ad tI tL tII tLL thr sts wgt rwd up dn R_cel R_rig sum gp bst few) none (rwA (wM ad tI tL tII tLL thr sts wgt rwd up dn cel rig sum gp bst few))) ([.ref (ad 0), .int p1, .long p2] : List Value).toArray s 0 0 (rwA (wM ad tI tL tII tLL thr sts wgt rwd up dn cel rig sum gp bst few))) (F0 m 38 ls [.int j4, .int (((7 : Int32) * p1) + x4_1), .ref (ad 3)]) by
          have hR := hJ.symm
          refine lv_icmp_ne (tgt := 37) hx hb dX7_lay_26 (by decide) (fun c6 => ?_) (fun c6 => ?_)
          · replace hR := it_n c6 hR
            refine lv_iconst (v := 0) hx hb dX7_lay_37 (by decide) ?_
            cases hR
            exact hk5 H locs hP hD hS ls (lv_sub hl [0, 1, 2, 3] rfl)
          · replace hR := it_p c6 hR
            refine lv_aload_n hx hb dX7_lay_29 rfl (lv_at hl 0 rfl) ?_
            refine lv_iload_n hx hb dX7_lay_30 rfl (lv_at hl 1 rfl) ?_
            obtain ⟨r7, hC, hR⟩ := ob hR
            try dsimp only at hR
            refine ro_calli (va_runV (As := [.int p1]) (rest := [.int (((7 : Int32) * p1) + x4_1), .ref (ad 3)]) ⟨hx, hb, hml, hown, ht⟩ (c_M_total l dC dI ad tI tL tII tLL thr sts wgt rwd up dn cel_2 rig sum gp bst few p1 r7 hC.symm) ⟨callB_of 1 ht (goodG k_214) rfl rfl rfl (ht _ k_202) (ht _ k_215) (by decide +kernel) ⟨Nat.le_of_ble_eq_true rfl, Nat.le_of_ble_eq_true rfl⟩, (ht _ k_217), (ht _ k_216)⟩ (pre_v hK hN hP (q0 := 0) (ci := 7) rfl rfl) rfl rfl hl.1 rfl (lv_room (Nat.le_of_ble_eq_true rfl)) dX7_lay_31 ⟨Nat.zero_le _, Nat.zero_le _⟩) ?_
            refine lv_goto (tgt := 38) hx hb dX7_lay_34 (by decide) ?_
            cases hR
            exact hk5 H locs hP hD hS ls (lv_sub hl [0, 1, 2, 3] rfl)
        intro H locs hP hD hS ls hl
        refine lv_aload_n hx hb dX7_lay_38 rfl (lv_at hl 0 rfl) ?_
        refine lv_iload_n hx hb dX7_lay_39 rfl (lv_at hl 1 rfl) ?_
        refine lv_iload hx hb dX7_lay_40 (lv_at hl 3 rfl) ?_
        obtain ⟨r8, hC, hR⟩ := ob hR
        try dsimp only at hR
        refine ro_calli (va_runV (As := [.int p1, .int x4_1]) (rest := [.int j4, .int (((7 : Int32) * p1) + x4_1), .ref (ad 3)]) ⟨hx, hb, hml, hown, ht⟩ (c_M_w l dC dI ad tI tL tII tLL thr sts wgt rwd up dn cel_2 rig sum gp bst few p1 x4_1 r8 hC.symm) ⟨callB_of 2 ht (goodG k_210) rfl rfl rfl (ht _ k_202) (ht _ k_211) (by decide +kernel) ⟨Nat.le_of_ble_eq_true rfl, Nat.le_of_ble_eq_true rfl⟩, (ht _ k_213), (ht _ k_212)⟩ (pre_v hK hN hP (q0 := 0) (ci := 7) rfl rfl) rfl rfl hl.1 rfl (lv_room (Nat.le_of_ble_eq_true rfl)) dX7_lay_42 ⟨Nat.zero_le _, Nat.zero_le _⟩) ?_
        refine lv_isub hx hb dX7_lay_45 ?_
        refine lv_i2l hx hb dX7_lay_46 rfl ?_
        obtain ⟨z9, hR⟩ := og hR
        refine va_last hx hb hK hP hD hS 3 1 rfl rfl (ix_in z9) dX7_lay_47 (fun H locs hP hD hS => ?_)
        have hP : va_P (dC, dI) vwCl (wM ad tI tL tII tLL thr sts wgt rwd up dn (vp_updL cel_2 (((7 : Int32) * p1) + x4_1).toNatClampNeg ((j4 - r8).toInt64)) rig sum gp bst few) H := hP
        have hD : va_D (rwA (wM ad tI tL tII tLL thr sts wgt rwd up dn cel rig sum gp bst few)) (wM ad tI tL tII tLL thr sts wgt rwd up dn (vp_updL cel_2 (((7 : Int32) * p1) + x4_1).toNatClampNeg ((j4 - r8).toInt64)) rig sum gp bst few) := hD
        refine lv_iinc (v := (x4_1 + 1)) (lv' := [(4, .int (x4_1 + 1)), (0, .ref (ad 0)), (1, .int p1), (2, .long p2)]) hx hb dX7_lay_48 hl (k := 3) rfl rfl (by decide) rfl (fun ls hl => ?_)
        refine lv_goto (tgt := 3) hx hb dX7_lay_51 (by decide) ?_
        cases hR
        exact ih (x4_1 + 1) (vp_updL cel_2 (((7 : Int32) * p1) + x4_1).toNatClampNeg ((j4 - r8).toInt64)) o_x4_1 o_cel_2 hQ hk H locs hP hD hS ls (lv_sub hl [1, 2, 3, 0] rfl)
  obtain ⟨⟨u11, u12⟩, hL, hR⟩ := ob hR
  try dsimp only at hR
  refine L3_10 300 (0 : Int32) cel u11 u12 hL.symm (fun H locs hP hD hS ls hl => ?_) H locs hP hD hS ls (lv_sub hl [1, 2, 3, 0] rfl)
  refine lv_aload_n hx hb dX7_lay_54 rfl (lv_at hl 0 rfl) ?_
  refine va_get (D := (dC, dI)) (ci := 7) (v := .ref (ad 4)) (C := RX7) (T := TX7) (N := 12) hx hb ht hinX7 hown hK hP 0 rfl rfl 7 (by decide) (ht _ k_250) (fun _ h9 => h9) rfl dX7_lay_55 ?_
  refine lv_iload_n hx hb dX7_lay_58 rfl (lv_at hl 1 rfl) ?_
  refine lv_lload_n hx hb dX7_lay_59 rfl (lv_at hl 2 rfl) ?_
  obtain ⟨z13, hR⟩ := og hR
  refine va_last hx hb hK hP hD hS 4 1 rfl rfl (ix_in z13) dX7_lay_60 (fun H locs hP hD hS => ?_)
  have hP : va_P (dC, dI) vwCl (wM ad tI tL tII tLL thr sts wgt rwd up dn u12 (vp_updL rig p1.toNatClampNeg p2) sum gp bst few) H := hP
  have hD : va_D (rwA (wM ad tI tL tII tLL thr sts wgt rwd up dn cel rig sum gp bst few)) (wM ad tI tL tII tLL thr sts wgt rwd up dn u12 (vp_updL rig p1.toNatClampNeg p2) sum gp bst few) := hD
  cases hR
  exact W.vret hx hb hr (fun t ht _ => ⟨rfl, by rw [ht]; exact hP, hS.F ht⟩) hS.2.2 dX7_lay_61
abbrev RM_f_M_all : Room := { frames := 1, cells := 0, slots := 0, locals := 22 }
abbrev W_M_all : List Cond := .code yX7_all cX7_all 8 (some .long) :: tblG
set_option maxHeartbeats 4000000 in
set_option maxRecDepth 100000 in
theorem c_M_all (l : Launch) (dC : Nat → ClassId) (dI : Nat → Nat → Nat) (ad : Nat → Nat) (tI tL tII tLL : ClassId) (thr : Int32) (sts : Int32) (wgt : Nat → Int32) (rwd : Nat → Int32) (up : Int64) (dn : Int64) (cel : Nat → Int64) (rig : Nat → Int64) (sum : Nat → Int64) (gp : Nat → Int32) (bst : Nat → Int32) (few : Int32) (p1 : Int32) (R0 : Int64) (R_sum : Nat → Int64) (hR : some (R0, R_sum) = f_M_all sts cel rig sum p1) : Met l yX7_all W_M_all RM_f_M_all (rwP (dC, dI) vwCl [(tI, .int), (tL, .long), (tII, .array .int), (tLL, .array .long)] (wM ad tI tL tII tLL thr sts wgt rwd up dn cel rig sum gp bst few) ([.ref (ad 0), .int p1] : List Value)) (rwQ (dC, dI) vwCl (wM ad tI tL tII tLL thr sts wgt rwd up dn cel rig R_sum gp bst few) (some (.long R0)) (rwA (wM ad tI tL tII tLL thr sts wgt rwd up dn cel rig sum gp bst few))) 0 0 (rwA (wM ad tI tL tII tLL thr sts wgt rwd up dn cel rig sum gp bst few)) := by
  refine Met.ofW (cc := cX7_all) (maxL := 8) (ret := (some .long)) (by decide) rfl ?_
  intro p e s m args below meth c s₁ B hml hv
  obtain ⟨rfl, hP, hK, hN, hD⟩ := hv
  have hx := B.exec
  have hb := B.bytes
  have hr := B.returns
  have hts := atoms_spec (ws := W_M_all) B.pre
  have ht := fun (w : Cond) (h : w ∈ tblG) => hts w (List.mem_cons_of_mem _ h)
  have hown : s.vm.findClass RX7 = some m.cls := findClass_of_methodNamed B.named
  have hlocks := B.notSynchronized
  have hl := lv_entry ([.ref (ad 0), .int p1] : List Value) (n := 8) (Nat.le_of_ble_eq_true rfl)
  rw [lg_entry_eq]
  generalize (lg_sl ([.ref (ad 0), .int p1] : List Value) ++ List.replicate (8 - (lg_sl ([.ref (ad 0), .int p1] : List Value)).length) Slot.unset).toArray = ls at hl ⊢
  have hl : lv_has ls 8 [(0, .ref (ad 0)), (1, .int p1)] := hl
  have hD := hD.own
  have hS : va_S (rwA (wM ad tI tL tII tLL thr sts wgt rwd up dn cel rig sum gp bst few)) s.heap s.heap [] := va_S.rf
  suffices K : ∀ (H : Heap) (locs : List Loc), va_P (dC, dI) vwCl (wM ad tI tL tII tLL thr sts wgt rwd up dn cel rig sum gp bst few) H → va_D (rwA (wM ad tI tL tII tLL thr sts wgt rwd up dn cel rig sum gp bst few)) (wM ad tI tL tII tLL thr sts wgt rwd up dn cel rig sum gp bst few) → va_S (rwA (wM ad tI tL tII tLL thr sts wgt rwd up dn cel rig sum gp bst few)) s.heap H locs → W p l e (headSpec W_M_all RM_f_M_all).room s m ([.ref (ad 0), .int p1] : List Value).toArray below meth c H locs 0 0 (MQ below (rwQ (dC, dI) vwCl (wM ad tI tL tII tLL thr sts wgt rwd up dn cel rig R_sum gp bst few) (some (.long R0)) (rwA (wM ad tI tL tII tLL thr sts wgt rwd up dn cel rig sum gp bst few))) ([.ref (ad 0), .int p1] : List Value).toArray s 0 0 (rwA (wM ad tI tL tII tLL thr sts wgt rwd up dn cel rig sum gp bst few))) (F0 m 0 ls []) from K s.heap [] hP hD hS
  clear hP hD hS
  intro H locs hP hD hS
  rw [f_M_all] at hR
  refine lv_iconst (v := 0) hx hb dX7_all_0 (by decide) ?_
  refine lv_istore_n (lv' := [(2, .int (0 : Int32)), (0, .ref (ad 0)), (1, .int p1)]) hx hb dX7_all_1 rfl hl (by decide) rfl (fun ls hl => ?_)
  have L2_7 : ∀ (n : Nat) (x2_1 : Int32) (sum_2 : Nat → Int64), ∀ (o_x2_1 : Int32) (o_sum_2 : Nat → Int64), some (o_x2_1, o_sum_2) = f_M_all_L2 n x2_1 sum_2 → (∀ (H : Heap) (locs : List Loc), va_P (dC, dI) vwCl (wM ad tI tL tII tLL thr sts wgt rwd up dn cel rig o_sum_2 gp bst few) H → va_D (rwA (wM ad tI tL tII tLL thr sts wgt rwd up dn cel rig sum gp bst few)) (wM ad tI tL tII tLL thr sts wgt rwd up dn cel rig o_sum_2 gp bst few) → va_S (rwA (wM ad tI tL tII tLL thr sts wgt rwd up dn cel rig sum gp bst few)) s.heap H locs → ∀ ls : Array Slot, lv_has ls 8 [(0, .ref (ad 0)), (1, .int p1), (2, .int o_x2_1)] → W p l e (headSpec W_M_all RM_f_M_all).room s m ([.ref (ad 0), .int p1] : List Value).toArray below meth c H locs 0 0 (MQ below (rwQ (dC, dI) vwCl (wM ad tI tL tII tLL thr sts wgt rwd up dn cel rig R_sum gp bst few) (some (.long R0)) (rwA (wM ad tI tL tII tLL thr sts wgt rwd up dn cel rig sum gp bst few))) ([.ref (ad 0), .int p1] : List Value).toArray s 0 0 (rwA (wM ad tI tL tII tLL thr sts wgt rwd up dn cel rig sum gp bst few))) (F0 m 30 ls [])) → ∀ (H : Heap) (locs : List Loc), va_P (dC, dI) vwCl (wM ad tI tL tII tLL thr sts wgt rwd up dn cel rig sum_2 gp bst few) H → va_D (rwA (wM ad tI tL tII tLL thr sts wgt rwd up dn cel rig sum gp bst few)) (wM ad tI tL tII tLL thr sts wgt rwd up dn cel rig sum_2 gp bst few) → va_S (rwA (wM ad tI tL tII tLL thr sts wgt rwd up dn cel rig sum gp bst few)) s.heap H locs → ∀ ls : Array Slot, lv_has ls 8 [(0, .ref (ad 0)), (1, .int p1), (2, .int x2_1)] → W p l e (headSpec W_M_all RM_f_M_all).room s m ([.ref (ad 0), .int p1] : List Value).toArray below meth c H locs 0 0 (MQ below (rwQ (dC, dI) vwCl (wM ad tI tL tII tLL thr sts wgt rwd up dn cel rig R_sum gp bst few) (some (.long R0)) (rwA (wM ad tI tL tII tLL thr sts wgt rwd up dn cel rig sum gp bst few))) ([.ref (ad 0), .int p1] : List Value).toArray s 0 0 (rwA (wM ad tI tL tII tLL thr sts wgt rwd up dn cel rig sum gp bst few))) (F0 m 2 ls []) := by
    intro n
    induction n with
    | zero =>
      intro x2_1 sum_2 o_x2_1 o_sum_2 hR
      cases (show some _ = none from hR)
    | succ n ih =>
      intro x2_1 sum_2 o_x2_1 o_sum_2 hR hk H locs hP hD hS ls hl
      rw [f_M_all_L2_s] at hR
      obtain ⟨y, hR, hQ⟩ := ob hR
      replace hR := hR.symm
      rw [f_M_all_B2] at hR
      refine lv_iload_n hx hb dX7_all_2 rfl (lv_at hl 2 rfl) ?_
      refine lv_sipush (v := 128) hx hb dX7_all_3 (by decide) ?_
      refine lv_icmp_ge (tgt := 30) hx hb dX7_all_6 (by decide) (fun c3 => ?_) (fun c3 => ?_)
      · replace hR := it_p c3 hR
        cases hR
        cases (show some _ = some _ from hQ)
        exact hk H locs hP hD hS ls (lv_sub hl [0, 1, 2] rfl)
      · replace hR := it_n c3 hR
        refine lv_aload_n hx hb dX7_all_9 rfl (lv_at hl 0 rfl) ?_
        refine va_get (D := (dC, dI)) (ci := 7) (v := .ref (ad 5)) (C := RX7) (T := TX7) (N := 12) hx hb ht hinX7 hown hK hP 0 rfl rfl 8 (by decide) (ht _ k_251) (fun _ h9 => h9) rfl dX7_all_10 ?_
        refine lv_iload_n hx hb dX7_all_13 rfl (lv_at hl 2 rfl) ?_
        refine lv_iload_n hx hb dX7_all_14 rfl (lv_at hl 2 rfl) ?_
        refine lv_if_ne (tgt := 22) hx hb dX7_all_15 (by decide) (fun c4 => ?_) (fun c4 => ?_)
        · replace hR := it_n c4 hR
          refine lv_lconst (v := 0) hx hb dX7_all_22 (by decide) ?_
          obtain ⟨z5, hR⟩ := og hR
          refine va_last hx hb hK hP hD hS 5 1 rfl rfl (ix_in z5) dX7_all_23 (fun H locs hP hD hS => ?_)
          have hP : va_P (dC, dI) vwCl (wM ad tI tL tII tLL thr sts wgt rwd up dn cel rig (vp_updL sum_2 x2_1.toNatClampNeg (0 : Int64)) gp bst few) H := hP
          have hD : va_D (rwA (wM ad tI tL tII tLL thr sts wgt rwd up dn cel rig sum gp bst few)) (wM ad tI tL tII tLL thr sts wgt rwd up dn cel rig (vp_updL sum_2 x2_1.toNatClampNeg (0 : Int64)) gp bst few) := hD
          refine lv_iinc (v := (x2_1 + 1)) (lv' := [(2, .int (x2_1 + 1)), (0, .ref (ad 0)), (1, .int p1)]) hx hb dX7_all_24 hl (k := 2) rfl rfl (by decide) rfl (fun ls hl => ?_)
          refine lv_goto (tgt := 2) hx hb dX7_all_27 (by decide) ?_
          cases hR
          exact ih (x2_1 + 1) (vp_updL sum_2 x2_1.toNatClampNeg (0 : Int64)) o_x2_1 o_sum_2 hQ hk H locs hP hD hS ls (lv_sub hl [1, 2, 0] rfl)
        · replace hR := it_p c4 hR
          refine lv_lconst (v := 1) hx hb dX7_all_18 (by decide) ?_
          refine lv_goto (tgt := 23) hx hb dX7_all_19 (by decide) ?_
          obtain ⟨z6, hR⟩ := og hR
          refine va_last hx hb hK hP hD hS 5 1 rfl rfl (ix_in z6) dX7_all_23 (fun H locs hP hD hS => ?_)
          have hP : va_P (dC, dI) vwCl (wM ad tI tL tII tLL thr sts wgt rwd up dn cel rig (vp_updL sum_2 x2_1.toNatClampNeg (1 : Int64)) gp bst few) H := hP
          have hD : va_D (rwA (wM ad tI tL tII tLL thr sts wgt rwd up dn cel rig sum gp bst few)) (wM ad tI tL tII tLL thr sts wgt rwd up dn cel rig (vp_updL sum_2 x2_1.toNatClampNeg (1 : Int64)) gp bst few) := hD
          refine lv_iinc (v := (x2_1 + 1)) (lv' := [(2, .int (x2_1 + 1)), (0, .ref (ad 0)), (1, .int p1)]) hx hb dX7_all_24 hl (k := 2) rfl rfl (by decide) rfl (fun ls hl => ?_)
          refine lv_goto (tgt := 2) hx hb dX7_all_27 (by decide) ?_
          cases hR
          exact ih (x2_1 + 1) (vp_updL sum_2 x2_1.toNatClampNeg (1 : Int64)) o_x2_1 o_sum_2 hQ hk H locs hP hD hS ls (lv_sub hl [1, 2, 0] rfl)
  obtain ⟨⟨u8, u9⟩, hL, hR⟩ := ob hR
  try dsimp only at hR
  refine L2_7 300 (0 : Int32) sum u8 u9 hL.symm (fun H locs hP hD hS ls hl => ?_) H locs hP hD hS ls (lv_sub hl [1, 2, 0] rfl)
  refine lv_iconst (v := 0) hx hb dX7_all_30 (by decide) ?_
  refine lv_istore_n (lv' := [(2, .int (0 : Int32)), (0, .ref (ad 0)), (1, .int p1)]) hx hb dX7_all_31 rfl hl (by decide) rfl (fun ls hl => ?_)
  have L32_37 : ∀ (n : Nat) (x2_10 : Int32) (sum_11 : Nat → Int64), ∀ (o_x2_10 : Int32) (o_sum_11 : Nat → Int64), some (o_x2_10, o_sum_11) = f_M_all_L32 sts cel rig p1 n x2_10 sum_11 → (∀ (H : Heap) (locs : List Loc), va_P (dC, dI) vwCl (wM ad tI tL tII tLL thr sts wgt rwd up dn cel rig o_sum_11 gp bst few) H → va_D (rwA (wM ad tI tL tII tLL thr sts wgt rwd up dn cel rig sum gp bst few)) (wM ad tI tL tII tLL thr sts wgt rwd up dn cel rig o_sum_11 gp bst few) → va_S (rwA (wM ad tI tL tII tLL thr sts wgt rwd up dn cel rig sum gp bst few)) s.heap H locs → ∀ ls : Array Slot, lv_has ls 8 [(0, .ref (ad 0)), (1, .int p1), (2, .int o_x2_10)] → W p l e (headSpec W_M_all RM_f_M_all).room s m ([.ref (ad 0), .int p1] : List Value).toArray below meth c H locs 0 0 (MQ below (rwQ (dC, dI) vwCl (wM ad tI tL tII tLL thr sts wgt rwd up dn cel rig R_sum gp bst few) (some (.long R0)) (rwA (wM ad tI tL tII tLL thr sts wgt rwd up dn cel rig sum gp bst few))) ([.ref (ad 0), .int p1] : List Value).toArray s 0 0 (rwA (wM ad tI tL tII tLL thr sts wgt rwd up dn cel rig sum gp bst few))) (F0 m 165 ls [])) → ∀ (H : Heap) (locs : List Loc), va_P (dC, dI) vwCl (wM ad tI tL tII tLL thr sts wgt rwd up dn cel rig sum_11 gp bst few) H → va_D (rwA (wM ad tI tL tII tLL thr sts wgt rwd up dn cel rig sum gp bst few)) (wM ad tI tL tII tLL thr sts wgt rwd up dn cel rig sum_11 gp bst few) → va_S (rwA (wM ad tI tL tII tLL thr sts wgt rwd up dn cel rig sum gp bst few)) s.heap H locs → ∀ ls : Array Slot, lv_has ls 8 [(0, .ref (ad 0)), (1, .int p1), (2, .int x2_10)] → W p l e (headSpec W_M_all RM_f_M_all).room s m ([.ref (ad 0), .int p1] : List Value).toArray below meth c H locs 0 0 (MQ below (rwQ (dC, dI) vwCl (wM ad tI tL tII tLL thr sts wgt rwd up dn cel rig R_sum gp bst few) (some (.long R0)) (rwA (wM ad tI tL tII tLL thr sts wgt rwd up dn cel rig sum gp bst few))) ([.ref (ad 0), .int p1] : List Value).toArray s 0 0 (rwA (wM ad tI tL tII tLL thr sts wgt rwd up dn cel rig sum gp bst few))) (F0 m 32 ls []) := by
    intro n
    induction n with
    | zero =>
      intro x2_10 sum_11 o_x2_10 o_sum_11 hR
      cases (show some _ = none from hR)
    | succ n ih =>
      intro x2_10 sum_11 o_x2_10 o_sum_11 hR hk H locs hP hD hS ls hl
      rw [f_M_all_L32_s] at hR
      obtain ⟨y, hR, hQ⟩ := ob hR
      replace hR := hR.symm
      rw [f_M_all_B32] at hR
      refine lv_iload_n hx hb dX7_all_32 rfl (lv_at hl 2 rfl) ?_
      refine lv_iconst (v := 1) hx hb dX7_all_33 (by decide) ?_
      refine lv_aload_n hx hb dX7_all_34 rfl (lv_at hl 0 rfl) ?_
      refine va_get (D := (dC, dI)) (ci := 7) (v := .int sts) (C := RX7) (T := TX7) (N := 12) hx hb ht hinX7 hown hK hP 0 rfl rfl 1 (by decide) (ht _ k_205) (fun _ h9 => h9) rfl dX7_all_35 ?_
      refine lv_ishl hx hb dX7_all_38 ?_
      refine lv_iconst (v := 1) hx hb dX7_all_39 (by decide) ?_
      refine lv_isub hx hb dX7_all_40 ?_
      refine lv_icmp_ge (tgt := 165) hx hb dX7_all_41 (by decide) (fun c12 => ?_) (fun c12 => ?_)
      · replace hR := it_p c12 hR
        cases hR
        cases (show some _ = some _ from hQ)
        exact hk H locs hP hD hS ls (lv_sub hl [0, 1, 2] rfl)
      · replace hR := it_n c12 hR
        refine lv_iload_n hx hb dX7_all_44 rfl (lv_at hl 2 rfl) ?_
        obtain ⟨r13, hC, hR⟩ := ob hR
        try dsimp only at hR
        refine ro_calli (va_runS (As := [.int x2_10]) (rest := []) ⟨hx, hb, hml, hown, ht⟩ (c_M_many l dC dI ad tI tL tII tLL  x2_10 r13 hC.symm) ⟨callB_of 1 ht (goodG k_252) rfl rfl rfl (ht _ k_202) (ht _ k_253) (by decide +kernel) ⟨Nat.le_of_ble_eq_true rfl, Nat.le_of_ble_eq_true rfl⟩, (ht _ k_254)⟩ (pre_s hK hN (hP.sub (ws' := []) [] rfl)) rfl rfl hl.1 rfl (lv_room (Nat.le_of_ble_eq_true rfl)) dX7_all_45 ⟨Nat.zero_le _, Nat.zero_le _⟩) ?_
        refine lv_istore_n (lv' := [(3, .int r13), (0, .ref (ad 0)), (1, .int p1), (2, .int x2_10)]) hx hb dX7_all_48 rfl hl (by decide) rfl (fun ls hl => ?_)
        refine lv_iconst (v := 0) hx hb dX7_all_49 (by decide) ?_
        refine lv_istore (lv' := [(4, .int (0 : Int32)), (3, .int r13), (0, .ref (ad 0)), (1, .int p1), (2, .int x2_10)]) hx hb dX7_all_50 hl (by decide) rfl (fun ls hl => ?_)
        have L52_34 : ∀ (n : Nat) (x4_14 : Int32) (sum_15 : Nat → Int64), ∀ (o_x4_14 : Int32) (o_sum_15 : Nat → Int64), some (o_x4_14, o_sum_15) = f_M_all_L52 sts cel rig p1 x2_10 r13 n x4_14 sum_15 → (∀ (H : Heap) (locs : List Loc), va_P (dC, dI) vwCl (wM ad tI tL tII tLL thr sts wgt rwd up dn cel rig o_sum_15 gp bst few) H → va_D (rwA (wM ad tI tL tII tLL thr sts wgt rwd up dn cel rig sum gp bst few)) (wM ad tI tL tII tLL thr sts wgt rwd up dn cel rig o_sum_15 gp bst few) → va_S (rwA (wM ad tI tL tII tLL thr sts wgt rwd up dn cel rig sum gp bst few)) s.heap H locs → ∀ ls : Array Slot, lv_has ls 8 [(0, .ref (ad 0)), (1, .int p1), (2, .int x2_10), (3, .int r13), (4, .int o_x4_14)] → W p l e (headSpec W_M_all RM_f_M_all).room s m ([.ref (ad 0), .int p1] : List Value).toArray below meth c H locs 0 0 (MQ below (rwQ (dC, dI) vwCl (wM ad tI tL tII tLL thr sts wgt rwd up dn cel rig R_sum gp bst few) (some (.long R0)) (rwA (wM ad tI tL tII tLL thr sts wgt rwd up dn cel rig sum gp bst few))) ([.ref (ad 0), .int p1] : List Value).toArray s 0 0 (rwA (wM ad tI tL tII tLL thr sts wgt rwd up dn cel rig sum gp bst few))) (F0 m 159 ls [])) → ∀ (H : Heap) (locs : List Loc), va_P (dC, dI) vwCl (wM ad tI tL tII tLL thr sts wgt rwd up dn cel rig sum_15 gp bst few) H → va_D (rwA (wM ad tI tL tII tLL thr sts wgt rwd up dn cel rig sum gp bst few)) (wM ad tI tL tII tLL thr sts wgt rwd up dn cel rig sum_15 gp bst few) → va_S (rwA (wM ad tI tL tII tLL thr sts wgt rwd up dn cel rig sum gp bst few)) s.heap H locs → ∀ ls : Array Slot, lv_has ls 8 [(0, .ref (ad 0)), (1, .int p1), (2, .int x2_10), (3, .int r13), (4, .int x4_14)] → W p l e (headSpec W_M_all RM_f_M_all).room s m ([.ref (ad 0), .int p1] : List Value).toArray below meth c H locs 0 0 (MQ below (rwQ (dC, dI) vwCl (wM ad tI tL tII tLL thr sts wgt rwd up dn cel rig R_sum gp bst few) (some (.long R0)) (rwA (wM ad tI tL tII tLL thr sts wgt rwd up dn cel rig sum gp bst few))) ([.ref (ad 0), .int p1] : List Value).toArray s 0 0 (rwA (wM ad tI tL tII tLL thr sts wgt rwd up dn cel rig sum gp bst few))) (F0 m 52 ls []) := by
          intro n
          induction n with
          | zero =>
            intro x4_14 sum_15 o_x4_14 o_sum_15 hR
            cases (show some _ = none from hR)
          | succ n ih =>
            intro x4_14 sum_15 o_x4_14 o_sum_15 hR hk H locs hP hD hS ls hl
            rw [f_M_all_L52_s] at hR
            obtain ⟨y, hR, hQ⟩ := ob hR
            replace hR := hR.symm
            rw [f_M_all_B52] at hR
            refine lv_iload hx hb dX7_all_52 (lv_at hl 4 rfl) ?_
            refine lv_aload_n hx hb dX7_all_54 rfl (lv_at hl 0 rfl) ?_
            refine va_get (D := (dC, dI)) (ci := 7) (v := .int sts) (C := RX7) (T := TX7) (N := 12) hx hb ht hinX7 hown hK hP 0 rfl rfl 1 (by decide) (ht _ k_205) (fun _ h9 => h9) rfl dX7_all_55 ?_
            refine lv_icmp_ge (tgt := 159) hx hb dX7_all_58 (by decide) (fun c16 => ?_) (fun c16 => ?_)
            · replace hR := it_p c16 hR
              cases hR
              cases (show some _ = some _ from hQ)
              exact hk H locs hP hD hS ls (lv_sub hl [0, 1, 2, 3, 4] rfl)
            · replace hR := it_n c16 hR
              refine lv_iload_n hx hb dX7_all_61 rfl (lv_at hl 2 rfl) ?_
              refine lv_iload hx hb dX7_all_62 (lv_at hl 4 rfl) ?_
              obtain ⟨r17, hC, hR⟩ := ob hR
              try dsimp only at hR
              refine ro_calli (va_runS (As := [.int x2_10, .int x4_14]) (rest := []) ⟨hx, hb, hml, hown, ht⟩ (c_M_has l dC dI ad tI tL tII tLL  x2_10 x4_14 r17 hC.symm) ⟨callB_of 2 ht (goodG k_201) rfl rfl rfl (ht _ k_202) (ht _ k_203) (by decide +kernel) ⟨Nat.le_of_ble_eq_true rfl, Nat.le_of_ble_eq_true rfl⟩, (ht _ k_204)⟩ (pre_s hK hN (hP.sub (ws' := []) [] rfl)) rfl rfl hl.1 rfl (lv_room (Nat.le_of_ble_eq_true rfl)) dX7_all_64 ⟨Nat.zero_le _, Nat.zero_le _⟩) ?_
              refine lv_if_ne (tgt := 153) hx hb dX7_all_67 (by decide) (fun c18 => ?_) (fun c18 => ?_)
              · replace hR := it_n c18 hR
                refine lv_iinc (v := (x4_14 + 1)) (lv' := [(4, .int (x4_14 + 1)), (0, .ref (ad 0)), (1, .int p1), (2, .int x2_10), (3, .int r13)]) hx hb dX7_all_153 hl (k := 4) rfl rfl (by decide) rfl (fun ls hl => ?_)
                refine lv_goto (tgt := 52) hx hb dX7_all_156 (by decide) ?_
                cases hR
                exact ih (x4_14 + 1) sum_15 o_x4_14 o_sum_15 hQ hk H locs hP hD hS ls (lv_sub hl [1, 2, 3, 4, 0] rfl)
              · replace hR := it_p c18 hR
                refine lv_aload_n hx hb dX7_all_70 rfl (lv_at hl 0 rfl) ?_
                refine va_get (D := (dC, dI)) (ci := 7) (v := .ref (ad 5)) (C := RX7) (T := TX7) (N := 12) hx hb ht hinX7 hown hK hP 0 rfl rfl 8 (by decide) (ht _ k_251) (fun _ h9 => h9) rfl dX7_all_71 ?_
                refine lv_iload_n hx hb dX7_all_74 rfl (lv_at hl 2 rfl) ?_
                obtain ⟨z19, hR⟩ := og hR
                refine va_lald hx hb hK hP 5 1 rfl rfl (ix_in z19) dX7_all_75 ?_
                refine lv_iload hx hb dX7_all_76 (lv_at hl 4 rfl) ?_
                refine lv_iload_n hx hb dX7_all_78 rfl (lv_at hl 1 rfl) ?_
                obtain ⟨j20, hJ, hR⟩ := ob hR
                try dsimp only at hR
                suffices hk21 : ∀ (H : Heap) (locs : List Loc), va_P (dC, dI) vwCl (wM ad tI tL tII tLL thr sts wgt rwd up dn cel rig sum_15 gp bst few) H → va_D (rwA (wM ad tI tL tII tLL thr sts wgt rwd up dn cel rig sum gp bst few)) (wM ad tI tL tII tLL thr sts wgt rwd up dn cel rig sum_15 gp bst few) → va_S (rwA (wM ad tI tL tII tLL thr sts wgt rwd up dn cel rig sum gp bst few)) s.heap H locs → ∀ ls : Array Slot, lv_has ls 8 [(0, .ref (ad 0)), (1, .int p1), (2, .int x2_10), (3, .int r13), (4, .int x4_14)] → W p l e (headSpec W_M_all RM_f_M_all).room s m ([.ref (ad 0), .int p1] : List Value).toArray below meth c H locs 0 0 (MQ below (rwQ (dC, dI) vwCl (wM ad tI tL tII tLL thr sts wgt rwd up dn cel rig R_sum gp bst few) (some (.long R0)) (rwA (wM ad tI tL tII tLL thr sts wgt rwd up dn cel rig sum gp bst few))) ([.ref (ad 0), .int p1] : List Value).toArray s 0 0 (rwA (wM ad tI tL tII tLL thr sts wgt rwd up dn cel rig sum gp bst few))) (F0 m 103 ls [.long j20, .long (sum_15 x2_10.toNatClampNeg)]) by
                  have hR := hJ.symm
                  refine lv_icmp_ne (tgt := 91) hx hb dX7_all_79 (by decide) (fun c22 => ?_) (fun c22 => ?_)
                  · replace hR := it_n c22 hR
                    refine lv_aload_n hx hb dX7_all_91 rfl (lv_at hl 0 rfl) ?_
                    refine va_get (D := (dC, dI)) (ci := 7) (v := .ref (ad 3)) (C := RX7) (T := TX7) (N := 12) hx hb ht hinX7 hown hK hP 0 rfl rfl 6 (by decide) (ht _ k_249) (fun _ h9 => h9) rfl dX7_all_92 ?_
                    refine lv_bipush (v := 7) hx hb dX7_all_95 (by decide) ?_
                    refine lv_iload_n hx hb dX7_all_97 rfl (lv_at hl 3 rfl) ?_
                    refine lv_imul hx hb dX7_all_98 ?_
                    refine lv_iload hx hb dX7_all_99 (lv_at hl 4 rfl) ?_
                    refine lv_iadd hx hb dX7_all_101 ?_
                    obtain ⟨z23, hR⟩ := og hR
                    refine va_lald hx hb hK hP 3 1 rfl rfl (ix_in z23) dX7_all_102 ?_
                    cases hR
                    exact hk21 H locs hP hD hS ls (lv_sub hl [0, 1, 2, 3, 4] rfl)
                  · replace hR := it_p c22 hR
                    refine lv_aload_n hx hb dX7_all_82 rfl (lv_at hl 0 rfl) ?_
                    refine va_get (D := (dC, dI)) (ci := 7) (v := .ref (ad 4)) (C := RX7) (T := TX7) (N := 12) hx hb ht hinX7 hown hK hP 0 rfl rfl 7 (by decide) (ht _ k_250) (fun _ h9 => h9) rfl dX7_all_83 ?_
                    refine lv_iload_n hx hb dX7_all_86 rfl (lv_at hl 3 rfl) ?_
                    obtain ⟨z24, hR⟩ := og hR
                    refine va_lald hx hb hK hP 4 1 rfl rfl (ix_in z24) dX7_all_87 ?_
                    refine lv_goto (tgt := 103) hx hb dX7_all_88 (by decide) ?_
                    cases hR
                    exact hk21 H locs hP hD hS ls (lv_sub hl [0, 1, 2, 3, 4] rfl)
                intro H locs hP hD hS ls hl
                refine lv_lmul hx hb dX7_all_103 ?_
                refine lv_lstore (lv' := [(5, .long ((sum_15 x2_10.toNatClampNeg) * j20)), (0, .ref (ad 0)), (1, .int p1), (2, .int x2_10), (3, .int r13), (4, .int x4_14)]) hx hb dX7_all_104 hl (by decide) rfl (fun ls hl => ?_)
                refine lv_iload_n hx hb dX7_all_106 rfl (lv_at hl 3 rfl) ?_
                refine lv_iload hx hb dX7_all_107 (lv_at hl 5 rfl) ?_
                refine lv_ishr hx hb dX7_all_109 ?_
                obtain ⟨r25, hC, hR⟩ := ob hR
                try dsimp only at hR
                refine ro_calli (va_runS (As := [.int (x2_10 >>> (x4_14 &&& 31))]) (rest := []) ⟨hx, hb, hml, hown, ht⟩ (c_M_many l dC dI ad tI tL tII tLL  (x2_10 >>> (x4_14 &&& 31)) r25 hC.symm) ⟨callB_of 1 ht (goodG k_252) rfl rfl rfl (ht _ k_202) (ht _ k_253) (by decide +kernel) ⟨Nat.le_of_ble_eq_true rfl, Nat.le_of_ble_eq_true rfl⟩, (ht _ k_254)⟩ (pre_s hK hN (hP.sub (ws' := []) [] rfl)) rfl rfl hl.1 rfl (lv_room (Nat.le_of_ble_eq_true rfl)) dX7_all_110 ⟨Nat.zero_le _, Nat.zero_le _⟩) ?_
                refine lv_iconst (v := 2) hx hb dX7_all_113 (by decide) ?_
                obtain ⟨z26, hR⟩ := og hR
                refine lv_irem hx hb dX7_all_114 z26 ?_
                refine lv_iconst (v := 1) hx hb dX7_all_115 (by decide) ?_
                obtain ⟨j27, hJ, hR⟩ := ob hR
                try dsimp only at hR
                suffices hk28 : ∀ (H : Heap) (locs : List Loc), va_P (dC, dI) vwCl (wM ad tI tL tII tLL thr sts wgt rwd up dn cel rig sum_15 gp bst few) H → va_D (rwA (wM ad tI tL tII tLL thr sts wgt rwd up dn cel rig sum gp bst few)) (wM ad tI tL tII tLL thr sts wgt rwd up dn cel rig sum_15 gp bst few) → va_S (rwA (wM ad tI tL tII tLL thr sts wgt rwd up dn cel rig sum gp bst few)) s.heap H locs → ∀ ls : Array Slot, lv_has ls 8 [(5, .long ((sum_15 x2_10.toNatClampNeg) * j20)), (0, .ref (ad 0)), (1, .int p1), (2, .int x2_10), (3, .int r13), (4, .int x4_14)] → W p l e (headSpec W_M_all RM_f_M_all).room s m ([.ref (ad 0), .int p1] : List Value).toArray below meth c H locs 0 0 (MQ below (rwQ (dC, dI) vwCl (wM ad tI tL tII tLL thr sts wgt rwd up dn cel rig R_sum gp bst few) (some (.long R0)) (rwA (wM ad tI tL tII tLL thr sts wgt rwd up dn cel rig sum gp bst few))) ([.ref (ad 0), .int p1] : List Value).toArray s 0 0 (rwA (wM ad tI tL tII tLL thr sts wgt rwd up dn cel rig sum gp bst few))) (F0 m 124 ls [.int j27]) by
                  have hR := hJ.symm
                  refine lv_icmp_ne (tgt := 123) hx hb dX7_all_116 (by decide) (fun c29 => ?_) (fun c29 => ?_)
                  · replace hR := it_n c29 hR
                    refine lv_iconst (v := 0) hx hb dX7_all_123 (by decide) ?_
                    cases hR
                    exact hk28 H locs hP hD hS ls (lv_sub hl [0, 1, 2, 3, 4, 5] rfl)
                  · replace hR := it_p c29 hR
                    refine lv_iconst (v := 1) hx hb dX7_all_119 (by decide) ?_
                    refine lv_goto (tgt := 124) hx hb dX7_all_120 (by decide) ?_
                    cases hR
                    exact hk28 H locs hP hD hS ls (lv_sub hl [0, 1, 2, 3, 4, 5] rfl)
                intro H locs hP hD hS ls hl
                refine lv_istore (lv' := [(7, .int j27), (5, .long ((sum_15 x2_10.toNatClampNeg) * j20)), (0, .ref (ad 0)), (1, .int p1), (2, .int x2_10), (3, .int r13), (4, .int x4_14)]) hx hb dX7_all_124 hl (by decide) rfl (fun ls hl => ?_)
                refine lv_aload_n hx hb dX7_all_126 rfl (lv_at hl 2 rfl) ?_
                refine va_get (D := (dC, dI)) (ci := 7) (v := .ref (ad 5)) (C := RX7) (T := TX7) (N := 12) hx hb ht hinX7 hown hK hP 0 rfl rfl 8 (by decide) (ht _ k_251) (fun _ h9 => h9) rfl dX7_all_127 ?_
                refine lv_iload_n hx hb dX7_all_130 rfl (lv_at hl 4 rfl) ?_
                refine lv_iconst (v := 1) hx hb dX7_all_131 (by decide) ?_
                refine lv_iload hx hb dX7_all_132 (lv_at hl 6 rfl) ?_
                refine lv_ishl hx hb dX7_all_134 ?_
                refine lv_ior hx hb dX7_all_135 ?_
                refine lv_dup2_11 hx hb dX7_all_136 rfl rfl ?_
                obtain ⟨z30, hR⟩ := og hR
                refine va_lald hx hb hK hP 5 1 rfl rfl (ix_in z30) dX7_all_137 ?_
                refine lv_iload hx hb dX7_all_138 (lv_at hl 0 rfl) ?_
                refine lv_if_eq (tgt := 149) hx hb dX7_all_140 (by decide) (fun c31 => ?_) (fun c31 => ?_)
                · replace hR := it_p c31 hR
                  refine lv_lload hx hb dX7_all_149 (lv_at hl 1 rfl) ?_
                  refine lv_ladd hx hb dX7_all_151 ?_
                  obtain ⟨z32, hR⟩ := og hR
                  refine va_last hx hb hK hP hD hS 5 1 rfl rfl (ix_in z32) dX7_all_152 (fun H locs hP hD hS => ?_)
                  have hP : va_P (dC, dI) vwCl (wM ad tI tL tII tLL thr sts wgt rwd up dn cel rig (vp_updL sum_15 (x2_10 ||| ((1 : Int32) <<< (x4_14 &&& 31))).toNatClampNeg ((sum_15 (x2_10 ||| ((1 : Int32) <<< (x4_14 &&& 31))).toNatClampNeg) + ((sum_15 x2_10.toNatClampNeg) * j20))) gp bst few) H := hP
                  have hD : va_D (rwA (wM ad tI tL tII tLL thr sts wgt rwd up dn cel rig sum gp bst few)) (wM ad tI tL tII tLL thr sts wgt rwd up dn cel rig (vp_updL sum_15 (x2_10 ||| ((1 : Int32) <<< (x4_14 &&& 31))).toNatClampNeg ((sum_15 (x2_10 ||| ((1 : Int32) <<< (x4_14 &&& 31))).toNatClampNeg) + ((sum_15 x2_10.toNatClampNeg) * j20))) gp bst few) := hD
                  refine lv_iinc (v := (x4_14 + 1)) (lv' := [(4, .int (x4_14 + 1)), (7, .int j27), (5, .long ((sum_15 x2_10.toNatClampNeg) * j20)), (0, .ref (ad 0)), (1, .int p1), (2, .int x2_10), (3, .int r13)]) hx hb dX7_all_153 hl (k := 6) rfl rfl (by decide) rfl (fun ls hl => ?_)
                  refine lv_goto (tgt := 52) hx hb dX7_all_156 (by decide) ?_
                  cases hR
                  exact ih (x4_14 + 1) (vp_updL sum_15 (x2_10 ||| ((1 : Int32) <<< (x4_14 &&& 31))).toNatClampNeg ((sum_15 (x2_10 ||| ((1 : Int32) <<< (x4_14 &&& 31))).toNatClampNeg) + ((sum_15 x2_10.toNatClampNeg) * j20))) o_x4_14 o_sum_15 hQ hk H locs hP hD hS ls (lv_sub hl [3, 4, 5, 6, 0] rfl)
                · replace hR := it_n c31 hR
                  refine lv_lload hx hb dX7_all_143 (lv_at hl 1 rfl) ?_
                  refine lv_lneg hx hb dX7_all_145 ?_
                  refine lv_goto (tgt := 151) hx hb dX7_all_146 (by decide) ?_
                  refine lv_ladd hx hb dX7_all_151 ?_
                  obtain ⟨z33, hR⟩ := og hR
                  refine va_last hx hb hK hP hD hS 5 1 rfl rfl (ix_in z33) dX7_all_152 (fun H locs hP hD hS => ?_)
                  have hP : va_P (dC, dI) vwCl (wM ad tI tL tII tLL thr sts wgt rwd up dn cel rig (vp_updL sum_15 (x2_10 ||| ((1 : Int32) <<< (x4_14 &&& 31))).toNatClampNeg ((sum_15 (x2_10 ||| ((1 : Int32) <<< (x4_14 &&& 31))).toNatClampNeg) + (-((sum_15 x2_10.toNatClampNeg) * j20)))) gp bst few) H := hP
                  have hD : va_D (rwA (wM ad tI tL tII tLL thr sts wgt rwd up dn cel rig sum gp bst few)) (wM ad tI tL tII tLL thr sts wgt rwd up dn cel rig (vp_updL sum_15 (x2_10 ||| ((1 : Int32) <<< (x4_14 &&& 31))).toNatClampNeg ((sum_15 (x2_10 ||| ((1 : Int32) <<< (x4_14 &&& 31))).toNatClampNeg) + (-((sum_15 x2_10.toNatClampNeg) * j20)))) gp bst few) := hD
                  refine lv_iinc (v := (x4_14 + 1)) (lv' := [(4, .int (x4_14 + 1)), (7, .int j27), (5, .long ((sum_15 x2_10.toNatClampNeg) * j20)), (0, .ref (ad 0)), (1, .int p1), (2, .int x2_10), (3, .int r13)]) hx hb dX7_all_153 hl (k := 6) rfl rfl (by decide) rfl (fun ls hl => ?_)
                  refine lv_goto (tgt := 52) hx hb dX7_all_156 (by decide) ?_
                  cases hR
                  exact ih (x4_14 + 1) (vp_updL sum_15 (x2_10 ||| ((1 : Int32) <<< (x4_14 &&& 31))).toNatClampNeg ((sum_15 (x2_10 ||| ((1 : Int32) <<< (x4_14 &&& 31))).toNatClampNeg) + (-((sum_15 x2_10.toNatClampNeg) * j20)))) o_x4_14 o_sum_15 hQ hk H locs hP hD hS ls (lv_sub hl [3, 4, 5, 6, 0] rfl)
        obtain ⟨⟨u35, u36⟩, hL, hR⟩ := ob hR
        try dsimp only at hR
        refine L52_34 300 (0 : Int32) sum_11 u35 u36 hL.symm (fun H locs hP hD hS ls hl => ?_) H locs hP hD hS ls (lv_sub hl [2, 3, 4, 1, 0] rfl)
        refine lv_iinc (v := (x2_10 + 1)) (lv' := [(2, .int (x2_10 + 1)), (0, .ref (ad 0)), (1, .int p1), (3, .int r13), (4, .int u35)]) hx hb dX7_all_159 hl (k := 2) rfl rfl (by decide) rfl (fun ls hl => ?_)
        refine lv_goto (tgt := 32) hx hb dX7_all_162 (by decide) ?_
        cases hR
        exact ih (x2_10 + 1) u36 o_x2_10 o_sum_11 hQ hk H locs hP hD hS ls (lv_sub hl [1, 2, 0] rfl)
  obtain ⟨⟨u38, u39⟩, hL, hR⟩ := ob hR
  try dsimp only at hR
  refine L32_37 300 (0 : Int32) u9 u38 u39 hL.symm (fun H locs hP hD hS ls hl => ?_) H locs hP hD hS ls (lv_sub hl [1, 2, 0] rfl)
  refine lv_aload_n hx hb dX7_all_165 rfl (lv_at hl 0 rfl) ?_
  refine va_get (D := (dC, dI)) (ci := 7) (v := .ref (ad 5)) (C := RX7) (T := TX7) (N := 12) hx hb ht hinX7 hown hK hP 0 rfl rfl 8 (by decide) (ht _ k_251) (fun _ h9 => h9) rfl dX7_all_166 ?_
  refine lv_iconst (v := 1) hx hb dX7_all_169 (by decide) ?_
  refine lv_aload_n hx hb dX7_all_170 rfl (lv_at hl 0 rfl) ?_
  refine va_get (D := (dC, dI)) (ci := 7) (v := .int sts) (C := RX7) (T := TX7) (N := 12) hx hb ht hinX7 hown hK hP 0 rfl rfl 1 (by decide) (ht _ k_205) (fun _ h9 => h9) rfl dX7_all_171 ?_
  refine lv_ishl hx hb dX7_all_174 ?_
  refine lv_iconst (v := 1) hx hb dX7_all_175 (by decide) ?_
  refine lv_isub hx hb dX7_all_176 ?_
  obtain ⟨z40, hR⟩ := og hR
  refine va_lald hx hb hK hP 5 1 rfl rfl (ix_in z40) dX7_all_177 ?_
  cases hR
  exact W.lret hx hb hr (fun t ht _ => ⟨rfl, by rw [ht]; exact hP, hS.F ht⟩) hS.2.2 dX7_all_178
abbrev RM_f_M_solved : Room := { frames := 2, cells := 0, slots := 0, locals := 49 }
abbrev W_M_solved : List Cond := .code yX7_solved cX7_solved 2 (some .int) :: tblG
set_option maxHeartbeats 4000000 in
set_option maxRecDepth 100000 in
theorem c_M_solved (l : Launch) (dC : Nat → ClassId) (dI : Nat → Nat → Nat) (ad : Nat → Nat) (tI tL tII tLL : ClassId) (thr : Int32) (sts : Int32) (wgt : Nat → Int32) (rwd : Nat → Int32) (up : Int64) (dn : Int64) (cel : Nat → Int64) (rig : Nat → Int64) (sum : Nat → Int64) (gp : Nat → Int32) (bst : Nat → Int32) (few : Int32) (p1 : Int32) (R0 : Int32) (R_up : Int64) (R_dn : Int64) (R_sum : Nat → Int64) (hR : some (R0, R_up, R_dn, R_sum) = f_M_solved sts cel rig sum p1) : Met l yX7_solved W_M_solved RM_f_M_solved (rwP (dC, dI) vwCl [(tI, .int), (tL, .long), (tII, .array .int), (tLL, .array .long)] (wM ad tI tL tII tLL thr sts wgt rwd up dn cel rig sum gp bst few) ([.ref (ad 0), .int p1] : List Value)) (rwQ (dC, dI) vwCl (wM ad tI tL tII tLL thr sts wgt rwd R_up R_dn cel rig R_sum gp bst few) (some (.int R0)) (rwA (wM ad tI tL tII tLL thr sts wgt rwd up dn cel rig sum gp bst few))) 0 0 (rwA (wM ad tI tL tII tLL thr sts wgt rwd up dn cel rig sum gp bst few)) := by
  refine Met.ofW (cc := cX7_solved) (maxL := 2) (ret := (some .int)) (by decide) rfl ?_
  intro p e s m args below meth c s₁ B hml hv
  obtain ⟨rfl, hP, hK, hN, hD⟩ := hv
  have hx := B.exec
  have hb := B.bytes
  have hr := B.returns
  have hts := atoms_spec (ws := W_M_solved) B.pre
  have ht := fun (w : Cond) (h : w ∈ tblG) => hts w (List.mem_cons_of_mem _ h)
  have hown : s.vm.findClass RX7 = some m.cls := findClass_of_methodNamed B.named
  have hlocks := B.notSynchronized
  have hl := lv_entry ([.ref (ad 0), .int p1] : List Value) (n := 2) (Nat.le_of_ble_eq_true rfl)
  rw [lg_entry_eq]
  generalize (lg_sl ([.ref (ad 0), .int p1] : List Value) ++ List.replicate (2 - (lg_sl ([.ref (ad 0), .int p1] : List Value)).length) Slot.unset).toArray = ls at hl ⊢
  have hl : lv_has ls 2 [(0, .ref (ad 0)), (1, .int p1)] := hl
  have hD := hD.own
  have hS : va_S (rwA (wM ad tI tL tII tLL thr sts wgt rwd up dn cel rig sum gp bst few)) s.heap s.heap [] := va_S.rf
  suffices K : ∀ (H : Heap) (locs : List Loc), va_P (dC, dI) vwCl (wM ad tI tL tII tLL thr sts wgt rwd up dn cel rig sum gp bst few) H → va_D (rwA (wM ad tI tL tII tLL thr sts wgt rwd up dn cel rig sum gp bst few)) (wM ad tI tL tII tLL thr sts wgt rwd up dn cel rig sum gp bst few) → va_S (rwA (wM ad tI tL tII tLL thr sts wgt rwd up dn cel rig sum gp bst few)) s.heap H locs → W p l e (headSpec W_M_solved RM_f_M_solved).room s m ([.ref (ad 0), .int p1] : List Value).toArray below meth c H locs 0 0 (MQ below (rwQ (dC, dI) vwCl (wM ad tI tL tII tLL thr sts wgt rwd R_up R_dn cel rig R_sum gp bst few) (some (.int R0)) (rwA (wM ad tI tL tII tLL thr sts wgt rwd up dn cel rig sum gp bst few))) ([.ref (ad 0), .int p1] : List Value).toArray s 0 0 (rwA (wM ad tI tL tII tLL thr sts wgt rwd up dn cel rig sum gp bst few))) (F0 m 0 ls []) from K s.heap [] hP hD hS
  clear hP hD hS
  intro H locs hP hD hS
  rw [f_M_solved] at hR
  refine lv_aload_n hx hb dX7_solved_0 rfl (lv_at hl 0 rfl) ?_
  refine lv_aload_n hx hb dX7_solved_1 rfl (lv_at hl 0 rfl) ?_
  refine lv_iload_n hx hb dX7_solved_2 rfl (lv_at hl 1 rfl) ?_
  obtain ⟨⟨r1, sum_2⟩, hC, hR⟩ := ob hR
  try dsimp only at hR
  refine rw_calll (va_runV (As := [.int p1]) (rest := [.ref (ad 0)]) ⟨hx, hb, hml, hown, ht⟩ (c_M_all l dC dI ad tI tL tII tLL thr sts wgt rwd up dn cel rig sum gp bst few p1 r1 sum_2 hC.symm) ⟨callB_of 1 ht (goodG k_255) rfl rfl rfl (ht _ k_202) (ht _ k_256) (by decide +kernel) ⟨Nat.le_of_ble_eq_true rfl, Nat.le_of_ble_eq_true rfl⟩, (ht _ k_258), (ht _ k_257)⟩ (pre_vw hK hN hP hD (q0 := 0) (ci := 7) rfl rfl) rfl rfl hl.1 rfl (lv_room (Nat.le_of_ble_eq_true rfl)) dX7_solved_3 ⟨Nat.zero_le _, Nat.zero_le _⟩) hD hS rfl (fun H locs hP hD hS => ?_)
  have hP : va_P (dC, dI) vwCl (wM ad tI tL tII tLL thr sts wgt rwd up dn cel rig sum_2 gp bst few) H := hP
  have hD : va_D (rwA (wM ad tI tL tII tLL thr sts wgt rwd up dn cel rig sum gp bst few)) (wM ad tI tL tII tLL thr sts wgt rwd up dn cel rig sum_2 gp bst few) := hD
  refine lv_aload_n hx hb dX7_solved_6 rfl (lv_at hl 0 rfl) ?_
  refine lv_iconst (v := (-1)) hx hb dX7_solved_7 (by decide) ?_
  obtain ⟨⟨r3, sum_4⟩, hC, hR⟩ := ob hR
  try dsimp only at hR
  refine rw_calll (va_runV (As := [.int (-1 : Int32)]) (rest := [.long r1, .ref (ad 0)]) ⟨hx, hb, hml, hown, ht⟩ (c_M_all l dC dI ad tI tL tII tLL thr sts wgt rwd up dn cel rig sum_2 gp bst few (-1 : Int32) r3 sum_4 hC.symm) ⟨callB_of 1 ht (goodG k_255) rfl rfl rfl (ht _ k_202) (ht _ k_256) (by decide +kernel) ⟨Nat.le_of_ble_eq_true rfl, Nat.le_of_ble_eq_true rfl⟩, (ht _ k_258), (ht _ k_257)⟩ (pre_vw hK hN hP hD (q0 := 0) (ci := 7) rfl rfl) rfl rfl hl.1 rfl (lv_room (Nat.le_of_ble_eq_true rfl)) dX7_solved_8 ⟨Nat.zero_le _, Nat.zero_le _⟩) hD hS rfl (fun H locs hP hD hS => ?_)
  have hP : va_P (dC, dI) vwCl (wM ad tI tL tII tLL thr sts wgt rwd up dn cel rig sum_4 gp bst few) H := hP
  have hD : va_D (rwA (wM ad tI tL tII tLL thr sts wgt rwd up dn cel rig sum gp bst few)) (wM ad tI tL tII tLL thr sts wgt rwd up dn cel rig sum_4 gp bst few) := hD
  obtain ⟨⟨r5, up_6, dn_7⟩, hC, hR⟩ := ob hR
  try dsimp only at hR
  refine rw_calli (va_runV (As := [.long r1, .long r3]) (rest := []) ⟨hx, hb, hml, hown, ht⟩ (c_M_answer l dC dI ad tI tL tII tLL thr sts wgt rwd up dn cel rig sum_4 gp bst few r1 r3 r5 up_6 dn_7 hC.symm) ⟨callB_of 2 ht (goodG k_259) rfl rfl rfl (ht _ k_202) (ht _ k_260) (by decide +kernel) ⟨Nat.le_of_ble_eq_true rfl, Nat.le_of_ble_eq_true rfl⟩, (ht _ k_262), (ht _ k_261)⟩ (pre_vw hK hN hP hD (q0 := 0) (ci := 7) rfl rfl) rfl rfl hl.1 rfl (lv_room (Nat.le_of_ble_eq_true rfl)) dX7_solved_11 ⟨Nat.zero_le _, Nat.zero_le _⟩) hD hS rfl (fun H locs hP hD hS => ?_)
  have hP : va_P (dC, dI) vwCl (wM ad tI tL tII tLL thr sts wgt rwd up_6 dn_7 cel rig sum_4 gp bst few) H := hP
  have hD : va_D (rwA (wM ad tI tL tII tLL thr sts wgt rwd up dn cel rig sum gp bst few)) (wM ad tI tL tII tLL thr sts wgt rwd up_6 dn_7 cel rig sum_4 gp bst few) := hD
  cases hR
  exact W.iret hx hb hr (fun t ht _ => ⟨rfl, by rw [ht]; exact hP, hS.F ht⟩) hS.2.2 dX7_solved_14
abbrev RM_f_M_layOdds : Room := { frames := 3, cells := 0, slots := 0, locals := 73 }
abbrev W_M_layOdds : List Cond := .code yX7_layOdds cX7_layOdds 5 none :: tblG
set_option maxHeartbeats 4000000 in
set_option maxRecDepth 100000 in
theorem c_M_layOdds (l : Launch) (dC : Nat → ClassId) (dI : Nat → Nat → Nat) (ad : Nat → Nat) (tI tL tII tLL : ClassId) (thr : Int32) (sts : Int32) (wgt : Nat → Int32) (rwd : Nat → Int32) (up : Int64) (dn : Int64) (cel : Nat → Int64) (rig : Nat → Int64) (sum : Nat → Int64) (gp : Nat → Int32) (bst : Nat → Int32) (few : Int32) (p1 : Int32) (p2 : Int32) (R_cel : Nat → Int64) (R_rig : Nat → Int64) (hR : some (R_cel, R_rig) = f_M_layOdds sts wgt cel rig p1 p2) : Met l yX7_layOdds W_M_layOdds RM_f_M_layOdds (rwP (dC, dI) vwCl [(tI, .int), (tL, .long), (tII, .array .int), (tLL, .array .long)] (wM ad tI tL tII tLL thr sts wgt rwd up dn cel rig sum gp bst few) ([.ref (ad 0), .int p1, .int p2] : List Value)) (rwQ (dC, dI) vwCl (wM ad tI tL tII tLL thr sts wgt rwd up dn R_cel R_rig sum gp bst few) none (rwA (wM ad tI tL tII tLL thr sts wgt rwd up dn cel rig sum gp bst few))) 0 0 (rwA (wM ad tI tL tII tLL thr sts wgt rwd up dn cel rig sum gp bst few)) := by
  refine Met.ofW (cc := cX7_layOdds) (maxL := 5) (ret := none) (by decide) rfl ?_
  intro p e s m args below meth c s₁ B hml hv
  obtain ⟨rfl, hP, hK, hN, hD⟩ := hv
  have hx := B.exec
  have hb := B.bytes
  have hr := B.returns
  have hts := atoms_spec (ws := W_M_layOdds) B.pre
  have ht := fun (w : Cond) (h : w ∈ tblG) => hts w (List.mem_cons_of_mem _ h)
  have hown : s.vm.findClass RX7 = some m.cls := findClass_of_methodNamed B.named
  have hlocks := B.notSynchronized
  have hl := lv_entry ([.ref (ad 0), .int p1, .int p2] : List Value) (n := 5) (Nat.le_of_ble_eq_true rfl)
  rw [lg_entry_eq]
  generalize (lg_sl ([.ref (ad 0), .int p1, .int p2] : List Value) ++ List.replicate (5 - (lg_sl ([.ref (ad 0), .int p1, .int p2] : List Value)).length) Slot.unset).toArray = ls at hl ⊢
  have hl : lv_has ls 5 [(0, .ref (ad 0)), (1, .int p1), (2, .int p2)] := hl
  have hD := hD.own
  have hS : va_S (rwA (wM ad tI tL tII tLL thr sts wgt rwd up dn cel rig sum gp bst few)) s.heap s.heap [] := va_S.rf
  suffices K : ∀ (H : Heap) (locs : List Loc), va_P (dC, dI) vwCl (wM ad tI tL tII tLL thr sts wgt rwd up dn cel rig sum gp bst few) H → va_D (rwA (wM ad tI tL tII tLL thr sts wgt rwd up dn cel rig sum gp bst few)) (wM ad tI tL tII tLL thr sts wgt rwd up dn cel rig sum gp bst few) → va_S (rwA (wM ad tI tL tII tLL thr sts wgt rwd up dn cel rig sum gp bst few)) s.heap H locs → W p l e (headSpec W_M_layOdds RM_f_M_layOdds).room s m ([.ref (ad 0), .int p1, .int p2] : List Value).toArray below meth c H locs 0 0 (MQ below (rwQ (dC, dI) vwCl (wM ad tI tL tII tLL thr sts wgt rwd up dn R_cel R_rig sum gp bst few) none (rwA (wM ad tI tL tII tLL thr sts wgt rwd up dn cel rig sum gp bst few))) ([.ref (ad 0), .int p1, .int p2] : List Value).toArray s 0 0 (rwA (wM ad tI tL tII tLL thr sts wgt rwd up dn cel rig sum gp bst few))) (F0 m 0 ls []) from K s.heap [] hP hD hS
  clear hP hD hS
  intro H locs hP hD hS
  rw [f_M_layOdds] at hR
  refine lv_aload_n hx hb dX7_layOdds_0 rfl (lv_at hl 0 rfl) ?_
  refine lv_iload_n hx hb dX7_layOdds_1 rfl (lv_at hl 1 rfl) ?_
  refine lv_iload_n hx hb dX7_layOdds_2 rfl (lv_at hl 1 rfl) ?_
  refine lv_iload_n hx hb dX7_layOdds_3 rfl (lv_at hl 2 rfl) ?_
  refine lv_ior hx hb dX7_layOdds_4 ?_
  obtain ⟨r1, hC, hR⟩ := ob hR
  try dsimp only at hR
  refine ro_calli (va_runV (As := [.int p1, .int (p1 ||| p2)]) (rest := []) ⟨hx, hb, hml, hown, ht⟩ (c_M_whence l dC dI ad tI tL tII tLL thr sts wgt rwd up dn cel rig sum gp bst few p1 (p1 ||| p2) r1 hC.symm) ⟨callB_of 2 ht (goodG k_230) rfl rfl rfl (ht _ k_202) (ht _ k_231) (by decide +kernel) ⟨Nat.le_of_ble_eq_true rfl, Nat.le_of_ble_eq_true rfl⟩, (ht _ k_233), (ht _ k_232)⟩ (pre_v hK hN hP (q0 := 0) (ci := 7) rfl rfl) rfl rfl hl.1 rfl (lv_room (Nat.le_of_ble_eq_true rfl)) dX7_layOdds_5 ⟨Nat.zero_le _, Nat.zero_le _⟩) ?_
  refine lv_iload_n hx hb dX7_layOdds_8 rfl (lv_at hl 2 rfl) ?_
  refine lv_iconst (v := (-1)) hx hb dX7_layOdds_9 (by decide) ?_
  refine lv_ixor hx hb dX7_layOdds_10 ?_
  refine lv_iand hx hb dX7_layOdds_11 ?_
  refine lv_istore_n (lv' := [(3, .int (r1 &&& (p2 ^^^ (-1 : Int32)))), (0, .ref (ad 0)), (1, .int p1), (2, .int p2)]) hx hb dX7_layOdds_12 rfl hl (by decide) rfl (fun ls hl => ?_)
  refine lv_iconst (v := 0) hx hb dX7_layOdds_13 (by decide) ?_
  refine lv_istore (lv' := [(4, .int (0 : Int32)), (3, .int (r1 &&& (p2 ^^^ (-1 : Int32)))), (0, .ref (ad 0)), (1, .int p1), (2, .int p2)]) hx hb dX7_layOdds_14 hl (by decide) rfl (fun ls hl => ?_)
  have L16_25 : ∀ (y3_2 : Int32), ∀ (n : Nat) (x4_3 : Int32) (cel_4 : Nat → Int64) (rig_5 : Nat → Int64), ∀ (o_x4_3 : Int32) (o_cel_4 : Nat → Int64) (o_rig_5 : Nat → Int64), some (o_x4_3, o_cel_4, o_rig_5) = f_M_layOdds_L16 sts wgt p1 y3_2 n x4_3 cel_4 rig_5 → (∀ (H : Heap) (locs : List Loc), va_P (dC, dI) vwCl (wM ad tI tL tII tLL thr sts wgt rwd up dn o_cel_4 o_rig_5 sum gp bst few) H → va_D (rwA (wM ad tI tL tII tLL thr sts wgt rwd up dn cel rig sum gp bst few)) (wM ad tI tL tII tLL thr sts wgt rwd up dn o_cel_4 o_rig_5 sum gp bst few) → va_S (rwA (wM ad tI tL tII tLL thr sts wgt rwd up dn cel rig sum gp bst few)) s.heap H locs → ∀ ls : Array Slot, lv_has ls 5 [(0, .ref (ad 0)), (1, .int p1), (3, .int y3_2), (4, .int o_x4_3)] → W p l e (headSpec W_M_layOdds RM_f_M_layOdds).room s m ([.ref (ad 0), .int p1, .int p2] : List Value).toArray below meth c H locs 0 0 (MQ below (rwQ (dC, dI) vwCl (wM ad tI tL tII tLL thr sts wgt rwd up dn R_cel R_rig sum gp bst few) none (rwA (wM ad tI tL tII tLL thr sts wgt rwd up dn cel rig sum gp bst few))) ([.ref (ad 0), .int p1, .int p2] : List Value).toArray s 0 0 (rwA (wM ad tI tL tII tLL thr sts wgt rwd up dn cel rig sum gp bst few))) (F0 m 79 ls [])) → ∀ (H : Heap) (locs : List Loc), va_P (dC, dI) vwCl (wM ad tI tL tII tLL thr sts wgt rwd up dn cel_4 rig_5 sum gp bst few) H → va_D (rwA (wM ad tI tL tII tLL thr sts wgt rwd up dn cel rig sum gp bst few)) (wM ad tI tL tII tLL thr sts wgt rwd up dn cel_4 rig_5 sum gp bst few) → va_S (rwA (wM ad tI tL tII tLL thr sts wgt rwd up dn cel rig sum gp bst few)) s.heap H locs → ∀ ls : Array Slot, lv_has ls 5 [(0, .ref (ad 0)), (1, .int p1), (3, .int y3_2), (4, .int x4_3)] → W p l e (headSpec W_M_layOdds RM_f_M_layOdds).room s m ([.ref (ad 0), .int p1, .int p2] : List Value).toArray below meth c H locs 0 0 (MQ below (rwQ (dC, dI) vwCl (wM ad tI tL tII tLL thr sts wgt rwd up dn R_cel R_rig sum gp bst few) none (rwA (wM ad tI tL tII tLL thr sts wgt rwd up dn cel rig sum gp bst few))) ([.ref (ad 0), .int p1, .int p2] : List Value).toArray s 0 0 (rwA (wM ad tI tL tII tLL thr sts wgt rwd up dn cel rig sum gp bst few))) (F0 m 16 ls []) := by
    intro y3_2
    intro n
    induction n with
    | zero =>
      intro x4_3 cel_4 rig_5 o_x4_3 o_cel_4 o_rig_5 hR
      cases (show some _ = none from hR)
    | succ n ih =>
      intro x4_3 cel_4 rig_5 o_x4_3 o_cel_4 o_rig_5 hR hk H locs hP hD hS ls hl
      rw [f_M_layOdds_L16_s] at hR
      obtain ⟨y, hR, hQ⟩ := ob hR
      replace hR := hR.symm
      rw [f_M_layOdds_B16] at hR
      refine lv_iload hx hb dX7_layOdds_16 (lv_at hl 3 rfl) ?_
      refine lv_aload_n hx hb dX7_layOdds_18 rfl (lv_at hl 0 rfl) ?_
      refine va_get (D := (dC, dI)) (ci := 7) (v := .int sts) (C := RX7) (T := TX7) (N := 12) hx hb ht hinX7 hown hK hP 0 rfl rfl 1 (by decide) (ht _ k_205) (fun _ h9 => h9) rfl dX7_layOdds_19 ?_
      refine lv_icmp_ge (tgt := 79) hx hb dX7_layOdds_22 (by decide) (fun c6 => ?_) (fun c6 => ?_)
      · replace hR := it_p c6 hR
        cases hR
        cases (show some _ = some _ from hQ)
        exact hk H locs hP hD hS ls (lv_sub hl [0, 1, 2, 3] rfl)
      · replace hR := it_n c6 hR
        refine lv_iload_n hx hb dX7_layOdds_25 rfl (lv_at hl 1 rfl) ?_
        refine lv_iload hx hb dX7_layOdds_26 (lv_at hl 3 rfl) ?_
        obtain ⟨r7, hC, hR⟩ := ob hR
        try dsimp only at hR
        refine ro_calli (va_runS (As := [.int p1, .int x4_3]) (rest := []) ⟨hx, hb, hml, hown, ht⟩ (c_M_has l dC dI ad tI tL tII tLL  p1 x4_3 r7 hC.symm) ⟨callB_of 2 ht (goodG k_201) rfl rfl rfl (ht _ k_202) (ht _ k_203) (by decide +kernel) ⟨Nat.le_of_ble_eq_true rfl, Nat.le_of_ble_eq_true rfl⟩, (ht _ k_204)⟩ (pre_s hK hN (hP.sub (ws' := []) [] rfl)) rfl rfl hl.1 rfl (lv_room (Nat.le_of_ble_eq_true rfl)) dX7_layOdds_28 ⟨Nat.zero_le _, Nat.zero_le _⟩) ?_
        refine lv_if_ne (tgt := 43) hx hb dX7_layOdds_31 (by decide) (fun c8 => ?_) (fun c8 => ?_)
        · replace hR := it_n c8 hR
          refine lv_aload_n hx hb dX7_layOdds_43 rfl (lv_at hl 0 rfl) ?_
          refine lv_iload hx hb dX7_layOdds_44 (lv_at hl 3 rfl) ?_
          refine lv_iload_n hx hb dX7_layOdds_46 rfl (lv_at hl 1 rfl) ?_
          refine lv_iload hx hb dX7_layOdds_47 (lv_at hl 3 rfl) ?_
          obtain ⟨r9, hC, hR⟩ := ob hR
          try dsimp only at hR
          refine ro_calli (va_runS (As := [.int p1, .int x4_3]) (rest := [.int x4_3, .ref (ad 0)]) ⟨hx, hb, hml, hown, ht⟩ (c_M_has l dC dI ad tI tL tII tLL  p1 x4_3 r9 hC.symm) ⟨callB_of 2 ht (goodG k_201) rfl rfl rfl (ht _ k_202) (ht _ k_203) (by decide +kernel) ⟨Nat.le_of_ble_eq_true rfl, Nat.le_of_ble_eq_true rfl⟩, (ht _ k_204)⟩ (pre_s hK hN (hP.sub (ws' := []) [] rfl)) rfl rfl hl.1 rfl (lv_room (Nat.le_of_ble_eq_true rfl)) dX7_layOdds_49 ⟨Nat.zero_le _, Nat.zero_le _⟩) ?_
          obtain ⟨j10, hJ, hR⟩ := ob hR
          try dsimp only at hR
          suffices hk11 : ∀ (H : Heap) (locs : List Loc), va_P (dC, dI) vwCl (wM ad tI tL tII tLL thr sts wgt rwd up dn cel_4 rig_5 sum gp bst few) H → va_D (rwA (wM ad tI tL tII tLL thr sts wgt rwd up dn cel rig sum gp bst few)) (wM ad tI tL tII tLL thr sts wgt rwd up dn cel_4 rig_5 sum gp bst few) → va_S (rwA (wM ad tI tL tII tLL thr sts wgt rwd up dn cel rig sum gp bst few)) s.heap H locs → ∀ ls : Array Slot, lv_has ls 5 [(0, .ref (ad 0)), (1, .int p1), (3, .int y3_2), (4, .int x4_3)] → W p l e (headSpec W_M_layOdds RM_f_M_layOdds).room s m ([.ref (ad 0), .int p1, .int p2] : List Value).toArray below meth c H locs 0 0 (MQ below (rwQ (dC, dI) vwCl (wM ad tI tL tII tLL thr sts wgt rwd up dn R_cel R_rig sum gp bst few) none (rwA (wM ad tI tL tII tLL thr sts wgt rwd up dn cel rig sum gp bst few))) ([.ref (ad 0), .int p1, .int p2] : List Value).toArray s 0 0 (rwA (wM ad tI tL tII tLL thr sts wgt rwd up dn cel rig sum gp bst few))) (F0 m 60 ls [.long j10, .int x4_3, .ref (ad 0)]) by
            have hR := hJ.symm
            refine lv_if_eq (tgt := 59) hx hb dX7_layOdds_52 (by decide) (fun c12 => ?_) (fun c12 => ?_)
            · replace hR := it_p c12 hR
              refine lv_lconst (v := 0) hx hb dX7_layOdds_59 (by decide) ?_
              cases hR
              exact hk11 H locs hP hD hS ls (lv_sub hl [0, 1, 2, 3] rfl)
            · replace hR := it_n c12 hR
              refine lv_lconst (v := 1) hx hb dX7_layOdds_55 (by decide) ?_
              refine lv_goto (tgt := 60) hx hb dX7_layOdds_56 (by decide) ?_
              cases hR
              exact hk11 H locs hP hD hS ls (lv_sub hl [0, 1, 2, 3] rfl)
          intro H locs hP hD hS ls hl
          obtain ⟨⟨cel_13, rig_14⟩, hC, hR⟩ := ob hR
          try dsimp only at hR
          refine rw_callv (va_runV (As := [.int x4_3, .long j10]) (rest := []) ⟨hx, hb, hml, hown, ht⟩ (c_M_fix l dC dI ad tI tL tII tLL thr sts wgt rwd up dn cel_4 rig_5 sum gp bst few x4_3 j10 cel_13 rig_14 hC.symm) ⟨callB_of 2 ht (goodG k_263) rfl rfl rfl (ht _ k_202) (ht _ k_264) (by decide +kernel) ⟨Nat.le_of_ble_eq_true rfl, Nat.le_of_ble_eq_true rfl⟩, (ht _ k_266), (ht _ k_265)⟩ (pre_vw hK hN hP hD (q0 := 0) (ci := 7) rfl rfl) rfl rfl hl.1 rfl (lv_room (Nat.le_of_ble_eq_true rfl)) dX7_layOdds_60 ⟨Nat.zero_le _, Nat.zero_le _⟩) hD hS rfl (fun H locs hP hD hS => ?_)
          have hP : va_P (dC, dI) vwCl (wM ad tI tL tII tLL thr sts wgt rwd up dn cel_13 rig_14 sum gp bst few) H := hP
          have hD : va_D (rwA (wM ad tI tL tII tLL thr sts wgt rwd up dn cel rig sum gp bst few)) (wM ad tI tL tII tLL thr sts wgt rwd up dn cel_13 rig_14 sum gp bst few) := hD
          refine lv_goto (tgt := 73) hx hb dX7_layOdds_63 (by decide) ?_
          refine lv_iinc (v := (x4_3 + 1)) (lv' := [(4, .int (x4_3 + 1)), (0, .ref (ad 0)), (1, .int p1), (3, .int y3_2)]) hx hb dX7_layOdds_73 hl (k := 3) rfl rfl (by decide) rfl (fun ls hl => ?_)
          refine lv_goto (tgt := 16) hx hb dX7_layOdds_76 (by decide) ?_
          cases hR
          exact ih (x4_3 + 1) cel_13 rig_14 o_x4_3 o_cel_4 o_rig_5 hQ hk H locs hP hD hS ls (lv_sub hl [1, 2, 3, 0] rfl)
        · replace hR := it_p c8 hR
          refine lv_iload_n hx hb dX7_layOdds_34 rfl (lv_at hl 2 rfl) ?_
          refine lv_iload hx hb dX7_layOdds_35 (lv_at hl 3 rfl) ?_
          obtain ⟨r15, hC, hR⟩ := ob hR
          try dsimp only at hR
          refine ro_calli (va_runS (As := [.int y3_2, .int x4_3]) (rest := []) ⟨hx, hb, hml, hown, ht⟩ (c_M_has l dC dI ad tI tL tII tLL  y3_2 x4_3 r15 hC.symm) ⟨callB_of 2 ht (goodG k_201) rfl rfl rfl (ht _ k_202) (ht _ k_203) (by decide +kernel) ⟨Nat.le_of_ble_eq_true rfl, Nat.le_of_ble_eq_true rfl⟩, (ht _ k_204)⟩ (pre_s hK hN (hP.sub (ws' := []) [] rfl)) rfl rfl hl.1 rfl (lv_room (Nat.le_of_ble_eq_true rfl)) dX7_layOdds_37 ⟨Nat.zero_le _, Nat.zero_le _⟩) ?_
          refine lv_if_ne (tgt := 66) hx hb dX7_layOdds_40 (by decide) (fun c16 => ?_) (fun c16 => ?_)
          · replace hR := it_n c16 hR
            refine lv_aload_n hx hb dX7_layOdds_66 rfl (lv_at hl 0 rfl) ?_
            refine lv_iload hx hb dX7_layOdds_67 (lv_at hl 3 rfl) ?_
            refine lv_lconst (v := 0) hx hb dX7_layOdds_69 (by decide) ?_
            obtain ⟨⟨cel_17, rig_18⟩, hC, hR⟩ := ob hR
            try dsimp only at hR
            refine rw_callv (va_runV (As := [.int x4_3, .long (0 : Int64)]) (rest := []) ⟨hx, hb, hml, hown, ht⟩ (c_M_lay l dC dI ad tI tL tII tLL thr sts wgt rwd up dn cel_4 rig_5 sum gp bst few x4_3 (0 : Int64) cel_17 rig_18 hC.symm) ⟨callB_of 2 ht (goodG k_267) rfl rfl rfl (ht _ k_202) (ht _ k_268) (by decide +kernel) ⟨Nat.le_of_ble_eq_true rfl, Nat.le_of_ble_eq_true rfl⟩, (ht _ k_270), (ht _ k_269)⟩ (pre_vw hK hN hP hD (q0 := 0) (ci := 7) rfl rfl) rfl rfl hl.1 rfl (lv_room (Nat.le_of_ble_eq_true rfl)) dX7_layOdds_70 ⟨Nat.zero_le _, Nat.zero_le _⟩) hD hS rfl (fun H locs hP hD hS => ?_)
            have hP : va_P (dC, dI) vwCl (wM ad tI tL tII tLL thr sts wgt rwd up dn cel_17 rig_18 sum gp bst few) H := hP
            have hD : va_D (rwA (wM ad tI tL tII tLL thr sts wgt rwd up dn cel rig sum gp bst few)) (wM ad tI tL tII tLL thr sts wgt rwd up dn cel_17 rig_18 sum gp bst few) := hD
            refine lv_iinc (v := (x4_3 + 1)) (lv' := [(4, .int (x4_3 + 1)), (0, .ref (ad 0)), (1, .int p1), (3, .int y3_2)]) hx hb dX7_layOdds_73 hl (k := 3) rfl rfl (by decide) rfl (fun ls hl => ?_)
            refine lv_goto (tgt := 16) hx hb dX7_layOdds_76 (by decide) ?_
            cases hR
            exact ih (x4_3 + 1) cel_17 rig_18 o_x4_3 o_cel_4 o_rig_5 hQ hk H locs hP hD hS ls (lv_sub hl [1, 2, 3, 0] rfl)
          · replace hR := it_p c16 hR
            refine lv_aload_n hx hb dX7_layOdds_43 rfl (lv_at hl 0 rfl) ?_
            refine lv_iload hx hb dX7_layOdds_44 (lv_at hl 3 rfl) ?_
            refine lv_iload_n hx hb dX7_layOdds_46 rfl (lv_at hl 1 rfl) ?_
            refine lv_iload hx hb dX7_layOdds_47 (lv_at hl 3 rfl) ?_
            obtain ⟨r19, hC, hR⟩ := ob hR
            try dsimp only at hR
            refine ro_calli (va_runS (As := [.int p1, .int x4_3]) (rest := [.int x4_3, .ref (ad 0)]) ⟨hx, hb, hml, hown, ht⟩ (c_M_has l dC dI ad tI tL tII tLL  p1 x4_3 r19 hC.symm) ⟨callB_of 2 ht (goodG k_201) rfl rfl rfl (ht _ k_202) (ht _ k_203) (by decide +kernel) ⟨Nat.le_of_ble_eq_true rfl, Nat.le_of_ble_eq_true rfl⟩, (ht _ k_204)⟩ (pre_s hK hN (hP.sub (ws' := []) [] rfl)) rfl rfl hl.1 rfl (lv_room (Nat.le_of_ble_eq_true rfl)) dX7_layOdds_49 ⟨Nat.zero_le _, Nat.zero_le _⟩) ?_
            obtain ⟨j20, hJ, hR⟩ := ob hR
            try dsimp only at hR
            suffices hk21 : ∀ (H : Heap) (locs : List Loc), va_P (dC, dI) vwCl (wM ad tI tL tII tLL thr sts wgt rwd up dn cel_4 rig_5 sum gp bst few) H → va_D (rwA (wM ad tI tL tII tLL thr sts wgt rwd up dn cel rig sum gp bst few)) (wM ad tI tL tII tLL thr sts wgt rwd up dn cel_4 rig_5 sum gp bst few) → va_S (rwA (wM ad tI tL tII tLL thr sts wgt rwd up dn cel rig sum gp bst few)) s.heap H locs → ∀ ls : Array Slot, lv_has ls 5 [(0, .ref (ad 0)), (1, .int p1), (3, .int y3_2), (4, .int x4_3)] → W p l e (headSpec W_M_layOdds RM_f_M_layOdds).room s m ([.ref (ad 0), .int p1, .int p2] : List Value).toArray below meth c H locs 0 0 (MQ below (rwQ (dC, dI) vwCl (wM ad tI tL tII tLL thr sts wgt rwd up dn R_cel R_rig sum gp bst few) none (rwA (wM ad tI tL tII tLL thr sts wgt rwd up dn cel rig sum gp bst few))) ([.ref (ad 0), .int p1, .int p2] : List Value).toArray s 0 0 (rwA (wM ad tI tL tII tLL thr sts wgt rwd up dn cel rig sum gp bst few))) (F0 m 60 ls [.long j20, .int x4_3, .ref (ad 0)]) by
              have hR := hJ.symm
              refine lv_if_eq (tgt := 59) hx hb dX7_layOdds_52 (by decide) (fun c22 => ?_) (fun c22 => ?_)
              · replace hR := it_p c22 hR
                refine lv_lconst (v := 0) hx hb dX7_layOdds_59 (by decide) ?_
                cases hR
                exact hk21 H locs hP hD hS ls (lv_sub hl [0, 1, 2, 3] rfl)
              · replace hR := it_n c22 hR
                refine lv_lconst (v := 1) hx hb dX7_layOdds_55 (by decide) ?_
                refine lv_goto (tgt := 60) hx hb dX7_layOdds_56 (by decide) ?_
                cases hR
                exact hk21 H locs hP hD hS ls (lv_sub hl [0, 1, 2, 3] rfl)
            intro H locs hP hD hS ls hl
            obtain ⟨⟨cel_23, rig_24⟩, hC, hR⟩ := ob hR
            try dsimp only at hR
            refine rw_callv (va_runV (As := [.int x4_3, .long j20]) (rest := []) ⟨hx, hb, hml, hown, ht⟩ (c_M_fix l dC dI ad tI tL tII tLL thr sts wgt rwd up dn cel_4 rig_5 sum gp bst few x4_3 j20 cel_23 rig_24 hC.symm) ⟨callB_of 2 ht (goodG k_263) rfl rfl rfl (ht _ k_202) (ht _ k_264) (by decide +kernel) ⟨Nat.le_of_ble_eq_true rfl, Nat.le_of_ble_eq_true rfl⟩, (ht _ k_266), (ht _ k_265)⟩ (pre_vw hK hN hP hD (q0 := 0) (ci := 7) rfl rfl) rfl rfl hl.1 rfl (lv_room (Nat.le_of_ble_eq_true rfl)) dX7_layOdds_60 ⟨Nat.zero_le _, Nat.zero_le _⟩) hD hS rfl (fun H locs hP hD hS => ?_)
            have hP : va_P (dC, dI) vwCl (wM ad tI tL tII tLL thr sts wgt rwd up dn cel_23 rig_24 sum gp bst few) H := hP
            have hD : va_D (rwA (wM ad tI tL tII tLL thr sts wgt rwd up dn cel rig sum gp bst few)) (wM ad tI tL tII tLL thr sts wgt rwd up dn cel_23 rig_24 sum gp bst few) := hD
            refine lv_goto (tgt := 73) hx hb dX7_layOdds_63 (by decide) ?_
            refine lv_iinc (v := (x4_3 + 1)) (lv' := [(4, .int (x4_3 + 1)), (0, .ref (ad 0)), (1, .int p1), (3, .int y3_2)]) hx hb dX7_layOdds_73 hl (k := 3) rfl rfl (by decide) rfl (fun ls hl => ?_)
            refine lv_goto (tgt := 16) hx hb dX7_layOdds_76 (by decide) ?_
            cases hR
            exact ih (x4_3 + 1) cel_23 rig_24 o_x4_3 o_cel_4 o_rig_5 hQ hk H locs hP hD hS ls (lv_sub hl [1, 2, 3, 0] rfl)
  obtain ⟨⟨u26, u27, u28⟩, hL, hR⟩ := ob hR
  try dsimp only at hR
  refine L16_25 (r1 &&& (p2 ^^^ (-1 : Int32))) 300 (0 : Int32) cel rig u26 u27 u28 hL.symm (fun H locs hP hD hS ls hl => ?_) H locs hP hD hS ls (lv_sub hl [2, 3, 1, 0] rfl)
  cases hR
  exact W.vret hx hb hr (fun t ht _ => ⟨rfl, by rw [ht]; exact hP, hS.F ht⟩) hS.2.2 dX7_layOdds_79
abbrev RM_f_M_ever : Room := { frames := 4, cells := 0, slots := 0, locals := 97 }
abbrev W_M_ever : List Cond := .code yX7_ever cX7_ever 3 (some .int) :: tblG
set_option maxHeartbeats 4000000 in
set_option maxRecDepth 100000 in
theorem c_M_ever (l : Launch) (dC : Nat → ClassId) (dI : Nat → Nat → Nat) (ad : Nat → Nat) (tI tL tII tLL : ClassId) (thr : Int32) (sts : Int32) (wgt : Nat → Int32) (rwd : Nat → Int32) (up : Int64) (dn : Int64) (cel : Nat → Int64) (rig : Nat → Int64) (sum : Nat → Int64) (gp : Nat → Int32) (bst : Nat → Int32) (few : Int32) (p1 : Int32) (p2 : Int32) (R0 : Int32) (R_thr : Int32) (R_up : Int64) (R_dn : Int64) (R_cel : Nat → Int64) (R_rig : Nat → Int64) (R_sum : Nat → Int64) (hR : some (R0, R_thr, R_up, R_dn, R_cel, R_rig, R_sum) = f_M_ever sts wgt up dn cel rig sum p1 p2) : Met l yX7_ever W_M_ever RM_f_M_ever (rwP (dC, dI) vwCl [(tI, .int), (tL, .long), (tII, .array .int), (tLL, .array .long)] (wM ad tI tL tII tLL thr sts wgt rwd up dn cel rig sum gp bst few) ([.ref (ad 0), .int p1, .int p2] : List Value)) (rwQ (dC, dI) vwCl (wM ad tI tL tII tLL R_thr sts wgt rwd R_up R_dn R_cel R_rig R_sum gp bst few) (some (.int R0)) (rwA (wM ad tI tL tII tLL thr sts wgt rwd up dn cel rig sum gp bst few))) 0 0 (rwA (wM ad tI tL tII tLL thr sts wgt rwd up dn cel rig sum gp bst few)) := by
  refine Met.ofW (cc := cX7_ever) (maxL := 3) (ret := (some .int)) (by decide) rfl ?_
  intro p e s m args below meth c s₁ B hml hv
  obtain ⟨rfl, hP, hK, hN, hD⟩ := hv
  have hx := B.exec
  have hb := B.bytes
  have hr := B.returns
  have hts := atoms_spec (ws := W_M_ever) B.pre
  have ht := fun (w : Cond) (h : w ∈ tblG) => hts w (List.mem_cons_of_mem _ h)
  have hown : s.vm.findClass RX7 = some m.cls := findClass_of_methodNamed B.named
  have hlocks := B.notSynchronized
  have hl := lv_entry ([.ref (ad 0), .int p1, .int p2] : List Value) (n := 3) (Nat.le_of_ble_eq_true rfl)
  rw [lg_entry_eq]
  generalize (lg_sl ([.ref (ad 0), .int p1, .int p2] : List Value) ++ List.replicate (3 - (lg_sl ([.ref (ad 0), .int p1, .int p2] : List Value)).length) Slot.unset).toArray = ls at hl ⊢
  have hl : lv_has ls 3 [(0, .ref (ad 0)), (1, .int p1), (2, .int p2)] := hl
  have hD := hD.own
  have hS : va_S (rwA (wM ad tI tL tII tLL thr sts wgt rwd up dn cel rig sum gp bst few)) s.heap s.heap [] := va_S.rf
  suffices K : ∀ (H : Heap) (locs : List Loc), va_P (dC, dI) vwCl (wM ad tI tL tII tLL thr sts wgt rwd up dn cel rig sum gp bst few) H → va_D (rwA (wM ad tI tL tII tLL thr sts wgt rwd up dn cel rig sum gp bst few)) (wM ad tI tL tII tLL thr sts wgt rwd up dn cel rig sum gp bst few) → va_S (rwA (wM ad tI tL tII tLL thr sts wgt rwd up dn cel rig sum gp bst few)) s.heap H locs → W p l e (headSpec W_M_ever RM_f_M_ever).room s m ([.ref (ad 0), .int p1, .int p2] : List Value).toArray below meth c H locs 0 0 (MQ below (rwQ (dC, dI) vwCl (wM ad tI tL tII tLL R_thr sts wgt rwd R_up R_dn R_cel R_rig R_sum gp bst few) (some (.int R0)) (rwA (wM ad tI tL tII tLL thr sts wgt rwd up dn cel rig sum gp bst few))) ([.ref (ad 0), .int p1, .int p2] : List Value).toArray s 0 0 (rwA (wM ad tI tL tII tLL thr sts wgt rwd up dn cel rig sum gp bst few))) (F0 m 0 ls []) from K s.heap [] hP hD hS
  clear hP hD hS
  intro H locs hP hD hS
  rw [f_M_ever] at hR
  refine lv_aload_n hx hb dX7_ever_0 rfl (lv_at hl 0 rfl) ?_
  refine lv_iconst (v := 0) hx hb dX7_ever_1 (by decide) ?_
  refine va_put (D := (dC, dI)) (ci := 7) (v := .int (0 : Int32)) (ty := .int) (C := RX7) (T := TX7) (N := 12) hx hb ht hinX7 tyX7 tyX7_ok nmX7 hown hK hP hD hS 0 rfl rfl 0 (by decide) (ht _ k_220) (fun _ h9 => h9) rfl (by decide +kernel) rfl rfl (Nat.le_of_ble_eq_true rfl) dX7_ever_2 (fun H locs hP hD hS => ?_)
  have hP : va_P (dC, dI) vwCl (wM ad tI tL tII tLL (0 : Int32) sts wgt rwd up dn cel rig sum gp bst few) H := hP
  have hD : va_D (rwA (wM ad tI tL tII tLL thr sts wgt rwd up dn cel rig sum gp bst few)) (wM ad tI tL tII tLL (0 : Int32) sts wgt rwd up dn cel rig sum gp bst few) := hD
  refine lv_aload_n hx hb dX7_ever_5 rfl (lv_at hl 0 rfl) ?_
  refine lv_iload_n hx hb dX7_ever_6 rfl (lv_at hl 1 rfl) ?_
  obtain ⟨r1, hC, hR⟩ := ob hR
  try dsimp only at hR
  refine ro_calli (va_runV (As := [.int p1]) (rest := []) ⟨hx, hb, hml, hown, ht⟩ (c_M_isState l dC dI ad tI tL tII tLL (0 : Int32) sts wgt rwd up dn cel rig sum gp bst few p1 r1 hC.symm) ⟨callB_of 1 ht (goodG k_222) rfl rfl rfl (ht _ k_202) (ht _ k_223) (by decide +kernel) ⟨Nat.le_of_ble_eq_true rfl, Nat.le_of_ble_eq_true rfl⟩, (ht _ k_225), (ht _ k_224)⟩ (pre_v hK hN hP (q0 := 0) (ci := 7) rfl rfl) rfl rfl hl.1 rfl (lv_room (Nat.le_of_ble_eq_true rfl)) dX7_ever_7 ⟨Nat.zero_le _, Nat.zero_le _⟩) ?_
  refine lv_if_eq (tgt := 21) hx hb dX7_ever_10 (by decide) (fun c2 => ?_) (fun c2 => ?_)
  · replace hR := it_p c2 hR
    refine lv_iconst (v := (-1)) hx hb dX7_ever_21 (by decide) ?_
    cases hR
    exact W.iret hx hb hr (fun t ht _ => ⟨rfl, by rw [ht]; exact hP, hS.F ht⟩) hS.2.2 dX7_ever_22
  · replace hR := it_n c2 hR
    refine lv_aload_n hx hb dX7_ever_13 rfl (lv_at hl 0 rfl) ?_
    refine lv_iload_n hx hb dX7_ever_14 rfl (lv_at hl 2 rfl) ?_
    obtain ⟨r3, hC, hR⟩ := ob hR
    try dsimp only at hR
    refine ro_calli (va_runV (As := [.int p2]) (rest := []) ⟨hx, hb, hml, hown, ht⟩ (c_M_isState l dC dI ad tI tL tII tLL (0 : Int32) sts wgt rwd up dn cel rig sum gp bst few p2 r3 hC.symm) ⟨callB_of 1 ht (goodG k_222) rfl rfl rfl (ht _ k_202) (ht _ k_223) (by decide +kernel) ⟨Nat.le_of_ble_eq_true rfl, Nat.le_of_ble_eq_true rfl⟩, (ht _ k_225), (ht _ k_224)⟩ (pre_v hK hN hP (q0 := 0) (ci := 7) rfl rfl) rfl rfl hl.1 rfl (lv_room (Nat.le_of_ble_eq_true rfl)) dX7_ever_15 ⟨Nat.zero_le _, Nat.zero_le _⟩) ?_
    refine lv_if_ne (tgt := 23) hx hb dX7_ever_18 (by decide) (fun c4 => ?_) (fun c4 => ?_)
    · replace hR := it_n c4 hR
      refine lv_aload_n hx hb dX7_ever_23 rfl (lv_at hl 0 rfl) ?_
      refine lv_iconst (v := 1) hx hb dX7_ever_24 (by decide) ?_
      refine lv_iload_n hx hb dX7_ever_25 rfl (lv_at hl 2 rfl) ?_
      refine lv_ishl hx hb dX7_ever_26 ?_
      refine lv_iconst (v := 0) hx hb dX7_ever_27 (by decide) ?_
      obtain ⟨⟨cel_5, rig_6⟩, hC, hR⟩ := ob hR
      try dsimp only at hR
      refine rw_callv (va_runV (As := [.int ((1 : Int32) <<< (p2 &&& 31)), .int (0 : Int32)]) (rest := []) ⟨hx, hb, hml, hown, ht⟩ (c_M_layOdds l dC dI ad tI tL tII tLL (0 : Int32) sts wgt rwd up dn cel rig sum gp bst few ((1 : Int32) <<< (p2 &&& 31)) (0 : Int32) cel_5 rig_6 hC.symm) ⟨callB_of 2 ht (goodG k_271) rfl rfl rfl (ht _ k_202) (ht _ k_272) (by decide +kernel) ⟨Nat.le_of_ble_eq_true rfl, Nat.le_of_ble_eq_true rfl⟩, (ht _ k_274), (ht _ k_273)⟩ (pre_vw hK hN hP hD (q0 := 0) (ci := 7) rfl rfl) rfl rfl hl.1 rfl (lv_room (Nat.le_of_ble_eq_true rfl)) dX7_ever_28 ⟨Nat.zero_le _, Nat.zero_le _⟩) hD hS rfl (fun H locs hP hD hS => ?_)
      have hP : va_P (dC, dI) vwCl (wM ad tI tL tII tLL (0 : Int32) sts wgt rwd up dn cel_5 rig_6 sum gp bst few) H := hP
      have hD : va_D (rwA (wM ad tI tL tII tLL thr sts wgt rwd up dn cel rig sum gp bst few)) (wM ad tI tL tII tLL (0 : Int32) sts wgt rwd up dn cel_5 rig_6 sum gp bst few) := hD
      refine lv_aload_n hx hb dX7_ever_31 rfl (lv_at hl 0 rfl) ?_
      refine lv_iload_n hx hb dX7_ever_32 rfl (lv_at hl 1 rfl) ?_
      obtain ⟨⟨r7, up_8, dn_9, sum_10⟩, hC, hR⟩ := ob hR
      try dsimp only at hR
      refine rw_calli (va_runV (As := [.int p1]) (rest := []) ⟨hx, hb, hml, hown, ht⟩ (c_M_solved l dC dI ad tI tL tII tLL (0 : Int32) sts wgt rwd up dn cel_5 rig_6 sum gp bst few p1 r7 up_8 dn_9 sum_10 hC.symm) ⟨callB_of 1 ht (goodG k_275) rfl rfl rfl (ht _ k_202) (ht _ k_276) (by decide +kernel) ⟨Nat.le_of_ble_eq_true rfl, Nat.le_of_ble_eq_true rfl⟩, (ht _ k_278), (ht _ k_277)⟩ (pre_vw hK hN hP hD (q0 := 0) (ci := 7) rfl rfl) rfl rfl hl.1 rfl (lv_room (Nat.le_of_ble_eq_true rfl)) dX7_ever_33 ⟨Nat.zero_le _, Nat.zero_le _⟩) hD hS rfl (fun H locs hP hD hS => ?_)
      have hP : va_P (dC, dI) vwCl (wM ad tI tL tII tLL (0 : Int32) sts wgt rwd up_8 dn_9 cel_5 rig_6 sum_10 gp bst few) H := hP
      have hD : va_D (rwA (wM ad tI tL tII tLL thr sts wgt rwd up dn cel rig sum gp bst few)) (wM ad tI tL tII tLL (0 : Int32) sts wgt rwd up_8 dn_9 cel_5 rig_6 sum_10 gp bst few) := hD
      cases hR
      exact W.iret hx hb hr (fun t ht _ => ⟨rfl, by rw [ht]; exact hP, hS.F ht⟩) hS.2.2 dX7_ever_36
    · replace hR := it_p c4 hR
      refine lv_iconst (v := (-1)) hx hb dX7_ever_21 (by decide) ?_
      cases hR
      exact W.iret hx hb hr (fun t ht _ => ⟨rfl, by rw [ht]; exact hP, hS.F ht⟩) hS.2.2 dX7_ever_22
