abbrev RM_f_FirstSteps_gainByReward : Room := { frames := 2, cells := 0, slots := 0, locals := 42 }
abbrev W_FirstSteps_gainByReward : List Cond := .code yX1_gainByReward cX1_gainByReward 2 none :: tblG
set_option maxHeartbeats 4000000 in
set_option maxRecDepth 100000 in
theorem c_FirstSteps_gainByReward (l : Launch) (dC : Nat → ClassId) (dI : Nat → Nat → Nat) (ad : Nat → Nat) (tI tL tII tLL : ClassId) (cnt : Int32) (w : Nat → Nat → Int32) (tot : Nat → Int32) (rew : Nat → Int32) (grp : Nat → Int32) (fin : Nat → Int32) (gns : Nat → Int64) (rst : Nat → Int32) (rws : Nat → Nat → Int64) (last : Int32) (now : Nat → Int64) (nxt : Nat → Int64) (whl : Int64) (au : Int64) (al : Int64) (mu : Int64) (ml : Int64)  (R_gns : Nat → Int64) (hR : some R_gns = f_FirstSteps_gainByReward cnt tot rew gns) : Met l yX1_gainByReward W_FirstSteps_gainByReward RM_f_FirstSteps_gainByReward (rwP (dC, dI) vwCl [(tI, .int), (tL, .long), (tII, .array .int), (tLL, .array .long)] (wC ad tI tL tII tLL cnt w tot rew grp fin gns rst rws last now nxt whl au al mu ml) ([.ref (ad 16)] : List Value)) (rwQ (dC, dI) vwCl (wC ad tI tL tII tLL cnt w tot rew grp fin R_gns rst rws last now nxt whl au al mu ml) none (rwA (wC ad tI tL tII tLL cnt w tot rew grp fin gns rst rws last now nxt whl au al mu ml))) 0 0 (rwA (wC ad tI tL tII tLL cnt w tot rew grp fin gns rst rws last now nxt whl au al mu ml)) := by
  refine Met.ofW (cc := cX1_gainByReward) (maxL := 2) (ret := none) (by decide) rfl ?_
  intro p e s m args below meth c s₁ B hml hv
  obtain ⟨rfl, hP, hK, hN, hD⟩ := hv
  have hx := B.exec
  have hb := B.bytes
  have hr := B.returns
  have hts := atoms_spec (ws := W_FirstSteps_gainByReward) B.pre
  have ht := fun (w : Cond) (h : w ∈ tblG) => hts w (List.mem_cons_of_mem _ h)
  have hown : s.vm.findClass RX1 = some m.cls := findClass_of_methodNamed B.named
  have hlocks := B.notSynchronized
  have hl := lv_entry ([.ref (ad 16)] : List Value) (n := 2) (Nat.le_of_ble_eq_true rfl)
  rw [lg_entry_eq]
  generalize (lg_sl ([.ref (ad 16)] : List Value) ++ List.replicate (2 - (lg_sl ([.ref (ad 16)] : List Value)).length) Slot.unset).toArray = ls at hl ⊢
  have hl : lv_has ls 2 [(0, .ref (ad 16))] := hl
  have hD := hD.own
  have hS : va_S (rwA (wC ad tI tL tII tLL cnt w tot rew grp fin gns rst rws last now nxt whl au al mu ml)) s.heap s.heap [] := va_S.rf
  suffices K : ∀ (H : Heap) (locs : List Loc), va_P (dC, dI) vwCl (wC ad tI tL tII tLL cnt w tot rew grp fin gns rst rws last now nxt whl au al mu ml) H → va_D (rwA (wC ad tI tL tII tLL cnt w tot rew grp fin gns rst rws last now nxt whl au al mu ml)) (wC ad tI tL tII tLL cnt w tot rew grp fin gns rst rws last now nxt whl au al mu ml) → va_S (rwA (wC ad tI tL tII tLL cnt w tot rew grp fin gns rst rws last now nxt whl au al mu ml)) s.heap H locs → W p l e (headSpec W_FirstSteps_gainByReward RM_f_FirstSteps_gainByReward).room s m ([.ref (ad 16)] : List Value).toArray below meth c H locs 0 0 (MQ below (rwQ (dC, dI) vwCl (wC ad tI tL tII tLL cnt w tot rew grp fin R_gns rst rws last now nxt whl au al mu ml) none (rwA (wC ad tI tL tII tLL cnt w tot rew grp fin gns rst rws last now nxt whl au al mu ml))) ([.ref (ad 16)] : List Value).toArray s 0 0 (rwA (wC ad tI tL tII tLL cnt w tot rew grp fin gns rst rws last now nxt whl au al mu ml))) (F0 m 0 ls []) from K s.heap [] hP hD hS
  clear hP hD hS
  intro H locs hP hD hS
  rw [f_FirstSteps_gainByReward] at hR
  refine lv_iconst (v := 0) hx hb dX1_gainByReward_0 (by decide) ?_
  refine lv_istore_n (lv' := [(1, .int (0 : Int32)), (0, .ref (ad 16))]) hx hb dX1_gainByReward_1 rfl hl (by decide) rfl (fun ls hl => ?_)
  have L2_7 : ∀ (n : Nat) (x1_1 : Int32) (gns_2 : Nat → Int64), ∀ (o_x1_1 : Int32) (o_gns_2 : Nat → Int64), some (o_x1_1, o_gns_2) = f_FirstSteps_gainByReward_L2 cnt tot rew n x1_1 gns_2 → (∀ (H : Heap) (locs : List Loc), va_P (dC, dI) vwCl (wC ad tI tL tII tLL cnt w tot rew grp fin o_gns_2 rst rws last now nxt whl au al mu ml) H → va_D (rwA (wC ad tI tL tII tLL cnt w tot rew grp fin gns rst rws last now nxt whl au al mu ml)) (wC ad tI tL tII tLL cnt w tot rew grp fin o_gns_2 rst rws last now nxt whl au al mu ml) → va_S (rwA (wC ad tI tL tII tLL cnt w tot rew grp fin gns rst rws last now nxt whl au al mu ml)) s.heap H locs → ∀ ls : Array Slot, lv_has ls 2 [(0, .ref (ad 16)), (1, .int o_x1_1)] → W p l e (headSpec W_FirstSteps_gainByReward RM_f_FirstSteps_gainByReward).room s m ([.ref (ad 16)] : List Value).toArray below meth c H locs 0 0 (MQ below (rwQ (dC, dI) vwCl (wC ad tI tL tII tLL cnt w tot rew grp fin R_gns rst rws last now nxt whl au al mu ml) none (rwA (wC ad tI tL tII tLL cnt w tot rew grp fin gns rst rws last now nxt whl au al mu ml))) ([.ref (ad 16)] : List Value).toArray s 0 0 (rwA (wC ad tI tL tII tLL cnt w tot rew grp fin gns rst rws last now nxt whl au al mu ml))) (F0 m 45 ls [])) → ∀ (H : Heap) (locs : List Loc), va_P (dC, dI) vwCl (wC ad tI tL tII tLL cnt w tot rew grp fin gns_2 rst rws last now nxt whl au al mu ml) H → va_D (rwA (wC ad tI tL tII tLL cnt w tot rew grp fin gns rst rws last now nxt whl au al mu ml)) (wC ad tI tL tII tLL cnt w tot rew grp fin gns_2 rst rws last now nxt whl au al mu ml) → va_S (rwA (wC ad tI tL tII tLL cnt w tot rew grp fin gns rst rws last now nxt whl au al mu ml)) s.heap H locs → ∀ ls : Array Slot, lv_has ls 2 [(0, .ref (ad 16)), (1, .int x1_1)] → W p l e (headSpec W_FirstSteps_gainByReward RM_f_FirstSteps_gainByReward).room s m ([.ref (ad 16)] : List Value).toArray below meth c H locs 0 0 (MQ below (rwQ (dC, dI) vwCl (wC ad tI tL tII tLL cnt w tot rew grp fin R_gns rst rws last now nxt whl au al mu ml) none (rwA (wC ad tI tL tII tLL cnt w tot rew grp fin gns rst rws last now nxt whl au al mu ml))) ([.ref (ad 16)] : List Value).toArray s 0 0 (rwA (wC ad tI tL tII tLL cnt w tot rew grp fin gns rst rws last now nxt whl au al mu ml))) (F0 m 2 ls []) := by
    intro n
    induction n with
    | zero =>
      intro x1_1 gns_2 o_x1_1 o_gns_2 hR
      cases (show some _ = none from hR)
    | succ n ih =>
      intro x1_1 gns_2 o_x1_1 o_gns_2 hR hk H locs hP hD hS ls hl
      rw [f_FirstSteps_gainByReward_L2_s] at hR
      obtain ⟨y, hR, hQ⟩ := ob hR
      replace hR := hR.symm
      rw [f_FirstSteps_gainByReward_B2] at hR
      refine lv_iload_n hx hb dX1_gainByReward_2 rfl (lv_at hl 1 rfl) ?_
      refine lv_aload_n hx hb dX1_gainByReward_3 rfl (lv_at hl 0 rfl) ?_
      refine va_get (D := (dC, dI)) (ci := 1) (v := .ref (ad 1)) (C := RX1) (T := TX1) (N := 5) hx hb ht hinX1 hown hK hP 16 rfl rfl 0 (by decide) (ht _ k_78) (fun _ h9 => h9) rfl dX1_gainByReward_4 ?_
      refine va_getN (D := (dC, dI)) (ci := 0) (v := .int cnt) (C := RX0) (T := TX0) (N := 4) hx hb ht hinX0 hown hK hP 1 rfl rfl 3 (by decide) (va_Nw.use rfl (nf_6 hN)) (fun _ h9 => h9) rfl dX1_gainByReward_7 ?_
      refine lv_icmp_ge (tgt := 45) hx hb dX1_gainByReward_10 (by decide) (fun c3 => ?_) (fun c3 => ?_)
      · replace hR := it_p c3 hR
        cases hR
        cases (show some _ = some _ from hQ)
        exact hk H locs hP hD hS ls (lv_sub hl [0, 1] rfl)
      · replace hR := it_n c3 hR
        refine lv_aload_n hx hb dX1_gainByReward_13 rfl (lv_at hl 0 rfl) ?_
        refine va_get (D := (dC, dI)) (ci := 1) (v := .ref (ad 17)) (C := RX1) (T := TX1) (N := 5) hx hb ht hinX1 hown hK hP 16 rfl rfl 1 (by decide) (ht _ k_79) (fun _ h9 => h9) rfl dX1_gainByReward_14 ?_
        refine lv_iload_n hx hb dX1_gainByReward_17 rfl (lv_at hl 1 rfl) ?_
        refine lv_aload_n hx hb dX1_gainByReward_18 rfl (lv_at hl 0 rfl) ?_
        refine va_get (D := (dC, dI)) (ci := 1) (v := .ref (ad 1)) (C := RX1) (T := TX1) (N := 5) hx hb ht hinX1 hown hK hP 16 rfl rfl 0 (by decide) (ht _ k_78) (fun _ h9 => h9) rfl dX1_gainByReward_19 ?_
        refine lv_iload_n hx hb dX1_gainByReward_22 rfl (lv_at hl 1 rfl) ?_
        obtain ⟨r4, hC, hR⟩ := ob hR
        try dsimp only at hR
        refine ro_calli (va_runV (As := [.int x1_1]) (rest := [.int x1_1, .ref (ad 17)]) ⟨hx, hb, hml, hown, ht⟩ (c_Chain_pullOfAll l dC dI ad tI tL tII tLL cnt w tot rew grp fin gns_2 rst rws last now nxt whl au al mu ml x1_1 r4 hC.symm) ⟨callB_of 1 ht (goodG k_65) rfl rfl rfl (ht _ k_15) (ht _ k_81) (by decide +kernel) ⟨Nat.le_of_ble_eq_true rfl, Nat.le_of_ble_eq_true rfl⟩, (ht _ k_68), (ht _ k_67)⟩ (pre_v hK hN hP (q0 := 1) (ci := 0) rfl rfl) rfl rfl hl.1 rfl (lv_room (Nat.le_of_ble_eq_true rfl)) dX1_gainByReward_23 ⟨Nat.zero_le _, Nat.zero_le _⟩) ?_
        refine lv_i2l hx hb dX1_gainByReward_26 rfl ?_
        refine lv_aload_n hx hb dX1_gainByReward_27 rfl (lv_at hl 0 rfl) ?_
        refine va_get (D := (dC, dI)) (ci := 1) (v := .ref (ad 1)) (C := RX1) (T := TX1) (N := 5) hx hb ht hinX1 hown hK hP 16 rfl rfl 0 (by decide) (ht _ k_78) (fun _ h9 => h9) rfl dX1_gainByReward_28 ?_
        refine va_getN (D := (dC, dI)) (ci := 0) (v := .ref (ad 11)) (C := RX0) (T := TX0) (N := 4) hx hb ht hinX0 hown hK hP 1 rfl rfl 2 (by decide) (va_Nw.use rfl (nf_3 hN)) (fun _ h9 => h9) rfl dX1_gainByReward_31 ?_
        refine lv_iload_n hx hb dX1_gainByReward_34 rfl (lv_at hl 1 rfl) ?_
        obtain ⟨z5, hR⟩ := og hR
        refine va_iald hx hb hK hP 11 0 rfl rfl (ix_in z5) dX1_gainByReward_35 ?_
        refine lv_i2l hx hb dX1_gainByReward_36 rfl ?_
        refine lv_lmul hx hb dX1_gainByReward_37 ?_
        obtain ⟨z6, hR⟩ := og hR
        refine va_last hx hb hK hP hD hS 17 1 rfl rfl (ix_in z6) dX1_gainByReward_38 (fun H locs hP hD hS => ?_)
        have hP : va_P (dC, dI) vwCl (wC ad tI tL tII tLL cnt w tot rew grp fin (vp_updL gns_2 x1_1.toNatClampNeg ((r4.toInt64) * ((rew x1_1.toNatClampNeg).toInt64))) rst rws last now nxt whl au al mu ml) H := hP
        have hD : va_D (rwA (wC ad tI tL tII tLL cnt w tot rew grp fin gns rst rws last now nxt whl au al mu ml)) (wC ad tI tL tII tLL cnt w tot rew grp fin (vp_updL gns_2 x1_1.toNatClampNeg ((r4.toInt64) * ((rew x1_1.toNatClampNeg).toInt64))) rst rws last now nxt whl au al mu ml) := hD
        refine lv_iinc (v := (x1_1 + 1)) (lv' := [(1, .int (x1_1 + 1)), (0, .ref (ad 16))]) hx hb dX1_gainByReward_39 hl (k := 1) rfl rfl (by decide) rfl (fun ls hl => ?_)
        refine lv_goto (tgt := 2) hx hb dX1_gainByReward_42 (by decide) ?_
        cases hR
        exact ih (x1_1 + 1) (vp_updL gns_2 x1_1.toNatClampNeg ((r4.toInt64) * ((rew x1_1.toNatClampNeg).toInt64))) o_x1_1 o_gns_2 hQ hk H locs hP hD hS ls (lv_sub hl [1, 0] rfl)
  obtain ⟨⟨u8, u9⟩, hL, hR⟩ := ob hR
  try dsimp only at hR
  refine L2_7 300 (0 : Int32) gns u8 u9 hL.symm (fun H locs hP hD hS ls hl => ?_) H locs hP hD hS ls (lv_sub hl [1, 0] rfl)
  cases hR
  exact W.vret hx hb hr (fun t ht _ => ⟨rfl, by rw [ht]; exact hP, hS.F ht⟩) hS.2.2 dX1_gainByReward_45
abbrev RM_f_FirstSteps_writeRow : Room := { frames := 2, cells := 0, slots := 0, locals := 43 }
abbrev W_FirstSteps_writeRow : List Cond := .code yX1_writeRow cX1_writeRow 4 none :: tblG
set_option maxHeartbeats 4000000 in
set_option maxRecDepth 100000 in
theorem c_FirstSteps_writeRow (l : Launch) (dC : Nat → ClassId) (dI : Nat → Nat → Nat) (ad : Nat → Nat) (tI tL tII tLL : ClassId) (cnt : Int32) (w : Nat → Nat → Int32) (tot : Nat → Int32) (rew : Nat → Int32) (grp : Nat → Int32) (fin : Nat → Int32) (gns : Nat → Int64) (rst : Nat → Int32) (rws : Nat → Nat → Int64) (last : Int32) (now : Nat → Int64) (nxt : Nat → Int64) (whl : Int64) (au : Int64) (al : Int64) (mu : Int64) (ml : Int64) (p1 : Int32) (R_rws : Nat → Nat → Int64) (hR : some R_rws = f_FirstSteps_writeRow w tot gns rst rws last p1) : Met l yX1_writeRow W_FirstSteps_writeRow RM_f_FirstSteps_writeRow (rwP (dC, dI) vwCl [(tI, .int), (tL, .long), (tII, .array .int), (tLL, .array .long)] (wC ad tI tL tII tLL cnt w tot rew grp fin gns rst rws last now nxt whl au al mu ml) ([.ref (ad 16), .int p1] : List Value)) (rwQ (dC, dI) vwCl (wC ad tI tL tII tLL cnt w tot rew grp fin gns rst R_rws last now nxt whl au al mu ml) none (rwA (wC ad tI tL tII tLL cnt w tot rew grp fin gns rst rws last now nxt whl au al mu ml))) 0 0 (rwA (wC ad tI tL tII tLL cnt w tot rew grp fin gns rst rws last now nxt whl au al mu ml)) := by
  refine Met.ofW (cc := cX1_writeRow) (maxL := 4) (ret := none) (by decide) rfl ?_
  intro p e s m args below meth c s₁ B hml hv
  obtain ⟨rfl, hP, hK, hN, hD⟩ := hv
  have hx := B.exec
  have hb := B.bytes
  have hr := B.returns
  have hts := atoms_spec (ws := W_FirstSteps_writeRow) B.pre
  have ht := fun (w : Cond) (h : w ∈ tblG) => hts w (List.mem_cons_of_mem _ h)
  have hown : s.vm.findClass RX1 = some m.cls := findClass_of_methodNamed B.named
  have hlocks := B.notSynchronized
  have hl := lv_entry ([.ref (ad 16), .int p1] : List Value) (n := 4) (Nat.le_of_ble_eq_true rfl)
  rw [lg_entry_eq]
  generalize (lg_sl ([.ref (ad 16), .int p1] : List Value) ++ List.replicate (4 - (lg_sl ([.ref (ad 16), .int p1] : List Value)).length) Slot.unset).toArray = ls at hl ⊢
  have hl : lv_has ls 4 [(0, .ref (ad 16)), (1, .int p1)] := hl
  have hD := hD.own
  have hS : va_S (rwA (wC ad tI tL tII tLL cnt w tot rew grp fin gns rst rws last now nxt whl au al mu ml)) s.heap s.heap [] := va_S.rf
  suffices K : ∀ (H : Heap) (locs : List Loc), va_P (dC, dI) vwCl (wC ad tI tL tII tLL cnt w tot rew grp fin gns rst rws last now nxt whl au al mu ml) H → va_D (rwA (wC ad tI tL tII tLL cnt w tot rew grp fin gns rst rws last now nxt whl au al mu ml)) (wC ad tI tL tII tLL cnt w tot rew grp fin gns rst rws last now nxt whl au al mu ml) → va_S (rwA (wC ad tI tL tII tLL cnt w tot rew grp fin gns rst rws last now nxt whl au al mu ml)) s.heap H locs → W p l e (headSpec W_FirstSteps_writeRow RM_f_FirstSteps_writeRow).room s m ([.ref (ad 16), .int p1] : List Value).toArray below meth c H locs 0 0 (MQ below (rwQ (dC, dI) vwCl (wC ad tI tL tII tLL cnt w tot rew grp fin gns rst R_rws last now nxt whl au al mu ml) none (rwA (wC ad tI tL tII tLL cnt w tot rew grp fin gns rst rws last now nxt whl au al mu ml))) ([.ref (ad 16), .int p1] : List Value).toArray s 0 0 (rwA (wC ad tI tL tII tLL cnt w tot rew grp fin gns rst rws last now nxt whl au al mu ml))) (F0 m 0 ls []) from K s.heap [] hP hD hS
  clear hP hD hS
  intro H locs hP hD hS
  rw [f_FirstSteps_writeRow] at hR
  refine lv_aload_n hx hb dX1_writeRow_0 rfl (lv_at hl 0 rfl) ?_
  refine va_get (D := (dC, dI)) (ci := 1) (v := .ref (ad 18)) (C := RX1) (T := TX1) (N := 5) hx hb ht hinX1 hown hK hP 16 rfl rfl 2 (by decide) (ht _ k_82) (fun _ h9 => h9) rfl dX1_writeRow_1 ?_
  refine lv_iload_n hx hb dX1_writeRow_4 rfl (lv_at hl 1 rfl) ?_
  obtain ⟨z1, hR⟩ := og hR
  refine va_iald hx hb hK hP 18 0 rfl rfl (ix_in z1) dX1_writeRow_5 ?_
  refine lv_istore_n (lv' := [(2, .int (rst p1.toNatClampNeg)), (0, .ref (ad 16)), (1, .int p1)]) hx hb dX1_writeRow_6 rfl hl (by decide) rfl (fun ls hl => ?_)
  refine lv_iconst (v := 0) hx hb dX1_writeRow_7 (by decide) ?_
  refine lv_istore_n (lv' := [(3, .int (0 : Int32)), (2, .int (rst p1.toNatClampNeg)), (0, .ref (ad 16)), (1, .int p1)]) hx hb dX1_writeRow_8 rfl hl (by decide) rfl (fun ls hl => ?_)
  have L9_10 : ∀ (y2_2 : Int32), ∀ (n : Nat) (x3_3 : Int32) (rws_4 : Nat → Nat → Int64), ∀ (o_x3_3 : Int32) (o_rws_4 : Nat → Nat → Int64), some (o_x3_3, o_rws_4) = f_FirstSteps_writeRow_L9 w tot rst last p1 y2_2 n x3_3 rws_4 → (∀ (H : Heap) (locs : List Loc), va_P (dC, dI) vwCl (wC ad tI tL tII tLL cnt w tot rew grp fin gns rst o_rws_4 last now nxt whl au al mu ml) H → va_D (rwA (wC ad tI tL tII tLL cnt w tot rew grp fin gns rst rws last now nxt whl au al mu ml)) (wC ad tI tL tII tLL cnt w tot rew grp fin gns rst o_rws_4 last now nxt whl au al mu ml) → va_S (rwA (wC ad tI tL tII tLL cnt w tot rew grp fin gns rst rws last now nxt whl au al mu ml)) s.heap H locs → ∀ ls : Array Slot, lv_has ls 4 [(0, .ref (ad 16)), (1, .int p1), (2, .int y2_2), (3, .int o_x3_3)] → W p l e (headSpec W_FirstSteps_writeRow RM_f_FirstSteps_writeRow).room s m ([.ref (ad 16), .int p1] : List Value).toArray below meth c H locs 0 0 (MQ below (rwQ (dC, dI) vwCl (wC ad tI tL tII tLL cnt w tot rew grp fin gns rst R_rws last now nxt whl au al mu ml) none (rwA (wC ad tI tL tII tLL cnt w tot rew grp fin gns rst rws last now nxt whl au al mu ml))) ([.ref (ad 16), .int p1] : List Value).toArray s 0 0 (rwA (wC ad tI tL tII tLL cnt w tot rew grp fin gns rst rws last now nxt whl au al mu ml))) (F0 m 47 ls [])) → ∀ (H : Heap) (locs : List Loc), va_P (dC, dI) vwCl (wC ad tI tL tII tLL cnt w tot rew grp fin gns rst rws_4 last now nxt whl au al mu ml) H → va_D (rwA (wC ad tI tL tII tLL cnt w tot rew grp fin gns rst rws last now nxt whl au al mu ml)) (wC ad tI tL tII tLL cnt w tot rew grp fin gns rst rws_4 last now nxt whl au al mu ml) → va_S (rwA (wC ad tI tL tII tLL cnt w tot rew grp fin gns rst rws last now nxt whl au al mu ml)) s.heap H locs → ∀ ls : Array Slot, lv_has ls 4 [(0, .ref (ad 16)), (1, .int p1), (2, .int y2_2), (3, .int x3_3)] → W p l e (headSpec W_FirstSteps_writeRow RM_f_FirstSteps_writeRow).room s m ([.ref (ad 16), .int p1] : List Value).toArray below meth c H locs 0 0 (MQ below (rwQ (dC, dI) vwCl (wC ad tI tL tII tLL cnt w tot rew grp fin gns rst R_rws last now nxt whl au al mu ml) none (rwA (wC ad tI tL tII tLL cnt w tot rew grp fin gns rst rws last now nxt whl au al mu ml))) ([.ref (ad 16), .int p1] : List Value).toArray s 0 0 (rwA (wC ad tI tL tII tLL cnt w tot rew grp fin gns rst rws last now nxt whl au al mu ml))) (F0 m 9 ls []) := by
    intro y2_2
    intro n
    induction n with
    | zero =>
      intro x3_3 rws_4 o_x3_3 o_rws_4 hR
      cases (show some _ = none from hR)
    | succ n ih =>
      intro x3_3 rws_4 o_x3_3 o_rws_4 hR hk H locs hP hD hS ls hl
      rw [f_FirstSteps_writeRow_L9_s] at hR
      obtain ⟨y, hR, hQ⟩ := ob hR
      replace hR := hR.symm
      rw [f_FirstSteps_writeRow_B9] at hR
      refine lv_iload_n hx hb dX1_writeRow_9 rfl (lv_at hl 3 rfl) ?_
      refine lv_aload_n hx hb dX1_writeRow_10 rfl (lv_at hl 0 rfl) ?_
      refine va_get (D := (dC, dI)) (ci := 1) (v := .int last) (C := RX1) (T := TX1) (N := 5) hx hb ht hinX1 hown hK hP 16 rfl rfl 4 (by decide) (ht _ k_83) (fun _ h9 => h9) rfl dX1_writeRow_11 ?_
      refine lv_icmp_ge (tgt := 47) hx hb dX1_writeRow_14 (by decide) (fun c5 => ?_) (fun c5 => ?_)
      · replace hR := it_p c5 hR
        cases hR
        cases (show some _ = some _ from hQ)
        exact hk H locs hP hD hS ls (lv_sub hl [0, 1, 2, 3] rfl)
      · replace hR := it_n c5 hR
        refine lv_aload_n hx hb dX1_writeRow_17 rfl (lv_at hl 0 rfl) ?_
        refine va_get (D := (dC, dI)) (ci := 1) (v := .ref (ad 19)) (C := RX1) (T := TX1) (N := 5) hx hb ht hinX1 hown hK hP 16 rfl rfl 3 (by decide) (ht _ k_84) (fun _ h9 => h9) rfl dX1_writeRow_18 ?_
        refine lv_iload_n hx hb dX1_writeRow_21 rfl (lv_at hl 1 rfl) ?_
        obtain ⟨z6, hR⟩ := og hR
        refine va_aldA hx hb hK hP 19 3 rfl rfl rfl (ix_in z6) dX1_writeRow_22 ?_
        refine lv_iload_n hx hb dX1_writeRow_23 rfl (lv_at hl 3 rfl) ?_
        refine lv_aload_n hx hb dX1_writeRow_24 rfl (lv_at hl 0 rfl) ?_
        refine va_get (D := (dC, dI)) (ci := 1) (v := .ref (ad 1)) (C := RX1) (T := TX1) (N := 5) hx hb ht hinX1 hown hK hP 16 rfl rfl 0 (by decide) (ht _ k_78) (fun _ h9 => h9) rfl dX1_writeRow_25 ?_
        refine lv_iload_n hx hb dX1_writeRow_28 rfl (lv_at hl 2 rfl) ?_
        refine lv_aload_n hx hb dX1_writeRow_29 rfl (lv_at hl 0 rfl) ?_
        refine va_get (D := (dC, dI)) (ci := 1) (v := .ref (ad 18)) (C := RX1) (T := TX1) (N := 5) hx hb ht hinX1 hown hK hP 16 rfl rfl 2 (by decide) (ht _ k_82) (fun _ h9 => h9) rfl dX1_writeRow_30 ?_
        refine lv_iload_n hx hb dX1_writeRow_33 rfl (lv_at hl 3 rfl) ?_
        obtain ⟨z7, hR⟩ := og hR
        refine va_iald hx hb hK hP 18 0 rfl rfl (ix_in z7) dX1_writeRow_34 ?_
        obtain ⟨r8, hC, hR⟩ := ob hR
        try dsimp only at hR
        refine ro_calli (va_runV (As := [.int y2_2, .int (rst x3_3.toNatClampNeg)]) (rest := [.int x3_3, .ref (gR ad 20 p1.toNatClampNeg)]) ⟨hx, hb, hml, hown, ht⟩ (c_Chain_pull l dC dI ad tI tL tII tLL cnt w tot rew grp fin gns rst rws_4 last now nxt whl au al mu ml y2_2 (rst x3_3.toNatClampNeg) r8 hC.symm) ⟨callB_of 2 ht (goodG k_22) rfl rfl rfl (ht _ k_15) (ht _ k_85) (by decide +kernel) ⟨Nat.le_of_ble_eq_true rfl, Nat.le_of_ble_eq_true rfl⟩, (ht _ k_25), (ht _ k_24)⟩ (pre_v hK hN hP (q0 := 1) (ci := 0) rfl rfl) rfl rfl hl.1 rfl (lv_room (Nat.le_of_ble_eq_true rfl)) dX1_writeRow_35 ⟨Nat.zero_le _, Nat.zero_le _⟩) ?_
        refine lv_ineg hx hb dX1_writeRow_38 ?_
        refine lv_i2l hx hb dX1_writeRow_39 rfl ?_
        obtain ⟨z9, hR⟩ := og hR
        refine va_last hx hb hK hP hD hS (19 + 1 + p1.toNatClampNeg) 1 (wC_row_ro (ix_lt z6)) rfl (ix_in z9) dX1_writeRow_40 (fun H locs hP hD hS => ?_)
        rw [wC_set_ro (ix_lt z6)] at hP hD
        have hP : va_P (dC, dI) vwCl (wC ad tI tL tII tLL cnt w tot rew grp fin gns rst (va_up rws_4 p1.toNatClampNeg (vp_updL (rws_4 p1.toNatClampNeg) x3_3.toNatClampNeg ((-r8).toInt64))) last now nxt whl au al mu ml) H := hP
        have hD : va_D (rwA (wC ad tI tL tII tLL cnt w tot rew grp fin gns rst rws last now nxt whl au al mu ml)) (wC ad tI tL tII tLL cnt w tot rew grp fin gns rst (va_up rws_4 p1.toNatClampNeg (vp_updL (rws_4 p1.toNatClampNeg) x3_3.toNatClampNeg ((-r8).toInt64))) last now nxt whl au al mu ml) := hD
        refine lv_iinc (v := (x3_3 + 1)) (lv' := [(3, .int (x3_3 + 1)), (0, .ref (ad 16)), (1, .int p1), (2, .int y2_2)]) hx hb dX1_writeRow_41 hl (k := 3) rfl rfl (by decide) rfl (fun ls hl => ?_)
        refine lv_goto (tgt := 9) hx hb dX1_writeRow_44 (by decide) ?_
        cases hR
        exact ih (x3_3 + 1) (va_up rws_4 p1.toNatClampNeg (vp_updL (rws_4 p1.toNatClampNeg) x3_3.toNatClampNeg ((-r8).toInt64))) o_x3_3 o_rws_4 hQ hk H locs hP hD hS ls (lv_sub hl [1, 2, 3, 0] rfl)
  obtain ⟨⟨u11, u12⟩, hL, hR⟩ := ob hR
  try dsimp only at hR
  refine L9_10 (rst p1.toNatClampNeg) 300 (0 : Int32) rws u11 u12 hL.symm (fun H locs hP hD hS ls hl => ?_) H locs hP hD hS ls (lv_sub hl [2, 3, 1, 0] rfl)
  refine lv_aload_n hx hb dX1_writeRow_47 rfl (lv_at hl 0 rfl) ?_
  refine va_get (D := (dC, dI)) (ci := 1) (v := .ref (ad 19)) (C := RX1) (T := TX1) (N := 5) hx hb ht hinX1 hown hK hP 16 rfl rfl 3 (by decide) (ht _ k_84) (fun _ h9 => h9) rfl dX1_writeRow_48 ?_
  refine lv_iload_n hx hb dX1_writeRow_51 rfl (lv_at hl 1 rfl) ?_
  obtain ⟨z13, hR⟩ := og hR
  refine va_aldA hx hb hK hP 19 3 rfl rfl rfl (ix_in z13) dX1_writeRow_52 ?_
  refine lv_aload_n hx hb dX1_writeRow_53 rfl (lv_at hl 0 rfl) ?_
  refine va_get (D := (dC, dI)) (ci := 1) (v := .int last) (C := RX1) (T := TX1) (N := 5) hx hb ht hinX1 hown hK hP 16 rfl rfl 4 (by decide) (ht _ k_83) (fun _ h9 => h9) rfl dX1_writeRow_54 ?_
  refine lv_lconst (v := 0) hx hb dX1_writeRow_57 (by decide) ?_
  obtain ⟨z14, hR⟩ := og hR
  refine va_last hx hb hK hP hD hS (19 + 1 + p1.toNatClampNeg) 1 (wC_row_ro (ix_lt z13)) rfl (ix_in z14) dX1_writeRow_58 (fun H locs hP hD hS => ?_)
  rw [wC_set_ro (ix_lt z13)] at hP hD
  have hP : va_P (dC, dI) vwCl (wC ad tI tL tII tLL cnt w tot rew grp fin gns rst (va_up u12 p1.toNatClampNeg (vp_updL (u12 p1.toNatClampNeg) last.toNatClampNeg (0 : Int64))) last now nxt whl au al mu ml) H := hP
  have hD : va_D (rwA (wC ad tI tL tII tLL cnt w tot rew grp fin gns rst rws last now nxt whl au al mu ml)) (wC ad tI tL tII tLL cnt w tot rew grp fin gns rst (va_up u12 p1.toNatClampNeg (vp_updL (u12 p1.toNatClampNeg) last.toNatClampNeg (0 : Int64))) last now nxt whl au al mu ml) := hD
  refine lv_aload_n hx hb dX1_writeRow_59 rfl (lv_at hl 0 rfl) ?_
  refine va_get (D := (dC, dI)) (ci := 1) (v := .ref (ad 19)) (C := RX1) (T := TX1) (N := 5) hx hb ht hinX1 hown hK hP 16 rfl rfl 3 (by decide) (ht _ k_84) (fun _ h9 => h9) rfl dX1_writeRow_60 ?_
  refine lv_iload_n hx hb dX1_writeRow_63 rfl (lv_at hl 1 rfl) ?_
  obtain ⟨z15, hR⟩ := og hR
  refine va_aldA hx hb hK hP 19 3 rfl rfl rfl (ix_in z15) dX1_writeRow_64 ?_
  refine lv_iload_n hx hb dX1_writeRow_65 rfl (lv_at hl 1 rfl) ?_
  refine lv_dup2_11 hx hb dX1_writeRow_66 rfl rfl ?_
  obtain ⟨z16, hR⟩ := og hR
  refine va_lald hx hb hK hP (19 + 1 + p1.toNatClampNeg) 1 (wC_row_ro (ix_lt z15)) rfl (ix_in z16) dX1_writeRow_67 ?_
  refine lv_aload_n hx hb dX1_writeRow_68 rfl (lv_at hl 0 rfl) ?_
  refine va_get (D := (dC, dI)) (ci := 1) (v := .ref (ad 1)) (C := RX1) (T := TX1) (N := 5) hx hb ht hinX1 hown hK hP 16 rfl rfl 0 (by decide) (ht _ k_78) (fun _ h9 => h9) rfl dX1_writeRow_69 ?_
  refine lv_iload_n hx hb dX1_writeRow_72 rfl (lv_at hl 2 rfl) ?_
  obtain ⟨r17, hC, hR⟩ := ob hR
  try dsimp only at hR
  refine ro_calli (va_runV (As := [.int (rst p1.toNatClampNeg)]) (rest := [.long ((va_up u12 p1.toNatClampNeg (vp_updL (u12 p1.toNatClampNeg) last.toNatClampNeg (0 : Int64))) p1.toNatClampNeg p1.toNatClampNeg), .int p1, .ref (gR ad 20 p1.toNatClampNeg)]) ⟨hx, hb, hml, hown, ht⟩ (c_Chain_pullOfAll l dC dI ad tI tL tII tLL cnt w tot rew grp fin gns rst (va_up u12 p1.toNatClampNeg (vp_updL (u12 p1.toNatClampNeg) last.toNatClampNeg (0 : Int64))) last now nxt whl au al mu ml (rst p1.toNatClampNeg) r17 hC.symm) ⟨callB_of 1 ht (goodG k_65) rfl rfl rfl (ht _ k_15) (ht _ k_81) (by decide +kernel) ⟨Nat.le_of_ble_eq_true rfl, Nat.le_of_ble_eq_true rfl⟩, (ht _ k_68), (ht _ k_67)⟩ (pre_v hK hN hP (q0 := 1) (ci := 0) rfl rfl) rfl rfl hl.1 rfl (lv_room (Nat.le_of_ble_eq_true rfl)) dX1_writeRow_73 ⟨Nat.zero_le _, Nat.zero_le _⟩) ?_
  refine lv_i2l hx hb dX1_writeRow_76 rfl ?_
  refine lv_ladd hx hb dX1_writeRow_77 ?_
  obtain ⟨z18, hR⟩ := og hR
  refine va_last hx hb hK hP hD hS (19 + 1 + p1.toNatClampNeg) 1 (wC_row_ro (ix_lt z15)) rfl (ix_in z18) dX1_writeRow_78 (fun H locs hP hD hS => ?_)
  rw [wC_set_ro (ix_lt z15)] at hP hD
  have hP : va_P (dC, dI) vwCl (wC ad tI tL tII tLL cnt w tot rew grp fin gns rst (va_up (va_up u12 p1.toNatClampNeg (vp_updL (u12 p1.toNatClampNeg) last.toNatClampNeg (0 : Int64))) p1.toNatClampNeg (vp_updL ((va_up u12 p1.toNatClampNeg (vp_updL (u12 p1.toNatClampNeg) last.toNatClampNeg (0 : Int64))) p1.toNatClampNeg) p1.toNatClampNeg (((va_up u12 p1.toNatClampNeg (vp_updL (u12 p1.toNatClampNeg) last.toNatClampNeg (0 : Int64))) p1.toNatClampNeg p1.toNatClampNeg) + (r17.toInt64)))) last now nxt whl au al mu ml) H := hP
  have hD : va_D (rwA (wC ad tI tL tII tLL cnt w tot rew grp fin gns rst rws last now nxt whl au al mu ml)) (wC ad tI tL tII tLL cnt w tot rew grp fin gns rst (va_up (va_up u12 p1.toNatClampNeg (vp_updL (u12 p1.toNatClampNeg) last.toNatClampNeg (0 : Int64))) p1.toNatClampNeg (vp_updL ((va_up u12 p1.toNatClampNeg (vp_updL (u12 p1.toNatClampNeg) last.toNatClampNeg (0 : Int64))) p1.toNatClampNeg) p1.toNatClampNeg (((va_up u12 p1.toNatClampNeg (vp_updL (u12 p1.toNatClampNeg) last.toNatClampNeg (0 : Int64))) p1.toNatClampNeg p1.toNatClampNeg) + (r17.toInt64)))) last now nxt whl au al mu ml) := hD
  refine lv_aload_n hx hb dX1_writeRow_79 rfl (lv_at hl 0 rfl) ?_
  refine va_get (D := (dC, dI)) (ci := 1) (v := .ref (ad 19)) (C := RX1) (T := TX1) (N := 5) hx hb ht hinX1 hown hK hP 16 rfl rfl 3 (by decide) (ht _ k_84) (fun _ h9 => h9) rfl dX1_writeRow_80 ?_
  refine lv_iload_n hx hb dX1_writeRow_83 rfl (lv_at hl 1 rfl) ?_
  obtain ⟨z19, hR⟩ := og hR
  refine va_aldA hx hb hK hP 19 3 rfl rfl rfl (ix_in z19) dX1_writeRow_84 ?_
  refine lv_aload_n hx hb dX1_writeRow_85 rfl (lv_at hl 0 rfl) ?_
  refine va_get (D := (dC, dI)) (ci := 1) (v := .int last) (C := RX1) (T := TX1) (N := 5) hx hb ht hinX1 hown hK hP 16 rfl rfl 4 (by decide) (ht _ k_83) (fun _ h9 => h9) rfl dX1_writeRow_86 ?_
  refine lv_iconst (v := 1) hx hb dX1_writeRow_89 (by decide) ?_
  refine lv_iadd hx hb dX1_writeRow_90 ?_
  refine lv_aload_n hx hb dX1_writeRow_91 rfl (lv_at hl 0 rfl) ?_
  refine va_get (D := (dC, dI)) (ci := 1) (v := .ref (ad 17)) (C := RX1) (T := TX1) (N := 5) hx hb ht hinX1 hown hK hP 16 rfl rfl 1 (by decide) (ht _ k_79) (fun _ h9 => h9) rfl dX1_writeRow_92 ?_
  refine lv_iload_n hx hb dX1_writeRow_95 rfl (lv_at hl 2 rfl) ?_
  obtain ⟨z20, hR⟩ := og hR
  refine va_lald hx hb hK hP 17 1 rfl rfl (ix_in z20) dX1_writeRow_96 ?_
  obtain ⟨z21, hR⟩ := og hR
  refine va_last hx hb hK hP hD hS (19 + 1 + p1.toNatClampNeg) 1 (wC_row_ro (ix_lt z19)) rfl (ix_in z21) dX1_writeRow_97 (fun H locs hP hD hS => ?_)
  rw [wC_set_ro (ix_lt z19)] at hP hD
  have hP : va_P (dC, dI) vwCl (wC ad tI tL tII tLL cnt w tot rew grp fin gns rst (va_up (va_up (va_up u12 p1.toNatClampNeg (vp_updL (u12 p1.toNatClampNeg) last.toNatClampNeg (0 : Int64))) p1.toNatClampNeg (vp_updL ((va_up u12 p1.toNatClampNeg (vp_updL (u12 p1.toNatClampNeg) last.toNatClampNeg (0 : Int64))) p1.toNatClampNeg) p1.toNatClampNeg (((va_up u12 p1.toNatClampNeg (vp_updL (u12 p1.toNatClampNeg) last.toNatClampNeg (0 : Int64))) p1.toNatClampNeg p1.toNatClampNeg) + (r17.toInt64)))) p1.toNatClampNeg (vp_updL ((va_up (va_up u12 p1.toNatClampNeg (vp_updL (u12 p1.toNatClampNeg) last.toNatClampNeg (0 : Int64))) p1.toNatClampNeg (vp_updL ((va_up u12 p1.toNatClampNeg (vp_updL (u12 p1.toNatClampNeg) last.toNatClampNeg (0 : Int64))) p1.toNatClampNeg) p1.toNatClampNeg (((va_up u12 p1.toNatClampNeg (vp_updL (u12 p1.toNatClampNeg) last.toNatClampNeg (0 : Int64))) p1.toNatClampNeg p1.toNatClampNeg) + (r17.toInt64)))) p1.toNatClampNeg) (last + (1 : Int32)).toNatClampNeg (gns (rst p1.toNatClampNeg).toNatClampNeg))) last now nxt whl au al mu ml) H := hP
  have hD : va_D (rwA (wC ad tI tL tII tLL cnt w tot rew grp fin gns rst rws last now nxt whl au al mu ml)) (wC ad tI tL tII tLL cnt w tot rew grp fin gns rst (va_up (va_up (va_up u12 p1.toNatClampNeg (vp_updL (u12 p1.toNatClampNeg) last.toNatClampNeg (0 : Int64))) p1.toNatClampNeg (vp_updL ((va_up u12 p1.toNatClampNeg (vp_updL (u12 p1.toNatClampNeg) last.toNatClampNeg (0 : Int64))) p1.toNatClampNeg) p1.toNatClampNeg (((va_up u12 p1.toNatClampNeg (vp_updL (u12 p1.toNatClampNeg) last.toNatClampNeg (0 : Int64))) p1.toNatClampNeg p1.toNatClampNeg) + (r17.toInt64)))) p1.toNatClampNeg (vp_updL ((va_up (va_up u12 p1.toNatClampNeg (vp_updL (u12 p1.toNatClampNeg) last.toNatClampNeg (0 : Int64))) p1.toNatClampNeg (vp_updL ((va_up u12 p1.toNatClampNeg (vp_updL (u12 p1.toNatClampNeg) last.toNatClampNeg (0 : Int64))) p1.toNatClampNeg) p1.toNatClampNeg (((va_up u12 p1.toNatClampNeg (vp_updL (u12 p1.toNatClampNeg) last.toNatClampNeg (0 : Int64))) p1.toNatClampNeg p1.toNatClampNeg) + (r17.toInt64)))) p1.toNatClampNeg) (last + (1 : Int32)).toNatClampNeg (gns (rst p1.toNatClampNeg).toNatClampNeg))) last now nxt whl au al mu ml) := hD
  cases hR
  exact W.vret hx hb hr (fun t ht _ => ⟨rfl, by rw [ht]; exact hP, hS.F ht⟩) hS.2.2 dX1_writeRow_98
abbrev RM_f_FirstSteps_reduceRow : Room := { frames := 0, cells := 0, slots := 0, locals := 0 }
abbrev W_FirstSteps_reduceRow : List Cond := .code yX1_reduceRow cX1_reduceRow 10 none :: tblG
set_option maxHeartbeats 4000000 in
set_option maxRecDepth 100000 in
theorem c_FirstSteps_reduceRow (l : Launch) (dC : Nat → ClassId) (dI : Nat → Nat → Nat) (ad : Nat → Nat) (tI tL tII tLL : ClassId) (cnt : Int32) (w : Nat → Nat → Int32) (tot : Nat → Int32) (rew : Nat → Int32) (grp : Nat → Int32) (fin : Nat → Int32) (gns : Nat → Int64) (rst : Nat → Int32) (rws : Nat → Nat → Int64) (last : Int32) (now : Nat → Int64) (nxt : Nat → Int64) (whl : Int64) (au : Int64) (al : Int64) (mu : Int64) (ml : Int64) (p1 : Int32) (p2 : Int32) (p3 : Int64) (R_rws : Nat → Nat → Int64) (hR : some R_rws = f_FirstSteps_reduceRow rws last p1 p2 p3) : Met l yX1_reduceRow W_FirstSteps_reduceRow RM_f_FirstSteps_reduceRow (rwP (dC, dI) vwCl [(tI, .int), (tL, .long), (tII, .array .int), (tLL, .array .long)] (wC ad tI tL tII tLL cnt w tot rew grp fin gns rst rws last now nxt whl au al mu ml) ([.ref (ad 16), .int p1, .int p2, .long p3] : List Value)) (rwQ (dC, dI) vwCl (wC ad tI tL tII tLL cnt w tot rew grp fin gns rst R_rws last now nxt whl au al mu ml) none (rwA (wC ad tI tL tII tLL cnt w tot rew grp fin gns rst rws last now nxt whl au al mu ml))) 0 0 (rwA (wC ad tI tL tII tLL cnt w tot rew grp fin gns rst rws last now nxt whl au al mu ml)) := by
  refine Met.ofW (cc := cX1_reduceRow) (maxL := 10) (ret := none) (by decide) rfl ?_
  intro p e s m args below meth c s₁ B hml hv
  obtain ⟨rfl, hP, hK, hN, hD⟩ := hv
  have hx := B.exec
  have hb := B.bytes
  have hr := B.returns
  have hts := atoms_spec (ws := W_FirstSteps_reduceRow) B.pre
  have ht := fun (w : Cond) (h : w ∈ tblG) => hts w (List.mem_cons_of_mem _ h)
  have hown : s.vm.findClass RX1 = some m.cls := findClass_of_methodNamed B.named
  have hlocks := B.notSynchronized
  have hl := lv_entry ([.ref (ad 16), .int p1, .int p2, .long p3] : List Value) (n := 10) (Nat.le_of_ble_eq_true rfl)
  rw [lg_entry_eq]
  generalize (lg_sl ([.ref (ad 16), .int p1, .int p2, .long p3] : List Value) ++ List.replicate (10 - (lg_sl ([.ref (ad 16), .int p1, .int p2, .long p3] : List Value)).length) Slot.unset).toArray = ls at hl ⊢
  have hl : lv_has ls 10 [(0, .ref (ad 16)), (1, .int p1), (2, .int p2), (3, .long p3)] := hl
  have hD := hD.own
  have hS : va_S (rwA (wC ad tI tL tII tLL cnt w tot rew grp fin gns rst rws last now nxt whl au al mu ml)) s.heap s.heap [] := va_S.rf
  suffices K : ∀ (H : Heap) (locs : List Loc), va_P (dC, dI) vwCl (wC ad tI tL tII tLL cnt w tot rew grp fin gns rst rws last now nxt whl au al mu ml) H → va_D (rwA (wC ad tI tL tII tLL cnt w tot rew grp fin gns rst rws last now nxt whl au al mu ml)) (wC ad tI tL tII tLL cnt w tot rew grp fin gns rst rws last now nxt whl au al mu ml) → va_S (rwA (wC ad tI tL tII tLL cnt w tot rew grp fin gns rst rws last now nxt whl au al mu ml)) s.heap H locs → W p l e (headSpec W_FirstSteps_reduceRow RM_f_FirstSteps_reduceRow).room s m ([.ref (ad 16), .int p1, .int p2, .long p3] : List Value).toArray below meth c H locs 0 0 (MQ below (rwQ (dC, dI) vwCl (wC ad tI tL tII tLL cnt w tot rew grp fin gns rst R_rws last now nxt whl au al mu ml) none (rwA (wC ad tI tL tII tLL cnt w tot rew grp fin gns rst rws last now nxt whl au al mu ml))) ([.ref (ad 16), .int p1, .int p2, .long p3] : List Value).toArray s 0 0 (rwA (wC ad tI tL tII tLL cnt w tot rew grp fin gns rst rws last now nxt whl au al mu ml))) (F0 m 0 ls []) from K s.heap [] hP hD hS
  clear hP hD hS
  intro H locs hP hD hS
  rw [f_FirstSteps_reduceRow] at hR
  refine lv_lload_n hx hb dX1_reduceRow_0 rfl (lv_at hl 3 rfl) ?_
  refine lv_lconst (v := 0) hx hb dX1_reduceRow_1 (by decide) ?_
  refine W.lcmp hx hb dX1_reduceRow_2 ?_
  refine lv_if_ne (tgt := 7) hx hb dX1_reduceRow_3 (by decide) (fun c1 => ?_) (fun c1 => ?_)
  · replace hR := it_n c1 hR
    refine lv_aload_n hx hb dX1_reduceRow_7 rfl (lv_at hl 0 rfl) ?_
    refine va_get (D := (dC, dI)) (ci := 1) (v := .ref (ad 19)) (C := RX1) (T := TX1) (N := 5) hx hb ht hinX1 hown hK hP 16 rfl rfl 3 (by decide) (ht _ k_84) (fun _ h9 => h9) rfl dX1_reduceRow_8 ?_
    refine lv_iload_n hx hb dX1_reduceRow_11 rfl (lv_at hl 1 rfl) ?_
    obtain ⟨z2, hR⟩ := og hR
    refine va_aldA hx hb hK hP 19 3 rfl rfl rfl (ix_in z2) dX1_reduceRow_12 ?_
    refine lv_iload_n hx hb dX1_reduceRow_13 rfl (lv_at hl 2 rfl) ?_
    obtain ⟨z3, hR⟩ := og hR
    refine va_lald hx hb hK hP (19 + 1 + p1.toNatClampNeg) 1 (wC_row_ro (ix_lt z2)) rfl (ix_in z3) dX1_reduceRow_14 ?_
    refine lv_lstore (lv' := [(5, .long (rws p1.toNatClampNeg p2.toNatClampNeg)), (0, .ref (ad 16)), (1, .int p1), (2, .int p2), (3, .long p3)]) hx hb dX1_reduceRow_15 hl (by decide) rfl (fun ls hl => ?_)
    refine lv_iload_n hx hb dX1_reduceRow_17 rfl (lv_at hl 3 rfl) ?_
    refine lv_iconst (v := 1) hx hb dX1_reduceRow_18 (by decide) ?_
    refine lv_iadd hx hb dX1_reduceRow_19 ?_
    refine lv_istore (lv' := [(7, .int (p2 + (1 : Int32))), (5, .long (rws p1.toNatClampNeg p2.toNatClampNeg)), (0, .ref (ad 16)), (1, .int p1), (2, .int p2), (3, .long p3)]) hx hb dX1_reduceRow_20 hl (by decide) rfl (fun ls hl => ?_)
    have L22_17 : ∀ (y5_4 : Int64), ∀ (n : Nat) (x7_5 : Int32) (rws_6 : Nat → Nat → Int64), ∀ (o_x7_5 : Int32) (o_rws_6 : Nat → Nat → Int64), some (o_x7_5, o_rws_6) = f_FirstSteps_reduceRow_L22 last p1 p2 p3 y5_4 n x7_5 rws_6 → (∀ (H : Heap) (locs : List Loc), va_P (dC, dI) vwCl (wC ad tI tL tII tLL cnt w tot rew grp fin gns rst o_rws_6 last now nxt whl au al mu ml) H → va_D (rwA (wC ad tI tL tII tLL cnt w tot rew grp fin gns rst rws last now nxt whl au al mu ml)) (wC ad tI tL tII tLL cnt w tot rew grp fin gns rst o_rws_6 last now nxt whl au al mu ml) → va_S (rwA (wC ad tI tL tII tLL cnt w tot rew grp fin gns rst rws last now nxt whl au al mu ml)) s.heap H locs → ∀ ls : Array Slot, lv_has ls 10 [(0, .ref (ad 16)), (1, .int p1), (2, .int p2), (3, .long p3), (5, .long y5_4), (7, .int o_x7_5)] → W p l e (headSpec W_FirstSteps_reduceRow RM_f_FirstSteps_reduceRow).room s m ([.ref (ad 16), .int p1, .int p2, .long p3] : List Value).toArray below meth c H locs 0 0 (MQ below (rwQ (dC, dI) vwCl (wC ad tI tL tII tLL cnt w tot rew grp fin gns rst R_rws last now nxt whl au al mu ml) none (rwA (wC ad tI tL tII tLL cnt w tot rew grp fin gns rst rws last now nxt whl au al mu ml))) ([.ref (ad 16), .int p1, .int p2, .long p3] : List Value).toArray s 0 0 (rwA (wC ad tI tL tII tLL cnt w tot rew grp fin gns rst rws last now nxt whl au al mu ml))) (F0 m 85 ls [])) → ∀ (H : Heap) (locs : List Loc), va_P (dC, dI) vwCl (wC ad tI tL tII tLL cnt w tot rew grp fin gns rst rws_6 last now nxt whl au al mu ml) H → va_D (rwA (wC ad tI tL tII tLL cnt w tot rew grp fin gns rst rws last now nxt whl au al mu ml)) (wC ad tI tL tII tLL cnt w tot rew grp fin gns rst rws_6 last now nxt whl au al mu ml) → va_S (rwA (wC ad tI tL tII tLL cnt w tot rew grp fin gns rst rws last now nxt whl au al mu ml)) s.heap H locs → ∀ ls : Array Slot, lv_has ls 10 [(0, .ref (ad 16)), (1, .int p1), (2, .int p2), (3, .long p3), (5, .long y5_4), (7, .int x7_5)] → W p l e (headSpec W_FirstSteps_reduceRow RM_f_FirstSteps_reduceRow).room s m ([.ref (ad 16), .int p1, .int p2, .long p3] : List Value).toArray below meth c H locs 0 0 (MQ below (rwQ (dC, dI) vwCl (wC ad tI tL tII tLL cnt w tot rew grp fin gns rst R_rws last now nxt whl au al mu ml) none (rwA (wC ad tI tL tII tLL cnt w tot rew grp fin gns rst rws last now nxt whl au al mu ml))) ([.ref (ad 16), .int p1, .int p2, .long p3] : List Value).toArray s 0 0 (rwA (wC ad tI tL tII tLL cnt w tot rew grp fin gns rst rws last now nxt whl au al mu ml))) (F0 m 22 ls []) := by
      intro y5_4
      intro n
      induction n with
      | zero =>
        intro x7_5 rws_6 o_x7_5 o_rws_6 hR
        cases (show some _ = none from hR)
      | succ n ih =>
        intro x7_5 rws_6 o_x7_5 o_rws_6 hR hk H locs hP hD hS ls hl
        rw [f_FirstSteps_reduceRow_L22_s] at hR
        obtain ⟨y, hR, hQ⟩ := ob hR
        replace hR := hR.symm
        rw [f_FirstSteps_reduceRow_B22] at hR
        refine lv_iload hx hb dX1_reduceRow_22 (lv_at hl 5 rfl) ?_
        refine lv_aload_n hx hb dX1_reduceRow_24 rfl (lv_at hl 0 rfl) ?_
        refine va_get (D := (dC, dI)) (ci := 1) (v := .int last) (C := RX1) (T := TX1) (N := 5) hx hb ht hinX1 hown hK hP 16 rfl rfl 4 (by decide) (ht _ k_83) (fun _ h9 => h9) rfl dX1_reduceRow_25 ?_
        refine lv_iconst (v := 1) hx hb dX1_reduceRow_28 (by decide) ?_
        refine lv_iadd hx hb dX1_reduceRow_29 ?_
        refine lv_icmp_gt (tgt := 85) hx hb dX1_reduceRow_30 (by decide) (fun c7 => ?_) (fun c7 => ?_)
        · replace hR := it_p c7 hR
          cases hR
          cases (show some _ = some _ from hQ)
          exact hk H locs hP hD hS ls (lv_sub hl [0, 1, 2, 3, 4, 5] rfl)
        · replace hR := it_n c7 hR
          refine lv_aload_n hx hb dX1_reduceRow_33 rfl (lv_at hl 0 rfl) ?_
          refine va_get (D := (dC, dI)) (ci := 1) (v := .ref (ad 19)) (C := RX1) (T := TX1) (N := 5) hx hb ht hinX1 hown hK hP 16 rfl rfl 3 (by decide) (ht _ k_84) (fun _ h9 => h9) rfl dX1_reduceRow_34 ?_
          refine lv_iload_n hx hb dX1_reduceRow_37 rfl (lv_at hl 1 rfl) ?_
          obtain ⟨z8, hR⟩ := og hR
          refine va_aldA hx hb hK hP 19 3 rfl rfl rfl (ix_in z8) dX1_reduceRow_38 ?_
          refine lv_iload hx hb dX1_reduceRow_39 (lv_at hl 5 rfl) ?_
          obtain ⟨z9, hR⟩ := og hR
          refine va_lald hx hb hK hP (19 + 1 + p1.toNatClampNeg) 1 (wC_row_ro (ix_lt z8)) rfl (ix_in z9) dX1_reduceRow_41 ?_
          refine lv_aload_n hx hb dX1_reduceRow_42 rfl (lv_at hl 0 rfl) ?_
          refine va_get (D := (dC, dI)) (ci := 1) (v := .ref (ad 19)) (C := RX1) (T := TX1) (N := 5) hx hb ht hinX1 hown hK hP 16 rfl rfl 3 (by decide) (ht _ k_84) (fun _ h9 => h9) rfl dX1_reduceRow_43 ?_
          refine lv_iload_n hx hb dX1_reduceRow_46 rfl (lv_at hl 2 rfl) ?_
          obtain ⟨z10, hR⟩ := og hR
          refine va_aldA hx hb hK hP 19 3 rfl rfl rfl (ix_in z10) dX1_reduceRow_47 ?_
          refine lv_iload_n hx hb dX1_reduceRow_48 rfl (lv_at hl 2 rfl) ?_
          obtain ⟨z11, hR⟩ := og hR
          refine va_lald hx hb hK hP (19 + 1 + p2.toNatClampNeg) 1 (wC_row_ro (ix_lt z10)) rfl (ix_in z11) dX1_reduceRow_49 ?_
          refine lv_lmul hx hb dX1_reduceRow_50 ?_
          refine lv_lload hx hb dX1_reduceRow_51 (lv_at hl 4 rfl) ?_
          refine lv_aload_n hx hb dX1_reduceRow_53 rfl (lv_at hl 0 rfl) ?_
          refine va_get (D := (dC, dI)) (ci := 1) (v := .ref (ad 19)) (C := RX1) (T := TX1) (N := 5) hx hb ht hinX1 hown hK hP 16 rfl rfl 3 (by decide) (ht _ k_84) (fun _ h9 => h9) rfl dX1_reduceRow_54 ?_
          refine lv_iload_n hx hb dX1_reduceRow_57 rfl (lv_at hl 2 rfl) ?_
          obtain ⟨z12, hR⟩ := og hR
          refine va_aldA hx hb hK hP 19 3 rfl rfl rfl (ix_in z12) dX1_reduceRow_58 ?_
          refine lv_iload hx hb dX1_reduceRow_59 (lv_at hl 5 rfl) ?_
          obtain ⟨z13, hR⟩ := og hR
          refine va_lald hx hb hK hP (19 + 1 + p2.toNatClampNeg) 1 (wC_row_ro (ix_lt z12)) rfl (ix_in z13) dX1_reduceRow_61 ?_
          refine lv_lmul hx hb dX1_reduceRow_62 ?_
          refine lv_lsub hx hb dX1_reduceRow_63 ?_
          refine lv_lstore (lv' := [(8, .long (((rws_6 p1.toNatClampNeg x7_5.toNatClampNeg) * (rws_6 p2.toNatClampNeg p2.toNatClampNeg)) - (y5_4 * (rws_6 p2.toNatClampNeg x7_5.toNatClampNeg)))), (0, .ref (ad 16)), (1, .int p1), (2, .int p2), (3, .long p3), (5, .long y5_4), (7, .int x7_5)]) hx hb dX1_reduceRow_64 hl (by decide) rfl (fun ls hl => ?_)
          refine lv_aload_n hx hb dX1_reduceRow_66 rfl (lv_at hl 1 rfl) ?_
          refine va_get (D := (dC, dI)) (ci := 1) (v := .ref (ad 19)) (C := RX1) (T := TX1) (N := 5) hx hb ht hinX1 hown hK hP 16 rfl rfl 3 (by decide) (ht _ k_84) (fun _ h9 => h9) rfl dX1_reduceRow_67 ?_
          refine lv_iload_n hx hb dX1_reduceRow_70 rfl (lv_at hl 2 rfl) ?_
          obtain ⟨z14, hR⟩ := og hR
          refine va_aldA hx hb hK hP 19 3 rfl rfl rfl (ix_in z14) dX1_reduceRow_71 ?_
          refine lv_iload hx hb dX1_reduceRow_72 (lv_at hl 6 rfl) ?_
          refine lv_lload hx hb dX1_reduceRow_74 (lv_at hl 0 rfl) ?_
          refine lv_lload_n hx hb dX1_reduceRow_76 rfl (lv_at hl 4 rfl) ?_
          obtain ⟨z15, hR⟩ := og hR
          refine lv_ldiv hx hb dX1_reduceRow_77 z15 ?_
          obtain ⟨z16, hR⟩ := og hR
          refine va_last hx hb hK hP hD hS (19 + 1 + p1.toNatClampNeg) 1 (wC_row_ro (ix_lt z14)) rfl (ix_in z16) dX1_reduceRow_78 (fun H locs hP hD hS => ?_)
          rw [wC_set_ro (ix_lt z14)] at hP hD
          have hP : va_P (dC, dI) vwCl (wC ad tI tL tII tLL cnt w tot rew grp fin gns rst (va_up rws_6 p1.toNatClampNeg (vp_updL (rws_6 p1.toNatClampNeg) x7_5.toNatClampNeg ((((rws_6 p1.toNatClampNeg x7_5.toNatClampNeg) * (rws_6 p2.toNatClampNeg p2.toNatClampNeg)) - (y5_4 * (rws_6 p2.toNatClampNeg x7_5.toNatClampNeg))) / p3))) last now nxt whl au al mu ml) H := hP
          have hD : va_D (rwA (wC ad tI tL tII tLL cnt w tot rew grp fin gns rst rws last now nxt whl au al mu ml)) (wC ad tI tL tII tLL cnt w tot rew grp fin gns rst (va_up rws_6 p1.toNatClampNeg (vp_updL (rws_6 p1.toNatClampNeg) x7_5.toNatClampNeg ((((rws_6 p1.toNatClampNeg x7_5.toNatClampNeg) * (rws_6 p2.toNatClampNeg p2.toNatClampNeg)) - (y5_4 * (rws_6 p2.toNatClampNeg x7_5.toNatClampNeg))) / p3))) last now nxt whl au al mu ml) := hD
          refine lv_iinc (v := (x7_5 + 1)) (lv' := [(7, .int (x7_5 + 1)), (8, .long (((rws_6 p1.toNatClampNeg x7_5.toNatClampNeg) * (rws_6 p2.toNatClampNeg p2.toNatClampNeg)) - (y5_4 * (rws_6 p2.toNatClampNeg x7_5.toNatClampNeg)))), (0, .ref (ad 16)), (1, .int p1), (2, .int p2), (3, .long p3), (5, .long y5_4)]) hx hb dX1_reduceRow_79 hl (k := 6) rfl rfl (by decide) rfl (fun ls hl => ?_)
          refine lv_goto (tgt := 22) hx hb dX1_reduceRow_82 (by decide) ?_
          cases hR
          exact ih (x7_5 + 1) (va_up rws_6 p1.toNatClampNeg (vp_updL (rws_6 p1.toNatClampNeg) x7_5.toNatClampNeg ((((rws_6 p1.toNatClampNeg x7_5.toNatClampNeg) * (rws_6 p2.toNatClampNeg p2.toNatClampNeg)) - (y5_4 * (rws_6 p2.toNatClampNeg x7_5.toNatClampNeg))) / p3))) o_x7_5 o_rws_6 hQ hk H locs hP hD hS ls (lv_sub hl [2, 3, 4, 5, 6, 0] rfl)
    obtain ⟨⟨u18, u19⟩, hL, hR⟩ := ob hR
    try dsimp only at hR
    refine L22_17 (rws p1.toNatClampNeg p2.toNatClampNeg) 300 (p2 + (1 : Int32)) rws u18 u19 hL.symm (fun H locs hP hD hS ls hl => ?_) H locs hP hD hS ls (lv_sub hl [2, 3, 4, 5, 1, 0] rfl)
    cases hR
    exact W.vret hx hb hr (fun t ht _ => ⟨rfl, by rw [ht]; exact hP, hS.F ht⟩) hS.2.2 dX1_reduceRow_85
  · replace hR := it_p c1 hR
    cases hR
    exact W.vret hx hb hr (fun t ht _ => ⟨rfl, by rw [ht]; exact hP, hS.F ht⟩) hS.2.2 dX1_reduceRow_6
abbrev RM_f_FirstSteps_eliminate : Room := { frames := 1, cells := 0, slots := 0, locals := 29 }
abbrev W_FirstSteps_eliminate : List Cond := .code yX1_eliminate cX1_eliminate 5 none :: tblG
set_option maxHeartbeats 4000000 in
set_option maxRecDepth 100000 in
theorem c_FirstSteps_eliminate (l : Launch) (dC : Nat → ClassId) (dI : Nat → Nat → Nat) (ad : Nat → Nat) (tI tL tII tLL : ClassId) (cnt : Int32) (w : Nat → Nat → Int32) (tot : Nat → Int32) (rew : Nat → Int32) (grp : Nat → Int32) (fin : Nat → Int32) (gns : Nat → Int64) (rst : Nat → Int32) (rws : Nat → Nat → Int64) (last : Int32) (now : Nat → Int64) (nxt : Nat → Int64) (whl : Int64) (au : Int64) (al : Int64) (mu : Int64) (ml : Int64)  (R_rws : Nat → Nat → Int64) (hR : some R_rws = f_FirstSteps_eliminate rws last) : Met l yX1_eliminate W_FirstSteps_eliminate RM_f_FirstSteps_eliminate (rwP (dC, dI) vwCl [(tI, .int), (tL, .long), (tII, .array .int), (tLL, .array .long)] (wC ad tI tL tII tLL cnt w tot rew grp fin gns rst rws last now nxt whl au al mu ml) ([.ref (ad 16)] : List Value)) (rwQ (dC, dI) vwCl (wC ad tI tL tII tLL cnt w tot rew grp fin gns rst R_rws last now nxt whl au al mu ml) none (rwA (wC ad tI tL tII tLL cnt w tot rew grp fin gns rst rws last now nxt whl au al mu ml))) 0 0 (rwA (wC ad tI tL tII tLL cnt w tot rew grp fin gns rst rws last now nxt whl au al mu ml)) := by
  refine Met.ofW (cc := cX1_eliminate) (maxL := 5) (ret := none) (by decide) rfl ?_
  intro p e s m args below meth c s₁ B hml hv
  obtain ⟨rfl, hP, hK, hN, hD⟩ := hv
  have hx := B.exec
  have hb := B.bytes
  have hr := B.returns
  have hts := atoms_spec (ws := W_FirstSteps_eliminate) B.pre
  have ht := fun (w : Cond) (h : w ∈ tblG) => hts w (List.mem_cons_of_mem _ h)
  have hown : s.vm.findClass RX1 = some m.cls := findClass_of_methodNamed B.named
  have hlocks := B.notSynchronized
  have hl := lv_entry ([.ref (ad 16)] : List Value) (n := 5) (Nat.le_of_ble_eq_true rfl)
  rw [lg_entry_eq]
  generalize (lg_sl ([.ref (ad 16)] : List Value) ++ List.replicate (5 - (lg_sl ([.ref (ad 16)] : List Value)).length) Slot.unset).toArray = ls at hl ⊢
  have hl : lv_has ls 5 [(0, .ref (ad 16))] := hl
  have hD := hD.own
  have hS : va_S (rwA (wC ad tI tL tII tLL cnt w tot rew grp fin gns rst rws last now nxt whl au al mu ml)) s.heap s.heap [] := va_S.rf
  suffices K : ∀ (H : Heap) (locs : List Loc), va_P (dC, dI) vwCl (wC ad tI tL tII tLL cnt w tot rew grp fin gns rst rws last now nxt whl au al mu ml) H → va_D (rwA (wC ad tI tL tII tLL cnt w tot rew grp fin gns rst rws last now nxt whl au al mu ml)) (wC ad tI tL tII tLL cnt w tot rew grp fin gns rst rws last now nxt whl au al mu ml) → va_S (rwA (wC ad tI tL tII tLL cnt w tot rew grp fin gns rst rws last now nxt whl au al mu ml)) s.heap H locs → W p l e (headSpec W_FirstSteps_eliminate RM_f_FirstSteps_eliminate).room s m ([.ref (ad 16)] : List Value).toArray below meth c H locs 0 0 (MQ below (rwQ (dC, dI) vwCl (wC ad tI tL tII tLL cnt w tot rew grp fin gns rst R_rws last now nxt whl au al mu ml) none (rwA (wC ad tI tL tII tLL cnt w tot rew grp fin gns rst rws last now nxt whl au al mu ml))) ([.ref (ad 16)] : List Value).toArray s 0 0 (rwA (wC ad tI tL tII tLL cnt w tot rew grp fin gns rst rws last now nxt whl au al mu ml))) (F0 m 0 ls []) from K s.heap [] hP hD hS
  clear hP hD hS
  intro H locs hP hD hS
  rw [f_FirstSteps_eliminate] at hR
  refine lv_lconst (v := 1) hx hb dX1_eliminate_0 (by decide) ?_
  refine lv_lstore_n (lv' := [(1, .long (1 : Int64)), (0, .ref (ad 16))]) hx hb dX1_eliminate_1 rfl hl (by decide) rfl (fun ls hl => ?_)
  refine lv_iconst (v := 0) hx hb dX1_eliminate_2 (by decide) ?_
  refine lv_istore_n (lv' := [(3, .int (0 : Int32)), (1, .long (1 : Int64)), (0, .ref (ad 16))]) hx hb dX1_eliminate_3 rfl hl (by decide) rfl (fun ls hl => ?_)
  have L4_14 : ∀ (n : Nat) (x1_1 : Int64) (x3_2 : Int32) (rws_3 : Nat → Nat → Int64), ∀ (o_x1_1 : Int64) (o_x3_2 : Int32) (o_rws_3 : Nat → Nat → Int64), some (o_x1_1, o_x3_2, o_rws_3) = f_FirstSteps_eliminate_L4 last n x1_1 x3_2 rws_3 → (∀ (H : Heap) (locs : List Loc), va_P (dC, dI) vwCl (wC ad tI tL tII tLL cnt w tot rew grp fin gns rst o_rws_3 last now nxt whl au al mu ml) H → va_D (rwA (wC ad tI tL tII tLL cnt w tot rew grp fin gns rst rws last now nxt whl au al mu ml)) (wC ad tI tL tII tLL cnt w tot rew grp fin gns rst o_rws_3 last now nxt whl au al mu ml) → va_S (rwA (wC ad tI tL tII tLL cnt w tot rew grp fin gns rst rws last now nxt whl au al mu ml)) s.heap H locs → ∀ ls : Array Slot, lv_has ls 5 [(0, .ref (ad 16)), (1, .long o_x1_1), (3, .int o_x3_2)] → W p l e (headSpec W_FirstSteps_eliminate RM_f_FirstSteps_eliminate).room s m ([.ref (ad 16)] : List Value).toArray below meth c H locs 0 0 (MQ below (rwQ (dC, dI) vwCl (wC ad tI tL tII tLL cnt w tot rew grp fin gns rst R_rws last now nxt whl au al mu ml) none (rwA (wC ad tI tL tII tLL cnt w tot rew grp fin gns rst rws last now nxt whl au al mu ml))) ([.ref (ad 16)] : List Value).toArray s 0 0 (rwA (wC ad tI tL tII tLL cnt w tot rew grp fin gns rst rws last now nxt whl au al mu ml))) (F0 m 55 ls [])) → ∀ (H : Heap) (locs : List Loc), va_P (dC, dI) vwCl (wC ad tI tL tII tLL cnt w tot rew grp fin gns rst rws_3 last now nxt whl au al mu ml) H → va_D (rwA (wC ad tI tL tII tLL cnt w tot rew grp fin gns rst rws last now nxt whl au al mu ml)) (wC ad tI tL tII tLL cnt w tot rew grp fin gns rst rws_3 last now nxt whl au al mu ml) → va_S (rwA (wC ad tI tL tII tLL cnt w tot rew grp fin gns rst rws last now nxt whl au al mu ml)) s.heap H locs → ∀ ls : Array Slot, lv_has ls 5 [(0, .ref (ad 16)), (1, .long x1_1), (3, .int x3_2)] → W p l e (headSpec W_FirstSteps_eliminate RM_f_FirstSteps_eliminate).room s m ([.ref (ad 16)] : List Value).toArray below meth c H locs 0 0 (MQ below (rwQ (dC, dI) vwCl (wC ad tI tL tII tLL cnt w tot rew grp fin gns rst R_rws last now nxt whl au al mu ml) none (rwA (wC ad tI tL tII tLL cnt w tot rew grp fin gns rst rws last now nxt whl au al mu ml))) ([.ref (ad 16)] : List Value).toArray s 0 0 (rwA (wC ad tI tL tII tLL cnt w tot rew grp fin gns rst rws last now nxt whl au al mu ml))) (F0 m 4 ls []) := by
    intro n
    induction n with
    | zero =>
      intro x1_1 x3_2 rws_3 o_x1_1 o_x3_2 o_rws_3 hR
      cases (show some _ = none from hR)
    | succ n ih =>
      intro x1_1 x3_2 rws_3 o_x1_1 o_x3_2 o_rws_3 hR hk H locs hP hD hS ls hl
      rw [f_FirstSteps_eliminate_L4_s] at hR
      obtain ⟨y, hR, hQ⟩ := ob hR
      replace hR := hR.symm
      rw [f_FirstSteps_eliminate_B4] at hR
      refine lv_iload_n hx hb dX1_eliminate_4 rfl (lv_at hl 2 rfl) ?_
      refine lv_aload_n hx hb dX1_eliminate_5 rfl (lv_at hl 0 rfl) ?_
      refine va_get (D := (dC, dI)) (ci := 1) (v := .int last) (C := RX1) (T := TX1) (N := 5) hx hb ht hinX1 hown hK hP 16 rfl rfl 4 (by decide) (ht _ k_83) (fun _ h9 => h9) rfl dX1_eliminate_6 ?_
      refine lv_icmp_ge (tgt := 55) hx hb dX1_eliminate_9 (by decide) (fun c4 => ?_) (fun c4 => ?_)
      · replace hR := it_p c4 hR
        cases hR
        cases (show some _ = some _ from hQ)
        exact hk H locs hP hD hS ls (lv_sub hl [0, 1, 2] rfl)
      · replace hR := it_n c4 hR
        refine lv_iload_n hx hb dX1_eliminate_12 rfl (lv_at hl 2 rfl) ?_
        refine lv_iconst (v := 1) hx hb dX1_eliminate_13 (by decide) ?_
        refine lv_iadd hx hb dX1_eliminate_14 ?_
        refine lv_istore (lv' := [(4, .int (x3_2 + (1 : Int32))), (0, .ref (ad 16)), (1, .long x1_1), (3, .int x3_2)]) hx hb dX1_eliminate_15 hl (by decide) rfl (fun ls hl => ?_)
        have L17_9 : ∀ (n : Nat) (x4_5 : Int32) (rws_6 : Nat → Nat → Int64), ∀ (o_x4_5 : Int32) (o_rws_6 : Nat → Nat → Int64), some (o_x4_5, o_rws_6) = f_FirstSteps_eliminate_L17 last x1_1 x3_2 n x4_5 rws_6 → (∀ (H : Heap) (locs : List Loc), va_P (dC, dI) vwCl (wC ad tI tL tII tLL cnt w tot rew grp fin gns rst o_rws_6 last now nxt whl au al mu ml) H → va_D (rwA (wC ad tI tL tII tLL cnt w tot rew grp fin gns rst rws last now nxt whl au al mu ml)) (wC ad tI tL tII tLL cnt w tot rew grp fin gns rst o_rws_6 last now nxt whl au al mu ml) → va_S (rwA (wC ad tI tL tII tLL cnt w tot rew grp fin gns rst rws last now nxt whl au al mu ml)) s.heap H locs → ∀ ls : Array Slot, lv_has ls 5 [(0, .ref (ad 16)), (1, .long x1_1), (3, .int x3_2), (4, .int o_x4_5)] → W p l e (headSpec W_FirstSteps_eliminate RM_f_FirstSteps_eliminate).room s m ([.ref (ad 16)] : List Value).toArray below meth c H locs 0 0 (MQ below (rwQ (dC, dI) vwCl (wC ad tI tL tII tLL cnt w tot rew grp fin gns rst R_rws last now nxt whl au al mu ml) none (rwA (wC ad tI tL tII tLL cnt w tot rew grp fin gns rst rws last now nxt whl au al mu ml))) ([.ref (ad 16)] : List Value).toArray s 0 0 (rwA (wC ad tI tL tII tLL cnt w tot rew grp fin gns rst rws last now nxt whl au al mu ml))) (F0 m 40 ls [])) → ∀ (H : Heap) (locs : List Loc), va_P (dC, dI) vwCl (wC ad tI tL tII tLL cnt w tot rew grp fin gns rst rws_6 last now nxt whl au al mu ml) H → va_D (rwA (wC ad tI tL tII tLL cnt w tot rew grp fin gns rst rws last now nxt whl au al mu ml)) (wC ad tI tL tII tLL cnt w tot rew grp fin gns rst rws_6 last now nxt whl au al mu ml) → va_S (rwA (wC ad tI tL tII tLL cnt w tot rew grp fin gns rst rws last now nxt whl au al mu ml)) s.heap H locs → ∀ ls : Array Slot, lv_has ls 5 [(0, .ref (ad 16)), (1, .long x1_1), (3, .int x3_2), (4, .int x4_5)] → W p l e (headSpec W_FirstSteps_eliminate RM_f_FirstSteps_eliminate).room s m ([.ref (ad 16)] : List Value).toArray below meth c H locs 0 0 (MQ below (rwQ (dC, dI) vwCl (wC ad tI tL tII tLL cnt w tot rew grp fin gns rst R_rws last now nxt whl au al mu ml) none (rwA (wC ad tI tL tII tLL cnt w tot rew grp fin gns rst rws last now nxt whl au al mu ml))) ([.ref (ad 16)] : List Value).toArray s 0 0 (rwA (wC ad tI tL tII tLL cnt w tot rew grp fin gns rst rws last now nxt whl au al mu ml))) (F0 m 17 ls []) := by
          intro n
          induction n with
          | zero =>
            intro x4_5 rws_6 o_x4_5 o_rws_6 hR
            cases (show some _ = none from hR)
          | succ n ih =>
            intro x4_5 rws_6 o_x4_5 o_rws_6 hR hk H locs hP hD hS ls hl
            rw [f_FirstSteps_eliminate_L17_s] at hR
            obtain ⟨y, hR, hQ⟩ := ob hR
            replace hR := hR.symm
            rw [f_FirstSteps_eliminate_B17] at hR
            refine lv_iload hx hb dX1_eliminate_17 (lv_at hl 3 rfl) ?_
            refine lv_aload_n hx hb dX1_eliminate_19 rfl (lv_at hl 0 rfl) ?_
            refine va_get (D := (dC, dI)) (ci := 1) (v := .int last) (C := RX1) (T := TX1) (N := 5) hx hb ht hinX1 hown hK hP 16 rfl rfl 4 (by decide) (ht _ k_83) (fun _ h9 => h9) rfl dX1_eliminate_20 ?_
            refine lv_icmp_gt (tgt := 40) hx hb dX1_eliminate_23 (by decide) (fun c7 => ?_) (fun c7 => ?_)
            · replace hR := it_p c7 hR
              cases hR
              cases (show some _ = some _ from hQ)
              exact hk H locs hP hD hS ls (lv_sub hl [0, 1, 2, 3] rfl)
            · replace hR := it_n c7 hR
              refine lv_aload_n hx hb dX1_eliminate_26 rfl (lv_at hl 0 rfl) ?_
              refine lv_iload hx hb dX1_eliminate_27 (lv_at hl 3 rfl) ?_
              refine lv_iload_n hx hb dX1_eliminate_29 rfl (lv_at hl 2 rfl) ?_
              refine lv_lload_n hx hb dX1_eliminate_30 rfl (lv_at hl 1 rfl) ?_
              obtain ⟨rws_8, hC, hR⟩ := ob hR
              try dsimp only at hR
              refine rw_callv (va_runV (As := [.int x4_5, .int x3_2, .long x1_1]) (rest := []) ⟨hx, hb, hml, hown, ht⟩ (c_FirstSteps_reduceRow l dC dI ad tI tL tII tLL cnt w tot rew grp fin gns rst rws_6 last now nxt whl au al mu ml x4_5 x3_2 x1_1 rws_8 hC.symm) ⟨callB_of 3 ht (goodG k_86) rfl rfl rfl (ht _ k_87) (ht _ k_88) (by decide +kernel) ⟨Nat.le_of_ble_eq_true rfl, Nat.le_of_ble_eq_true rfl⟩, (ht _ k_90), (ht _ k_89)⟩ (pre_vw hK hN hP hD (q0 := 16) (ci := 1) rfl rfl) rfl rfl hl.1 rfl (lv_room (Nat.le_of_ble_eq_true rfl)) dX1_eliminate_31 ⟨Nat.zero_le _, Nat.zero_le _⟩) hD hS rfl (fun H locs hP hD hS => ?_)
              have hP : va_P (dC, dI) vwCl (wC ad tI tL tII tLL cnt w tot rew grp fin gns rst rws_8 last now nxt whl au al mu ml) H := hP
              have hD : va_D (rwA (wC ad tI tL tII tLL cnt w tot rew grp fin gns rst rws last now nxt whl au al mu ml)) (wC ad tI tL tII tLL cnt w tot rew grp fin gns rst rws_8 last now nxt whl au al mu ml) := hD
              refine lv_iinc (v := (x4_5 + 1)) (lv' := [(4, .int (x4_5 + 1)), (0, .ref (ad 16)), (1, .long x1_1), (3, .int x3_2)]) hx hb dX1_eliminate_34 hl (k := 3) rfl rfl (by decide) rfl (fun ls hl => ?_)
              refine lv_goto (tgt := 17) hx hb dX1_eliminate_37 (by decide) ?_
              cases hR
              exact ih (x4_5 + 1) rws_8 o_x4_5 o_rws_6 hQ hk H locs hP hD hS ls (lv_sub hl [1, 2, 3, 0] rfl)
        obtain ⟨⟨u10, u11⟩, hL, hR⟩ := ob hR
        try dsimp only at hR
        refine L17_9 300 (x3_2 + (1 : Int32)) rws_3 u10 u11 hL.symm (fun H locs hP hD hS ls hl => ?_) H locs hP hD hS ls (lv_sub hl [1, 2, 3, 0] rfl)
        refine lv_aload_n hx hb dX1_eliminate_40 rfl (lv_at hl 0 rfl) ?_
        refine va_get (D := (dC, dI)) (ci := 1) (v := .ref (ad 19)) (C := RX1) (T := TX1) (N := 5) hx hb ht hinX1 hown hK hP 16 rfl rfl 3 (by decide) (ht _ k_84) (fun _ h9 => h9) rfl dX1_eliminate_41 ?_
        refine lv_iload_n hx hb dX1_eliminate_44 rfl (lv_at hl 2 rfl) ?_
        obtain ⟨z12, hR⟩ := og hR
        refine va_aldA hx hb hK hP 19 3 rfl rfl rfl (ix_in z12) dX1_eliminate_45 ?_
        refine lv_iload_n hx hb dX1_eliminate_46 rfl (lv_at hl 2 rfl) ?_
        obtain ⟨z13, hR⟩ := og hR
        refine va_lald hx hb hK hP (19 + 1 + x3_2.toNatClampNeg) 1 (wC_row_ro (ix_lt z12)) rfl (ix_in z13) dX1_eliminate_47 ?_
        refine lv_lstore_n (lv' := [(1, .long (u11 x3_2.toNatClampNeg x3_2.toNatClampNeg)), (0, .ref (ad 16)), (3, .int x3_2), (4, .int u10)]) hx hb dX1_eliminate_48 rfl hl (by decide) rfl (fun ls hl => ?_)
        refine lv_iinc (v := (x3_2 + 1)) (lv' := [(3, .int (x3_2 + 1)), (1, .long (u11 x3_2.toNatClampNeg x3_2.toNatClampNeg)), (0, .ref (ad 16)), (4, .int u10)]) hx hb dX1_eliminate_49 hl (k := 2) rfl rfl (by decide) rfl (fun ls hl => ?_)
        refine lv_goto (tgt := 4) hx hb dX1_eliminate_52 (by decide) ?_
        cases hR
        exact ih (u11 x3_2.toNatClampNeg x3_2.toNatClampNeg) (x3_2 + 1) u11 o_x1_1 o_x3_2 o_rws_3 hQ hk H locs hP hD hS ls (lv_sub hl [2, 1, 0] rfl)
  obtain ⟨⟨u15, u16, u17⟩, hL, hR⟩ := ob hR
  try dsimp only at hR
  refine L4_14 300 (1 : Int64) (0 : Int32) rws u15 u16 u17 hL.symm (fun H locs hP hD hS ls hl => ?_) H locs hP hD hS ls (lv_sub hl [2, 1, 0] rfl)
  cases hR
  exact W.vret hx hb hr (fun t ht _ => ⟨rfl, by rw [ht]; exact hP, hS.F ht⟩) hS.2.2 dX1_eliminate_55
abbrev RM_f_FirstSteps_solveA : Room := { frames := 3, cells := 0, slots := 0, locals := 79 }
abbrev W_FirstSteps_solveA : List Cond := .code yX1_solve cX1_solve 5 none :: tblG
set_option maxHeartbeats 4000000 in
set_option maxRecDepth 100000 in
theorem c_FirstSteps_solveA (l : Launch) (dC : Nat → ClassId) (dI : Nat → Nat → Nat) (ad : Nat → Nat) (tI tL tII tLL : ClassId) (cnt : Int32) (w : Nat → Nat → Int32) (tot : Nat → Int32) (rew : Nat → Int32) (grp : Nat → Int32) (fin : Nat → Int32) (gns : Nat → Int64) (rst : Nat → Int32) (rws : Nat → Nat → Int64) (last : Int32) (now : Nat → Int64) (nxt : Nat → Int64) (whl : Int64) (au : Int64) (al : Int64) (mu : Int64) (ml : Int64) (p1 : Int32) (p2 : Int32) (R_rst : Nat → Int32) (R_rws : Nat → Nat → Int64) (R_last : Int32) (R_au : Int64) (R_al : Int64) (hR : some (R_rst, R_rws, R_last, R_au, R_al) = f_FirstSteps_solveA cnt w tot gns rst rws p1 p2) : Met l yX1_solve W_FirstSteps_solveA RM_f_FirstSteps_solveA (rwP (dC, dI) vwCl [(tI, .int), (tL, .long), (tII, .array .int), (tLL, .array .long)] (wC ad tI tL tII tLL cnt w tot rew grp fin gns rst rws last now nxt whl au al mu ml) ([.ref (ad 16), .int p1, .int p2, .ref (ad 31)] : List Value)) (rwQ (dC, dI) vwCl (wC ad tI tL tII tLL cnt w tot rew grp fin gns R_rst R_rws R_last now nxt whl R_au R_al mu ml) none (rwA (wC ad tI tL tII tLL cnt w tot rew grp fin gns rst rws last now nxt whl au al mu ml))) 0 0 (rwA (wC ad tI tL tII tLL cnt w tot rew grp fin gns rst rws last now nxt whl au al mu ml)) := by
  refine Met.ofW (cc := cX1_solve) (maxL := 5) (ret := none) (by decide) rfl ?_
  intro p e s m args below meth c s₁ B hml hv
  obtain ⟨rfl, hP, hK, hN, hD⟩ := hv
  have hx := B.exec
  have hb := B.bytes
  have hr := B.returns
  have hts := atoms_spec (ws := W_FirstSteps_solveA) B.pre
  have ht := fun (w : Cond) (h : w ∈ tblG) => hts w (List.mem_cons_of_mem _ h)
  have hown : s.vm.findClass RX1 = some m.cls := findClass_of_methodNamed B.named
  have hlocks := B.notSynchronized
  have hl := lv_entry ([.ref (ad 16), .int p1, .int p2, .ref (ad 31)] : List Value) (n := 5) (Nat.le_of_ble_eq_true rfl)
  rw [lg_entry_eq]
  generalize (lg_sl ([.ref (ad 16), .int p1, .int p2, .ref (ad 31)] : List Value) ++ List.replicate (5 - (lg_sl ([.ref (ad 16), .int p1, .int p2, .ref (ad 31)] : List Value)).length) Slot.unset).toArray = ls at hl ⊢
  have hl : lv_has ls 5 [(0, .ref (ad 16)), (1, .int p1), (2, .int p2), (3, .ref (ad 31))] := hl
  have hD := hD.own
  have hS : va_S (rwA (wC ad tI tL tII tLL cnt w tot rew grp fin gns rst rws last now nxt whl au al mu ml)) s.heap s.heap [] := va_S.rf
  suffices K : ∀ (H : Heap) (locs : List Loc), va_P (dC, dI) vwCl (wC ad tI tL tII tLL cnt w tot rew grp fin gns rst rws last now nxt whl au al mu ml) H → va_D (rwA (wC ad tI tL tII tLL cnt w tot rew grp fin gns rst rws last now nxt whl au al mu ml)) (wC ad tI tL tII tLL cnt w tot rew grp fin gns rst rws last now nxt whl au al mu ml) → va_S (rwA (wC ad tI tL tII tLL cnt w tot rew grp fin gns rst rws last now nxt whl au al mu ml)) s.heap H locs → W p l e (headSpec W_FirstSteps_solveA RM_f_FirstSteps_solveA).room s m ([.ref (ad 16), .int p1, .int p2, .ref (ad 31)] : List Value).toArray below meth c H locs 0 0 (MQ below (rwQ (dC, dI) vwCl (wC ad tI tL tII tLL cnt w tot rew grp fin gns R_rst R_rws R_last now nxt whl R_au R_al mu ml) none (rwA (wC ad tI tL tII tLL cnt w tot rew grp fin gns rst rws last now nxt whl au al mu ml))) ([.ref (ad 16), .int p1, .int p2, .ref (ad 31)] : List Value).toArray s 0 0 (rwA (wC ad tI tL tII tLL cnt w tot rew grp fin gns rst rws last now nxt whl au al mu ml))) (F0 m 0 ls []) from K s.heap [] hP hD hS
  clear hP hD hS
  intro H locs hP hD hS
  rw [f_FirstSteps_solveA] at hR
  refine lv_aload_n hx hb dX1_solve_0 rfl (lv_at hl 0 rfl) ?_
  refine lv_iconst (v := 0) hx hb dX1_solve_1 (by decide) ?_
  refine va_put (D := (dC, dI)) (ci := 1) (v := .int (0 : Int32)) (ty := .int) (C := RX1) (T := TX1) (N := 5) hx hb ht hinX1 tyX1 tyX1_ok nmX1 hown hK hP hD hS 16 rfl rfl 4 (by decide) (ht _ k_83) (fun _ h9 => h9) rfl (by decide +kernel) rfl rfl (Nat.le_of_ble_eq_true rfl) dX1_solve_2 (fun H locs hP hD hS => ?_)
  have hP : va_P (dC, dI) vwCl (wC ad tI tL tII tLL cnt w tot rew grp fin gns rst rws (0 : Int32) now nxt whl au al mu ml) H := hP
  have hD : va_D (rwA (wC ad tI tL tII tLL cnt w tot rew grp fin gns rst rws last now nxt whl au al mu ml)) (wC ad tI tL tII tLL cnt w tot rew grp fin gns rst rws (0 : Int32) now nxt whl au al mu ml) := hD
  refine lv_iconst (v := 0) hx hb dX1_solve_5 (by decide) ?_
  refine lv_istore (lv' := [(4, .int (0 : Int32)), (0, .ref (ad 16)), (1, .int p1), (2, .int p2), (3, .ref (ad 31))]) hx hb dX1_solve_6 hl (by decide) rfl (fun ls hl => ?_)
  have L8_8 : ∀ (n : Nat) (x4_1 : Int32) (rst_2 : Nat → Int32) (last_3 : Int32), ∀ (o_x4_1 : Int32) (o_rst_2 : Nat → Int32) (o_last_3 : Int32), some (o_x4_1, o_rst_2, o_last_3) = f_FirstSteps_solveA_L8 cnt p2 n x4_1 rst_2 last_3 → (∀ (H : Heap) (locs : List Loc), va_P (dC, dI) vwCl (wC ad tI tL tII tLL cnt w tot rew grp fin gns o_rst_2 rws o_last_3 now nxt whl au al mu ml) H → va_D (rwA (wC ad tI tL tII tLL cnt w tot rew grp fin gns rst rws last now nxt whl au al mu ml)) (wC ad tI tL tII tLL cnt w tot rew grp fin gns o_rst_2 rws o_last_3 now nxt whl au al mu ml) → va_S (rwA (wC ad tI tL tII tLL cnt w tot rew grp fin gns rst rws last now nxt whl au al mu ml)) s.heap H locs → ∀ ls : Array Slot, lv_has ls 5 [(0, .ref (ad 16)), (1, .int p1), (2, .int p2), (3, .ref (ad 31)), (4, .int o_x4_1)] → W p l e (headSpec W_FirstSteps_solveA RM_f_FirstSteps_solveA).room s m ([.ref (ad 16), .int p1, .int p2, .ref (ad 31)] : List Value).toArray below meth c H locs 0 0 (MQ below (rwQ (dC, dI) vwCl (wC ad tI tL tII tLL cnt w tot rew grp fin gns R_rst R_rws R_last now nxt whl R_au R_al mu ml) none (rwA (wC ad tI tL tII tLL cnt w tot rew grp fin gns rst rws last now nxt whl au al mu ml))) ([.ref (ad 16), .int p1, .int p2, .ref (ad 31)] : List Value).toArray s 0 0 (rwA (wC ad tI tL tII tLL cnt w tot rew grp fin gns rst rws last now nxt whl au al mu ml))) (F0 m 56 ls [])) → ∀ (H : Heap) (locs : List Loc), va_P (dC, dI) vwCl (wC ad tI tL tII tLL cnt w tot rew grp fin gns rst_2 rws last_3 now nxt whl au al mu ml) H → va_D (rwA (wC ad tI tL tII tLL cnt w tot rew grp fin gns rst rws last now nxt whl au al mu ml)) (wC ad tI tL tII tLL cnt w tot rew grp fin gns rst_2 rws last_3 now nxt whl au al mu ml) → va_S (rwA (wC ad tI tL tII tLL cnt w tot rew grp fin gns rst rws last now nxt whl au al mu ml)) s.heap H locs → ∀ ls : Array Slot, lv_has ls 5 [(0, .ref (ad 16)), (1, .int p1), (2, .int p2), (3, .ref (ad 31)), (4, .int x4_1)] → W p l e (headSpec W_FirstSteps_solveA RM_f_FirstSteps_solveA).room s m ([.ref (ad 16), .int p1, .int p2, .ref (ad 31)] : List Value).toArray below meth c H locs 0 0 (MQ below (rwQ (dC, dI) vwCl (wC ad tI tL tII tLL cnt w tot rew grp fin gns R_rst R_rws R_last now nxt whl R_au R_al mu ml) none (rwA (wC ad tI tL tII tLL cnt w tot rew grp fin gns rst rws last now nxt whl au al mu ml))) ([.ref (ad 16), .int p1, .int p2, .ref (ad 31)] : List Value).toArray s 0 0 (rwA (wC ad tI tL tII tLL cnt w tot rew grp fin gns rst rws last now nxt whl au al mu ml))) (F0 m 8 ls []) := by
    intro n
    induction n with
    | zero =>
      intro x4_1 rst_2 last_3 o_x4_1 o_rst_2 o_last_3 hR
      cases (show some _ = none from hR)
    | succ n ih =>
      intro x4_1 rst_2 last_3 o_x4_1 o_rst_2 o_last_3 hR hk H locs hP hD hS ls hl
      rw [f_FirstSteps_solveA_L8_s] at hR
      obtain ⟨y, hR, hQ⟩ := ob hR
      replace hR := hR.symm
      rw [f_FirstSteps_solveA_B8] at hR
      refine lv_iload hx hb dX1_solve_8 (lv_at hl 4 rfl) ?_
      refine lv_aload_n hx hb dX1_solve_10 rfl (lv_at hl 0 rfl) ?_
      refine va_get (D := (dC, dI)) (ci := 1) (v := .ref (ad 1)) (C := RX1) (T := TX1) (N := 5) hx hb ht hinX1 hown hK hP 16 rfl rfl 0 (by decide) (ht _ k_78) (fun _ h9 => h9) rfl dX1_solve_11 ?_
      refine va_getN (D := (dC, dI)) (ci := 0) (v := .int cnt) (C := RX0) (T := TX0) (N := 4) hx hb ht hinX0 hown hK hP 1 rfl rfl 3 (by decide) (va_Nw.use rfl (nf_6 hN)) (fun _ h9 => h9) rfl dX1_solve_14 ?_
      refine lv_icmp_ge (tgt := 56) hx hb dX1_solve_17 (by decide) (fun c4 => ?_) (fun c4 => ?_)
      · replace hR := it_p c4 hR
        cases hR
        cases (show some _ = some _ from hQ)
        exact hk H locs hP hD hS ls (lv_sub hl [0, 1, 2, 3, 4] rfl)
      · replace hR := it_n c4 hR
        refine lv_iload_n hx hb dX1_solve_20 rfl (lv_at hl 2 rfl) ?_
        refine lv_iload hx hb dX1_solve_21 (lv_at hl 4 rfl) ?_
        obtain ⟨r5, hC, hR⟩ := ob hR
        try dsimp only at hR
        refine ro_calli (va_runSN (As := [.int p2, .int x4_1]) (rest := []) ⟨hx, hb, hml, hown, ht⟩ (c_holds l dC dI ad tI tL tII tLL  p2 x4_1 r5 hC.symm) ⟨va_cnB 2 ht (goodG k_20) rfl rfl rfl (nm_6 hN) (ht _ k_8) (by decide +kernel) ⟨Nat.le_of_ble_eq_true rfl, Nat.le_of_ble_eq_true rfl⟩, (ht _ k_21), trivial⟩ (pre_s hK hN (hP.sub (ws' := []) [] rfl)) rfl rfl hl.1 rfl (lv_room (Nat.le_of_ble_eq_true rfl)) dX1_solve_23 ⟨Nat.zero_le _, Nat.zero_le _⟩) ?_
        refine lv_if_eq (tgt := 50) hx hb dX1_solve_26 (by decide) (fun c6 => ?_) (fun c6 => ?_)
        · replace hR := it_p c6 hR
          refine lv_iinc (v := (x4_1 + 1)) (lv' := [(4, .int (x4_1 + 1)), (0, .ref (ad 16)), (1, .int p1), (2, .int p2), (3, .ref (ad 31))]) hx hb dX1_solve_50 hl (k := 4) rfl rfl (by decide) rfl (fun ls hl => ?_)
          refine lv_goto (tgt := 8) hx hb dX1_solve_53 (by decide) ?_
          cases hR
          exact ih (x4_1 + 1) rst_2 last_3 o_x4_1 o_rst_2 o_last_3 hQ hk H locs hP hD hS ls (lv_sub hl [1, 2, 3, 4, 0] rfl)
        · replace hR := it_n c6 hR
          refine lv_aload_n hx hb dX1_solve_29 rfl (lv_at hl 0 rfl) ?_
          refine va_get (D := (dC, dI)) (ci := 1) (v := .ref (ad 18)) (C := RX1) (T := TX1) (N := 5) hx hb ht hinX1 hown hK hP 16 rfl rfl 2 (by decide) (ht _ k_82) (fun _ h9 => h9) rfl dX1_solve_30 ?_
          refine lv_aload_n hx hb dX1_solve_33 rfl (lv_at hl 0 rfl) ?_
          refine va_get (D := (dC, dI)) (ci := 1) (v := .int last_3) (C := RX1) (T := TX1) (N := 5) hx hb ht hinX1 hown hK hP 16 rfl rfl 4 (by decide) (ht _ k_83) (fun _ h9 => h9) rfl dX1_solve_34 ?_
          refine lv_iload hx hb dX1_solve_37 (lv_at hl 4 rfl) ?_
          obtain ⟨z7, hR⟩ := og hR
          refine va_iast hx hb hK hP hD hS 18 0 rfl rfl (ix_in z7) dX1_solve_39 (fun H locs hP hD hS => ?_)
          have hP : va_P (dC, dI) vwCl (wC ad tI tL tII tLL cnt w tot rew grp fin gns (upd rst_2 last_3.toNatClampNeg x4_1) rws last_3 now nxt whl au al mu ml) H := hP
          have hD : va_D (rwA (wC ad tI tL tII tLL cnt w tot rew grp fin gns rst rws last now nxt whl au al mu ml)) (wC ad tI tL tII tLL cnt w tot rew grp fin gns (upd rst_2 last_3.toNatClampNeg x4_1) rws last_3 now nxt whl au al mu ml) := hD
          refine lv_aload_n hx hb dX1_solve_40 rfl (lv_at hl 0 rfl) ?_
          refine lv_dup hx hb dX1_solve_41 rfl ?_
          refine va_get (D := (dC, dI)) (ci := 1) (v := .int last_3) (C := RX1) (T := TX1) (N := 5) hx hb ht hinX1 hown hK hP 16 rfl rfl 4 (by decide) (ht _ k_83) (fun _ h9 => h9) rfl dX1_solve_42 ?_
          refine lv_iconst (v := 1) hx hb dX1_solve_45 (by decide) ?_
          refine lv_iadd hx hb dX1_solve_46 ?_
          refine va_put (D := (dC, dI)) (ci := 1) (v := .int (last_3 + (1 : Int32))) (ty := .int) (C := RX1) (T := TX1) (N := 5) hx hb ht hinX1 tyX1 tyX1_ok nmX1 hown hK hP hD hS 16 rfl rfl 4 (by decide) (ht _ k_83) (fun _ h9 => h9) rfl (by decide +kernel) rfl rfl (Nat.le_of_ble_eq_true rfl) dX1_solve_47 (fun H locs hP hD hS => ?_)
          have hP : va_P (dC, dI) vwCl (wC ad tI tL tII tLL cnt w tot rew grp fin gns (upd rst_2 last_3.toNatClampNeg x4_1) rws (last_3 + (1 : Int32)) now nxt whl au al mu ml) H := hP
          have hD : va_D (rwA (wC ad tI tL tII tLL cnt w tot rew grp fin gns rst rws last now nxt whl au al mu ml)) (wC ad tI tL tII tLL cnt w tot rew grp fin gns (upd rst_2 last_3.toNatClampNeg x4_1) rws (last_3 + (1 : Int32)) now nxt whl au al mu ml) := hD
          refine lv_iinc (v := (x4_1 + 1)) (lv' := [(4, .int (x4_1 + 1)), (0, .ref (ad 16)), (1, .int p1), (2, .int p2), (3, .ref (ad 31))]) hx hb dX1_solve_50 hl (k := 4) rfl rfl (by decide) rfl (fun ls hl => ?_)
          refine lv_goto (tgt := 8) hx hb dX1_solve_53 (by decide) ?_
          cases hR
          exact ih (x4_1 + 1) (upd rst_2 last_3.toNatClampNeg x4_1) (last_3 + (1 : Int32)) o_x4_1 o_rst_2 o_last_3 hQ hk H locs hP hD hS ls (lv_sub hl [1, 2, 3, 4, 0] rfl)
  obtain ⟨⟨u9, u10, u11⟩, hL, hR⟩ := ob hR
  try dsimp only at hR
  refine L8_8 300 (0 : Int32) rst (0 : Int32) u9 u10 u11 hL.symm (fun H locs hP hD hS ls hl => ?_) H locs hP hD hS ls (lv_sub hl [1, 2, 3, 4, 0] rfl)
  refine lv_aload_n hx hb dX1_solve_56 rfl (lv_at hl 0 rfl) ?_
  refine va_get (D := (dC, dI)) (ci := 1) (v := .ref (ad 18)) (C := RX1) (T := TX1) (N := 5) hx hb ht hinX1 hown hK hP 16 rfl rfl 2 (by decide) (ht _ k_82) (fun _ h9 => h9) rfl dX1_solve_57 ?_
  refine lv_aload_n hx hb dX1_solve_60 rfl (lv_at hl 0 rfl) ?_
  refine va_get (D := (dC, dI)) (ci := 1) (v := .int u11) (C := RX1) (T := TX1) (N := 5) hx hb ht hinX1 hown hK hP 16 rfl rfl 4 (by decide) (ht _ k_83) (fun _ h9 => h9) rfl dX1_solve_61 ?_
  refine lv_iload_n hx hb dX1_solve_64 rfl (lv_at hl 1 rfl) ?_
  obtain ⟨z12, hR⟩ := og hR
  refine va_iast hx hb hK hP hD hS 18 0 rfl rfl (ix_in z12) dX1_solve_65 (fun H locs hP hD hS => ?_)
  have hP : va_P (dC, dI) vwCl (wC ad tI tL tII tLL cnt w tot rew grp fin gns (upd u10 u11.toNatClampNeg p1) rws u11 now nxt whl au al mu ml) H := hP
  have hD : va_D (rwA (wC ad tI tL tII tLL cnt w tot rew grp fin gns rst rws last now nxt whl au al mu ml)) (wC ad tI tL tII tLL cnt w tot rew grp fin gns (upd u10 u11.toNatClampNeg p1) rws u11 now nxt whl au al mu ml) := hD
  refine lv_iconst (v := 0) hx hb dX1_solve_66 (by decide) ?_
  refine lv_istore (lv' := [(4, .int (0 : Int32)), (0, .ref (ad 16)), (1, .int p1), (2, .int p2), (3, .ref (ad 31))]) hx hb dX1_solve_67 hl (by decide) rfl (fun ls hl => ?_)
  have L69_18 : ∀ (rst_14 : Nat → Int32), ∀ (n : Nat) (x4_13 : Int32) (rws_15 : Nat → Nat → Int64), ∀ (o_x4_13 : Int32) (o_rws_15 : Nat → Nat → Int64), some (o_x4_13, o_rws_15) = f_FirstSteps_solveA_L69 w tot gns rst_14 u11 n x4_13 rws_15 → (∀ (H : Heap) (locs : List Loc), va_P (dC, dI) vwCl (wC ad tI tL tII tLL cnt w tot rew grp fin gns rst_14 o_rws_15 u11 now nxt whl au al mu ml) H → va_D (rwA (wC ad tI tL tII tLL cnt w tot rew grp fin gns rst rws last now nxt whl au al mu ml)) (wC ad tI tL tII tLL cnt w tot rew grp fin gns rst_14 o_rws_15 u11 now nxt whl au al mu ml) → va_S (rwA (wC ad tI tL tII tLL cnt w tot rew grp fin gns rst rws last now nxt whl au al mu ml)) s.heap H locs → ∀ ls : Array Slot, lv_has ls 5 [(0, .ref (ad 16)), (3, .ref (ad 31)), (4, .int o_x4_13)] → W p l e (headSpec W_FirstSteps_solveA RM_f_FirstSteps_solveA).room s m ([.ref (ad 16), .int p1, .int p2, .ref (ad 31)] : List Value).toArray below meth c H locs 0 0 (MQ below (rwQ (dC, dI) vwCl (wC ad tI tL tII tLL cnt w tot rew grp fin gns R_rst R_rws R_last now nxt whl R_au R_al mu ml) none (rwA (wC ad tI tL tII tLL cnt w tot rew grp fin gns rst rws last now nxt whl au al mu ml))) ([.ref (ad 16), .int p1, .int p2, .ref (ad 31)] : List Value).toArray s 0 0 (rwA (wC ad tI tL tII tLL cnt w tot rew grp fin gns rst rws last now nxt whl au al mu ml))) (F0 m 90 ls [])) → ∀ (H : Heap) (locs : List Loc), va_P (dC, dI) vwCl (wC ad tI tL tII tLL cnt w tot rew grp fin gns rst_14 rws_15 u11 now nxt whl au al mu ml) H → va_D (rwA (wC ad tI tL tII tLL cnt w tot rew grp fin gns rst rws last now nxt whl au al mu ml)) (wC ad tI tL tII tLL cnt w tot rew grp fin gns rst_14 rws_15 u11 now nxt whl au al mu ml) → va_S (rwA (wC ad tI tL tII tLL cnt w tot rew grp fin gns rst rws last now nxt whl au al mu ml)) s.heap H locs → ∀ ls : Array Slot, lv_has ls 5 [(0, .ref (ad 16)), (3, .ref (ad 31)), (4, .int x4_13)] → W p l e (headSpec W_FirstSteps_solveA RM_f_FirstSteps_solveA).room s m ([.ref (ad 16), .int p1, .int p2, .ref (ad 31)] : List Value).toArray below meth c H locs 0 0 (MQ below (rwQ (dC, dI) vwCl (wC ad tI tL tII tLL cnt w tot rew grp fin gns R_rst R_rws R_last now nxt whl R_au R_al mu ml) none (rwA (wC ad tI tL tII tLL cnt w tot rew grp fin gns rst rws last now nxt whl au al mu ml))) ([.ref (ad 16), .int p1, .int p2, .ref (ad 31)] : List Value).toArray s 0 0 (rwA (wC ad tI tL tII tLL cnt w tot rew grp fin gns rst rws last now nxt whl au al mu ml))) (F0 m 69 ls []) := by
    intro rst_14
    intro n
    induction n with
    | zero =>
      intro x4_13 rws_15 o_x4_13 o_rws_15 hR
      cases (show some _ = none from hR)
    | succ n ih =>
      intro x4_13 rws_15 o_x4_13 o_rws_15 hR hk H locs hP hD hS ls hl
      rw [f_FirstSteps_solveA_L69_s] at hR
      obtain ⟨y, hR, hQ⟩ := ob hR
      replace hR := hR.symm
      rw [f_FirstSteps_solveA_B69] at hR
      refine lv_iload hx hb dX1_solve_69 (lv_at hl 2 rfl) ?_
      refine lv_aload_n hx hb dX1_solve_71 rfl (lv_at hl 0 rfl) ?_
      refine va_get (D := (dC, dI)) (ci := 1) (v := .int u11) (C := RX1) (T := TX1) (N := 5) hx hb ht hinX1 hown hK hP 16 rfl rfl 4 (by decide) (ht _ k_83) (fun _ h9 => h9) rfl dX1_solve_72 ?_
      refine lv_icmp_gt (tgt := 90) hx hb dX1_solve_75 (by decide) (fun c16 => ?_) (fun c16 => ?_)
      · replace hR := it_p c16 hR
        cases hR
        cases (show some _ = some _ from hQ)
        exact hk H locs hP hD hS ls (lv_sub hl [0, 1, 2] rfl)
      · replace hR := it_n c16 hR
        refine lv_aload_n hx hb dX1_solve_78 rfl (lv_at hl 0 rfl) ?_
        refine lv_iload hx hb dX1_solve_79 (lv_at hl 2 rfl) ?_
        obtain ⟨rws_17, hC, hR⟩ := ob hR
        try dsimp only at hR
        refine rw_callv (va_runV (As := [.int x4_13]) (rest := []) ⟨hx, hb, hml, hown, ht⟩ (c_FirstSteps_writeRow l dC dI ad tI tL tII tLL cnt w tot rew grp fin gns rst_14 rws_15 u11 now nxt whl au al mu ml x4_13 rws_17 hC.symm) ⟨callB_of 1 ht (goodG k_91) rfl rfl rfl (ht _ k_87) (ht _ k_92) (by decide +kernel) ⟨Nat.le_of_ble_eq_true rfl, Nat.le_of_ble_eq_true rfl⟩, (ht _ k_94), (ht _ k_93)⟩ (pre_vw hK hN hP hD (q0 := 16) (ci := 1) rfl rfl) rfl rfl hl.1 rfl (lv_room (Nat.le_of_ble_eq_true rfl)) dX1_solve_81 ⟨Nat.zero_le _, Nat.zero_le _⟩) hD hS rfl (fun H locs hP hD hS => ?_)
        have hP : va_P (dC, dI) vwCl (wC ad tI tL tII tLL cnt w tot rew grp fin gns rst_14 rws_17 u11 now nxt whl au al mu ml) H := hP
        have hD : va_D (rwA (wC ad tI tL tII tLL cnt w tot rew grp fin gns rst rws last now nxt whl au al mu ml)) (wC ad tI tL tII tLL cnt w tot rew grp fin gns rst_14 rws_17 u11 now nxt whl au al mu ml) := hD
        refine lv_iinc (v := (x4_13 + 1)) (lv' := [(4, .int (x4_13 + 1)), (0, .ref (ad 16)), (3, .ref (ad 31))]) hx hb dX1_solve_84 hl (k := 2) rfl rfl (by decide) rfl (fun ls hl => ?_)
        refine lv_goto (tgt := 69) hx hb dX1_solve_87 (by decide) ?_
        cases hR
        exact ih (x4_13 + 1) rws_17 o_x4_13 o_rws_15 hQ hk H locs hP hD hS ls (lv_sub hl [1, 2, 0] rfl)
  obtain ⟨⟨u19, u20⟩, hL, hR⟩ := ob hR
  try dsimp only at hR
  refine L69_18 (upd u10 u11.toNatClampNeg p1) 300 (0 : Int32) rws u19 u20 hL.symm (fun H locs hP hD hS ls hl => ?_) H locs hP hD hS ls (lv_sub hl [1, 4, 0] rfl)
  refine lv_aload_n hx hb dX1_solve_90 rfl (lv_at hl 0 rfl) ?_
  obtain ⟨rws_21, hC, hR⟩ := ob hR
  try dsimp only at hR
  refine rw_callv (va_runV (As := []) (rest := []) ⟨hx, hb, hml, hown, ht⟩ (c_FirstSteps_eliminate l dC dI ad tI tL tII tLL cnt w tot rew grp fin gns (upd u10 u11.toNatClampNeg p1) u20 u11 now nxt whl au al mu ml  rws_21 hC.symm) ⟨callB_of 0 ht (goodG k_95) rfl rfl rfl (ht _ k_87) (ht _ k_96) (by decide +kernel) ⟨Nat.le_of_ble_eq_true rfl, Nat.le_of_ble_eq_true rfl⟩, (ht _ k_98), (ht _ k_97)⟩ (pre_vw hK hN hP hD (q0 := 16) (ci := 1) rfl rfl) rfl rfl hl.1 rfl (lv_room (Nat.le_of_ble_eq_true rfl)) dX1_solve_91 ⟨Nat.zero_le _, Nat.zero_le _⟩) hD hS rfl (fun H locs hP hD hS => ?_)
  have hP : va_P (dC, dI) vwCl (wC ad tI tL tII tLL cnt w tot rew grp fin gns (upd u10 u11.toNatClampNeg p1) rws_21 u11 now nxt whl au al mu ml) H := hP
  have hD : va_D (rwA (wC ad tI tL tII tLL cnt w tot rew grp fin gns rst rws last now nxt whl au al mu ml)) (wC ad tI tL tII tLL cnt w tot rew grp fin gns (upd u10 u11.toNatClampNeg p1) rws_21 u11 now nxt whl au al mu ml) := hD
  refine lv_aload_n hx hb dX1_solve_94 rfl (lv_at hl 1 rfl) ?_
  refine lv_aload_n hx hb dX1_solve_95 rfl (lv_at hl 0 rfl) ?_
  refine va_get (D := (dC, dI)) (ci := 1) (v := .ref (ad 19)) (C := RX1) (T := TX1) (N := 5) hx hb ht hinX1 hown hK hP 16 rfl rfl 3 (by decide) (ht _ k_84) (fun _ h9 => h9) rfl dX1_solve_96 ?_
  refine lv_aload_n hx hb dX1_solve_99 rfl (lv_at hl 0 rfl) ?_
  refine va_get (D := (dC, dI)) (ci := 1) (v := .int u11) (C := RX1) (T := TX1) (N := 5) hx hb ht hinX1 hown hK hP 16 rfl rfl 4 (by decide) (ht _ k_83) (fun _ h9 => h9) rfl dX1_solve_100 ?_
  obtain ⟨z22, hR⟩ := og hR
  refine va_aldA hx hb hK hP 19 3 rfl rfl rfl (ix_in z22) dX1_solve_103 ?_
  refine lv_aload_n hx hb dX1_solve_104 rfl (lv_at hl 0 rfl) ?_
  refine va_get (D := (dC, dI)) (ci := 1) (v := .int u11) (C := RX1) (T := TX1) (N := 5) hx hb ht hinX1 hown hK hP 16 rfl rfl 4 (by decide) (ht _ k_83) (fun _ h9 => h9) rfl dX1_solve_105 ?_
  refine lv_iconst (v := 1) hx hb dX1_solve_108 (by decide) ?_
  refine lv_iadd hx hb dX1_solve_109 ?_
  obtain ⟨z23, hR⟩ := og hR
  refine va_lald hx hb hK hP (19 + 1 + u11.toNatClampNeg) 1 (wC_row_ro (ix_lt z22)) rfl (ix_in z23) dX1_solve_110 ?_
  refine lv_aload_n hx hb dX1_solve_111 rfl (lv_at hl 0 rfl) ?_
  refine va_get (D := (dC, dI)) (ci := 1) (v := .ref (ad 19)) (C := RX1) (T := TX1) (N := 5) hx hb ht hinX1 hown hK hP 16 rfl rfl 3 (by decide) (ht _ k_84) (fun _ h9 => h9) rfl dX1_solve_112 ?_
  refine lv_aload_n hx hb dX1_solve_115 rfl (lv_at hl 0 rfl) ?_
  refine va_get (D := (dC, dI)) (ci := 1) (v := .int u11) (C := RX1) (T := TX1) (N := 5) hx hb ht hinX1 hown hK hP 16 rfl rfl 4 (by decide) (ht _ k_83) (fun _ h9 => h9) rfl dX1_solve_116 ?_
  obtain ⟨z24, hR⟩ := og hR
  refine va_aldA hx hb hK hP 19 3 rfl rfl rfl (ix_in z24) dX1_solve_119 ?_
  refine lv_aload_n hx hb dX1_solve_120 rfl (lv_at hl 0 rfl) ?_
  refine va_get (D := (dC, dI)) (ci := 1) (v := .int u11) (C := RX1) (T := TX1) (N := 5) hx hb ht hinX1 hown hK hP 16 rfl rfl 4 (by decide) (ht _ k_83) (fun _ h9 => h9) rfl dX1_solve_121 ?_
  obtain ⟨z25, hR⟩ := og hR
  refine va_lald hx hb hK hP (19 + 1 + u11.toNatClampNeg) 1 (wC_row_ro (ix_lt z24)) rfl (ix_in z25) dX1_solve_124 ?_
  obtain ⟨⟨u_26, lo_27⟩, hC, hR⟩ := ob hR
  try dsimp only at hR
  refine rw_onev (va_runV (As := [.long (rws_21 u11.toNatClampNeg (u11 + (1 : Int32)).toNatClampNeg), .long (rws_21 u11.toNatClampNeg u11.toNatClampNeg)]) (rest := []) ⟨hx, hb, hml, hown, ht⟩ (c_Fraction_put l dC dI ad tI tL tII tLL (ad 31) au al (rws_21 u11.toNatClampNeg (u11 + (1 : Int32)).toNatClampNeg) (rws_21 u11.toNatClampNeg u11.toNatClampNeg) u_26 lo_27 hC.symm) ⟨callB_of 2 ht (goodG k_99) rfl rfl rfl (ht _ k_100) (ht _ k_101) (by decide +kernel) ⟨Nat.le_of_ble_eq_true rfl, Nat.le_of_ble_eq_true rfl⟩, (ht _ k_103), (ht _ k_102)⟩ (pre_vw hK hN (hP.sub [31] rfl) (hD.sub [31] (by decide) rfl) (q0 := 0) (ci := 2) rfl rfl) rfl rfl hl.1 rfl (lv_room (Nat.le_of_ble_eq_true rfl)) dX1_solve_125 ⟨Nat.zero_le _, Nat.zero_le _⟩) hP hD hS 31 rfl (fun H locs hP hD hS => ?_)
  have hP : va_P (dC, dI) vwCl (wC ad tI tL tII tLL cnt w tot rew grp fin gns (upd u10 u11.toNatClampNeg p1) rws_21 u11 now nxt whl u_26 lo_27 mu ml) H := hP
  have hD : va_D (rwA (wC ad tI tL tII tLL cnt w tot rew grp fin gns rst rws last now nxt whl au al mu ml)) (wC ad tI tL tII tLL cnt w tot rew grp fin gns (upd u10 u11.toNatClampNeg p1) rws_21 u11 now nxt whl u_26 lo_27 mu ml) := hD
  cases hR
  exact W.vret hx hb hr (fun t ht _ => ⟨rfl, by rw [ht]; exact hP, hS.F ht⟩) hS.2.2 dX1_solve_128
