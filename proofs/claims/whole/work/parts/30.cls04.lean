abbrev RM_f_FirstSteps_solveM : Room := { frames := 3, cells := 0, slots := 0, locals := 79 }
abbrev W_FirstSteps_solveM : List Cond := .code yX1_solve cX1_solve 5 none :: tblG
set_option maxHeartbeats 4000000 in
set_option maxRecDepth 100000 in
theorem c_FirstSteps_solveM (l : Launch) (dC : Nat → ClassId) (dI : Nat → Nat → Nat) (ad : Nat → Nat) (tI tL tII tLL : ClassId) (cnt : Int32) (w : Nat → Nat → Int32) (tot : Nat → Int32) (rew : Nat → Int32) (grp : Nat → Int32) (fin : Nat → Int32) (gns : Nat → Int64) (rst : Nat → Int32) (rws : Nat → Nat → Int64) (last : Int32) (now : Nat → Int64) (nxt : Nat → Int64) (whl : Int64) (au : Int64) (al : Int64) (mu : Int64) (ml : Int64) (p1 : Int32) (p2 : Int32) (R_rst : Nat → Int32) (R_rws : Nat → Nat → Int64) (R_last : Int32) (R_mu : Int64) (R_ml : Int64) (hR : some (R_rst, R_rws, R_last, R_mu, R_ml) = f_FirstSteps_solveM cnt w tot gns rst rws p1 p2) : Met l yX1_solve W_FirstSteps_solveM RM_f_FirstSteps_solveM (rwP (dC, dI) vwCl [(tI, .int), (tL, .long), (tII, .array .int), (tLL, .array .long)] (wC ad tI tL tII tLL cnt w tot rew grp fin gns rst rws last now nxt whl au al mu ml) ([.ref (ad 16), .int p1, .int p2, .ref (ad 32)] : List Value)) (rwQ (dC, dI) vwCl (wC ad tI tL tII tLL cnt w tot rew grp fin gns R_rst R_rws R_last now nxt whl au al R_mu R_ml) none (rwA (wC ad tI tL tII tLL cnt w tot rew grp fin gns rst rws last now nxt whl au al mu ml))) 0 0 (rwA (wC ad tI tL tII tLL cnt w tot rew grp fin gns rst rws last now nxt whl au al mu ml)) := by
  refine Met.ofW (cc := cX1_solve) (maxL := 5) (ret := none) (by decide) rfl ?_
  intro p e s m args below meth c s₁ B hml hv
  obtain ⟨rfl, hP, hK, hN, hD⟩ := hv
  have hx := B.exec
  have hb := B.bytes
  have hr := B.returns
  have hts := atoms_spec (ws := W_FirstSteps_solveM) B.pre
  have ht := fun (w : Cond) (h : w ∈ tblG) => hts w (List.mem_cons_of_mem _ h)
  have hown : s.vm.findClass RX1 = some m.cls := findClass_of_methodNamed B.named
  have hlocks := B.notSynchronized
  have hl := lv_entry ([.ref (ad 16), .int p1, .int p2, .ref (ad 32)] : List Value) (n := 5) (Nat.le_of_ble_eq_true rfl)
  rw [lg_entry_eq]
  generalize (lg_sl ([.ref (ad 16), .int p1, .int p2, .ref (ad 32)] : List Value) ++ List.replicate (5 - (lg_sl ([.ref (ad 16), .int p1, .int p2, .ref (ad 32)] : List Value)).length) Slot.unset).toArray = ls at hl ⊢
  have hl : lv_has ls 5 [(0, .ref (ad 16)), (1, .int p1), (2, .int p2), (3, .ref (ad 32))] := hl
  have hD := hD.own
  have hS : va_S (rwA (wC ad tI tL tII tLL cnt w tot rew grp fin gns rst rws last now nxt whl au al mu ml)) s.heap s.heap [] := va_S.rf
  suffices K : ∀ (H : Heap) (locs : List Loc), va_P (dC, dI) vwCl (wC ad tI tL tII tLL cnt w tot rew grp fin gns rst rws last now nxt whl au al mu ml) H → va_D (rwA (wC ad tI tL tII tLL cnt w tot rew grp fin gns rst rws last now nxt whl au al mu ml)) (wC ad tI tL tII tLL cnt w tot rew grp fin gns rst rws last now nxt whl au al mu ml) → va_S (rwA (wC ad tI tL tII tLL cnt w tot rew grp fin gns rst rws last now nxt whl au al mu ml)) s.heap H locs → W p l e (headSpec W_FirstSteps_solveM RM_f_FirstSteps_solveM).room s m ([.ref (ad 16), .int p1, .int p2, .ref (ad 32)] : List Value).toArray below meth c H locs 0 0 (MQ below (rwQ (dC, dI) vwCl (wC ad tI tL tII tLL cnt w tot rew grp fin gns R_rst R_rws R_last now nxt whl au al R_mu R_ml) none (rwA (wC ad tI tL tII tLL cnt w tot rew grp fin gns rst rws last now nxt whl au al mu ml))) ([.ref (ad 16), .int p1, .int p2, .ref (ad 32)] : List Value).toArray s 0 0 (rwA (wC ad tI tL tII tLL cnt w tot rew grp fin gns rst rws last now nxt whl au al mu ml))) (F0 m 0 ls []) from K s.heap [] hP hD hS
  clear hP hD hS
  intro H locs hP hD hS
  rw [f_FirstSteps_solveM] at hR
  refine lv_aload_n hx hb dX1_solve_0 rfl (lv_at hl 0 rfl) ?_
  refine lv_iconst (v := 0) hx hb dX1_solve_1 (by decide) ?_
  refine va_put (D := (dC, dI)) (ci := 1) (v := .int (0 : Int32)) (ty := .int) (C := RX1) (T := TX1) (N := 5) hx hb ht hinX1 tyX1 tyX1_ok nmX1 hown hK hP hD hS 16 rfl rfl 4 (by decide) (ht _ k_83) (fun _ h9 => h9) rfl (by decide +kernel) rfl rfl (Nat.le_of_ble_eq_true rfl) dX1_solve_2 (fun H locs hP hD hS => ?_)
  have hP : va_P (dC, dI) vwCl (wC ad tI tL tII tLL cnt w tot rew grp fin gns rst rws (0 : Int32) now nxt whl au al mu ml) H := hP
  have hD : va_D (rwA (wC ad tI tL tII tLL cnt w tot rew grp fin gns rst rws last now nxt whl au al mu ml)) (wC ad tI tL tII tLL cnt w tot rew grp fin gns rst rws (0 : Int32) now nxt whl au al mu ml) := hD
  refine lv_iconst (v := 0) hx hb dX1_solve_5 (by decide) ?_
  refine lv_istore (lv' := [(4, .int (0 : Int32)), (0, .ref (ad 16)), (1, .int p1), (2, .int p2), (3, .ref (ad 32))]) hx hb dX1_solve_6 hl (by decide) rfl (fun ls hl => ?_)
  have L8_8 : ∀ (n : Nat) (x4_1 : Int32) (rst_2 : Nat → Int32) (last_3 : Int32), ∀ (o_x4_1 : Int32) (o_rst_2 : Nat → Int32) (o_last_3 : Int32), some (o_x4_1, o_rst_2, o_last_3) = f_FirstSteps_solveM_L8 cnt p2 n x4_1 rst_2 last_3 → (∀ (H : Heap) (locs : List Loc), va_P (dC, dI) vwCl (wC ad tI tL tII tLL cnt w tot rew grp fin gns o_rst_2 rws o_last_3 now nxt whl au al mu ml) H → va_D (rwA (wC ad tI tL tII tLL cnt w tot rew grp fin gns rst rws last now nxt whl au al mu ml)) (wC ad tI tL tII tLL cnt w tot rew grp fin gns o_rst_2 rws o_last_3 now nxt whl au al mu ml) → va_S (rwA (wC ad tI tL tII tLL cnt w tot rew grp fin gns rst rws last now nxt whl au al mu ml)) s.heap H locs → ∀ ls : Array Slot, lv_has ls 5 [(0, .ref (ad 16)), (1, .int p1), (2, .int p2), (3, .ref (ad 32)), (4, .int o_x4_1)] → W p l e (headSpec W_FirstSteps_solveM RM_f_FirstSteps_solveM).room s m ([.ref (ad 16), .int p1, .int p2, .ref (ad 32)] : List Value).toArray below meth c H locs 0 0 (MQ below (rwQ (dC, dI) vwCl (wC ad tI tL tII tLL cnt w tot rew grp fin gns R_rst R_rws R_last now nxt whl au al R_mu R_ml) none (rwA (wC ad tI tL tII tLL cnt w tot rew grp fin gns rst rws last now nxt whl au al mu ml))) ([.ref (ad 16), .int p1, .int p2, .ref (ad 32)] : List Value).toArray s 0 0 (rwA (wC ad tI tL tII tLL cnt w tot rew grp fin gns rst rws last now nxt whl au al mu ml))) (F0 m 56 ls [])) → ∀ (H : Heap) (locs : List Loc), va_P (dC, dI) vwCl (wC ad tI tL tII tLL cnt w tot rew grp fin gns rst_2 rws last_3 now nxt whl au al mu ml) H → va_D (rwA (wC ad tI tL tII tLL cnt w tot rew grp fin gns rst rws last now nxt whl au al mu ml)) (wC ad tI tL tII tLL cnt w tot rew grp fin gns rst_2 rws last_3 now nxt whl au al mu ml) → va_S (rwA (wC ad tI tL tII tLL cnt w tot rew grp fin gns rst rws last now nxt whl au al mu ml)) s.heap H locs → ∀ ls : Array Slot, lv_has ls 5 [(0, .ref (ad 16)), (1, .int p1), (2, .int p2), (3, .ref (ad 32)), (4, .int x4_1)] → W p l e (headSpec W_FirstSteps_solveM RM_f_FirstSteps_solveM).room s m ([.ref (ad 16), .int p1, .int p2, .ref (ad 32)] : List Value).toArray below meth c H locs 0 0 (MQ below (rwQ (dC, dI) vwCl (wC ad tI tL tII tLL cnt w tot rew grp fin gns R_rst R_rws R_last now nxt whl au al R_mu R_ml) none (rwA (wC ad tI tL tII tLL cnt w tot rew grp fin gns rst rws last now nxt whl au al mu ml))) ([.ref (ad 16), .int p1, .int p2, .ref (ad 32)] : List Value).toArray s 0 0 (rwA (wC ad tI tL tII tLL cnt w tot rew grp fin gns rst rws last now nxt whl au al mu ml))) (F0 m 8 ls []) := by
    intro n
    induction n with
    | zero =>
      intro x4_1 rst_2 last_3 o_x4_1 o_rst_2 o_last_3 hR
      cases (show some _ = none from hR)
    | succ n ih =>
      intro x4_1 rst_2 last_3 o_x4_1 o_rst_2 o_last_3 hR hk H locs hP hD hS ls hl
      rw [f_FirstSteps_solveM_L8_s] at hR
      obtain ⟨y, hR, hQ⟩ := ob hR
      replace hR := hR.symm
      rw [f_FirstSteps_solveM_B8] at hR
      refine lv_iload hx hb dX1_solve_8 (lv_at hl 4 rfl) ?_
      refine lv_aload_n hx hb dX1_solve_10 rfl (lv_at hl 0 rfl) ?_
      refine va_get (D := (dC, dI)) (ci := 1) (v := .ref (ad 1)) (C := RX1) (T := TX1) (N := 5) hx hb ht hinX1 hown hK hP 16 rfl rfl 0 (by decide) (ht _ k_78) (fun _ h9 => h9) rfl dX1_solve_11 ?_
      refine va_getN (D := (dC, dI)) (ci := 0) (v := .int cnt) (C := RX0) (T := TX0) (N := 4) hx hb ht hinX0 hown hK hP 1 rfl rfl 3 (by decide) (va_Nw.use rfl (nf_6 hN)) (fun _ h9 => h9) rfl dX1_solve_14 ?_
      refine lv_icmp_ge (tgt := 56) hx hb dX1_solve_17 (by decide) (fun c4 => ?_) (fun c4 => ?_)
      · replace hR := it_p c4 hR
        cases hR
        cases (show some _ = some _ from hQ)
        exact hk H locs hP hD hS ls (lv_sub hl [0, 1, 2, 3, 4] rfl)
      · replace hR := it_n c4 hR
        refine lv_iload_n hx hb dX1_solve_20 rfl (lv_at hl 2 rfl) ?_
        refine lv_iload hx hb dX1_solve_21 (lv_at hl 4 rfl) ?_
        obtain ⟨r5, hC, hR⟩ := ob hR
        try dsimp only at hR
        refine ro_calli (va_runSN (As := [.int p2, .int x4_1]) (rest := []) ⟨hx, hb, hml, hown, ht⟩ (c_holds l dC dI ad tI tL tII tLL  p2 x4_1 r5 hC.symm) ⟨va_cnB 2 ht (goodG k_20) rfl rfl rfl (nm_6 hN) (ht _ k_8) (by decide +kernel) ⟨Nat.le_of_ble_eq_true rfl, Nat.le_of_ble_eq_true rfl⟩, (ht _ k_21), trivial⟩ (pre_s hK hN (hP.sub (ws' := []) [] rfl)) rfl rfl hl.1 rfl (lv_room (Nat.le_of_ble_eq_true rfl)) dX1_solve_23 ⟨Nat.zero_le _, Nat.zero_le _⟩) ?_
        refine lv_if_eq (tgt := 50) hx hb dX1_solve_26 (by decide) (fun c6 => ?_) (fun c6 => ?_)
        · replace hR := it_p c6 hR
          refine lv_iinc (v := (x4_1 + 1)) (lv' := [(4, .int (x4_1 + 1)), (0, .ref (ad 16)), (1, .int p1), (2, .int p2), (3, .ref (ad 32))]) hx hb dX1_solve_50 hl (k := 4) rfl rfl (by decide) rfl (fun ls hl => ?_)
          refine lv_goto (tgt := 8) hx hb dX1_solve_53 (by decide) ?_
          cases hR
          exact ih (x4_1 + 1) rst_2 last_3 o_x4_1 o_rst_2 o_last_3 hQ hk H locs hP hD hS ls (lv_sub hl [1, 2, 3, 4, 0] rfl)
        · replace hR := it_n c6 hR
          refine lv_aload_n hx hb dX1_solve_29 rfl (lv_at hl 0 rfl) ?_
          refine va_get (D := (dC, dI)) (ci := 1) (v := .ref (ad 18)) (C := RX1) (T := TX1) (N := 5) hx hb ht hinX1 hown hK hP 16 rfl rfl 2 (by decide) (ht _ k_82) (fun _ h9 => h9) rfl dX1_solve_30 ?_
          refine lv_aload_n hx hb dX1_solve_33 rfl (lv_at hl 0 rfl) ?_
          refine va_get (D := (dC, dI)) (ci := 1) (v := .int last_3) (C := RX1) (T := TX1) (N := 5) hx hb ht hinX1 hown hK hP 16 rfl rfl 4 (by decide) (ht _ k_83) (fun _ h9 => h9) rfl dX1_solve_34 ?_
          refine lv_iload hx hb dX1_solve_37 (lv_at hl 4 rfl) ?_
          obtain ⟨z7, hR⟩ := og hR
          refine va_iast hx hb hK hP hD hS 18 0 rfl rfl (ix_in z7) dX1_solve_39 (fun H locs hP hD hS => ?_)
          have hP : va_P (dC, dI) vwCl (wC ad tI tL tII tLL cnt w tot rew grp fin gns (upd rst_2 last_3.toNatClampNeg x4_1) rws last_3 now nxt whl au al mu ml) H := hP
          have hD : va_D (rwA (wC ad tI tL tII tLL cnt w tot rew grp fin gns rst rws last now nxt whl au al mu ml)) (wC ad tI tL tII tLL cnt w tot rew grp fin gns (upd rst_2 last_3.toNatClampNeg x4_1) rws last_3 now nxt whl au al mu ml) := hD
          refine lv_aload_n hx hb dX1_solve_40 rfl (lv_at hl 0 rfl) ?_
          refine lv_dup hx hb dX1_solve_41 rfl ?_
          refine va_get (D := (dC, dI)) (ci := 1) (v := .int last_3) (C := RX1) (T := TX1) (N := 5) hx hb ht hinX1 hown hK hP 16 rfl rfl 4 (by decide) (ht _ k_83) (fun _ h9 => h9) rfl dX1_solve_42 ?_
          refine lv_iconst (v := 1) hx hb dX1_solve_45 (by decide) ?_
          refine lv_iadd hx hb dX1_solve_46 ?_
          refine va_put (D := (dC, dI)) (ci := 1) (v := .int (last_3 + (1 : Int32))) (ty := .int) (C := RX1) (T := TX1) (N := 5) hx hb ht hinX1 tyX1 tyX1_ok nmX1 hown hK hP hD hS 16 rfl rfl 4 (by decide) (ht _ k_83) (fun _ h9 => h9) rfl (by decide +kernel) rfl rfl (Nat.le_of_ble_eq_true rfl) dX1_solve_47 (fun H locs hP hD hS => ?_)
          have hP : va_P (dC, dI) vwCl (wC ad tI tL tII tLL cnt w tot rew grp fin gns (upd rst_2 last_3.toNatClampNeg x4_1) rws (last_3 + (1 : Int32)) now nxt whl au al mu ml) H := hP
          have hD : va_D (rwA (wC ad tI tL tII tLL cnt w tot rew grp fin gns rst rws last now nxt whl au al mu ml)) (wC ad tI tL tII tLL cnt w tot rew grp fin gns (upd rst_2 last_3.toNatClampNeg x4_1) rws (last_3 + (1 : Int32)) now nxt whl au al mu ml) := hD
          refine lv_iinc (v := (x4_1 + 1)) (lv' := [(4, .int (x4_1 + 1)), (0, .ref (ad 16)), (1, .int p1), (2, .int p2), (3, .ref (ad 32))]) hx hb dX1_solve_50 hl (k := 4) rfl rfl (by decide) rfl (fun ls hl => ?_)
          refine lv_goto (tgt := 8) hx hb dX1_solve_53 (by decide) ?_
          cases hR
          exact ih (x4_1 + 1) (upd rst_2 last_3.toNatClampNeg x4_1) (last_3 + (1 : Int32)) o_x4_1 o_rst_2 o_last_3 hQ hk H locs hP hD hS ls (lv_sub hl [1, 2, 3, 4, 0] rfl)
  obtain ⟨⟨u9, u10, u11⟩, hL, hR⟩ := ob hR
  try dsimp only at hR
  refine L8_8 300 (0 : Int32) rst (0 : Int32) u9 u10 u11 hL.symm (fun H locs hP hD hS ls hl => ?_) H locs hP hD hS ls (lv_sub hl [1, 2, 3, 4, 0] rfl)
  refine lv_aload_n hx hb dX1_solve_56 rfl (lv_at hl 0 rfl) ?_
  refine va_get (D := (dC, dI)) (ci := 1) (v := .ref (ad 18)) (C := RX1) (T := TX1) (N := 5) hx hb ht hinX1 hown hK hP 16 rfl rfl 2 (by decide) (ht _ k_82) (fun _ h9 => h9) rfl dX1_solve_57 ?_
  refine lv_aload_n hx hb dX1_solve_60 rfl (lv_at hl 0 rfl) ?_
  refine va_get (D := (dC, dI)) (ci := 1) (v := .int u11) (C := RX1) (T := TX1) (N := 5) hx hb ht hinX1 hown hK hP 16 rfl rfl 4 (by decide) (ht _ k_83) (fun _ h9 => h9) rfl dX1_solve_61 ?_
  refine lv_iload_n hx hb dX1_solve_64 rfl (lv_at hl 1 rfl) ?_
  obtain ⟨z12, hR⟩ := og hR
  refine va_iast hx hb hK hP hD hS 18 0 rfl rfl (ix_in z12) dX1_solve_65 (fun H locs hP hD hS => ?_)
  have hP : va_P (dC, dI) vwCl (wC ad tI tL tII tLL cnt w tot rew grp fin gns (upd u10 u11.toNatClampNeg p1) rws u11 now nxt whl au al mu ml) H := hP
  have hD : va_D (rwA (wC ad tI tL tII tLL cnt w tot rew grp fin gns rst rws last now nxt whl au al mu ml)) (wC ad tI tL tII tLL cnt w tot rew grp fin gns (upd u10 u11.toNatClampNeg p1) rws u11 now nxt whl au al mu ml) := hD
  refine lv_iconst (v := 0) hx hb dX1_solve_66 (by decide) ?_
  refine lv_istore (lv' := [(4, .int (0 : Int32)), (0, .ref (ad 16)), (1, .int p1), (2, .int p2), (3, .ref (ad 32))]) hx hb dX1_solve_67 hl (by decide) rfl (fun ls hl => ?_)
  have L69_18 : ∀ (rst_14 : Nat → Int32), ∀ (n : Nat) (x4_13 : Int32) (rws_15 : Nat → Nat → Int64), ∀ (o_x4_13 : Int32) (o_rws_15 : Nat → Nat → Int64), some (o_x4_13, o_rws_15) = f_FirstSteps_solveM_L69 w tot gns rst_14 u11 n x4_13 rws_15 → (∀ (H : Heap) (locs : List Loc), va_P (dC, dI) vwCl (wC ad tI tL tII tLL cnt w tot rew grp fin gns rst_14 o_rws_15 u11 now nxt whl au al mu ml) H → va_D (rwA (wC ad tI tL tII tLL cnt w tot rew grp fin gns rst rws last now nxt whl au al mu ml)) (wC ad tI tL tII tLL cnt w tot rew grp fin gns rst_14 o_rws_15 u11 now nxt whl au al mu ml) → va_S (rwA (wC ad tI tL tII tLL cnt w tot rew grp fin gns rst rws last now nxt whl au al mu ml)) s.heap H locs → ∀ ls : Array Slot, lv_has ls 5 [(0, .ref (ad 16)), (3, .ref (ad 32)), (4, .int o_x4_13)] → W p l e (headSpec W_FirstSteps_solveM RM_f_FirstSteps_solveM).room s m ([.ref (ad 16), .int p1, .int p2, .ref (ad 32)] : List Value).toArray below meth c H locs 0 0 (MQ below (rwQ (dC, dI) vwCl (wC ad tI tL tII tLL cnt w tot rew grp fin gns R_rst R_rws R_last now nxt whl au al R_mu R_ml) none (rwA (wC ad tI tL tII tLL cnt w tot rew grp fin gns rst rws last now nxt whl au al mu ml))) ([.ref (ad 16), .int p1, .int p2, .ref (ad 32)] : List Value).toArray s 0 0 (rwA (wC ad tI tL tII tLL cnt w tot rew grp fin gns rst rws last now nxt whl au al mu ml))) (F0 m 90 ls [])) → ∀ (H : Heap) (locs : List Loc), va_P (dC, dI) vwCl (wC ad tI tL tII tLL cnt w tot rew grp fin gns rst_14 rws_15 u11 now nxt whl au al mu ml) H → va_D (rwA (wC ad tI tL tII tLL cnt w tot rew grp fin gns rst rws last now nxt whl au al mu ml)) (wC ad tI tL tII tLL cnt w tot rew grp fin gns rst_14 rws_15 u11 now nxt whl au al mu ml) → va_S (rwA (wC ad tI tL tII tLL cnt w tot rew grp fin gns rst rws last now nxt whl au al mu ml)) s.heap H locs → ∀ ls : Array Slot, lv_has ls 5 [(0, .ref (ad 16)), (3, .ref (ad 32)), (4, .int x4_13)] → W p l e (headSpec W_FirstSteps_solveM RM_f_FirstSteps_solveM).room s m ([.ref (ad 16), .int p1, .int p2, .ref (ad 32)] : List Value).toArray below meth c H locs 0 0 (MQ below (rwQ (dC, dI) vwCl (wC ad tI tL tII tLL cnt w tot rew grp fin gns R_rst R_rws R_last now nxt whl au al R_mu R_ml) none (rwA (wC ad tI tL tII tLL cnt w tot rew grp fin gns rst rws last now nxt whl au al mu ml))) ([.ref (ad 16), .int p1, .int p2, .ref (ad 32)] : List Value).toArray s 0 0 (rwA (wC ad tI tL tII tLL cnt w tot rew grp fin gns rst rws last now nxt whl au al mu ml))) (F0 m 69 ls []) := by
    intro rst_14
    intro n
    induction n with
    | zero =>
      intro x4_13 rws_15 o_x4_13 o_rws_15 hR
      cases (show some _ = none from hR)
    | succ n ih =>
      intro x4_13 rws_15 o_x4_13 o_rws_15 hR hk H locs hP hD hS ls hl
      rw [f_FirstSteps_solveM_L69_s] at hR
      obtain ⟨y, hR, hQ⟩ := ob hR
      replace hR := hR.symm
      rw [f_FirstSteps_solveM_B69] at hR
      refine lv_iload hx hb dX1_solve_69 (lv_at hl 2 rfl) ?_
      refine lv_aload_n hx hb dX1_solve_71 rfl (lv_at hl 0 rfl) ?_
      refine va_get (D := (dC, dI)) (ci := 1) (v := .int u11) (C := RX1) (T := TX1) (N := 5) hx hb ht hinX1 hown hK hP 16 rfl rfl 4 (by decide) (ht _ k_83) (fun _ h9 => h9) rfl dX1_solve_72 ?_
      refine lv_icmp_gt (tgt := 90) hx hb dX1_solve_75 (by decide) (fun c16 => ?_) (fun c16 => ?_)
      · replace hR := it_p c16 hR
        cases hR
        cases (show some _ = some _ from hQ)
        exact hk H locs hP hD hS ls (lv_sub hl [0, 1, 2] rfl)
      · replace hR := it_n c16 hR
        refine lv_aload_n hx hb dX1_solve_78 rfl (lv_at hl 0 rfl) ?_
        refine lv_iload hx hb dX1_solve_79 (lv_at hl 2 rfl) ?_
        obtain ⟨rws_17, hC, hR⟩ := ob hR
        try dsimp only at hR
        refine rw_callv (va_runV (As := [.int x4_13]) (rest := []) ⟨hx, hb, hml, hown, ht⟩ (c_FirstSteps_writeRow l dC dI ad tI tL tII tLL cnt w tot rew grp fin gns rst_14 rws_15 u11 now nxt whl au al mu ml x4_13 rws_17 hC.symm) ⟨callB_of 1 ht (goodG k_91) rfl rfl rfl (ht _ k_87) (ht _ k_92) (by decide +kernel) ⟨Nat.le_of_ble_eq_true rfl, Nat.le_of_ble_eq_true rfl⟩, (ht _ k_94), (ht _ k_93)⟩ (pre_vw hK hN hP hD (q0 := 16) (ci := 1) rfl rfl) rfl rfl hl.1 rfl (lv_room (Nat.le_of_ble_eq_true rfl)) dX1_solve_81 ⟨Nat.zero_le _, Nat.zero_le _⟩) hD hS rfl (fun H locs hP hD hS => ?_)
        have hP : va_P (dC, dI) vwCl (wC ad tI tL tII tLL cnt w tot rew grp fin gns rst_14 rws_17 u11 now nxt whl au al mu ml) H := hP
        have hD : va_D (rwA (wC ad tI tL tII tLL cnt w tot rew grp fin gns rst rws last now nxt whl au al mu ml)) (wC ad tI tL tII tLL cnt w tot rew grp fin gns rst_14 rws_17 u11 now nxt whl au al mu ml) := hD
        refine lv_iinc (v := (x4_13 + 1)) (lv' := [(4, .int (x4_13 + 1)), (0, .ref (ad 16)), (3, .ref (ad 32))]) hx hb dX1_solve_84 hl (k := 2) rfl rfl (by decide) rfl (fun ls hl => ?_)
        refine lv_goto (tgt := 69) hx hb dX1_solve_87 (by decide) ?_
        cases hR
        exact ih (x4_13 + 1) rws_17 o_x4_13 o_rws_15 hQ hk H locs hP hD hS ls (lv_sub hl [1, 2, 0] rfl)
  obtain ⟨⟨u19, u20⟩, hL, hR⟩ := ob hR
  try dsimp only at hR
  refine L69_18 (upd u10 u11.toNatClampNeg p1) 300 (0 : Int32) rws u19 u20 hL.symm (fun H locs hP hD hS ls hl => ?_) H locs hP hD hS ls (lv_sub hl [1, 4, 0] rfl)
  refine lv_aload_n hx hb dX1_solve_90 rfl (lv_at hl 0 rfl) ?_
  obtain ⟨rws_21, hC, hR⟩ := ob hR
  try dsimp only at hR
  refine rw_callv (va_runV (As := []) (rest := []) ⟨hx, hb, hml, hown, ht⟩ (c_FirstSteps_eliminate l dC dI ad tI tL tII tLL cnt w tot rew grp fin gns (upd u10 u11.toNatClampNeg p1) u20 u11 now nxt whl au al mu ml  rws_21 hC.symm) ⟨callB_of 0 ht (goodG k_95) rfl rfl rfl (ht _ k_87) (ht _ k_96) (by decide +kernel) ⟨Nat.le_of_ble_eq_true rfl, Nat.le_of_ble_eq_true rfl⟩, (ht _ k_98), (ht _ k_97)⟩ (pre_vw hK hN hP hD (q0 := 16) (ci := 1) rfl rfl) rfl rfl hl.1 rfl (lv_room (Nat.le_of_ble_eq_true rfl)) dX1_solve_91 ⟨Nat.zero_le _, Nat.zero_le _⟩) hD hS rfl (fun H locs hP hD hS => ?_)
  have hP : va_P (dC, dI) vwCl (wC ad tI tL tII tLL cnt w tot rew grp fin gns (upd u10 u11.toNatClampNeg p1) rws_21 u11 now nxt whl au al mu ml) H := hP
  have hD : va_D (rwA (wC ad tI tL tII tLL cnt w tot rew grp fin gns rst rws last now nxt whl au al mu ml)) (wC ad tI tL tII tLL cnt w tot rew grp fin gns (upd u10 u11.toNatClampNeg p1) rws_21 u11 now nxt whl au al mu ml) := hD
  refine lv_aload_n hx hb dX1_solve_94 rfl (lv_at hl 1 rfl) ?_
  refine lv_aload_n hx hb dX1_solve_95 rfl (lv_at hl 0 rfl) ?_
  refine va_get (D := (dC, dI)) (ci := 1) (v := .ref (ad 19)) (C := RX1) (T := TX1) (N := 5) hx hb ht hinX1 hown hK hP 16 rfl rfl 3 (by decide) (ht _ k_84) (fun _ h9 => h9) rfl dX1_solve_96 ?_
  refine lv_aload_n hx hb dX1_solve_99 rfl (lv_at hl 0 rfl) ?_
  refine va_get (D := (dC, dI)) (ci := 1) (v := .int u11) (C := RX1) (T := TX1) (N := 5) hx hb ht hinX1 hown hK hP 16 rfl rfl 4 (by decide) (ht _ k_83) (fun _ h9 => h9) rfl dX1_solve_100 ?_
  obtain ⟨z22, hR⟩ := og hR
  refine va_aldA hx hb hK hP 19 3 rfl rfl rfl (ix_in z22) dX1_solve_103 ?_
  refine lv_aload_n hx hb dX1_solve_104 rfl (lv_at hl 0 rfl) ?_
  refine va_get (D := (dC, dI)) (ci := 1) (v := .int u11) (C := RX1) (T := TX1) (N := 5) hx hb ht hinX1 hown hK hP 16 rfl rfl 4 (by decide) (ht _ k_83) (fun _ h9 => h9) rfl dX1_solve_105 ?_
  refine lv_iconst (v := 1) hx hb dX1_solve_108 (by decide) ?_
  refine lv_iadd hx hb dX1_solve_109 ?_
  obtain ⟨z23, hR⟩ := og hR
  refine va_lald hx hb hK hP (19 + 1 + u11.toNatClampNeg) 1 (wC_row_ro (ix_lt z22)) rfl (ix_in z23) dX1_solve_110 ?_
  refine lv_aload_n hx hb dX1_solve_111 rfl (lv_at hl 0 rfl) ?_
  refine va_get (D := (dC, dI)) (ci := 1) (v := .ref (ad 19)) (C := RX1) (T := TX1) (N := 5) hx hb ht hinX1 hown hK hP 16 rfl rfl 3 (by decide) (ht _ k_84) (fun _ h9 => h9) rfl dX1_solve_112 ?_
  refine lv_aload_n hx hb dX1_solve_115 rfl (lv_at hl 0 rfl) ?_
  refine va_get (D := (dC, dI)) (ci := 1) (v := .int u11) (C := RX1) (T := TX1) (N := 5) hx hb ht hinX1 hown hK hP 16 rfl rfl 4 (by decide) (ht _ k_83) (fun _ h9 => h9) rfl dX1_solve_116 ?_
  obtain ⟨z24, hR⟩ := og hR
  refine va_aldA hx hb hK hP 19 3 rfl rfl rfl (ix_in z24) dX1_solve_119 ?_
  refine lv_aload_n hx hb dX1_solve_120 rfl (lv_at hl 0 rfl) ?_
  refine va_get (D := (dC, dI)) (ci := 1) (v := .int u11) (C := RX1) (T := TX1) (N := 5) hx hb ht hinX1 hown hK hP 16 rfl rfl 4 (by decide) (ht _ k_83) (fun _ h9 => h9) rfl dX1_solve_121 ?_
  obtain ⟨z25, hR⟩ := og hR
  refine va_lald hx hb hK hP (19 + 1 + u11.toNatClampNeg) 1 (wC_row_ro (ix_lt z24)) rfl (ix_in z25) dX1_solve_124 ?_
  obtain ⟨⟨u_26, lo_27⟩, hC, hR⟩ := ob hR
  try dsimp only at hR
  refine rw_onev (va_runV (As := [.long (rws_21 u11.toNatClampNeg (u11 + (1 : Int32)).toNatClampNeg), .long (rws_21 u11.toNatClampNeg u11.toNatClampNeg)]) (rest := []) ⟨hx, hb, hml, hown, ht⟩ (c_Fraction_put l dC dI ad tI tL tII tLL (ad 32) mu ml (rws_21 u11.toNatClampNeg (u11 + (1 : Int32)).toNatClampNeg) (rws_21 u11.toNatClampNeg u11.toNatClampNeg) u_26 lo_27 hC.symm) ⟨callB_of 2 ht (goodG k_99) rfl rfl rfl (ht _ k_100) (ht _ k_101) (by decide +kernel) ⟨Nat.le_of_ble_eq_true rfl, Nat.le_of_ble_eq_true rfl⟩, (ht _ k_103), (ht _ k_102)⟩ (pre_vw hK hN (hP.sub [32] rfl) (hD.sub [32] (by decide) rfl) (q0 := 0) (ci := 2) rfl rfl) rfl rfl hl.1 rfl (lv_room (Nat.le_of_ble_eq_true rfl)) dX1_solve_125 ⟨Nat.zero_le _, Nat.zero_le _⟩) hP hD hS 32 rfl (fun H locs hP hD hS => ?_)
  have hP : va_P (dC, dI) vwCl (wC ad tI tL tII tLL cnt w tot rew grp fin gns (upd u10 u11.toNatClampNeg p1) rws_21 u11 now nxt whl au al u_26 lo_27) H := hP
  have hD : va_D (rwA (wC ad tI tL tII tLL cnt w tot rew grp fin gns rst rws last now nxt whl au al mu ml)) (wC ad tI tL tII tLL cnt w tot rew grp fin gns (upd u10 u11.toNatClampNeg p1) rws_21 u11 now nxt whl au al u_26 lo_27) := hD
  cases hR
  exact W.vret hx hb hr (fun t ht _ => ⟨rfl, by rw [ht]; exact hP, hS.F ht⟩) hS.2.2 dX1_solve_128
abbrev RM_f_Spread_start : Room := { frames := 0, cells := 0, slots := 0, locals := 0 }
abbrev W_Spread_start : List Cond := .code yX4_start cX4_start 3 none :: tblG
set_option maxHeartbeats 4000000 in
set_option maxRecDepth 100000 in
theorem c_Spread_start (l : Launch) (dC : Nat → ClassId) (dI : Nat → Nat → Nat) (ad : Nat → Nat) (tI tL tII tLL : ClassId) (cnt : Int32) (w : Nat → Nat → Int32) (tot : Nat → Int32) (rew : Nat → Int32) (grp : Nat → Int32) (fin : Nat → Int32) (gns : Nat → Int64) (rst : Nat → Int32) (rws : Nat → Nat → Int64) (last : Int32) (now : Nat → Int64) (nxt : Nat → Int64) (whl : Int64) (au : Int64) (al : Int64) (mu : Int64) (ml : Int64) (p1 : Int32) (R_now : Nat → Int64) (R_whl : Int64) (hR : some (R_now, R_whl) = f_Spread_start now p1) : Met l yX4_start W_Spread_start RM_f_Spread_start (rwP (dC, dI) vwCl [(tI, .int), (tL, .long), (tII, .array .int), (tLL, .array .long)] (wC ad tI tL tII tLL cnt w tot rew grp fin gns rst rws last now nxt whl au al mu ml) ([.ref (ad 28), .int p1] : List Value)) (rwQ (dC, dI) vwCl (wC ad tI tL tII tLL cnt w tot rew grp fin gns rst rws last R_now nxt R_whl au al mu ml) none (rwA (wC ad tI tL tII tLL cnt w tot rew grp fin gns rst rws last now nxt whl au al mu ml))) 0 0 (rwA (wC ad tI tL tII tLL cnt w tot rew grp fin gns rst rws last now nxt whl au al mu ml)) := by
  refine Met.ofW (cc := cX4_start) (maxL := 3) (ret := none) (by decide) rfl ?_
  intro p e s m args below meth c s₁ B hml hv
  obtain ⟨rfl, hP, hK, hN, hD⟩ := hv
  have hx := B.exec
  have hb := B.bytes
  have hr := B.returns
  have hts := atoms_spec (ws := W_Spread_start) B.pre
  have ht := fun (w : Cond) (h : w ∈ tblG) => hts w (List.mem_cons_of_mem _ h)
  have hown : s.vm.findClass RX4 = some m.cls := findClass_of_methodNamed B.named
  have hlocks := B.notSynchronized
  have hl := lv_entry ([.ref (ad 28), .int p1] : List Value) (n := 3) (Nat.le_of_ble_eq_true rfl)
  rw [lg_entry_eq]
  generalize (lg_sl ([.ref (ad 28), .int p1] : List Value) ++ List.replicate (3 - (lg_sl ([.ref (ad 28), .int p1] : List Value)).length) Slot.unset).toArray = ls at hl ⊢
  have hl : lv_has ls 3 [(0, .ref (ad 28)), (1, .int p1)] := hl
  have hD := hD.own
  have hS : va_S (rwA (wC ad tI tL tII tLL cnt w tot rew grp fin gns rst rws last now nxt whl au al mu ml)) s.heap s.heap [] := va_S.rf
  suffices K : ∀ (H : Heap) (locs : List Loc), va_P (dC, dI) vwCl (wC ad tI tL tII tLL cnt w tot rew grp fin gns rst rws last now nxt whl au al mu ml) H → va_D (rwA (wC ad tI tL tII tLL cnt w tot rew grp fin gns rst rws last now nxt whl au al mu ml)) (wC ad tI tL tII tLL cnt w tot rew grp fin gns rst rws last now nxt whl au al mu ml) → va_S (rwA (wC ad tI tL tII tLL cnt w tot rew grp fin gns rst rws last now nxt whl au al mu ml)) s.heap H locs → W p l e (headSpec W_Spread_start RM_f_Spread_start).room s m ([.ref (ad 28), .int p1] : List Value).toArray below meth c H locs 0 0 (MQ below (rwQ (dC, dI) vwCl (wC ad tI tL tII tLL cnt w tot rew grp fin gns rst rws last R_now nxt R_whl au al mu ml) none (rwA (wC ad tI tL tII tLL cnt w tot rew grp fin gns rst rws last now nxt whl au al mu ml))) ([.ref (ad 28), .int p1] : List Value).toArray s 0 0 (rwA (wC ad tI tL tII tLL cnt w tot rew grp fin gns rst rws last now nxt whl au al mu ml))) (F0 m 0 ls []) from K s.heap [] hP hD hS
  clear hP hD hS
  intro H locs hP hD hS
  rw [f_Spread_start] at hR
  refine lv_iconst (v := 0) hx hb dX4_start_0 (by decide) ?_
  refine lv_istore_n (lv' := [(2, .int (0 : Int32)), (0, .ref (ad 28)), (1, .int p1)]) hx hb dX4_start_1 rfl hl (by decide) rfl (fun ls hl => ?_)
  have L2_7 : ∀ (n : Nat) (x2_1 : Int32) (now_2 : Nat → Int64), ∀ (o_x2_1 : Int32) (o_now_2 : Nat → Int64), some (o_x2_1, o_now_2) = f_Spread_start_L2 p1 n x2_1 now_2 → (∀ (H : Heap) (locs : List Loc), va_P (dC, dI) vwCl (wC ad tI tL tII tLL cnt w tot rew grp fin gns rst rws last o_now_2 nxt whl au al mu ml) H → va_D (rwA (wC ad tI tL tII tLL cnt w tot rew grp fin gns rst rws last now nxt whl au al mu ml)) (wC ad tI tL tII tLL cnt w tot rew grp fin gns rst rws last o_now_2 nxt whl au al mu ml) → va_S (rwA (wC ad tI tL tII tLL cnt w tot rew grp fin gns rst rws last now nxt whl au al mu ml)) s.heap H locs → ∀ ls : Array Slot, lv_has ls 3 [(0, .ref (ad 28)), (1, .int p1), (2, .int o_x2_1)] → W p l e (headSpec W_Spread_start RM_f_Spread_start).room s m ([.ref (ad 28), .int p1] : List Value).toArray below meth c H locs 0 0 (MQ below (rwQ (dC, dI) vwCl (wC ad tI tL tII tLL cnt w tot rew grp fin gns rst rws last R_now nxt R_whl au al mu ml) none (rwA (wC ad tI tL tII tLL cnt w tot rew grp fin gns rst rws last now nxt whl au al mu ml))) ([.ref (ad 28), .int p1] : List Value).toArray s 0 0 (rwA (wC ad tI tL tII tLL cnt w tot rew grp fin gns rst rws last now nxt whl au al mu ml))) (F0 m 30 ls [])) → ∀ (H : Heap) (locs : List Loc), va_P (dC, dI) vwCl (wC ad tI tL tII tLL cnt w tot rew grp fin gns rst rws last now_2 nxt whl au al mu ml) H → va_D (rwA (wC ad tI tL tII tLL cnt w tot rew grp fin gns rst rws last now nxt whl au al mu ml)) (wC ad tI tL tII tLL cnt w tot rew grp fin gns rst rws last now_2 nxt whl au al mu ml) → va_S (rwA (wC ad tI tL tII tLL cnt w tot rew grp fin gns rst rws last now nxt whl au al mu ml)) s.heap H locs → ∀ ls : Array Slot, lv_has ls 3 [(0, .ref (ad 28)), (1, .int p1), (2, .int x2_1)] → W p l e (headSpec W_Spread_start RM_f_Spread_start).room s m ([.ref (ad 28), .int p1] : List Value).toArray below meth c H locs 0 0 (MQ below (rwQ (dC, dI) vwCl (wC ad tI tL tII tLL cnt w tot rew grp fin gns rst rws last R_now nxt R_whl au al mu ml) none (rwA (wC ad tI tL tII tLL cnt w tot rew grp fin gns rst rws last now nxt whl au al mu ml))) ([.ref (ad 28), .int p1] : List Value).toArray s 0 0 (rwA (wC ad tI tL tII tLL cnt w tot rew grp fin gns rst rws last now nxt whl au al mu ml))) (F0 m 2 ls []) := by
    intro n
    induction n with
    | zero =>
      intro x2_1 now_2 o_x2_1 o_now_2 hR
      cases (show some _ = none from hR)
    | succ n ih =>
      intro x2_1 now_2 o_x2_1 o_now_2 hR hk H locs hP hD hS ls hl
      rw [f_Spread_start_L2_s] at hR
      obtain ⟨y, hR, hQ⟩ := ob hR
      replace hR := hR.symm
      rw [f_Spread_start_B2] at hR
      refine lv_iload_n hx hb dX4_start_2 rfl (lv_at hl 2 rfl) ?_
      refine lv_bipush (v := 7) hx hb dX4_start_3 (by decide) ?_
      refine lv_icmp_ge (tgt := 30) hx hb dX4_start_5 (by decide) (fun c3 => ?_) (fun c3 => ?_)
      · replace hR := it_p c3 hR
        cases hR
        cases (show some _ = some _ from hQ)
        exact hk H locs hP hD hS ls (lv_sub hl [0, 1, 2] rfl)
      · replace hR := it_n c3 hR
        refine lv_aload_n hx hb dX4_start_8 rfl (lv_at hl 0 rfl) ?_
        refine va_get (D := (dC, dI)) (ci := 4) (v := .ref (ad 29)) (C := RX4) (T := TX4) (N := 4) hx hb ht hinX4 hown hK hP 28 rfl rfl 1 (by decide) (ht _ k_104) (fun _ h9 => h9) rfl dX4_start_9 ?_
        refine lv_iload_n hx hb dX4_start_12 rfl (lv_at hl 2 rfl) ?_
        refine lv_iload_n hx hb dX4_start_13 rfl (lv_at hl 2 rfl) ?_
        refine lv_iload_n hx hb dX4_start_14 rfl (lv_at hl 1 rfl) ?_
        refine lv_icmp_ne (tgt := 22) hx hb dX4_start_15 (by decide) (fun c4 => ?_) (fun c4 => ?_)
        · replace hR := it_n c4 hR
          refine lv_lconst (v := 0) hx hb dX4_start_22 (by decide) ?_
          obtain ⟨z5, hR⟩ := og hR
          refine va_last hx hb hK hP hD hS 29 1 rfl rfl (ix_in z5) dX4_start_23 (fun H locs hP hD hS => ?_)
          have hP : va_P (dC, dI) vwCl (wC ad tI tL tII tLL cnt w tot rew grp fin gns rst rws last (vp_updL now_2 x2_1.toNatClampNeg (0 : Int64)) nxt whl au al mu ml) H := hP
          have hD : va_D (rwA (wC ad tI tL tII tLL cnt w tot rew grp fin gns rst rws last now nxt whl au al mu ml)) (wC ad tI tL tII tLL cnt w tot rew grp fin gns rst rws last (vp_updL now_2 x2_1.toNatClampNeg (0 : Int64)) nxt whl au al mu ml) := hD
          refine lv_iinc (v := (x2_1 + 1)) (lv' := [(2, .int (x2_1 + 1)), (0, .ref (ad 28)), (1, .int p1)]) hx hb dX4_start_24 hl (k := 2) rfl rfl (by decide) rfl (fun ls hl => ?_)
          refine lv_goto (tgt := 2) hx hb dX4_start_27 (by decide) ?_
          cases hR
          exact ih (x2_1 + 1) (vp_updL now_2 x2_1.toNatClampNeg (0 : Int64)) o_x2_1 o_now_2 hQ hk H locs hP hD hS ls (lv_sub hl [1, 2, 0] rfl)
        · replace hR := it_p c4 hR
          refine lv_lconst (v := 1) hx hb dX4_start_18 (by decide) ?_
          refine lv_goto (tgt := 23) hx hb dX4_start_19 (by decide) ?_
          obtain ⟨z6, hR⟩ := og hR
          refine va_last hx hb hK hP hD hS 29 1 rfl rfl (ix_in z6) dX4_start_23 (fun H locs hP hD hS => ?_)
          have hP : va_P (dC, dI) vwCl (wC ad tI tL tII tLL cnt w tot rew grp fin gns rst rws last (vp_updL now_2 x2_1.toNatClampNeg (1 : Int64)) nxt whl au al mu ml) H := hP
          have hD : va_D (rwA (wC ad tI tL tII tLL cnt w tot rew grp fin gns rst rws last now nxt whl au al mu ml)) (wC ad tI tL tII tLL cnt w tot rew grp fin gns rst rws last (vp_updL now_2 x2_1.toNatClampNeg (1 : Int64)) nxt whl au al mu ml) := hD
          refine lv_iinc (v := (x2_1 + 1)) (lv' := [(2, .int (x2_1 + 1)), (0, .ref (ad 28)), (1, .int p1)]) hx hb dX4_start_24 hl (k := 2) rfl rfl (by decide) rfl (fun ls hl => ?_)
          refine lv_goto (tgt := 2) hx hb dX4_start_27 (by decide) ?_
          cases hR
          exact ih (x2_1 + 1) (vp_updL now_2 x2_1.toNatClampNeg (1 : Int64)) o_x2_1 o_now_2 hQ hk H locs hP hD hS ls (lv_sub hl [1, 2, 0] rfl)
  obtain ⟨⟨u8, u9⟩, hL, hR⟩ := ob hR
  try dsimp only at hR
  refine L2_7 300 (0 : Int32) now u8 u9 hL.symm (fun H locs hP hD hS ls hl => ?_) H locs hP hD hS ls (lv_sub hl [1, 2, 0] rfl)
  refine lv_aload_n hx hb dX4_start_30 rfl (lv_at hl 0 rfl) ?_
  refine lv_lconst (v := 1) hx hb dX4_start_31 (by decide) ?_
  refine va_put (D := (dC, dI)) (ci := 4) (v := .long (1 : Int64)) (ty := .long) (C := RX4) (T := TX4) (N := 4) hx hb ht hinX4 tyX4 tyX4_ok nmX4 hown hK hP hD hS 28 rfl rfl 3 (by decide) (ht _ k_105) (fun _ h9 => h9) rfl (by decide +kernel) rfl rfl (Nat.le_of_ble_eq_true rfl) dX4_start_32 (fun H locs hP hD hS => ?_)
  have hP : va_P (dC, dI) vwCl (wC ad tI tL tII tLL cnt w tot rew grp fin gns rst rws last u9 nxt (1 : Int64) au al mu ml) H := hP
  have hD : va_D (rwA (wC ad tI tL tII tLL cnt w tot rew grp fin gns rst rws last now nxt whl au al mu ml)) (wC ad tI tL tII tLL cnt w tot rew grp fin gns rst rws last u9 nxt (1 : Int64) au al mu ml) := hD
  cases hR
  exact W.vret hx hb hr (fun t ht _ => ⟨rfl, by rw [ht]; exact hP, hS.F ht⟩) hS.2.2 dX4_start_35
abbrev RM_f_Spread_goOn : Room := { frames := 2, cells := 0, slots := 0, locals := 43 }
abbrev W_Spread_goOn : List Cond := .code yX4_goOn cX4_goOn 5 none :: tblG
set_option maxHeartbeats 4000000 in
set_option maxRecDepth 100000 in
theorem c_Spread_goOn (l : Launch) (dC : Nat → ClassId) (dI : Nat → Nat → Nat) (ad : Nat → Nat) (tI tL tII tLL : ClassId) (cnt : Int32) (w : Nat → Nat → Int32) (tot : Nat → Int32) (rew : Nat → Int32) (grp : Nat → Int32) (fin : Nat → Int32) (gns : Nat → Int64) (rst : Nat → Int32) (rws : Nat → Nat → Int64) (last : Int32) (now : Nat → Int64) (nxt : Nat → Int64) (whl : Int64) (au : Int64) (al : Int64) (mu : Int64) (ml : Int64)  (R_now : Nat → Int64) (R_nxt : Nat → Int64) (R_whl : Int64) (hR : some (R_now, R_nxt, R_whl) = f_Spread_goOn cnt w tot now nxt whl) : Met l yX4_goOn W_Spread_goOn RM_f_Spread_goOn (rwP (dC, dI) vwCl [(tI, .int), (tL, .long), (tII, .array .int), (tLL, .array .long)] (wC ad tI tL tII tLL cnt w tot rew grp fin gns rst rws last now nxt whl au al mu ml) ([.ref (ad 28)] : List Value)) (rwQ (dC, dI) vwCl (wC ad tI tL tII tLL cnt w tot rew grp fin gns rst rws last R_now R_nxt R_whl au al mu ml) none (rwA (wC ad tI tL tII tLL cnt w tot rew grp fin gns rst rws last now nxt whl au al mu ml))) 0 0 (rwA (wC ad tI tL tII tLL cnt w tot rew grp fin gns rst rws last now nxt whl au al mu ml)) := by
  refine Met.ofW (cc := cX4_goOn) (maxL := 5) (ret := none) (by decide) rfl ?_
  intro p e s m args below meth c s₁ B hml hv
  obtain ⟨rfl, hP, hK, hN, hD⟩ := hv
  have hx := B.exec
  have hb := B.bytes
  have hr := B.returns
  have hts := atoms_spec (ws := W_Spread_goOn) B.pre
  have ht := fun (w : Cond) (h : w ∈ tblG) => hts w (List.mem_cons_of_mem _ h)
  have hown : s.vm.findClass RX4 = some m.cls := findClass_of_methodNamed B.named
  have hlocks := B.notSynchronized
  have hl := lv_entry ([.ref (ad 28)] : List Value) (n := 5) (Nat.le_of_ble_eq_true rfl)
  rw [lg_entry_eq]
  generalize (lg_sl ([.ref (ad 28)] : List Value) ++ List.replicate (5 - (lg_sl ([.ref (ad 28)] : List Value)).length) Slot.unset).toArray = ls at hl ⊢
  have hl : lv_has ls 5 [(0, .ref (ad 28))] := hl
  have hD := hD.own
  have hS : va_S (rwA (wC ad tI tL tII tLL cnt w tot rew grp fin gns rst rws last now nxt whl au al mu ml)) s.heap s.heap [] := va_S.rf
  suffices K : ∀ (H : Heap) (locs : List Loc), va_P (dC, dI) vwCl (wC ad tI tL tII tLL cnt w tot rew grp fin gns rst rws last now nxt whl au al mu ml) H → va_D (rwA (wC ad tI tL tII tLL cnt w tot rew grp fin gns rst rws last now nxt whl au al mu ml)) (wC ad tI tL tII tLL cnt w tot rew grp fin gns rst rws last now nxt whl au al mu ml) → va_S (rwA (wC ad tI tL tII tLL cnt w tot rew grp fin gns rst rws last now nxt whl au al mu ml)) s.heap H locs → W p l e (headSpec W_Spread_goOn RM_f_Spread_goOn).room s m ([.ref (ad 28)] : List Value).toArray below meth c H locs 0 0 (MQ below (rwQ (dC, dI) vwCl (wC ad tI tL tII tLL cnt w tot rew grp fin gns rst rws last R_now R_nxt R_whl au al mu ml) none (rwA (wC ad tI tL tII tLL cnt w tot rew grp fin gns rst rws last now nxt whl au al mu ml))) ([.ref (ad 28)] : List Value).toArray s 0 0 (rwA (wC ad tI tL tII tLL cnt w tot rew grp fin gns rst rws last now nxt whl au al mu ml))) (F0 m 0 ls []) from K s.heap [] hP hD hS
  clear hP hD hS
  intro H locs hP hD hS
  rw [f_Spread_goOn] at hR
  refine lv_iconst (v := 0) hx hb dX4_goOn_0 (by decide) ?_
  refine lv_istore_n (lv' := [(1, .int (0 : Int32)), (0, .ref (ad 28))]) hx hb dX4_goOn_1 rfl hl (by decide) rfl (fun ls hl => ?_)
  have L2_15 : ∀ (n : Nat) (x1_1 : Int32) (nxt_2 : Nat → Int64), ∀ (o_x1_1 : Int32) (o_nxt_2 : Nat → Int64), some (o_x1_1, o_nxt_2) = f_Spread_goOn_L2 cnt w tot now n x1_1 nxt_2 → (∀ (H : Heap) (locs : List Loc), va_P (dC, dI) vwCl (wC ad tI tL tII tLL cnt w tot rew grp fin gns rst rws last now o_nxt_2 whl au al mu ml) H → va_D (rwA (wC ad tI tL tII tLL cnt w tot rew grp fin gns rst rws last now nxt whl au al mu ml)) (wC ad tI tL tII tLL cnt w tot rew grp fin gns rst rws last now o_nxt_2 whl au al mu ml) → va_S (rwA (wC ad tI tL tII tLL cnt w tot rew grp fin gns rst rws last now nxt whl au al mu ml)) s.heap H locs → ∀ ls : Array Slot, lv_has ls 5 [(0, .ref (ad 28)), (1, .int o_x1_1)] → W p l e (headSpec W_Spread_goOn RM_f_Spread_goOn).room s m ([.ref (ad 28)] : List Value).toArray below meth c H locs 0 0 (MQ below (rwQ (dC, dI) vwCl (wC ad tI tL tII tLL cnt w tot rew grp fin gns rst rws last R_now R_nxt R_whl au al mu ml) none (rwA (wC ad tI tL tII tLL cnt w tot rew grp fin gns rst rws last now nxt whl au al mu ml))) ([.ref (ad 28)] : List Value).toArray s 0 0 (rwA (wC ad tI tL tII tLL cnt w tot rew grp fin gns rst rws last now nxt whl au al mu ml))) (F0 m 86 ls [])) → ∀ (H : Heap) (locs : List Loc), va_P (dC, dI) vwCl (wC ad tI tL tII tLL cnt w tot rew grp fin gns rst rws last now nxt_2 whl au al mu ml) H → va_D (rwA (wC ad tI tL tII tLL cnt w tot rew grp fin gns rst rws last now nxt whl au al mu ml)) (wC ad tI tL tII tLL cnt w tot rew grp fin gns rst rws last now nxt_2 whl au al mu ml) → va_S (rwA (wC ad tI tL tII tLL cnt w tot rew grp fin gns rst rws last now nxt whl au al mu ml)) s.heap H locs → ∀ ls : Array Slot, lv_has ls 5 [(0, .ref (ad 28)), (1, .int x1_1)] → W p l e (headSpec W_Spread_goOn RM_f_Spread_goOn).room s m ([.ref (ad 28)] : List Value).toArray below meth c H locs 0 0 (MQ below (rwQ (dC, dI) vwCl (wC ad tI tL tII tLL cnt w tot rew grp fin gns rst rws last R_now R_nxt R_whl au al mu ml) none (rwA (wC ad tI tL tII tLL cnt w tot rew grp fin gns rst rws last now nxt whl au al mu ml))) ([.ref (ad 28)] : List Value).toArray s 0 0 (rwA (wC ad tI tL tII tLL cnt w tot rew grp fin gns rst rws last now nxt whl au al mu ml))) (F0 m 2 ls []) := by
    intro n
    induction n with
    | zero =>
      intro x1_1 nxt_2 o_x1_1 o_nxt_2 hR
      cases (show some _ = none from hR)
    | succ n ih =>
      intro x1_1 nxt_2 o_x1_1 o_nxt_2 hR hk H locs hP hD hS ls hl
      rw [f_Spread_goOn_L2_s] at hR
      obtain ⟨y, hR, hQ⟩ := ob hR
      replace hR := hR.symm
      rw [f_Spread_goOn_B2] at hR
      refine lv_iload_n hx hb dX4_goOn_2 rfl (lv_at hl 1 rfl) ?_
      refine lv_aload_n hx hb dX4_goOn_3 rfl (lv_at hl 0 rfl) ?_
      refine va_get (D := (dC, dI)) (ci := 4) (v := .ref (ad 1)) (C := RX4) (T := TX4) (N := 4) hx hb ht hinX4 hown hK hP 28 rfl rfl 0 (by decide) (ht _ k_106) (fun _ h9 => h9) rfl dX4_goOn_4 ?_
      refine va_getN (D := (dC, dI)) (ci := 0) (v := .int cnt) (C := RX0) (T := TX0) (N := 4) hx hb ht hinX0 hown hK hP 1 rfl rfl 3 (by decide) (va_Nw.use rfl (nf_9 hN)) (fun _ h9 => h9) rfl dX4_goOn_7 ?_
      refine lv_icmp_ge (tgt := 86) hx hb dX4_goOn_10 (by decide) (fun c3 => ?_) (fun c3 => ?_)
      · replace hR := it_p c3 hR
        cases hR
        cases (show some _ = some _ from hQ)
        exact hk H locs hP hD hS ls (lv_sub hl [0, 1] rfl)
      · replace hR := it_n c3 hR
        refine lv_lconst (v := 0) hx hb dX4_goOn_13 (by decide) ?_
        refine lv_lstore_n (lv' := [(2, .long (0 : Int64)), (0, .ref (ad 28)), (1, .int x1_1)]) hx hb dX4_goOn_14 rfl hl (by decide) rfl (fun ls hl => ?_)
        refine lv_iconst (v := 0) hx hb dX4_goOn_15 (by decide) ?_
        refine lv_istore (lv' := [(4, .int (0 : Int32)), (2, .long (0 : Int64)), (0, .ref (ad 28)), (1, .int x1_1)]) hx hb dX4_goOn_16 hl (by decide) rfl (fun ls hl => ?_)
        have L18_11 : ∀ (n : Nat) (x2_4 : Int64) (x4_5 : Int32), ∀ (o_x2_4 : Int64) (o_x4_5 : Int32), some (o_x2_4, o_x4_5) = f_Spread_goOn_L18 cnt w tot now x1_1 n x2_4 x4_5 → (∀ (H : Heap) (locs : List Loc), va_P (dC, dI) vwCl (wC ad tI tL tII tLL cnt w tot rew grp fin gns rst rws last now nxt_2 whl au al mu ml) H → va_D (rwA (wC ad tI tL tII tLL cnt w tot rew grp fin gns rst rws last now nxt whl au al mu ml)) (wC ad tI tL tII tLL cnt w tot rew grp fin gns rst rws last now nxt_2 whl au al mu ml) → va_S (rwA (wC ad tI tL tII tLL cnt w tot rew grp fin gns rst rws last now nxt whl au al mu ml)) s.heap H locs → ∀ ls : Array Slot, lv_has ls 5 [(0, .ref (ad 28)), (1, .int x1_1), (2, .long o_x2_4), (4, .int o_x4_5)] → W p l e (headSpec W_Spread_goOn RM_f_Spread_goOn).room s m ([.ref (ad 28)] : List Value).toArray below meth c H locs 0 0 (MQ below (rwQ (dC, dI) vwCl (wC ad tI tL tII tLL cnt w tot rew grp fin gns rst rws last R_now R_nxt R_whl au al mu ml) none (rwA (wC ad tI tL tII tLL cnt w tot rew grp fin gns rst rws last now nxt whl au al mu ml))) ([.ref (ad 28)] : List Value).toArray s 0 0 (rwA (wC ad tI tL tII tLL cnt w tot rew grp fin gns rst rws last now nxt whl au al mu ml))) (F0 m 73 ls [])) → ∀ (H : Heap) (locs : List Loc), va_P (dC, dI) vwCl (wC ad tI tL tII tLL cnt w tot rew grp fin gns rst rws last now nxt_2 whl au al mu ml) H → va_D (rwA (wC ad tI tL tII tLL cnt w tot rew grp fin gns rst rws last now nxt whl au al mu ml)) (wC ad tI tL tII tLL cnt w tot rew grp fin gns rst rws last now nxt_2 whl au al mu ml) → va_S (rwA (wC ad tI tL tII tLL cnt w tot rew grp fin gns rst rws last now nxt whl au al mu ml)) s.heap H locs → ∀ ls : Array Slot, lv_has ls 5 [(0, .ref (ad 28)), (1, .int x1_1), (2, .long x2_4), (4, .int x4_5)] → W p l e (headSpec W_Spread_goOn RM_f_Spread_goOn).room s m ([.ref (ad 28)] : List Value).toArray below meth c H locs 0 0 (MQ below (rwQ (dC, dI) vwCl (wC ad tI tL tII tLL cnt w tot rew grp fin gns rst rws last R_now R_nxt R_whl au al mu ml) none (rwA (wC ad tI tL tII tLL cnt w tot rew grp fin gns rst rws last now nxt whl au al mu ml))) ([.ref (ad 28)] : List Value).toArray s 0 0 (rwA (wC ad tI tL tII tLL cnt w tot rew grp fin gns rst rws last now nxt whl au al mu ml))) (F0 m 18 ls []) := by
          intro n
          induction n with
          | zero =>
            intro x2_4 x4_5 o_x2_4 o_x4_5 hR
            cases (show some _ = none from hR)
          | succ n ih =>
            intro x2_4 x4_5 o_x2_4 o_x4_5 hR hk H locs hP hD hS ls hl
            rw [f_Spread_goOn_L18_s] at hR
            obtain ⟨y, hR, hQ⟩ := ob hR
            replace hR := hR.symm
            rw [f_Spread_goOn_B18] at hR
            refine lv_iload hx hb dX4_goOn_18 (lv_at hl 3 rfl) ?_
            refine lv_aload_n hx hb dX4_goOn_20 rfl (lv_at hl 0 rfl) ?_
            refine va_get (D := (dC, dI)) (ci := 4) (v := .ref (ad 1)) (C := RX4) (T := TX4) (N := 4) hx hb ht hinX4 hown hK hP 28 rfl rfl 0 (by decide) (ht _ k_106) (fun _ h9 => h9) rfl dX4_goOn_21 ?_
            refine va_getN (D := (dC, dI)) (ci := 0) (v := .int cnt) (C := RX0) (T := TX0) (N := 4) hx hb ht hinX0 hown hK hP 1 rfl rfl 3 (by decide) (va_Nw.use rfl (nf_9 hN)) (fun _ h9 => h9) rfl dX4_goOn_24 ?_
            refine lv_icmp_ge (tgt := 73) hx hb dX4_goOn_27 (by decide) (fun c6 => ?_) (fun c6 => ?_)
            · replace hR := it_p c6 hR
              cases hR
              cases (show some _ = some _ from hQ)
              exact hk H locs hP hD hS ls (lv_sub hl [0, 1, 2, 3] rfl)
            · replace hR := it_n c6 hR
              refine lv_lload_n hx hb dX4_goOn_30 rfl (lv_at hl 2 rfl) ?_
              refine lv_aload_n hx hb dX4_goOn_31 rfl (lv_at hl 0 rfl) ?_
              refine va_get (D := (dC, dI)) (ci := 4) (v := .ref (ad 29)) (C := RX4) (T := TX4) (N := 4) hx hb ht hinX4 hown hK hP 28 rfl rfl 1 (by decide) (ht _ k_104) (fun _ h9 => h9) rfl dX4_goOn_32 ?_
              refine lv_iload hx hb dX4_goOn_35 (lv_at hl 3 rfl) ?_
              obtain ⟨z7, hR⟩ := og hR
              refine va_lald hx hb hK hP 29 1 rfl rfl (ix_in z7) dX4_goOn_37 ?_
              refine lv_ldc2 (v := 27720) hx hb hown (ht _ k_107) dX4_goOn_38 ?_
              refine lv_aload_n hx hb dX4_goOn_41 rfl (lv_at hl 0 rfl) ?_
              refine va_get (D := (dC, dI)) (ci := 4) (v := .ref (ad 1)) (C := RX4) (T := TX4) (N := 4) hx hb ht hinX4 hown hK hP 28 rfl rfl 0 (by decide) (ht _ k_106) (fun _ h9 => h9) rfl dX4_goOn_42 ?_
              refine lv_iload hx hb dX4_goOn_45 (lv_at hl 3 rfl) ?_
              obtain ⟨r8, hC, hR⟩ := ob hR
              try dsimp only at hR
              refine ro_calli (va_runV (As := [.int x4_5]) (rest := [.long (27720 : Int64), .long (now x4_5.toNatClampNeg), .long x2_4]) ⟨hx, hb, hml, hown, ht⟩ (c_Chain_pullOfAll l dC dI ad tI tL tII tLL cnt w tot rew grp fin gns rst rws last now nxt_2 whl au al mu ml x4_5 r8 hC.symm) ⟨callB_of 1 ht (goodG k_65) rfl rfl rfl (ht _ k_15) (ht _ k_108) (by decide +kernel) ⟨Nat.le_of_ble_eq_true rfl, Nat.le_of_ble_eq_true rfl⟩, (ht _ k_68), (ht _ k_67)⟩ (pre_v hK hN hP (q0 := 1) (ci := 0) rfl rfl) rfl rfl hl.1 rfl (lv_room (Nat.le_of_ble_eq_true rfl)) dX4_goOn_47 ⟨Nat.zero_le _, Nat.zero_le _⟩) ?_
              refine lv_i2l hx hb dX4_goOn_50 rfl ?_
              obtain ⟨z9, hR⟩ := og hR
              refine lv_ldiv hx hb dX4_goOn_51 z9 ?_
              refine lv_lmul hx hb dX4_goOn_52 ?_
              refine lv_aload_n hx hb dX4_goOn_53 rfl (lv_at hl 0 rfl) ?_
              refine va_get (D := (dC, dI)) (ci := 4) (v := .ref (ad 1)) (C := RX4) (T := TX4) (N := 4) hx hb ht hinX4 hown hK hP 28 rfl rfl 0 (by decide) (ht _ k_106) (fun _ h9 => h9) rfl dX4_goOn_54 ?_
              refine lv_iload hx hb dX4_goOn_57 (lv_at hl 3 rfl) ?_
              refine lv_iload_n hx hb dX4_goOn_59 rfl (lv_at hl 1 rfl) ?_
              obtain ⟨r10, hC, hR⟩ := ob hR
              try dsimp only at hR
              refine ro_calli (va_runV (As := [.int x4_5, .int x1_1]) (rest := [.long ((now x4_5.toNatClampNeg) * ((27720 : Int64) / (r8.toInt64))), .long x2_4]) ⟨hx, hb, hml, hown, ht⟩ (c_Chain_pull l dC dI ad tI tL tII tLL cnt w tot rew grp fin gns rst rws last now nxt_2 whl au al mu ml x4_5 x1_1 r10 hC.symm) ⟨callB_of 2 ht (goodG k_22) rfl rfl rfl (ht _ k_15) (ht _ k_109) (by decide +kernel) ⟨Nat.le_of_ble_eq_true rfl, Nat.le_of_ble_eq_true rfl⟩, (ht _ k_25), (ht _ k_24)⟩ (pre_v hK hN hP (q0 := 1) (ci := 0) rfl rfl) rfl rfl hl.1 rfl (lv_room (Nat.le_of_ble_eq_true rfl)) dX4_goOn_60 ⟨Nat.zero_le _, Nat.zero_le _⟩) ?_
              refine lv_i2l hx hb dX4_goOn_63 rfl ?_
              refine lv_lmul hx hb dX4_goOn_64 ?_
              refine lv_ladd hx hb dX4_goOn_65 ?_
              refine lv_lstore_n (lv' := [(2, .long (x2_4 + (((now x4_5.toNatClampNeg) * ((27720 : Int64) / (r8.toInt64))) * (r10.toInt64)))), (0, .ref (ad 28)), (1, .int x1_1), (4, .int x4_5)]) hx hb dX4_goOn_66 rfl hl (by decide) rfl (fun ls hl => ?_)
              refine lv_iinc (v := (x4_5 + 1)) (lv' := [(4, .int (x4_5 + 1)), (2, .long (x2_4 + (((now x4_5.toNatClampNeg) * ((27720 : Int64) / (r8.toInt64))) * (r10.toInt64)))), (0, .ref (ad 28)), (1, .int x1_1)]) hx hb dX4_goOn_67 hl (k := 3) rfl rfl (by decide) rfl (fun ls hl => ?_)
              refine lv_goto (tgt := 18) hx hb dX4_goOn_70 (by decide) ?_
              cases hR
              exact ih (x2_4 + (((now x4_5.toNatClampNeg) * ((27720 : Int64) / (r8.toInt64))) * (r10.toInt64))) (x4_5 + 1) o_x2_4 o_x4_5 hQ hk H locs hP hD hS ls (lv_sub hl [2, 3, 1, 0] rfl)
        obtain ⟨⟨u12, u13⟩, hL, hR⟩ := ob hR
        try dsimp only at hR
        refine L18_11 300 (0 : Int64) (0 : Int32) u12 u13 hL.symm (fun H locs hP hD hS ls hl => ?_) H locs hP hD hS ls (lv_sub hl [2, 3, 1, 0] rfl)
        refine lv_aload_n hx hb dX4_goOn_73 rfl (lv_at hl 0 rfl) ?_
        refine va_get (D := (dC, dI)) (ci := 4) (v := .ref (ad 30)) (C := RX4) (T := TX4) (N := 4) hx hb ht hinX4 hown hK hP 28 rfl rfl 2 (by decide) (ht _ k_110) (fun _ h9 => h9) rfl dX4_goOn_74 ?_
        refine lv_iload_n hx hb dX4_goOn_77 rfl (lv_at hl 1 rfl) ?_
        refine lv_lload_n hx hb dX4_goOn_78 rfl (lv_at hl 2 rfl) ?_
        obtain ⟨z14, hR⟩ := og hR
        refine va_last hx hb hK hP hD hS 30 1 rfl rfl (ix_in z14) dX4_goOn_79 (fun H locs hP hD hS => ?_)
        have hP : va_P (dC, dI) vwCl (wC ad tI tL tII tLL cnt w tot rew grp fin gns rst rws last now (vp_updL nxt_2 x1_1.toNatClampNeg u12) whl au al mu ml) H := hP
        have hD : va_D (rwA (wC ad tI tL tII tLL cnt w tot rew grp fin gns rst rws last now nxt whl au al mu ml)) (wC ad tI tL tII tLL cnt w tot rew grp fin gns rst rws last now (vp_updL nxt_2 x1_1.toNatClampNeg u12) whl au al mu ml) := hD
        refine lv_iinc (v := (x1_1 + 1)) (lv' := [(1, .int (x1_1 + 1)), (0, .ref (ad 28)), (2, .long u12), (4, .int u13)]) hx hb dX4_goOn_80 hl (k := 1) rfl rfl (by decide) rfl (fun ls hl => ?_)
        refine lv_goto (tgt := 2) hx hb dX4_goOn_83 (by decide) ?_
        cases hR
        exact ih (x1_1 + 1) (vp_updL nxt_2 x1_1.toNatClampNeg u12) o_x1_1 o_nxt_2 hQ hk H locs hP hD hS ls (lv_sub hl [1, 0] rfl)
  obtain ⟨⟨u16, u17⟩, hL, hR⟩ := ob hR
  try dsimp only at hR
  refine L2_15 300 (0 : Int32) nxt u16 u17 hL.symm (fun H locs hP hD hS ls hl => ?_) H locs hP hD hS ls (lv_sub hl [1, 0] rfl)
  refine lv_iconst (v := 0) hx hb dX4_goOn_86 (by decide) ?_
  refine lv_istore_n (lv' := [(1, .int (0 : Int32)), (0, .ref (ad 28))]) hx hb dX4_goOn_87 rfl hl (by decide) rfl (fun ls hl => ?_)
  have L88_23 : ∀ (n : Nat) (x1_18 : Int32) (now_19 : Nat → Int64), ∀ (o_x1_18 : Int32) (o_now_19 : Nat → Int64), some (o_x1_18, o_now_19) = f_Spread_goOn_L88 cnt u17 n x1_18 now_19 → (∀ (H : Heap) (locs : List Loc), va_P (dC, dI) vwCl (wC ad tI tL tII tLL cnt w tot rew grp fin gns rst rws last o_now_19 u17 whl au al mu ml) H → va_D (rwA (wC ad tI tL tII tLL cnt w tot rew grp fin gns rst rws last now nxt whl au al mu ml)) (wC ad tI tL tII tLL cnt w tot rew grp fin gns rst rws last o_now_19 u17 whl au al mu ml) → va_S (rwA (wC ad tI tL tII tLL cnt w tot rew grp fin gns rst rws last now nxt whl au al mu ml)) s.heap H locs → ∀ ls : Array Slot, lv_has ls 5 [(0, .ref (ad 28)), (1, .int o_x1_18)] → W p l e (headSpec W_Spread_goOn RM_f_Spread_goOn).room s m ([.ref (ad 28)] : List Value).toArray below meth c H locs 0 0 (MQ below (rwQ (dC, dI) vwCl (wC ad tI tL tII tLL cnt w tot rew grp fin gns rst rws last R_now R_nxt R_whl au al mu ml) none (rwA (wC ad tI tL tII tLL cnt w tot rew grp fin gns rst rws last now nxt whl au al mu ml))) ([.ref (ad 28)] : List Value).toArray s 0 0 (rwA (wC ad tI tL tII tLL cnt w tot rew grp fin gns rst rws last now nxt whl au al mu ml))) (F0 m 117 ls [])) → ∀ (H : Heap) (locs : List Loc), va_P (dC, dI) vwCl (wC ad tI tL tII tLL cnt w tot rew grp fin gns rst rws last now_19 u17 whl au al mu ml) H → va_D (rwA (wC ad tI tL tII tLL cnt w tot rew grp fin gns rst rws last now nxt whl au al mu ml)) (wC ad tI tL tII tLL cnt w tot rew grp fin gns rst rws last now_19 u17 whl au al mu ml) → va_S (rwA (wC ad tI tL tII tLL cnt w tot rew grp fin gns rst rws last now nxt whl au al mu ml)) s.heap H locs → ∀ ls : Array Slot, lv_has ls 5 [(0, .ref (ad 28)), (1, .int x1_18)] → W p l e (headSpec W_Spread_goOn RM_f_Spread_goOn).room s m ([.ref (ad 28)] : List Value).toArray below meth c H locs 0 0 (MQ below (rwQ (dC, dI) vwCl (wC ad tI tL tII tLL cnt w tot rew grp fin gns rst rws last R_now R_nxt R_whl au al mu ml) none (rwA (wC ad tI tL tII tLL cnt w tot rew grp fin gns rst rws last now nxt whl au al mu ml))) ([.ref (ad 28)] : List Value).toArray s 0 0 (rwA (wC ad tI tL tII tLL cnt w tot rew grp fin gns rst rws last now nxt whl au al mu ml))) (F0 m 88 ls []) := by
    intro n
    induction n with
    | zero =>
      intro x1_18 now_19 o_x1_18 o_now_19 hR
      cases (show some _ = none from hR)
    | succ n ih =>
      intro x1_18 now_19 o_x1_18 o_now_19 hR hk H locs hP hD hS ls hl
      rw [f_Spread_goOn_L88_s] at hR
      obtain ⟨y, hR, hQ⟩ := ob hR
      replace hR := hR.symm
      rw [f_Spread_goOn_B88] at hR
      refine lv_iload_n hx hb dX4_goOn_88 rfl (lv_at hl 1 rfl) ?_
      refine lv_aload_n hx hb dX4_goOn_89 rfl (lv_at hl 0 rfl) ?_
      refine va_get (D := (dC, dI)) (ci := 4) (v := .ref (ad 1)) (C := RX4) (T := TX4) (N := 4) hx hb ht hinX4 hown hK hP 28 rfl rfl 0 (by decide) (ht _ k_106) (fun _ h9 => h9) rfl dX4_goOn_90 ?_
      refine va_getN (D := (dC, dI)) (ci := 0) (v := .int cnt) (C := RX0) (T := TX0) (N := 4) hx hb ht hinX0 hown hK hP 1 rfl rfl 3 (by decide) (va_Nw.use rfl (nf_9 hN)) (fun _ h9 => h9) rfl dX4_goOn_93 ?_
      refine lv_icmp_ge (tgt := 117) hx hb dX4_goOn_96 (by decide) (fun c20 => ?_) (fun c20 => ?_)
      · replace hR := it_p c20 hR
        cases hR
        cases (show some _ = some _ from hQ)
        exact hk H locs hP hD hS ls (lv_sub hl [0, 1] rfl)
      · replace hR := it_n c20 hR
        refine lv_aload_n hx hb dX4_goOn_99 rfl (lv_at hl 0 rfl) ?_
        refine va_get (D := (dC, dI)) (ci := 4) (v := .ref (ad 29)) (C := RX4) (T := TX4) (N := 4) hx hb ht hinX4 hown hK hP 28 rfl rfl 1 (by decide) (ht _ k_104) (fun _ h9 => h9) rfl dX4_goOn_100 ?_
        refine lv_iload_n hx hb dX4_goOn_103 rfl (lv_at hl 1 rfl) ?_
        refine lv_aload_n hx hb dX4_goOn_104 rfl (lv_at hl 0 rfl) ?_
        refine va_get (D := (dC, dI)) (ci := 4) (v := .ref (ad 30)) (C := RX4) (T := TX4) (N := 4) hx hb ht hinX4 hown hK hP 28 rfl rfl 2 (by decide) (ht _ k_110) (fun _ h9 => h9) rfl dX4_goOn_105 ?_
        refine lv_iload_n hx hb dX4_goOn_108 rfl (lv_at hl 1 rfl) ?_
        obtain ⟨z21, hR⟩ := og hR
        refine va_lald hx hb hK hP 30 1 rfl rfl (ix_in z21) dX4_goOn_109 ?_
        obtain ⟨z22, hR⟩ := og hR
        refine va_last hx hb hK hP hD hS 29 1 rfl rfl (ix_in z22) dX4_goOn_110 (fun H locs hP hD hS => ?_)
        have hP : va_P (dC, dI) vwCl (wC ad tI tL tII tLL cnt w tot rew grp fin gns rst rws last (vp_updL now_19 x1_18.toNatClampNeg (u17 x1_18.toNatClampNeg)) u17 whl au al mu ml) H := hP
        have hD : va_D (rwA (wC ad tI tL tII tLL cnt w tot rew grp fin gns rst rws last now nxt whl au al mu ml)) (wC ad tI tL tII tLL cnt w tot rew grp fin gns rst rws last (vp_updL now_19 x1_18.toNatClampNeg (u17 x1_18.toNatClampNeg)) u17 whl au al mu ml) := hD
        refine lv_iinc (v := (x1_18 + 1)) (lv' := [(1, .int (x1_18 + 1)), (0, .ref (ad 28))]) hx hb dX4_goOn_111 hl (k := 1) rfl rfl (by decide) rfl (fun ls hl => ?_)
        refine lv_goto (tgt := 88) hx hb dX4_goOn_114 (by decide) ?_
        cases hR
        exact ih (x1_18 + 1) (vp_updL now_19 x1_18.toNatClampNeg (u17 x1_18.toNatClampNeg)) o_x1_18 o_now_19 hQ hk H locs hP hD hS ls (lv_sub hl [1, 0] rfl)
  obtain ⟨⟨u24, u25⟩, hL, hR⟩ := ob hR
  try dsimp only at hR
  refine L88_23 300 (0 : Int32) now u24 u25 hL.symm (fun H locs hP hD hS ls hl => ?_) H locs hP hD hS ls (lv_sub hl [1, 0] rfl)
  refine lv_aload_n hx hb dX4_goOn_117 rfl (lv_at hl 0 rfl) ?_
  refine lv_dup hx hb dX4_goOn_118 rfl ?_
  refine va_get (D := (dC, dI)) (ci := 4) (v := .long whl) (C := RX4) (T := TX4) (N := 4) hx hb ht hinX4 hown hK hP 28 rfl rfl 3 (by decide) (ht _ k_105) (fun _ h9 => h9) rfl dX4_goOn_119 ?_
  refine lv_ldc2 (v := 27720) hx hb hown (ht _ k_107) dX4_goOn_122 ?_
  refine lv_lmul hx hb dX4_goOn_125 ?_
  refine va_put (D := (dC, dI)) (ci := 4) (v := .long (whl * (27720 : Int64))) (ty := .long) (C := RX4) (T := TX4) (N := 4) hx hb ht hinX4 tyX4 tyX4_ok nmX4 hown hK hP hD hS 28 rfl rfl 3 (by decide) (ht _ k_105) (fun _ h9 => h9) rfl (by decide +kernel) rfl rfl (Nat.le_of_ble_eq_true rfl) dX4_goOn_126 (fun H locs hP hD hS => ?_)
  have hP : va_P (dC, dI) vwCl (wC ad tI tL tII tLL cnt w tot rew grp fin gns rst rws last u25 u17 (whl * (27720 : Int64)) au al mu ml) H := hP
  have hD : va_D (rwA (wC ad tI tL tII tLL cnt w tot rew grp fin gns rst rws last now nxt whl au al mu ml)) (wC ad tI tL tII tLL cnt w tot rew grp fin gns rst rws last u25 u17 (whl * (27720 : Int64)) au al mu ml) := hD
  cases hR
  exact W.vret hx hb hr (fun t ht _ => ⟨rfl, by rw [ht]; exact hP, hS.F ht⟩) hS.2.2 dX4_goOn_129
abbrev RM_f_CS_answerOddsToMeet : Room := { frames := 4, cells := 0, slots := 0, locals := 103 }
abbrev W_CS_answerOddsToMeet : List Cond := .code yX6_answerOddsToMeet cX6_answerOddsToMeet 5 none :: tblG
set_option maxHeartbeats 4000000 in
set_option maxRecDepth 100000 in
theorem c_CS_answerOddsToMeet (l : Launch) (dC : Nat → ClassId) (dI : Nat → Nat → Nat) (ad : Nat → Nat) (tI tL tII tLL : ClassId) (cnt : Int32) (w : Nat → Nat → Int32) (tot : Nat → Int32) (rew : Nat → Int32) (grp : Nat → Int32) (fin : Nat → Int32) (gns : Nat → Int64) (rst : Nat → Int32) (rws : Nat → Nat → Int64) (last : Int32) (now : Nat → Int64) (nxt : Nat → Int64) (whl : Int64) (au : Int64) (al : Int64) (mu : Int64) (ml : Int64) (p1 : Int32) (p2 : Int32) (p3 : Int32) (R_gns : Nat → Int64) (R_rst : Nat → Int32) (R_rws : Nat → Nat → Int64) (R_last : Int32) (R_au : Int64) (R_al : Int64) (hR : some (R_gns, R_rst, R_rws, R_last, R_au, R_al) = f_CS_answerOddsToMeet cnt w tot gns rst rws last p1 p2 p3) : Met l yX6_answerOddsToMeet W_CS_answerOddsToMeet RM_f_CS_answerOddsToMeet (rwP (dC, dI) vwCl [(tI, .int), (tL, .long), (tII, .array .int), (tLL, .array .long)] (wC ad tI tL tII tLL cnt w tot rew grp fin gns rst rws last now nxt whl au al mu ml) ([.ref (ad 0), .int p1, .int p2, .int p3] : List Value)) (rwQ (dC, dI) vwCl (wC ad tI tL tII tLL cnt w tot rew grp fin R_gns R_rst R_rws R_last now nxt whl R_au R_al mu ml) none (rwA (wC ad tI tL tII tLL cnt w tot rew grp fin gns rst rws last now nxt whl au al mu ml))) 0 0 (rwA (wC ad tI tL tII tLL cnt w tot rew grp fin gns rst rws last now nxt whl au al mu ml)) := by
  refine Met.ofW (cc := cX6_answerOddsToMeet) (maxL := 5) (ret := none) (by decide) rfl ?_
  intro p e s m args below meth c s₁ B hml hv
  obtain ⟨rfl, hP, hK, hN, hD⟩ := hv
  have hx := B.exec
  have hb := B.bytes
  have hr := B.returns
  have hts := atoms_spec (ws := W_CS_answerOddsToMeet) B.pre
  have ht := fun (w : Cond) (h : w ∈ tblG) => hts w (List.mem_cons_of_mem _ h)
  have hown : s.vm.findClass RX6 = some m.cls := findClass_of_methodNamed B.named
  have hlocks := B.notSynchronized
  have hl := lv_entry ([.ref (ad 0), .int p1, .int p2, .int p3] : List Value) (n := 5) (Nat.le_of_ble_eq_true rfl)
  rw [lg_entry_eq]
  generalize (lg_sl ([.ref (ad 0), .int p1, .int p2, .int p3] : List Value) ++ List.replicate (5 - (lg_sl ([.ref (ad 0), .int p1, .int p2, .int p3] : List Value)).length) Slot.unset).toArray = ls at hl ⊢
  have hl : lv_has ls 5 [(0, .ref (ad 0)), (1, .int p1), (2, .int p2), (3, .int p3)] := hl
  have hD := hD.own
  have hS : va_S (rwA (wC ad tI tL tII tLL cnt w tot rew grp fin gns rst rws last now nxt whl au al mu ml)) s.heap s.heap [] := va_S.rf
  suffices K : ∀ (H : Heap) (locs : List Loc), va_P (dC, dI) vwCl (wC ad tI tL tII tLL cnt w tot rew grp fin gns rst rws last now nxt whl au al mu ml) H → va_D (rwA (wC ad tI tL tII tLL cnt w tot rew grp fin gns rst rws last now nxt whl au al mu ml)) (wC ad tI tL tII tLL cnt w tot rew grp fin gns rst rws last now nxt whl au al mu ml) → va_S (rwA (wC ad tI tL tII tLL cnt w tot rew grp fin gns rst rws last now nxt whl au al mu ml)) s.heap H locs → W p l e (headSpec W_CS_answerOddsToMeet RM_f_CS_answerOddsToMeet).room s m ([.ref (ad 0), .int p1, .int p2, .int p3] : List Value).toArray below meth c H locs 0 0 (MQ below (rwQ (dC, dI) vwCl (wC ad tI tL tII tLL cnt w tot rew grp fin R_gns R_rst R_rws R_last now nxt whl R_au R_al mu ml) none (rwA (wC ad tI tL tII tLL cnt w tot rew grp fin gns rst rws last now nxt whl au al mu ml))) ([.ref (ad 0), .int p1, .int p2, .int p3] : List Value).toArray s 0 0 (rwA (wC ad tI tL tII tLL cnt w tot rew grp fin gns rst rws last now nxt whl au al mu ml))) (F0 m 0 ls []) from K s.heap [] hP hD hS
  clear hP hD hS
  intro H locs hP hD hS
  rw [f_CS_answerOddsToMeet] at hR
  refine lv_aload_n hx hb dX6_answerOddsToMeet_0 rfl (lv_at hl 0 rfl) ?_
  refine va_get (D := (dC, dI)) (ci := 6) (v := .ref (ad 12)) (C := RX6) (T := TX6) (N := 7) hx hb ht hinX6 hown hK hP 0 rfl rfl 1 (by decide) (ht _ k_111) (fun _ h9 => h9) rfl dX6_answerOddsToMeet_1 ?_
  refine lv_iload_n hx hb dX6_answerOddsToMeet_4 rfl (lv_at hl 2 rfl) ?_
  refine lv_iload_n hx hb dX6_answerOddsToMeet_5 rfl (lv_at hl 3 rfl) ?_
  obtain ⟨r1, hC, hR⟩ := ob hR
  try dsimp only at hR
  refine ro_calli (va_runV (As := [.int p2, .int p3]) (rest := []) ⟨hx, hb, hml, hown, ht⟩ (c_Ways_leadingTo l dC dI ad tI tL tII tLL cnt w tot rew grp fin gns rst rws last now nxt whl au al mu ml p2 p3 r1 hC.symm) ⟨callB_of 2 ht (goodG k_37) rfl rfl rfl (ht _ k_33) (ht _ k_112) (by decide +kernel) ⟨Nat.le_of_ble_eq_true rfl, Nat.le_of_ble_eq_true rfl⟩, (ht _ k_40), (ht _ k_39)⟩ (pre_v hK hN hP (q0 := 12) (ci := 5) rfl rfl) rfl rfl hl.1 rfl (lv_room (Nat.le_of_ble_eq_true rfl)) dX6_answerOddsToMeet_6 ⟨Nat.zero_le _, Nat.zero_le _⟩) ?_
  refine lv_istore (lv' := [(4, .int r1), (0, .ref (ad 0)), (1, .int p1), (2, .int p2), (3, .int p3)]) hx hb dX6_answerOddsToMeet_9 hl (by decide) rfl (fun ls hl => ?_)
  refine lv_iload_n hx hb dX6_answerOddsToMeet_11 rfl (lv_at hl 3 rfl) ?_
  refine lv_iload_n hx hb dX6_answerOddsToMeet_12 rfl (lv_at hl 2 rfl) ?_
  obtain ⟨r2, hC, hR⟩ := ob hR
  try dsimp only at hR
  refine ro_calli (va_runS (As := [.int p2, .int p1]) (rest := []) ⟨hx, hb, hml, hown, ht⟩ (c_holds l dC dI ad tI tL tII tLL  p2 p1 r2 hC.symm) ⟨callB_of 2 ht (goodG k_20) rfl rfl rfl (ht _ k_8) (ht _ k_113) (by decide +kernel) ⟨Nat.le_of_ble_eq_true rfl, Nat.le_of_ble_eq_true rfl⟩, (ht _ k_21)⟩ (pre_s hK hN (hP.sub (ws' := []) [] rfl)) rfl rfl hl.1 rfl (lv_room (Nat.le_of_ble_eq_true rfl)) dX6_answerOddsToMeet_13 ⟨Nat.zero_le _, Nat.zero_le _⟩) ?_
  refine lv_if_eq (tgt := 31) hx hb dX6_answerOddsToMeet_16 (by decide) (fun c3 => ?_) (fun c3 => ?_)
  · replace hR := it_p c3 hR
    refine lv_iload hx hb dX6_answerOddsToMeet_31 (lv_at hl 0 rfl) ?_
    refine lv_iload_n hx hb dX6_answerOddsToMeet_33 rfl (lv_at hl 2 rfl) ?_
    obtain ⟨r4, hC, hR⟩ := ob hR
    try dsimp only at hR
    refine ro_calli (va_runS (As := [.int r1, .int p1]) (rest := []) ⟨hx, hb, hml, hown, ht⟩ (c_holds l dC dI ad tI tL tII tLL  r1 p1 r4 hC.symm) ⟨callB_of 2 ht (goodG k_20) rfl rfl rfl (ht _ k_8) (ht _ k_113) (by decide +kernel) ⟨Nat.le_of_ble_eq_true rfl, Nat.le_of_ble_eq_true rfl⟩, (ht _ k_21)⟩ (pre_s hK hN (hP.sub (ws' := []) [] rfl)) rfl rfl hl.1 rfl (lv_room (Nat.le_of_ble_eq_true rfl)) dX6_answerOddsToMeet_34 ⟨Nat.zero_le _, Nat.zero_le _⟩) ?_
    refine lv_if_ne (tgt := 52) hx hb dX6_answerOddsToMeet_37 (by decide) (fun c5 => ?_) (fun c5 => ?_)
    · replace hR := it_n c5 hR
      refine lv_aload_n hx hb dX6_answerOddsToMeet_52 rfl (lv_at hl 1 rfl) ?_
      refine va_get (D := (dC, dI)) (ci := 6) (v := .ref (ad 16)) (C := RX6) (T := TX6) (N := 7) hx hb ht hinX6 hown hK hP 0 rfl rfl 3 (by decide) (ht _ k_114) (fun _ h9 => h9) rfl dX6_answerOddsToMeet_53 ?_
      refine lv_iload_n hx hb dX6_answerOddsToMeet_56 rfl (lv_at hl 3 rfl) ?_
      obtain ⟨gns_6, hC, hR⟩ := ob hR
      try dsimp only at hR
      refine rw_callv (va_runV (As := [.int p2]) (rest := []) ⟨hx, hb, hml, hown, ht⟩ (c_FirstSteps_gainByEntering l dC dI ad tI tL tII tLL cnt w tot rew grp fin gns rst rws last now nxt whl au al mu ml p2 gns_6 hC.symm) ⟨callB_of 1 ht (goodG k_115) rfl rfl rfl (ht _ k_87) (ht _ k_116) (by decide +kernel) ⟨Nat.le_of_ble_eq_true rfl, Nat.le_of_ble_eq_true rfl⟩, (ht _ k_118), (ht _ k_117)⟩ (pre_vw hK hN hP hD (q0 := 16) (ci := 1) rfl rfl) rfl rfl hl.1 rfl (lv_room (Nat.le_of_ble_eq_true rfl)) dX6_answerOddsToMeet_57 ⟨Nat.zero_le _, Nat.zero_le _⟩) hD hS rfl (fun H locs hP hD hS => ?_)
      have hP : va_P (dC, dI) vwCl (wC ad tI tL tII tLL cnt w tot rew grp fin gns_6 rst rws last now nxt whl au al mu ml) H := hP
      have hD : va_D (rwA (wC ad tI tL tII tLL cnt w tot rew grp fin gns rst rws last now nxt whl au al mu ml)) (wC ad tI tL tII tLL cnt w tot rew grp fin gns_6 rst rws last now nxt whl au al mu ml) := hD
      refine lv_aload_n hx hb dX6_answerOddsToMeet_60 rfl (lv_at hl 1 rfl) ?_
      refine va_get (D := (dC, dI)) (ci := 6) (v := .ref (ad 16)) (C := RX6) (T := TX6) (N := 7) hx hb ht hinX6 hown hK hP 0 rfl rfl 3 (by decide) (ht _ k_114) (fun _ h9 => h9) rfl dX6_answerOddsToMeet_61 ?_
      refine lv_iload_n hx hb dX6_answerOddsToMeet_64 rfl (lv_at hl 2 rfl) ?_
      refine lv_iload hx hb dX6_answerOddsToMeet_65 (lv_at hl 0 rfl) ?_
      refine lv_iload_n hx hb dX6_answerOddsToMeet_67 rfl (lv_at hl 3 rfl) ?_
      refine lv_iconst (v := (-1)) hx hb dX6_answerOddsToMeet_68 (by decide) ?_
      refine lv_ixor hx hb dX6_answerOddsToMeet_69 ?_
      refine lv_iand hx hb dX6_answerOddsToMeet_70 ?_
      refine lv_aload_n hx hb dX6_answerOddsToMeet_71 rfl (lv_at hl 1 rfl) ?_
      refine va_get (D := (dC, dI)) (ci := 6) (v := .ref (ad 31)) (C := RX6) (T := TX6) (N := 7) hx hb ht hinX6 hown hK hP 0 rfl rfl 5 (by decide) (ht _ k_119) (fun _ h9 => h9) rfl dX6_answerOddsToMeet_72 ?_
      obtain ⟨⟨rst_7, rws_8, last_9, au_10, al_11⟩, hC, hR⟩ := ob hR
      try dsimp only at hR
      refine rw_callv (va_runV (As := [.int p1, .int (r1 &&& (p2 ^^^ (-1 : Int32))), .ref (ad 31)]) (rest := []) ⟨hx, hb, hml, hown, ht⟩ (c_FirstSteps_solveA l dC dI ad tI tL tII tLL cnt w tot rew grp fin gns_6 rst rws last now nxt whl au al mu ml p1 (r1 &&& (p2 ^^^ (-1 : Int32))) rst_7 rws_8 last_9 au_10 al_11 hC.symm) ⟨callB_of 3 ht (goodG k_120) rfl rfl rfl (ht _ k_87) (ht _ k_121) (by decide +kernel) ⟨Nat.le_of_ble_eq_true rfl, Nat.le_of_ble_eq_true rfl⟩, (ht _ k_123), (ht _ k_122)⟩ (pre_vw hK hN hP hD (q0 := 16) (ci := 1) rfl rfl) rfl rfl hl.1 rfl (lv_room (Nat.le_of_ble_eq_true rfl)) dX6_answerOddsToMeet_75 ⟨Nat.zero_le _, Nat.zero_le _⟩) hD hS rfl (fun H locs hP hD hS => ?_)
      have hP : va_P (dC, dI) vwCl (wC ad tI tL tII tLL cnt w tot rew grp fin gns_6 rst_7 rws_8 last_9 now nxt whl au_10 al_11 mu ml) H := hP
      have hD : va_D (rwA (wC ad tI tL tII tLL cnt w tot rew grp fin gns rst rws last now nxt whl au al mu ml)) (wC ad tI tL tII tLL cnt w tot rew grp fin gns_6 rst_7 rws_8 last_9 now nxt whl au_10 al_11 mu ml) := hD
      cases hR
      exact W.vret hx hb hr (fun t ht _ => ⟨rfl, by rw [ht]; exact hP, hS.F ht⟩) hS.2.2 dX6_answerOddsToMeet_78
    · replace hR := it_p c5 hR
      refine lv_aload_n hx hb dX6_answerOddsToMeet_40 rfl (lv_at hl 1 rfl) ?_
      refine va_get (D := (dC, dI)) (ci := 6) (v := .ref (ad 31)) (C := RX6) (T := TX6) (N := 7) hx hb ht hinX6 hown hK hP 0 rfl rfl 5 (by decide) (ht _ k_119) (fun _ h9 => h9) rfl dX6_answerOddsToMeet_41 ?_
      refine lv_lconst (v := 0) hx hb dX6_answerOddsToMeet_44 (by decide) ?_
      refine lv_lconst (v := 1) hx hb dX6_answerOddsToMeet_45 (by decide) ?_
      obtain ⟨⟨u_12, lo_13⟩, hC, hR⟩ := ob hR
      try dsimp only at hR
      refine rw_onev (va_runV (As := [.long (0 : Int64), .long (1 : Int64)]) (rest := []) ⟨hx, hb, hml, hown, ht⟩ (c_Fraction_put l dC dI ad tI tL tII tLL (ad 31) au al (0 : Int64) (1 : Int64) u_12 lo_13 hC.symm) ⟨callB_of 2 ht (goodG k_99) rfl rfl rfl (ht _ k_100) (ht _ k_124) (by decide +kernel) ⟨Nat.le_of_ble_eq_true rfl, Nat.le_of_ble_eq_true rfl⟩, (ht _ k_103), (ht _ k_102)⟩ (pre_vw hK hN (hP.sub [31] rfl) (hD.sub [31] (by decide) rfl) (q0 := 0) (ci := 2) rfl rfl) rfl rfl hl.1 rfl (lv_room (Nat.le_of_ble_eq_true rfl)) dX6_answerOddsToMeet_46 ⟨Nat.zero_le _, Nat.zero_le _⟩) hP hD hS 31 rfl (fun H locs hP hD hS => ?_)
      have hP : va_P (dC, dI) vwCl (wC ad tI tL tII tLL cnt w tot rew grp fin gns rst rws last now nxt whl u_12 lo_13 mu ml) H := hP
      have hD : va_D (rwA (wC ad tI tL tII tLL cnt w tot rew grp fin gns rst rws last now nxt whl au al mu ml)) (wC ad tI tL tII tLL cnt w tot rew grp fin gns rst rws last now nxt whl u_12 lo_13 mu ml) := hD
      refine lv_goto (tgt := 78) hx hb dX6_answerOddsToMeet_49 (by decide) ?_
      cases hR
      exact W.vret hx hb hr (fun t ht _ => ⟨rfl, by rw [ht]; exact hP, hS.F ht⟩) hS.2.2 dX6_answerOddsToMeet_78
  · replace hR := it_n c3 hR
    refine lv_aload_n hx hb dX6_answerOddsToMeet_19 rfl (lv_at hl 1 rfl) ?_
    refine va_get (D := (dC, dI)) (ci := 6) (v := .ref (ad 31)) (C := RX6) (T := TX6) (N := 7) hx hb ht hinX6 hown hK hP 0 rfl rfl 5 (by decide) (ht _ k_119) (fun _ h9 => h9) rfl dX6_answerOddsToMeet_20 ?_
    refine lv_lconst (v := 1) hx hb dX6_answerOddsToMeet_23 (by decide) ?_
    refine lv_lconst (v := 1) hx hb dX6_answerOddsToMeet_24 (by decide) ?_
    obtain ⟨⟨u_14, lo_15⟩, hC, hR⟩ := ob hR
    try dsimp only at hR
    refine rw_onev (va_runV (As := [.long (1 : Int64), .long (1 : Int64)]) (rest := []) ⟨hx, hb, hml, hown, ht⟩ (c_Fraction_put l dC dI ad tI tL tII tLL (ad 31) au al (1 : Int64) (1 : Int64) u_14 lo_15 hC.symm) ⟨callB_of 2 ht (goodG k_99) rfl rfl rfl (ht _ k_100) (ht _ k_124) (by decide +kernel) ⟨Nat.le_of_ble_eq_true rfl, Nat.le_of_ble_eq_true rfl⟩, (ht _ k_103), (ht _ k_102)⟩ (pre_vw hK hN (hP.sub [31] rfl) (hD.sub [31] (by decide) rfl) (q0 := 0) (ci := 2) rfl rfl) rfl rfl hl.1 rfl (lv_room (Nat.le_of_ble_eq_true rfl)) dX6_answerOddsToMeet_25 ⟨Nat.zero_le _, Nat.zero_le _⟩) hP hD hS 31 rfl (fun H locs hP hD hS => ?_)
    have hP : va_P (dC, dI) vwCl (wC ad tI tL tII tLL cnt w tot rew grp fin gns rst rws last now nxt whl u_14 lo_15 mu ml) H := hP
    have hD : va_D (rwA (wC ad tI tL tII tLL cnt w tot rew grp fin gns rst rws last now nxt whl au al mu ml)) (wC ad tI tL tII tLL cnt w tot rew grp fin gns rst rws last now nxt whl u_14 lo_15 mu ml) := hD
    refine lv_goto (tgt := 78) hx hb dX6_answerOddsToMeet_28 (by decide) ?_
    cases hR
    exact W.vret hx hb hr (fun t ht _ => ⟨rfl, by rw [ht]; exact hP, hS.F ht⟩) hS.2.2 dX6_answerOddsToMeet_78
abbrev RM_f_CS_clear : Room := { frames := 3, cells := 0, slots := 0, locals := 79 }
abbrev W_CS_clear : List Cond := .code yX6_clear cX6_clear 1 none :: tblG
set_option maxHeartbeats 4000000 in
set_option maxRecDepth 100000 in
theorem c_CS_clear (l : Launch) (dC : Nat → ClassId) (dI : Nat → Nat → Nat) (ad : Nat → Nat) (tI tL tII tLL : ClassId) (cnt : Int32) (w : Nat → Nat → Int32) (tot : Nat → Int32) (rew : Nat → Int32) (grp : Nat → Int32) (fin : Nat → Int32) (gns : Nat → Int64) (rst : Nat → Int32) (rws : Nat → Nat → Int64) (last : Int32) (now : Nat → Int64) (nxt : Nat → Int64) (whl : Int64) (au : Int64) (al : Int64) (mu : Int64) (ml : Int64)  (R_cnt : Int32) (R_w : Nat → Nat → Int32) (R_tot : Nat → Int32) (R_rew : Nat → Int32) (R_au : Int64) (R_al : Int64) (hR : some (R_cnt, R_w, R_tot, R_rew, R_au, R_al) = f_CS_clear w tot rew) : Met l yX6_clear W_CS_clear RM_f_CS_clear (rwP (dC, dI) vwCl [(tI, .int), (tL, .long), (tII, .array .int), (tLL, .array .long)] (wC ad tI tL tII tLL cnt w tot rew grp fin gns rst rws last now nxt whl au al mu ml) ([.ref (ad 0)] : List Value)) (rwQ (dC, dI) vwCl (wC ad tI tL tII tLL R_cnt R_w R_tot R_rew grp fin gns rst rws last now nxt whl R_au R_al mu ml) none (rwA (wC ad tI tL tII tLL cnt w tot rew grp fin gns rst rws last now nxt whl au al mu ml))) 0 0 (rwA (wC ad tI tL tII tLL cnt w tot rew grp fin gns rst rws last now nxt whl au al mu ml)) := by
  refine Met.ofW (cc := cX6_clear) (maxL := 1) (ret := none) (by decide) rfl ?_
  intro p e s m args below meth c s₁ B hml hv
  obtain ⟨rfl, hP, hK, hN, hD⟩ := hv
  have hx := B.exec
  have hb := B.bytes
  have hr := B.returns
  have hts := atoms_spec (ws := W_CS_clear) B.pre
  have ht := fun (w : Cond) (h : w ∈ tblG) => hts w (List.mem_cons_of_mem _ h)
  have hown : s.vm.findClass RX6 = some m.cls := findClass_of_methodNamed B.named
  have hlocks := B.notSynchronized
  have hl := lv_entry ([.ref (ad 0)] : List Value) (n := 1) (Nat.le_of_ble_eq_true rfl)
  rw [lg_entry_eq]
  generalize (lg_sl ([.ref (ad 0)] : List Value) ++ List.replicate (1 - (lg_sl ([.ref (ad 0)] : List Value)).length) Slot.unset).toArray = ls at hl ⊢
  have hl : lv_has ls 1 [(0, .ref (ad 0))] := hl
  have hD := hD.own
  have hS : va_S (rwA (wC ad tI tL tII tLL cnt w tot rew grp fin gns rst rws last now nxt whl au al mu ml)) s.heap s.heap [] := va_S.rf
  suffices K : ∀ (H : Heap) (locs : List Loc), va_P (dC, dI) vwCl (wC ad tI tL tII tLL cnt w tot rew grp fin gns rst rws last now nxt whl au al mu ml) H → va_D (rwA (wC ad tI tL tII tLL cnt w tot rew grp fin gns rst rws last now nxt whl au al mu ml)) (wC ad tI tL tII tLL cnt w tot rew grp fin gns rst rws last now nxt whl au al mu ml) → va_S (rwA (wC ad tI tL tII tLL cnt w tot rew grp fin gns rst rws last now nxt whl au al mu ml)) s.heap H locs → W p l e (headSpec W_CS_clear RM_f_CS_clear).room s m ([.ref (ad 0)] : List Value).toArray below meth c H locs 0 0 (MQ below (rwQ (dC, dI) vwCl (wC ad tI tL tII tLL R_cnt R_w R_tot R_rew grp fin gns rst rws last now nxt whl R_au R_al mu ml) none (rwA (wC ad tI tL tII tLL cnt w tot rew grp fin gns rst rws last now nxt whl au al mu ml))) ([.ref (ad 0)] : List Value).toArray s 0 0 (rwA (wC ad tI tL tII tLL cnt w tot rew grp fin gns rst rws last now nxt whl au al mu ml))) (F0 m 0 ls []) from K s.heap [] hP hD hS
  clear hP hD hS
  intro H locs hP hD hS
  rw [f_CS_clear] at hR
  refine lv_aload_n hx hb dX6_clear_0 rfl (lv_at hl 0 rfl) ?_
  refine va_get (D := (dC, dI)) (ci := 6) (v := .ref (ad 1)) (C := RX6) (T := TX6) (N := 7) hx hb ht hinX6 hown hK hP 0 rfl rfl 0 (by decide) (ht _ k_125) (fun _ h9 => h9) rfl dX6_clear_1 ?_
  obtain ⟨⟨cnt_1, w_2, tot_3, rew_4⟩, hC, hR⟩ := ob hR
  try dsimp only at hR
  refine rw_callv (va_runV (As := []) (rest := []) ⟨hx, hb, hml, hown, ht⟩ (c_Chain_removeAll l dC dI ad tI tL tII tLL cnt w tot rew grp fin gns rst rws last now nxt whl au al mu ml  cnt_1 w_2 tot_3 rew_4 hC.symm) ⟨callB_of 0 ht (goodG k_126) rfl rfl rfl (ht _ k_15) (ht _ k_127) (by decide +kernel) ⟨Nat.le_of_ble_eq_true rfl, Nat.le_of_ble_eq_true rfl⟩, (ht _ k_129), (ht _ k_128)⟩ (pre_vw hK hN hP hD (q0 := 1) (ci := 0) rfl rfl) rfl rfl hl.1 rfl (lv_room (Nat.le_of_ble_eq_true rfl)) dX6_clear_4 ⟨Nat.zero_le _, Nat.zero_le _⟩) hD hS rfl (fun H locs hP hD hS => ?_)
  have hP : va_P (dC, dI) vwCl (wC ad tI tL tII tLL cnt_1 w_2 tot_3 rew_4 grp fin gns rst rws last now nxt whl au al mu ml) H := hP
  have hD : va_D (rwA (wC ad tI tL tII tLL cnt w tot rew grp fin gns rst rws last now nxt whl au al mu ml)) (wC ad tI tL tII tLL cnt_1 w_2 tot_3 rew_4 grp fin gns rst rws last now nxt whl au al mu ml) := hD
  refine lv_aload_n hx hb dX6_clear_7 rfl (lv_at hl 0 rfl) ?_
  refine va_get (D := (dC, dI)) (ci := 6) (v := .ref (ad 31)) (C := RX6) (T := TX6) (N := 7) hx hb ht hinX6 hown hK hP 0 rfl rfl 5 (by decide) (ht _ k_119) (fun _ h9 => h9) rfl dX6_clear_8 ?_
  refine lv_lconst (v := 0) hx hb dX6_clear_11 (by decide) ?_
  refine lv_lconst (v := 1) hx hb dX6_clear_12 (by decide) ?_
  obtain ⟨⟨u_5, lo_6⟩, hC, hR⟩ := ob hR
  try dsimp only at hR
  refine rw_onev (va_runV (As := [.long (0 : Int64), .long (1 : Int64)]) (rest := []) ⟨hx, hb, hml, hown, ht⟩ (c_Fraction_put l dC dI ad tI tL tII tLL (ad 31) au al (0 : Int64) (1 : Int64) u_5 lo_6 hC.symm) ⟨callB_of 2 ht (goodG k_99) rfl rfl rfl (ht _ k_100) (ht _ k_124) (by decide +kernel) ⟨Nat.le_of_ble_eq_true rfl, Nat.le_of_ble_eq_true rfl⟩, (ht _ k_103), (ht _ k_102)⟩ (pre_vw hK hN (hP.sub [31] rfl) (hD.sub [31] (by decide) rfl) (q0 := 0) (ci := 2) rfl rfl) rfl rfl hl.1 rfl (lv_room (Nat.le_of_ble_eq_true rfl)) dX6_clear_13 ⟨Nat.zero_le _, Nat.zero_le _⟩) hP hD hS 31 rfl (fun H locs hP hD hS => ?_)
  have hP : va_P (dC, dI) vwCl (wC ad tI tL tII tLL cnt_1 w_2 tot_3 rew_4 grp fin gns rst rws last now nxt whl u_5 lo_6 mu ml) H := hP
  have hD : va_D (rwA (wC ad tI tL tII tLL cnt w tot rew grp fin gns rst rws last now nxt whl au al mu ml)) (wC ad tI tL tII tLL cnt_1 w_2 tot_3 rew_4 grp fin gns rst rws last now nxt whl u_5 lo_6 mu ml) := hD
  cases hR
  exact W.vret hx hb hr (fun t ht _ => ⟨rfl, by rw [ht]; exact hP, hS.F ht⟩) hS.2.2 dX6_clear_16
abbrev RM_f_CS_state : Room := { frames := 0, cells := 0, slots := 0, locals := 0 }
abbrev W_CS_state : List Cond := .code yX6_state cX6_state 1 (some .int) :: tblG
set_option maxHeartbeats 4000000 in
set_option maxRecDepth 100000 in
theorem c_CS_state (l : Launch) (dC : Nat → ClassId) (dI : Nat → Nat → Nat) (ad : Nat → Nat) (tI tL tII tLL : ClassId) (cnt : Int32) (w : Nat → Nat → Int32) (tot : Nat → Int32) (rew : Nat → Int32) (grp : Nat → Int32) (fin : Nat → Int32) (gns : Nat → Int64) (rst : Nat → Int32) (rws : Nat → Nat → Int64) (last : Int32) (now : Nat → Int64) (nxt : Nat → Int64) (whl : Int64) (au : Int64) (al : Int64) (mu : Int64) (ml : Int64)  (R0 : Int32) (R_cnt : Int32) (hR : some (R0, R_cnt) = f_CS_state cnt) : Met l yX6_state W_CS_state RM_f_CS_state (rwP (dC, dI) vwCl [(tI, .int), (tL, .long), (tII, .array .int), (tLL, .array .long)] (wC ad tI tL tII tLL cnt w tot rew grp fin gns rst rws last now nxt whl au al mu ml) ([.ref (ad 0)] : List Value)) (rwQ (dC, dI) vwCl (wC ad tI tL tII tLL R_cnt w tot rew grp fin gns rst rws last now nxt whl au al mu ml) (some (.int R0)) (rwA (wC ad tI tL tII tLL cnt w tot rew grp fin gns rst rws last now nxt whl au al mu ml))) 0 0 (rwA (wC ad tI tL tII tLL cnt w tot rew grp fin gns rst rws last now nxt whl au al mu ml)) := by
  refine Met.ofW (cc := cX6_state) (maxL := 1) (ret := (some .int)) (by decide) rfl ?_
  intro p e s m args below meth c s₁ B hml hv
  obtain ⟨rfl, hP, hK, hN, hD⟩ := hv
  have hx := B.exec
  have hb := B.bytes
  have hr := B.returns
  have hts := atoms_spec (ws := W_CS_state) B.pre
  have ht := fun (w : Cond) (h : w ∈ tblG) => hts w (List.mem_cons_of_mem _ h)
  have hown : s.vm.findClass RX6 = some m.cls := findClass_of_methodNamed B.named
  have hlocks := B.notSynchronized
  have hl := lv_entry ([.ref (ad 0)] : List Value) (n := 1) (Nat.le_of_ble_eq_true rfl)
  rw [lg_entry_eq]
  generalize (lg_sl ([.ref (ad 0)] : List Value) ++ List.replicate (1 - (lg_sl ([.ref (ad 0)] : List Value)).length) Slot.unset).toArray = ls at hl ⊢
  have hl : lv_has ls 1 [(0, .ref (ad 0))] := hl
  have hD := hD.own
  have hS : va_S (rwA (wC ad tI tL tII tLL cnt w tot rew grp fin gns rst rws last now nxt whl au al mu ml)) s.heap s.heap [] := va_S.rf
  suffices K : ∀ (H : Heap) (locs : List Loc), va_P (dC, dI) vwCl (wC ad tI tL tII tLL cnt w tot rew grp fin gns rst rws last now nxt whl au al mu ml) H → va_D (rwA (wC ad tI tL tII tLL cnt w tot rew grp fin gns rst rws last now nxt whl au al mu ml)) (wC ad tI tL tII tLL cnt w tot rew grp fin gns rst rws last now nxt whl au al mu ml) → va_S (rwA (wC ad tI tL tII tLL cnt w tot rew grp fin gns rst rws last now nxt whl au al mu ml)) s.heap H locs → W p l e (headSpec W_CS_state RM_f_CS_state).room s m ([.ref (ad 0)] : List Value).toArray below meth c H locs 0 0 (MQ below (rwQ (dC, dI) vwCl (wC ad tI tL tII tLL R_cnt w tot rew grp fin gns rst rws last now nxt whl au al mu ml) (some (.int R0)) (rwA (wC ad tI tL tII tLL cnt w tot rew grp fin gns rst rws last now nxt whl au al mu ml))) ([.ref (ad 0)] : List Value).toArray s 0 0 (rwA (wC ad tI tL tII tLL cnt w tot rew grp fin gns rst rws last now nxt whl au al mu ml))) (F0 m 0 ls []) from K s.heap [] hP hD hS
  clear hP hD hS
  intro H locs hP hD hS
  rw [f_CS_state] at hR
  refine lv_aload_n hx hb dX6_state_0 rfl (lv_at hl 0 rfl) ?_
  refine va_get (D := (dC, dI)) (ci := 6) (v := .ref (ad 1)) (C := RX6) (T := TX6) (N := 7) hx hb ht hinX6 hown hK hP 0 rfl rfl 0 (by decide) (ht _ k_125) (fun _ h9 => h9) rfl dX6_state_1 ?_
  refine va_getN (D := (dC, dI)) (ci := 0) (v := .int cnt) (C := RX0) (T := TX0) (N := 4) hx hb ht hinX0 hown hK hP 1 rfl rfl 3 (by decide) (va_Nw.use rfl (nf_8 hN)) (fun _ h9 => h9) rfl dX6_state_4 ?_
  refine lv_bipush (v := 7) hx hb dX6_state_7 (by decide) ?_
  refine lv_icmp_lt (tgt := 15) hx hb dX6_state_9 (by decide) (fun c1 => ?_) (fun c1 => ?_)
  · replace hR := it_p c1 hR
    refine lv_aload_n hx hb dX6_state_15 rfl (lv_at hl 0 rfl) ?_
    refine va_get (D := (dC, dI)) (ci := 6) (v := .ref (ad 1)) (C := RX6) (T := TX6) (N := 7) hx hb ht hinX6 hown hK hP 0 rfl rfl 0 (by decide) (ht _ k_125) (fun _ h9 => h9) rfl dX6_state_16 ?_
    refine lv_dup hx hb dX6_state_19 rfl ?_
    refine va_getN (D := (dC, dI)) (ci := 0) (v := .int cnt) (C := RX0) (T := TX0) (N := 4) hx hb ht hinX0 hown hK hP 1 rfl rfl 3 (by decide) (va_Nw.use rfl (nf_8 hN)) (fun _ h9 => h9) rfl dX6_state_20 ?_
    refine lv_iconst (v := 1) hx hb dX6_state_23 (by decide) ?_
    refine lv_iadd hx hb dX6_state_24 ?_
    refine va_putN (D := (dC, dI)) (ci := 0) (v := .int (cnt + (1 : Int32))) (ty := .int) (C := RX0) (T := TX0) (N := 4) hx hb ht hinX0 tyX0 tyX0_ok nmX0 hown hK hP hD hS 1 rfl rfl 3 (by decide) (va_Nw.use rfl (nf_8 hN)) (fun _ h9 => h9) rfl (by decide +kernel) rfl rfl (Nat.le_of_ble_eq_true rfl) dX6_state_25 (fun H locs hP hD hS => ?_)
    have hP : va_P (dC, dI) vwCl (wC ad tI tL tII tLL (cnt + (1 : Int32)) w tot rew grp fin gns rst rws last now nxt whl au al mu ml) H := hP
    have hD : va_D (rwA (wC ad tI tL tII tLL cnt w tot rew grp fin gns rst rws last now nxt whl au al mu ml)) (wC ad tI tL tII tLL (cnt + (1 : Int32)) w tot rew grp fin gns rst rws last now nxt whl au al mu ml) := hD
    refine lv_aload_n hx hb dX6_state_28 rfl (lv_at hl 0 rfl) ?_
    refine va_get (D := (dC, dI)) (ci := 6) (v := .ref (ad 1)) (C := RX6) (T := TX6) (N := 7) hx hb ht hinX6 hown hK hP 0 rfl rfl 0 (by decide) (ht _ k_125) (fun _ h9 => h9) rfl dX6_state_29 ?_
    refine va_getN (D := (dC, dI)) (ci := 0) (v := .int (cnt + (1 : Int32))) (C := RX0) (T := TX0) (N := 4) hx hb ht hinX0 hown hK hP 1 rfl rfl 3 (by decide) (va_Nw.use rfl (nf_8 hN)) (fun _ h9 => h9) rfl dX6_state_32 ?_
    refine lv_iconst (v := 1) hx hb dX6_state_35 (by decide) ?_
    refine lv_isub hx hb dX6_state_36 ?_
    cases hR
    exact W.iret hx hb hr (fun t ht _ => ⟨rfl, by rw [ht]; exact hP, hS.F ht⟩) hS.2.2 dX6_state_37
  · replace hR := it_n c1 hR
    refine lv_bipush (v := (-4)) hx hb dX6_state_12 (by decide) ?_
    cases hR
    exact W.iret hx hb hr (fun t ht _ => ⟨rfl, by rw [ht]; exact hP, hS.F ht⟩) hS.2.2 dX6_state_14
