abbrev RM_f_Chain_removeAll : Room := { frames := 0, cells := 0, slots := 0, locals := 0 }
abbrev W_Chain_removeAll : List Cond := .code yX0_removeAll cX0_removeAll 3 none :: tblG
set_option maxHeartbeats 4000000 in
set_option maxRecDepth 100000 in
theorem c_Chain_removeAll (l : Launch) (dC : Nat → ClassId) (dI : Nat → Nat → Nat) (ad : Nat → Nat) (tI tL tII tLL : ClassId) (cnt : Int32) (w : Nat → Nat → Int32) (tot : Nat → Int32) (rew : Nat → Int32) (grp : Nat → Int32) (fin : Nat → Int32) (gns : Nat → Int64) (rst : Nat → Int32) (rws : Nat → Nat → Int64) (last : Int32) (now : Nat → Int64) (nxt : Nat → Int64) (whl : Int64) (au : Int64) (al : Int64) (mu : Int64) (ml : Int64)  (R_cnt : Int32) (R_w : Nat → Nat → Int32) (R_tot : Nat → Int32) (R_rew : Nat → Int32) (hR : some (R_cnt, R_w, R_tot, R_rew) = f_Chain_removeAll w tot rew) : Met l yX0_removeAll W_Chain_removeAll RM_f_Chain_removeAll (rwP (dC, dI) vwCl [(tI, .int), (tL, .long), (tII, .array .int), (tLL, .array .long)] (wC ad tI tL tII tLL cnt w tot rew grp fin gns rst rws last now nxt whl au al mu ml) ([.ref (ad 1)] : List Value)) (rwQ (dC, dI) vwCl (wC ad tI tL tII tLL R_cnt R_w R_tot R_rew grp fin gns rst rws last now nxt whl au al mu ml) none (rwA (wC ad tI tL tII tLL cnt w tot rew grp fin gns rst rws last now nxt whl au al mu ml))) 0 0 (rwA (wC ad tI tL tII tLL cnt w tot rew grp fin gns rst rws last now nxt whl au al mu ml)) := by
  refine Met.ofW (cc := cX0_removeAll) (maxL := 3) (ret := none) (by decide) rfl ?_
  intro p e s m args below meth c s₁ B hml hv
  obtain ⟨rfl, hP, hK, hN, hD⟩ := hv
  have hx := B.exec
  have hb := B.bytes
  have hr := B.returns
  have hts := atoms_spec (ws := W_Chain_removeAll) B.pre
  have ht := fun (w : Cond) (h : w ∈ tblG) => hts w (List.mem_cons_of_mem _ h)
  have hown : s.vm.findClass RX0 = some m.cls := findClass_of_methodNamed B.named
  have hlocks := B.notSynchronized
  have hl := lv_entry ([.ref (ad 1)] : List Value) (n := 3) (Nat.le_of_ble_eq_true rfl)
  rw [lg_entry_eq]
  generalize (lg_sl ([.ref (ad 1)] : List Value) ++ List.replicate (3 - (lg_sl ([.ref (ad 1)] : List Value)).length) Slot.unset).toArray = ls at hl ⊢
  have hl : lv_has ls 3 [(0, .ref (ad 1))] := hl
  have hD := hD.own
  have hS : va_S (rwA (wC ad tI tL tII tLL cnt w tot rew grp fin gns rst rws last now nxt whl au al mu ml)) s.heap s.heap [] := va_S.rf
  suffices K : ∀ (H : Heap) (locs : List Loc), va_P (dC, dI) vwCl (wC ad tI tL tII tLL cnt w tot rew grp fin gns rst rws last now nxt whl au al mu ml) H → va_D (rwA (wC ad tI tL tII tLL cnt w tot rew grp fin gns rst rws last now nxt whl au al mu ml)) (wC ad tI tL tII tLL cnt w tot rew grp fin gns rst rws last now nxt whl au al mu ml) → va_S (rwA (wC ad tI tL tII tLL cnt w tot rew grp fin gns rst rws last now nxt whl au al mu ml)) s.heap H locs → W p l e (headSpec W_Chain_removeAll RM_f_Chain_removeAll).room s m ([.ref (ad 1)] : List Value).toArray below meth c H locs 0 0 (MQ below (rwQ (dC, dI) vwCl (wC ad tI tL tII tLL R_cnt R_w R_tot R_rew grp fin gns rst rws last now nxt whl au al mu ml) none (rwA (wC ad tI tL tII tLL cnt w tot rew grp fin gns rst rws last now nxt whl au al mu ml))) ([.ref (ad 1)] : List Value).toArray s 0 0 (rwA (wC ad tI tL tII tLL cnt w tot rew grp fin gns rst rws last now nxt whl au al mu ml))) (F0 m 0 ls []) from K s.heap [] hP hD hS
  clear hP hD hS
  intro H locs hP hD hS
  rw [f_Chain_removeAll] at hR
  refine lv_iconst (v := 0) hx hb dX0_removeAll_0 (by decide) ?_
  refine lv_istore_n (lv' := [(1, .int (0 : Int32)), (0, .ref (ad 1))]) hx hb dX0_removeAll_1 rfl hl (by decide) rfl (fun ls hl => ?_)
  have L2_16 : ∀ (n : Nat) (x1_1 : Int32) (w_2 : Nat → Nat → Int32) (tot_3 : Nat → Int32) (rew_4 : Nat → Int32), ∀ (o_x1_1 : Int32) (o_w_2 : Nat → Nat → Int32) (o_tot_3 : Nat → Int32) (o_rew_4 : Nat → Int32), some (o_x1_1, o_w_2, o_tot_3, o_rew_4) = f_Chain_removeAll_L2 n x1_1 w_2 tot_3 rew_4 → (∀ (H : Heap) (locs : List Loc), va_P (dC, dI) vwCl (wC ad tI tL tII tLL cnt o_w_2 o_tot_3 o_rew_4 grp fin gns rst rws last now nxt whl au al mu ml) H → va_D (rwA (wC ad tI tL tII tLL cnt w tot rew grp fin gns rst rws last now nxt whl au al mu ml)) (wC ad tI tL tII tLL cnt o_w_2 o_tot_3 o_rew_4 grp fin gns rst rws last now nxt whl au al mu ml) → va_S (rwA (wC ad tI tL tII tLL cnt w tot rew grp fin gns rst rws last now nxt whl au al mu ml)) s.heap H locs → ∀ ls : Array Slot, lv_has ls 3 [(0, .ref (ad 1)), (1, .int o_x1_1)] → W p l e (headSpec W_Chain_removeAll RM_f_Chain_removeAll).room s m ([.ref (ad 1)] : List Value).toArray below meth c H locs 0 0 (MQ below (rwQ (dC, dI) vwCl (wC ad tI tL tII tLL R_cnt R_w R_tot R_rew grp fin gns rst rws last now nxt whl au al mu ml) none (rwA (wC ad tI tL tII tLL cnt w tot rew grp fin gns rst rws last now nxt whl au al mu ml))) ([.ref (ad 1)] : List Value).toArray s 0 0 (rwA (wC ad tI tL tII tLL cnt w tot rew grp fin gns rst rws last now nxt whl au al mu ml))) (F0 m 51 ls [])) → ∀ (H : Heap) (locs : List Loc), va_P (dC, dI) vwCl (wC ad tI tL tII tLL cnt w_2 tot_3 rew_4 grp fin gns rst rws last now nxt whl au al mu ml) H → va_D (rwA (wC ad tI tL tII tLL cnt w tot rew grp fin gns rst rws last now nxt whl au al mu ml)) (wC ad tI tL tII tLL cnt w_2 tot_3 rew_4 grp fin gns rst rws last now nxt whl au al mu ml) → va_S (rwA (wC ad tI tL tII tLL cnt w tot rew grp fin gns rst rws last now nxt whl au al mu ml)) s.heap H locs → ∀ ls : Array Slot, lv_has ls 3 [(0, .ref (ad 1)), (1, .int x1_1)] → W p l e (headSpec W_Chain_removeAll RM_f_Chain_removeAll).room s m ([.ref (ad 1)] : List Value).toArray below meth c H locs 0 0 (MQ below (rwQ (dC, dI) vwCl (wC ad tI tL tII tLL R_cnt R_w R_tot R_rew grp fin gns rst rws last now nxt whl au al mu ml) none (rwA (wC ad tI tL tII tLL cnt w tot rew grp fin gns rst rws last now nxt whl au al mu ml))) ([.ref (ad 1)] : List Value).toArray s 0 0 (rwA (wC ad tI tL tII tLL cnt w tot rew grp fin gns rst rws last now nxt whl au al mu ml))) (F0 m 2 ls []) := by
    intro n
    induction n with
    | zero =>
      intro x1_1 w_2 tot_3 rew_4 o_x1_1 o_w_2 o_tot_3 o_rew_4 hR
      cases (show some _ = none from hR)
    | succ n ih =>
      intro x1_1 w_2 tot_3 rew_4 o_x1_1 o_w_2 o_tot_3 o_rew_4 hR hk H locs hP hD hS ls hl
      rw [f_Chain_removeAll_L2_s] at hR
      obtain ⟨y, hR, hQ⟩ := ob hR
      replace hR := hR.symm
      rw [f_Chain_removeAll_B2] at hR
      refine lv_iload_n hx hb dX0_removeAll_2 rfl (lv_at hl 1 rfl) ?_
      refine lv_bipush (v := 7) hx hb dX0_removeAll_3 (by decide) ?_
      refine lv_icmp_ge (tgt := 51) hx hb dX0_removeAll_5 (by decide) (fun c5 => ?_) (fun c5 => ?_)
      · replace hR := it_p c5 hR
        cases hR
        cases (show some _ = some _ from hQ)
        exact hk H locs hP hD hS ls (lv_sub hl [0, 1] rfl)
      · replace hR := it_n c5 hR
        refine lv_iconst (v := 0) hx hb dX0_removeAll_8 (by decide) ?_
        refine lv_istore_n (lv' := [(2, .int (0 : Int32)), (0, .ref (ad 1)), (1, .int x1_1)]) hx hb dX0_removeAll_9 rfl hl (by decide) rfl (fun ls hl => ?_)
        have L10_11 : ∀ (n : Nat) (x2_6 : Int32) (w_7 : Nat → Nat → Int32), ∀ (o_x2_6 : Int32) (o_w_7 : Nat → Nat → Int32), some (o_x2_6, o_w_7) = f_Chain_removeAll_L10 x1_1 n x2_6 w_7 → (∀ (H : Heap) (locs : List Loc), va_P (dC, dI) vwCl (wC ad tI tL tII tLL cnt o_w_7 tot_3 rew_4 grp fin gns rst rws last now nxt whl au al mu ml) H → va_D (rwA (wC ad tI tL tII tLL cnt w tot rew grp fin gns rst rws last now nxt whl au al mu ml)) (wC ad tI tL tII tLL cnt o_w_7 tot_3 rew_4 grp fin gns rst rws last now nxt whl au al mu ml) → va_S (rwA (wC ad tI tL tII tLL cnt w tot rew grp fin gns rst rws last now nxt whl au al mu ml)) s.heap H locs → ∀ ls : Array Slot, lv_has ls 3 [(0, .ref (ad 1)), (1, .int x1_1), (2, .int o_x2_6)] → W p l e (headSpec W_Chain_removeAll RM_f_Chain_removeAll).room s m ([.ref (ad 1)] : List Value).toArray below meth c H locs 0 0 (MQ below (rwQ (dC, dI) vwCl (wC ad tI tL tII tLL R_cnt R_w R_tot R_rew grp fin gns rst rws last now nxt whl au al mu ml) none (rwA (wC ad tI tL tII tLL cnt w tot rew grp fin gns rst rws last now nxt whl au al mu ml))) ([.ref (ad 1)] : List Value).toArray s 0 0 (rwA (wC ad tI tL tII tLL cnt w tot rew grp fin gns rst rws last now nxt whl au al mu ml))) (F0 m 31 ls [])) → ∀ (H : Heap) (locs : List Loc), va_P (dC, dI) vwCl (wC ad tI tL tII tLL cnt w_7 tot_3 rew_4 grp fin gns rst rws last now nxt whl au al mu ml) H → va_D (rwA (wC ad tI tL tII tLL cnt w tot rew grp fin gns rst rws last now nxt whl au al mu ml)) (wC ad tI tL tII tLL cnt w_7 tot_3 rew_4 grp fin gns rst rws last now nxt whl au al mu ml) → va_S (rwA (wC ad tI tL tII tLL cnt w tot rew grp fin gns rst rws last now nxt whl au al mu ml)) s.heap H locs → ∀ ls : Array Slot, lv_has ls 3 [(0, .ref (ad 1)), (1, .int x1_1), (2, .int x2_6)] → W p l e (headSpec W_Chain_removeAll RM_f_Chain_removeAll).room s m ([.ref (ad 1)] : List Value).toArray below meth c H locs 0 0 (MQ below (rwQ (dC, dI) vwCl (wC ad tI tL tII tLL R_cnt R_w R_tot R_rew grp fin gns rst rws last now nxt whl au al mu ml) none (rwA (wC ad tI tL tII tLL cnt w tot rew grp fin gns rst rws last now nxt whl au al mu ml))) ([.ref (ad 1)] : List Value).toArray s 0 0 (rwA (wC ad tI tL tII tLL cnt w tot rew grp fin gns rst rws last now nxt whl au al mu ml))) (F0 m 10 ls []) := by
          intro n
          induction n with
          | zero =>
            intro x2_6 w_7 o_x2_6 o_w_7 hR
            cases (show some _ = none from hR)
          | succ n ih =>
            intro x2_6 w_7 o_x2_6 o_w_7 hR hk H locs hP hD hS ls hl
            rw [f_Chain_removeAll_L10_s] at hR
            obtain ⟨y, hR, hQ⟩ := ob hR
            replace hR := hR.symm
            rw [f_Chain_removeAll_B10] at hR
            refine lv_iload_n hx hb dX0_removeAll_10 rfl (lv_at hl 2 rfl) ?_
            refine lv_bipush (v := 7) hx hb dX0_removeAll_11 (by decide) ?_
            refine lv_icmp_ge (tgt := 31) hx hb dX0_removeAll_13 (by decide) (fun c8 => ?_) (fun c8 => ?_)
            · replace hR := it_p c8 hR
              cases hR
              cases (show some _ = some _ from hQ)
              exact hk H locs hP hD hS ls (lv_sub hl [0, 1, 2] rfl)
            · replace hR := it_n c8 hR
              refine lv_aload_n hx hb dX0_removeAll_16 rfl (lv_at hl 0 rfl) ?_
              refine va_get (D := (dC, dI)) (ci := 0) (v := .ref (ad 2)) (C := RX0) (T := TX0) (N := 4) hx hb ht hinX0 hown hK hP 1 rfl rfl 0 (by decide) (ht _ k_19) (fun _ h9 => h9) rfl dX0_removeAll_17 ?_
              refine lv_iload_n hx hb dX0_removeAll_20 rfl (lv_at hl 1 rfl) ?_
              obtain ⟨z9, hR⟩ := og hR
              refine va_aldA hx hb hK hP 2 2 rfl rfl rfl (ix_in z9) dX0_removeAll_21 ?_
              refine lv_iload_n hx hb dX0_removeAll_22 rfl (lv_at hl 2 rfl) ?_
              refine lv_iconst (v := 0) hx hb dX0_removeAll_23 (by decide) ?_
              obtain ⟨z10, hR⟩ := og hR
              refine va_iast hx hb hK hP hD hS (2 + 1 + x1_1.toNatClampNeg) 0 (wC_row_we (ix_lt z9)) rfl (ix_in z10) dX0_removeAll_24 (fun H locs hP hD hS => ?_)
              rw [wC_set_we (ix_lt z9)] at hP hD
              have hP : va_P (dC, dI) vwCl (wC ad tI tL tII tLL cnt (va_up w_7 x1_1.toNatClampNeg (upd (w_7 x1_1.toNatClampNeg) x2_6.toNatClampNeg (0 : Int32))) tot_3 rew_4 grp fin gns rst rws last now nxt whl au al mu ml) H := hP
              have hD : va_D (rwA (wC ad tI tL tII tLL cnt w tot rew grp fin gns rst rws last now nxt whl au al mu ml)) (wC ad tI tL tII tLL cnt (va_up w_7 x1_1.toNatClampNeg (upd (w_7 x1_1.toNatClampNeg) x2_6.toNatClampNeg (0 : Int32))) tot_3 rew_4 grp fin gns rst rws last now nxt whl au al mu ml) := hD
              refine lv_iinc (v := (x2_6 + 1)) (lv' := [(2, .int (x2_6 + 1)), (0, .ref (ad 1)), (1, .int x1_1)]) hx hb dX0_removeAll_25 hl (k := 2) rfl rfl (by decide) rfl (fun ls hl => ?_)
              refine lv_goto (tgt := 10) hx hb dX0_removeAll_28 (by decide) ?_
              cases hR
              exact ih (x2_6 + 1) (va_up w_7 x1_1.toNatClampNeg (upd (w_7 x1_1.toNatClampNeg) x2_6.toNatClampNeg (0 : Int32))) o_x2_6 o_w_7 hQ hk H locs hP hD hS ls (lv_sub hl [1, 2, 0] rfl)
        obtain ⟨⟨u12, u13⟩, hL, hR⟩ := ob hR
        try dsimp only at hR
        refine L10_11 300 (0 : Int32) w_2 u12 u13 hL.symm (fun H locs hP hD hS ls hl => ?_) H locs hP hD hS ls (lv_sub hl [1, 2, 0] rfl)
        refine lv_aload_n hx hb dX0_removeAll_31 rfl (lv_at hl 0 rfl) ?_
        refine va_get (D := (dC, dI)) (ci := 0) (v := .ref (ad 10)) (C := RX0) (T := TX0) (N := 4) hx hb ht hinX0 hown hK hP 1 rfl rfl 1 (by decide) (ht _ k_13) (fun _ h9 => h9) rfl dX0_removeAll_32 ?_
        refine lv_iload_n hx hb dX0_removeAll_35 rfl (lv_at hl 1 rfl) ?_
        refine lv_iconst (v := 0) hx hb dX0_removeAll_36 (by decide) ?_
        obtain ⟨z14, hR⟩ := og hR
        refine va_iast hx hb hK hP hD hS 10 0 rfl rfl (ix_in z14) dX0_removeAll_37 (fun H locs hP hD hS => ?_)
        have hP : va_P (dC, dI) vwCl (wC ad tI tL tII tLL cnt u13 (upd tot_3 x1_1.toNatClampNeg (0 : Int32)) rew_4 grp fin gns rst rws last now nxt whl au al mu ml) H := hP
        have hD : va_D (rwA (wC ad tI tL tII tLL cnt w tot rew grp fin gns rst rws last now nxt whl au al mu ml)) (wC ad tI tL tII tLL cnt u13 (upd tot_3 x1_1.toNatClampNeg (0 : Int32)) rew_4 grp fin gns rst rws last now nxt whl au al mu ml) := hD
        refine lv_aload_n hx hb dX0_removeAll_38 rfl (lv_at hl 0 rfl) ?_
        refine va_get (D := (dC, dI)) (ci := 0) (v := .ref (ad 11)) (C := RX0) (T := TX0) (N := 4) hx hb ht hinX0 hown hK hP 1 rfl rfl 2 (by decide) (ht _ k_26) (fun _ h9 => h9) rfl dX0_removeAll_39 ?_
        refine lv_iload_n hx hb dX0_removeAll_42 rfl (lv_at hl 1 rfl) ?_
        refine lv_iconst (v := 0) hx hb dX0_removeAll_43 (by decide) ?_
        obtain ⟨z15, hR⟩ := og hR
        refine va_iast hx hb hK hP hD hS 11 0 rfl rfl (ix_in z15) dX0_removeAll_44 (fun H locs hP hD hS => ?_)
        have hP : va_P (dC, dI) vwCl (wC ad tI tL tII tLL cnt u13 (upd tot_3 x1_1.toNatClampNeg (0 : Int32)) (upd rew_4 x1_1.toNatClampNeg (0 : Int32)) grp fin gns rst rws last now nxt whl au al mu ml) H := hP
        have hD : va_D (rwA (wC ad tI tL tII tLL cnt w tot rew grp fin gns rst rws last now nxt whl au al mu ml)) (wC ad tI tL tII tLL cnt u13 (upd tot_3 x1_1.toNatClampNeg (0 : Int32)) (upd rew_4 x1_1.toNatClampNeg (0 : Int32)) grp fin gns rst rws last now nxt whl au al mu ml) := hD
        refine lv_iinc (v := (x1_1 + 1)) (lv' := [(1, .int (x1_1 + 1)), (0, .ref (ad 1)), (2, .int u12)]) hx hb dX0_removeAll_45 hl (k := 1) rfl rfl (by decide) rfl (fun ls hl => ?_)
        refine lv_goto (tgt := 2) hx hb dX0_removeAll_48 (by decide) ?_
        cases hR
        exact ih (x1_1 + 1) u13 (upd tot_3 x1_1.toNatClampNeg (0 : Int32)) (upd rew_4 x1_1.toNatClampNeg (0 : Int32)) o_x1_1 o_w_2 o_tot_3 o_rew_4 hQ hk H locs hP hD hS ls (lv_sub hl [1, 0] rfl)
  obtain ⟨⟨u17, u18, u19, u20⟩, hL, hR⟩ := ob hR
  try dsimp only at hR
  refine L2_16 300 (0 : Int32) w tot rew u17 u18 u19 u20 hL.symm (fun H locs hP hD hS ls hl => ?_) H locs hP hD hS ls (lv_sub hl [1, 0] rfl)
  refine lv_aload_n hx hb dX0_removeAll_51 rfl (lv_at hl 0 rfl) ?_
  refine lv_iconst (v := 0) hx hb dX0_removeAll_52 (by decide) ?_
  refine va_put (D := (dC, dI)) (ci := 0) (v := .int (0 : Int32)) (ty := .int) (C := RX0) (T := TX0) (N := 4) hx hb ht hinX0 tyX0 tyX0_ok nmX0 hown hK hP hD hS 1 rfl rfl 3 (by decide) (ht _ k_12) (fun _ h9 => h9) rfl (by decide +kernel) rfl rfl (Nat.le_of_ble_eq_true rfl) dX0_removeAll_53 (fun H locs hP hD hS => ?_)
  have hP : va_P (dC, dI) vwCl (wC ad tI tL tII tLL (0 : Int32) u18 u19 u20 grp fin gns rst rws last now nxt whl au al mu ml) H := hP
  have hD : va_D (rwA (wC ad tI tL tII tLL cnt w tot rew grp fin gns rst rws last now nxt whl au al mu ml)) (wC ad tI tL tII tLL (0 : Int32) u18 u19 u20 grp fin gns rst rws last now nxt whl au al mu ml) := hD
  cases hR
  exact W.vret hx hb hr (fun t ht _ => ⟨rfl, by rw [ht]; exact hP, hS.F ht⟩) hS.2.2 dX0_removeAll_56
abbrev RM_f_Ways_metFrom : Room := { frames := 3, cells := 0, slots := 0, locals := 66 }
abbrev W_Ways_metFrom : List Cond := .code yX5_metFrom cX5_metFrom 6 (some .int) :: tblG
set_option maxHeartbeats 4000000 in
set_option maxRecDepth 100000 in
theorem c_Ways_metFrom (l : Launch) (dC : Nat → ClassId) (dI : Nat → Nat → Nat) (ad : Nat → Nat) (tI tL tII tLL : ClassId) (cnt : Int32) (w : Nat → Nat → Int32) (tot : Nat → Int32) (rew : Nat → Int32) (grp : Nat → Int32) (fin : Nat → Int32) (gns : Nat → Int64) (rst : Nat → Int32) (rws : Nat → Nat → Int64) (last : Int32) (now : Nat → Int64) (nxt : Nat → Int64) (whl : Int64) (au : Int64) (al : Int64) (mu : Int64) (ml : Int64) (p1 : Int32) (p2 : Int32) (R0 : Int32) (hR : some R0 = f_Ways_metFrom cnt w tot p1 p2) : Met l yX5_metFrom W_Ways_metFrom RM_f_Ways_metFrom (roP (dC, dI) vwCl [(tI, .int), (tL, .long), (tII, .array .int), (tLL, .array .long)] (wC ad tI tL tII tLL cnt w tot rew grp fin gns rst rws last now nxt whl au al mu ml) ([.ref (ad 12), .int p1, .int p2] : List Value)) (roQ (some (.int R0))) 0 0 (fun _ => False) := by
  refine Met.ofW (cc := cX5_metFrom) (maxL := 6) (ret := (some .int)) (by decide) rfl ?_
  intro p e s m args below meth c s₁ B hml hv
  obtain ⟨rfl, hP, hK, hN⟩ := hv
  have hx := B.exec
  have hb := B.bytes
  have hr := B.returns
  have hts := atoms_spec (ws := W_Ways_metFrom) B.pre
  have ht := fun (w : Cond) (h : w ∈ tblG) => hts w (List.mem_cons_of_mem _ h)
  have hown : s.vm.findClass RX5 = some m.cls := findClass_of_methodNamed B.named
  have hlocks := B.notSynchronized
  have hl := lv_entry ([.ref (ad 12), .int p1, .int p2] : List Value) (n := 6) (Nat.le_of_ble_eq_true rfl)
  rw [lg_entry_eq]
  generalize (lg_sl ([.ref (ad 12), .int p1, .int p2] : List Value) ++ List.replicate (6 - (lg_sl ([.ref (ad 12), .int p1, .int p2] : List Value)).length) Slot.unset).toArray = ls at hl ⊢
  have hl : lv_has ls 6 [(0, .ref (ad 12)), (1, .int p1), (2, .int p2)] := hl
  rw [f_Ways_metFrom] at hR
  refine lv_iconst (v := 1) hx hb dX5_metFrom_0 (by decide) ?_
  refine lv_iload_n hx hb dX5_metFrom_1 rfl (lv_at hl 1 rfl) ?_
  refine lv_ishl hx hb dX5_metFrom_2 ?_
  refine lv_istore_n (lv' := [(3, .int ((1 : Int32) <<< (p1 &&& 31))), (0, .ref (ad 12)), (1, .int p1), (2, .int p2)]) hx hb dX5_metFrom_3 rfl hl (by decide) rfl (fun ls hl => ?_)
  refine lv_iconst (v := 0) hx hb dX5_metFrom_4 (by decide) ?_
  refine lv_istore (lv' := [(4, .int (0 : Int32)), (3, .int ((1 : Int32) <<< (p1 &&& 31))), (0, .ref (ad 12)), (1, .int p1), (2, .int p2)]) hx hb dX5_metFrom_5 hl (by decide) rfl (fun ls hl => ?_)
  have L7_13 : ∀ (n : Nat) (x3_1 : Int32) (x4_2 : Int32), ∀ (o_x3_1 : Int32) (o_x4_2 : Int32), some (o_x3_1, o_x4_2) = f_Ways_metFrom_L7 cnt w tot p2 n x3_1 x4_2 → (∀ ls : Array Slot, lv_has ls 6 [(0, .ref (ad 12)), (2, .int p2), (3, .int o_x3_1), (4, .int o_x4_2)] → W p l e (headSpec W_Ways_metFrom RM_f_Ways_metFrom).room s m ([.ref (ad 12), .int p1, .int p2] : List Value).toArray below meth c s.heap [] 0 0 (MQ below (roQ (some (.int R0))) ([.ref (ad 12), .int p1, .int p2] : List Value).toArray s 0 0 (fun _ => False)) (F0 m 71 ls [])) → ∀ ls : Array Slot, lv_has ls 6 [(0, .ref (ad 12)), (2, .int p2), (3, .int x3_1), (4, .int x4_2)] → W p l e (headSpec W_Ways_metFrom RM_f_Ways_metFrom).room s m ([.ref (ad 12), .int p1, .int p2] : List Value).toArray below meth c s.heap [] 0 0 (MQ below (roQ (some (.int R0))) ([.ref (ad 12), .int p1, .int p2] : List Value).toArray s 0 0 (fun _ => False)) (F0 m 7 ls []) := by
    intro n
    induction n with
    | zero =>
      intro x3_1 x4_2 o_x3_1 o_x4_2 hR
      cases (show some _ = none from hR)
    | succ n ih =>
      intro x3_1 x4_2 o_x3_1 o_x4_2 hR hk ls hl
      rw [f_Ways_metFrom_L7_s] at hR
      obtain ⟨y, hR, hQ⟩ := ob hR
      replace hR := hR.symm
      rw [f_Ways_metFrom_B7] at hR
      refine lv_iload hx hb dX5_metFrom_7 (lv_at hl 3 rfl) ?_
      refine lv_aload_n hx hb dX5_metFrom_9 rfl (lv_at hl 0 rfl) ?_
      refine va_get (D := (dC, dI)) (ci := 5) (v := .ref (ad 1)) (C := RX5) (T := TX5) (N := 1) hx hb ht hinX5 hown hK hP 12 rfl rfl 0 (by decide) (ht _ k_27) (fun _ h9 => h9) rfl dX5_metFrom_10 ?_
      refine va_getN (D := (dC, dI)) (ci := 0) (v := .int cnt) (C := RX0) (T := TX0) (N := 4) hx hb ht hinX0 hown hK hP 1 rfl rfl 3 (by decide) (va_Nw.use rfl (nf_7 hN)) (fun _ h9 => h9) rfl dX5_metFrom_13 ?_
      refine lv_icmp_ge (tgt := 71) hx hb dX5_metFrom_16 (by decide) (fun c3 => ?_) (fun c3 => ?_)
      · replace hR := it_p c3 hR
        cases hR
        cases (show some _ = some _ from hQ)
        exact hk ls (lv_sub hl [0, 1, 2, 3] rfl)
      · replace hR := it_n c3 hR
        refine lv_iconst (v := 0) hx hb dX5_metFrom_19 (by decide) ?_
        refine lv_istore (lv' := [(5, .int (0 : Int32)), (0, .ref (ad 12)), (2, .int p2), (3, .int x3_1), (4, .int x4_2)]) hx hb dX5_metFrom_20 hl (by decide) rfl (fun ls hl => ?_)
        have L22_10 : ∀ (n : Nat) (x3_4 : Int32) (x5_5 : Int32), ∀ (o_x3_4 : Int32) (o_x5_5 : Int32), some (o_x3_4, o_x5_5) = f_Ways_metFrom_L22 cnt w tot p2 n x3_4 x5_5 → (∀ ls : Array Slot, lv_has ls 6 [(0, .ref (ad 12)), (2, .int p2), (3, .int o_x3_4), (4, .int x4_2), (5, .int o_x5_5)] → W p l e (headSpec W_Ways_metFrom RM_f_Ways_metFrom).room s m ([.ref (ad 12), .int p1, .int p2] : List Value).toArray below meth c s.heap [] 0 0 (MQ below (roQ (some (.int R0))) ([.ref (ad 12), .int p1, .int p2] : List Value).toArray s 0 0 (fun _ => False)) (F0 m 65 ls [])) → ∀ ls : Array Slot, lv_has ls 6 [(0, .ref (ad 12)), (2, .int p2), (3, .int x3_4), (4, .int x4_2), (5, .int x5_5)] → W p l e (headSpec W_Ways_metFrom RM_f_Ways_metFrom).room s m ([.ref (ad 12), .int p1, .int p2] : List Value).toArray below meth c s.heap [] 0 0 (MQ below (roQ (some (.int R0))) ([.ref (ad 12), .int p1, .int p2] : List Value).toArray s 0 0 (fun _ => False)) (F0 m 22 ls []) := by
          intro n
          induction n with
          | zero =>
            intro x3_4 x5_5 o_x3_4 o_x5_5 hR
            cases (show some _ = none from hR)
          | succ n ih =>
            intro x3_4 x5_5 o_x3_4 o_x5_5 hR hk ls hl
            rw [f_Ways_metFrom_L22_s] at hR
            obtain ⟨y, hR, hQ⟩ := ob hR
            replace hR := hR.symm
            rw [f_Ways_metFrom_B22] at hR
            refine lv_iload hx hb dX5_metFrom_22 (lv_at hl 4 rfl) ?_
            refine lv_aload_n hx hb dX5_metFrom_24 rfl (lv_at hl 0 rfl) ?_
            refine va_get (D := (dC, dI)) (ci := 5) (v := .ref (ad 1)) (C := RX5) (T := TX5) (N := 1) hx hb ht hinX5 hown hK hP 12 rfl rfl 0 (by decide) (ht _ k_27) (fun _ h9 => h9) rfl dX5_metFrom_25 ?_
            refine va_getN (D := (dC, dI)) (ci := 0) (v := .int cnt) (C := RX0) (T := TX0) (N := 4) hx hb ht hinX0 hown hK hP 1 rfl rfl 3 (by decide) (va_Nw.use rfl (nf_7 hN)) (fun _ h9 => h9) rfl dX5_metFrom_28 ?_
            refine lv_icmp_ge (tgt := 65) hx hb dX5_metFrom_31 (by decide) (fun c6 => ?_) (fun c6 => ?_)
            · replace hR := it_p c6 hR
              cases hR
              cases (show some _ = some _ from hQ)
              exact hk ls (lv_sub hl [0, 1, 2, 3, 4] rfl)
            · replace hR := it_n c6 hR
              refine lv_iload_n hx hb dX5_metFrom_34 rfl (lv_at hl 2 rfl) ?_
              refine lv_iload_n hx hb dX5_metFrom_35 rfl (lv_at hl 1 rfl) ?_
              refine lv_iconst (v := (-1)) hx hb dX5_metFrom_36 (by decide) ?_
              refine lv_ixor hx hb dX5_metFrom_37 ?_
              refine lv_iand hx hb dX5_metFrom_38 ?_
              refine lv_iload hx hb dX5_metFrom_39 (lv_at hl 4 rfl) ?_
              obtain ⟨r7, hC, hR⟩ := ob hR
              try dsimp only at hR
              refine ro_calli (va_runSN (As := [.int (x3_4 &&& (p2 ^^^ (-1 : Int32))), .int x5_5]) (rest := []) ⟨hx, hb, hml, hown, ht⟩ (c_holds l dC dI ad tI tL tII tLL  (x3_4 &&& (p2 ^^^ (-1 : Int32))) x5_5 r7 hC.symm) ⟨va_cnB 2 ht (goodG k_20) rfl rfl rfl (nm_3 hN) (ht _ k_8) (by decide +kernel) ⟨Nat.le_of_ble_eq_true rfl, Nat.le_of_ble_eq_true rfl⟩, (ht _ k_21), trivial⟩ (pre_s hK hN (hP.sub (ws' := []) [] rfl)) rfl rfl hl.1 rfl (lv_room (Nat.le_of_ble_eq_true rfl)) dX5_metFrom_41 ⟨Nat.zero_le _, Nat.zero_le _⟩) ?_
              refine lv_if_eq (tgt := 59) hx hb dX5_metFrom_44 (by decide) (fun c8 => ?_) (fun c8 => ?_)
              · replace hR := it_p c8 hR
                refine lv_iinc (v := (x5_5 + 1)) (lv' := [(5, .int (x5_5 + 1)), (0, .ref (ad 12)), (2, .int p2), (3, .int x3_4), (4, .int x4_2)]) hx hb dX5_metFrom_59 hl (k := 4) rfl rfl (by decide) rfl (fun ls hl => ?_)
                refine lv_goto (tgt := 22) hx hb dX5_metFrom_62 (by decide) ?_
                cases hR
                exact ih x3_4 (x5_5 + 1) o_x3_4 o_x5_5 hQ hk ls (lv_sub hl [1, 2, 3, 4, 0] rfl)
              · replace hR := it_n c8 hR
                refine lv_iload_n hx hb dX5_metFrom_47 rfl (lv_at hl 2 rfl) ?_
                refine lv_aload_n hx hb dX5_metFrom_48 rfl (lv_at hl 0 rfl) ?_
                refine va_get (D := (dC, dI)) (ci := 5) (v := .ref (ad 1)) (C := RX5) (T := TX5) (N := 1) hx hb ht hinX5 hown hK hP 12 rfl rfl 0 (by decide) (ht _ k_27) (fun _ h9 => h9) rfl dX5_metFrom_49 ?_
                refine lv_iload hx hb dX5_metFrom_52 (lv_at hl 4 rfl) ?_
                obtain ⟨r9, hC, hR⟩ := ob hR
                try dsimp only at hR
                refine ro_calli (va_runV (As := [.int x5_5]) (rest := [.int x3_4]) ⟨hx, hb, hml, hown, ht⟩ (c_Chain_nextOnes l dC dI ad tI tL tII tLL cnt w tot rew grp fin gns rst rws last now nxt whl au al mu ml x5_5 r9 hC.symm) ⟨callB_of 1 ht (goodG k_28) rfl rfl rfl (ht _ k_15) (ht _ k_29) (by decide +kernel) ⟨Nat.le_of_ble_eq_true rfl, Nat.le_of_ble_eq_true rfl⟩, (ht _ k_31), (ht _ k_30)⟩ (pre_v hK hN hP (q0 := 1) (ci := 0) rfl rfl) rfl rfl hl.1 rfl (lv_room (Nat.le_of_ble_eq_true rfl)) dX5_metFrom_54 ⟨Nat.zero_le _, Nat.zero_le _⟩) ?_
                refine lv_ior hx hb dX5_metFrom_57 ?_
                refine lv_istore_n (lv' := [(3, .int (x3_4 ||| r9)), (0, .ref (ad 12)), (2, .int p2), (4, .int x4_2), (5, .int x5_5)]) hx hb dX5_metFrom_58 rfl hl (by decide) rfl (fun ls hl => ?_)
                refine lv_iinc (v := (x5_5 + 1)) (lv' := [(5, .int (x5_5 + 1)), (3, .int (x3_4 ||| r9)), (0, .ref (ad 12)), (2, .int p2), (4, .int x4_2)]) hx hb dX5_metFrom_59 hl (k := 4) rfl rfl (by decide) rfl (fun ls hl => ?_)
                refine lv_goto (tgt := 22) hx hb dX5_metFrom_62 (by decide) ?_
                cases hR
                exact ih (x3_4 ||| r9) (x5_5 + 1) o_x3_4 o_x5_5 hQ hk ls (lv_sub hl [2, 3, 1, 4, 0] rfl)
        obtain ⟨⟨u11, u12⟩, hL, hR⟩ := ob hR
        try dsimp only at hR
        refine L22_10 300 x3_1 (0 : Int32) u11 u12 hL.symm (fun ls hl => ?_) ls (lv_sub hl [1, 2, 3, 4, 0] rfl)
        refine lv_iinc (v := (x4_2 + 1)) (lv' := [(4, .int (x4_2 + 1)), (0, .ref (ad 12)), (2, .int p2), (3, .int u11), (5, .int u12)]) hx hb dX5_metFrom_65 hl (k := 3) rfl rfl (by decide) rfl (fun ls hl => ?_)
        refine lv_goto (tgt := 7) hx hb dX5_metFrom_68 (by decide) ?_
        cases hR
        exact ih u11 (x4_2 + 1) o_x3_1 o_x4_2 hQ hk ls (lv_sub hl [1, 2, 3, 0] rfl)
  obtain ⟨⟨u14, u15⟩, hL, hR⟩ := ob hR
  try dsimp only at hR
  refine L7_13 300 ((1 : Int32) <<< (p1 &&& 31)) (0 : Int32) u14 u15 hL.symm (fun ls hl => ?_) ls (lv_sub hl [2, 4, 1, 0] rfl)
  refine lv_iload_n hx hb dX5_metFrom_71 rfl (lv_at hl 2 rfl) ?_
  cases hR
  exact W.iret hx hb hr (fun t ht _ => ⟨rfl, ht⟩) t_nil dX5_metFrom_72
abbrev RM_f_Ways_leadingTo : Room := { frames := 3, cells := 0, slots := 0, locals := 66 }
abbrev W_Ways_leadingTo : List Cond := .code yX5_leadingTo cX5_leadingTo 6 (some .int) :: tblG
set_option maxHeartbeats 4000000 in
set_option maxRecDepth 100000 in
theorem c_Ways_leadingTo (l : Launch) (dC : Nat → ClassId) (dI : Nat → Nat → Nat) (ad : Nat → Nat) (tI tL tII tLL : ClassId) (cnt : Int32) (w : Nat → Nat → Int32) (tot : Nat → Int32) (rew : Nat → Int32) (grp : Nat → Int32) (fin : Nat → Int32) (gns : Nat → Int64) (rst : Nat → Int32) (rws : Nat → Nat → Int64) (last : Int32) (now : Nat → Int64) (nxt : Nat → Int64) (whl : Int64) (au : Int64) (al : Int64) (mu : Int64) (ml : Int64) (p1 : Int32) (p2 : Int32) (R0 : Int32) (hR : some R0 = f_Ways_leadingTo cnt w tot p1 p2) : Met l yX5_leadingTo W_Ways_leadingTo RM_f_Ways_leadingTo (roP (dC, dI) vwCl [(tI, .int), (tL, .long), (tII, .array .int), (tLL, .array .long)] (wC ad tI tL tII tLL cnt w tot rew grp fin gns rst rws last now nxt whl au al mu ml) ([.ref (ad 12), .int p1, .int p2] : List Value)) (roQ (some (.int R0))) 0 0 (fun _ => False) := by
  refine Met.ofW (cc := cX5_leadingTo) (maxL := 6) (ret := (some .int)) (by decide) rfl ?_
  intro p e s m args below meth c s₁ B hml hv
  obtain ⟨rfl, hP, hK, hN⟩ := hv
  have hx := B.exec
  have hb := B.bytes
  have hr := B.returns
  have hts := atoms_spec (ws := W_Ways_leadingTo) B.pre
  have ht := fun (w : Cond) (h : w ∈ tblG) => hts w (List.mem_cons_of_mem _ h)
  have hown : s.vm.findClass RX5 = some m.cls := findClass_of_methodNamed B.named
  have hlocks := B.notSynchronized
  have hl := lv_entry ([.ref (ad 12), .int p1, .int p2] : List Value) (n := 6) (Nat.le_of_ble_eq_true rfl)
  rw [lg_entry_eq]
  generalize (lg_sl ([.ref (ad 12), .int p1, .int p2] : List Value) ++ List.replicate (6 - (lg_sl ([.ref (ad 12), .int p1, .int p2] : List Value)).length) Slot.unset).toArray = ls at hl ⊢
  have hl : lv_has ls 6 [(0, .ref (ad 12)), (1, .int p1), (2, .int p2)] := hl
  rw [f_Ways_leadingTo] at hR
  refine lv_iload_n hx hb dX5_leadingTo_0 rfl (lv_at hl 1 rfl) ?_
  refine lv_istore_n (lv' := [(3, .int p1), (0, .ref (ad 12)), (1, .int p1), (2, .int p2)]) hx hb dX5_leadingTo_1 rfl hl (by decide) rfl (fun ls hl => ?_)
  refine lv_iconst (v := 0) hx hb dX5_leadingTo_2 (by decide) ?_
  refine lv_istore (lv' := [(4, .int (0 : Int32)), (3, .int p1), (0, .ref (ad 12)), (1, .int p1), (2, .int p2)]) hx hb dX5_leadingTo_3 hl (by decide) rfl (fun ls hl => ?_)
  have L5_14 : ∀ (n : Nat) (x3_1 : Int32) (x4_2 : Int32), ∀ (o_x3_1 : Int32) (o_x4_2 : Int32), some (o_x3_1, o_x4_2) = f_Ways_leadingTo_L5 cnt w tot p2 n x3_1 x4_2 → (∀ ls : Array Slot, lv_has ls 6 [(0, .ref (ad 12)), (2, .int p2), (3, .int o_x3_1), (4, .int o_x4_2)] → W p l e (headSpec W_Ways_leadingTo RM_f_Ways_leadingTo).room s m ([.ref (ad 12), .int p1, .int p2] : List Value).toArray below meth c s.heap [] 0 0 (MQ below (roQ (some (.int R0))) ([.ref (ad 12), .int p1, .int p2] : List Value).toArray s 0 0 (fun _ => False)) (F0 m 74 ls [])) → ∀ ls : Array Slot, lv_has ls 6 [(0, .ref (ad 12)), (2, .int p2), (3, .int x3_1), (4, .int x4_2)] → W p l e (headSpec W_Ways_leadingTo RM_f_Ways_leadingTo).room s m ([.ref (ad 12), .int p1, .int p2] : List Value).toArray below meth c s.heap [] 0 0 (MQ below (roQ (some (.int R0))) ([.ref (ad 12), .int p1, .int p2] : List Value).toArray s 0 0 (fun _ => False)) (F0 m 5 ls []) := by
    intro n
    induction n with
    | zero =>
      intro x3_1 x4_2 o_x3_1 o_x4_2 hR
      cases (show some _ = none from hR)
    | succ n ih =>
      intro x3_1 x4_2 o_x3_1 o_x4_2 hR hk ls hl
      rw [f_Ways_leadingTo_L5_s] at hR
      obtain ⟨y, hR, hQ⟩ := ob hR
      replace hR := hR.symm
      rw [f_Ways_leadingTo_B5] at hR
      refine lv_iload hx hb dX5_leadingTo_5 (lv_at hl 3 rfl) ?_
      refine lv_aload_n hx hb dX5_leadingTo_7 rfl (lv_at hl 0 rfl) ?_
      refine va_get (D := (dC, dI)) (ci := 5) (v := .ref (ad 1)) (C := RX5) (T := TX5) (N := 1) hx hb ht hinX5 hown hK hP 12 rfl rfl 0 (by decide) (ht _ k_27) (fun _ h9 => h9) rfl dX5_leadingTo_8 ?_
      refine va_getN (D := (dC, dI)) (ci := 0) (v := .int cnt) (C := RX0) (T := TX0) (N := 4) hx hb ht hinX0 hown hK hP 1 rfl rfl 3 (by decide) (va_Nw.use rfl (nf_7 hN)) (fun _ h9 => h9) rfl dX5_leadingTo_11 ?_
      refine lv_icmp_ge (tgt := 74) hx hb dX5_leadingTo_14 (by decide) (fun c3 => ?_) (fun c3 => ?_)
      · replace hR := it_p c3 hR
        cases hR
        cases (show some _ = some _ from hQ)
        exact hk ls (lv_sub hl [0, 1, 2, 3] rfl)
      · replace hR := it_n c3 hR
        refine lv_iconst (v := 0) hx hb dX5_leadingTo_17 (by decide) ?_
        refine lv_istore (lv' := [(5, .int (0 : Int32)), (0, .ref (ad 12)), (2, .int p2), (3, .int x3_1), (4, .int x4_2)]) hx hb dX5_leadingTo_18 hl (by decide) rfl (fun ls hl => ?_)
        have L20_11 : ∀ (n : Nat) (x3_4 : Int32) (x5_5 : Int32), ∀ (o_x3_4 : Int32) (o_x5_5 : Int32), some (o_x3_4, o_x5_5) = f_Ways_leadingTo_L20 cnt w tot p2 n x3_4 x5_5 → (∀ ls : Array Slot, lv_has ls 6 [(0, .ref (ad 12)), (2, .int p2), (3, .int o_x3_4), (4, .int x4_2), (5, .int o_x5_5)] → W p l e (headSpec W_Ways_leadingTo RM_f_Ways_leadingTo).room s m ([.ref (ad 12), .int p1, .int p2] : List Value).toArray below meth c s.heap [] 0 0 (MQ below (roQ (some (.int R0))) ([.ref (ad 12), .int p1, .int p2] : List Value).toArray s 0 0 (fun _ => False)) (F0 m 68 ls [])) → ∀ ls : Array Slot, lv_has ls 6 [(0, .ref (ad 12)), (2, .int p2), (3, .int x3_4), (4, .int x4_2), (5, .int x5_5)] → W p l e (headSpec W_Ways_leadingTo RM_f_Ways_leadingTo).room s m ([.ref (ad 12), .int p1, .int p2] : List Value).toArray below meth c s.heap [] 0 0 (MQ below (roQ (some (.int R0))) ([.ref (ad 12), .int p1, .int p2] : List Value).toArray s 0 0 (fun _ => False)) (F0 m 20 ls []) := by
          intro n
          induction n with
          | zero =>
            intro x3_4 x5_5 o_x3_4 o_x5_5 hR
            cases (show some _ = none from hR)
          | succ n ih =>
            intro x3_4 x5_5 o_x3_4 o_x5_5 hR hk ls hl
            rw [f_Ways_leadingTo_L20_s] at hR
            obtain ⟨y, hR, hQ⟩ := ob hR
            replace hR := hR.symm
            rw [f_Ways_leadingTo_B20] at hR
            refine lv_iload hx hb dX5_leadingTo_20 (lv_at hl 4 rfl) ?_
            refine lv_aload_n hx hb dX5_leadingTo_22 rfl (lv_at hl 0 rfl) ?_
            refine va_get (D := (dC, dI)) (ci := 5) (v := .ref (ad 1)) (C := RX5) (T := TX5) (N := 1) hx hb ht hinX5 hown hK hP 12 rfl rfl 0 (by decide) (ht _ k_27) (fun _ h9 => h9) rfl dX5_leadingTo_23 ?_
            refine va_getN (D := (dC, dI)) (ci := 0) (v := .int cnt) (C := RX0) (T := TX0) (N := 4) hx hb ht hinX0 hown hK hP 1 rfl rfl 3 (by decide) (va_Nw.use rfl (nf_7 hN)) (fun _ h9 => h9) rfl dX5_leadingTo_26 ?_
            refine lv_icmp_ge (tgt := 68) hx hb dX5_leadingTo_29 (by decide) (fun c6 => ?_) (fun c6 => ?_)
            · replace hR := it_p c6 hR
              cases hR
              cases (show some _ = some _ from hQ)
              exact hk ls (lv_sub hl [0, 1, 2, 3, 4] rfl)
            · replace hR := it_n c6 hR
              refine lv_iload_n hx hb dX5_leadingTo_32 rfl (lv_at hl 1 rfl) ?_
              refine lv_iload hx hb dX5_leadingTo_33 (lv_at hl 4 rfl) ?_
              obtain ⟨r7, hC, hR⟩ := ob hR
              try dsimp only at hR
              refine ro_calli (va_runSN (As := [.int p2, .int x5_5]) (rest := []) ⟨hx, hb, hml, hown, ht⟩ (c_holds l dC dI ad tI tL tII tLL  p2 x5_5 r7 hC.symm) ⟨va_cnB 2 ht (goodG k_20) rfl rfl rfl (nm_3 hN) (ht _ k_8) (by decide +kernel) ⟨Nat.le_of_ble_eq_true rfl, Nat.le_of_ble_eq_true rfl⟩, (ht _ k_21), trivial⟩ (pre_s hK hN (hP.sub (ws' := []) [] rfl)) rfl rfl hl.1 rfl (lv_room (Nat.le_of_ble_eq_true rfl)) dX5_leadingTo_35 ⟨Nat.zero_le _, Nat.zero_le _⟩) ?_
              refine lv_if_ne (tgt := 62) hx hb dX5_leadingTo_38 (by decide) (fun c8 => ?_) (fun c8 => ?_)
              · replace hR := it_n c8 hR
                refine lv_iinc (v := (x5_5 + 1)) (lv' := [(5, .int (x5_5 + 1)), (0, .ref (ad 12)), (2, .int p2), (3, .int x3_4), (4, .int x4_2)]) hx hb dX5_leadingTo_62 hl (k := 4) rfl rfl (by decide) rfl (fun ls hl => ?_)
                refine lv_goto (tgt := 20) hx hb dX5_leadingTo_65 (by decide) ?_
                cases hR
                exact ih x3_4 (x5_5 + 1) o_x3_4 o_x5_5 hQ hk ls (lv_sub hl [1, 2, 3, 4, 0] rfl)
              · replace hR := it_p c8 hR
                refine lv_aload_n hx hb dX5_leadingTo_41 rfl (lv_at hl 0 rfl) ?_
                refine va_get (D := (dC, dI)) (ci := 5) (v := .ref (ad 1)) (C := RX5) (T := TX5) (N := 1) hx hb ht hinX5 hown hK hP 12 rfl rfl 0 (by decide) (ht _ k_27) (fun _ h9 => h9) rfl dX5_leadingTo_42 ?_
                refine lv_iload hx hb dX5_leadingTo_45 (lv_at hl 4 rfl) ?_
                obtain ⟨r9, hC, hR⟩ := ob hR
                try dsimp only at hR
                refine ro_calli (va_runV (As := [.int x5_5]) (rest := []) ⟨hx, hb, hml, hown, ht⟩ (c_Chain_nextOnes l dC dI ad tI tL tII tLL cnt w tot rew grp fin gns rst rws last now nxt whl au al mu ml x5_5 r9 hC.symm) ⟨callB_of 1 ht (goodG k_28) rfl rfl rfl (ht _ k_15) (ht _ k_29) (by decide +kernel) ⟨Nat.le_of_ble_eq_true rfl, Nat.le_of_ble_eq_true rfl⟩, (ht _ k_31), (ht _ k_30)⟩ (pre_v hK hN hP (q0 := 1) (ci := 0) rfl rfl) rfl rfl hl.1 rfl (lv_room (Nat.le_of_ble_eq_true rfl)) dX5_leadingTo_47 ⟨Nat.zero_le _, Nat.zero_le _⟩) ?_
                refine lv_iload_n hx hb dX5_leadingTo_50 rfl (lv_at hl 2 rfl) ?_
                refine lv_iand hx hb dX5_leadingTo_51 ?_
                refine lv_if_eq (tgt := 62) hx hb dX5_leadingTo_52 (by decide) (fun c10 => ?_) (fun c10 => ?_)
                · replace hR := it_p c10 hR
                  refine lv_iinc (v := (x5_5 + 1)) (lv' := [(5, .int (x5_5 + 1)), (0, .ref (ad 12)), (2, .int p2), (3, .int x3_4), (4, .int x4_2)]) hx hb dX5_leadingTo_62 hl (k := 4) rfl rfl (by decide) rfl (fun ls hl => ?_)
                  refine lv_goto (tgt := 20) hx hb dX5_leadingTo_65 (by decide) ?_
                  cases hR
                  exact ih x3_4 (x5_5 + 1) o_x3_4 o_x5_5 hQ hk ls (lv_sub hl [1, 2, 3, 4, 0] rfl)
                · replace hR := it_n c10 hR
                  refine lv_iload_n hx hb dX5_leadingTo_55 rfl (lv_at hl 2 rfl) ?_
                  refine lv_iconst (v := 1) hx hb dX5_leadingTo_56 (by decide) ?_
                  refine lv_iload hx hb dX5_leadingTo_57 (lv_at hl 4 rfl) ?_
                  refine lv_ishl hx hb dX5_leadingTo_59 ?_
                  refine lv_ior hx hb dX5_leadingTo_60 ?_
                  refine lv_istore_n (lv' := [(3, .int (x3_4 ||| ((1 : Int32) <<< (x5_5 &&& 31)))), (0, .ref (ad 12)), (2, .int p2), (4, .int x4_2), (5, .int x5_5)]) hx hb dX5_leadingTo_61 rfl hl (by decide) rfl (fun ls hl => ?_)
                  refine lv_iinc (v := (x5_5 + 1)) (lv' := [(5, .int (x5_5 + 1)), (3, .int (x3_4 ||| ((1 : Int32) <<< (x5_5 &&& 31)))), (0, .ref (ad 12)), (2, .int p2), (4, .int x4_2)]) hx hb dX5_leadingTo_62 hl (k := 4) rfl rfl (by decide) rfl (fun ls hl => ?_)
                  refine lv_goto (tgt := 20) hx hb dX5_leadingTo_65 (by decide) ?_
                  cases hR
                  exact ih (x3_4 ||| ((1 : Int32) <<< (x5_5 &&& 31))) (x5_5 + 1) o_x3_4 o_x5_5 hQ hk ls (lv_sub hl [2, 3, 1, 4, 0] rfl)
        obtain ⟨⟨u12, u13⟩, hL, hR⟩ := ob hR
        try dsimp only at hR
        refine L20_11 300 x3_1 (0 : Int32) u12 u13 hL.symm (fun ls hl => ?_) ls (lv_sub hl [1, 2, 3, 4, 0] rfl)
        refine lv_iinc (v := (x4_2 + 1)) (lv' := [(4, .int (x4_2 + 1)), (0, .ref (ad 12)), (2, .int p2), (3, .int u12), (5, .int u13)]) hx hb dX5_leadingTo_68 hl (k := 3) rfl rfl (by decide) rfl (fun ls hl => ?_)
        refine lv_goto (tgt := 5) hx hb dX5_leadingTo_71 (by decide) ?_
        cases hR
        exact ih u12 (x4_2 + 1) o_x3_1 o_x4_2 hQ hk ls (lv_sub hl [1, 2, 3, 0] rfl)
  obtain ⟨⟨u15, u16⟩, hL, hR⟩ := ob hR
  try dsimp only at hR
  refine L5_14 300 p1 (0 : Int32) u15 u16 hL.symm (fun ls hl => ?_) ls (lv_sub hl [2, 4, 1, 0] rfl)
  refine lv_iload_n hx hb dX5_leadingTo_74 rfl (lv_at hl 2 rfl) ?_
  cases hR
  exact W.iret hx hb hr (fun t ht _ => ⟨rfl, ht⟩) t_nil dX5_leadingTo_75
abbrev RM_f_Ways_isSureToMeet : Room := { frames := 4, cells := 0, slots := 0, locals := 91 }
abbrev W_Ways_isSureToMeet : List Cond := .code yX5_isSureToMeet cX5_isSureToMeet 3 (some .boolean) :: tblG
set_option maxHeartbeats 4000000 in
set_option maxRecDepth 100000 in
theorem c_Ways_isSureToMeet (l : Launch) (dC : Nat → ClassId) (dI : Nat → Nat → Nat) (ad : Nat → Nat) (tI tL tII tLL : ClassId) (cnt : Int32) (w : Nat → Nat → Int32) (tot : Nat → Int32) (rew : Nat → Int32) (grp : Nat → Int32) (fin : Nat → Int32) (gns : Nat → Int64) (rst : Nat → Int32) (rws : Nat → Nat → Int64) (last : Int32) (now : Nat → Int64) (nxt : Nat → Int64) (whl : Int64) (au : Int64) (al : Int64) (mu : Int64) (ml : Int64) (p1 : Int32) (p2 : Int32) (R0 : Int32) (hR : some R0 = f_Ways_isSureToMeet cnt w tot p1 p2) : Met l yX5_isSureToMeet W_Ways_isSureToMeet RM_f_Ways_isSureToMeet (roP (dC, dI) vwCl [(tI, .int), (tL, .long), (tII, .array .int), (tLL, .array .long)] (wC ad tI tL tII tLL cnt w tot rew grp fin gns rst rws last now nxt whl au al mu ml) ([.ref (ad 12), .int p1, .int p2] : List Value)) (roQ (some (.int R0))) 0 0 (fun _ => False) := by
  refine Met.ofW (cc := cX5_isSureToMeet) (maxL := 3) (ret := (some .boolean)) (by decide) rfl ?_
  intro p e s m args below meth c s₁ B hml hv
  obtain ⟨rfl, hP, hK, hN⟩ := hv
  have hx := B.exec
  have hb := B.bytes
  have hr := B.returns
  have hts := atoms_spec (ws := W_Ways_isSureToMeet) B.pre
  have ht := fun (w : Cond) (h : w ∈ tblG) => hts w (List.mem_cons_of_mem _ h)
  have hown : s.vm.findClass RX5 = some m.cls := findClass_of_methodNamed B.named
  have hlocks := B.notSynchronized
  have hl := lv_entry ([.ref (ad 12), .int p1, .int p2] : List Value) (n := 3) (Nat.le_of_ble_eq_true rfl)
  rw [lg_entry_eq]
  generalize (lg_sl ([.ref (ad 12), .int p1, .int p2] : List Value) ++ List.replicate (3 - (lg_sl ([.ref (ad 12), .int p1, .int p2] : List Value)).length) Slot.unset).toArray = ls at hl ⊢
  have hl : lv_has ls 3 [(0, .ref (ad 12)), (1, .int p1), (2, .int p2)] := hl
  rw [f_Ways_isSureToMeet] at hR
  refine lv_aload_n hx hb dX5_isSureToMeet_0 rfl (lv_at hl 0 rfl) ?_
  refine lv_iload_n hx hb dX5_isSureToMeet_1 rfl (lv_at hl 1 rfl) ?_
  refine lv_iload_n hx hb dX5_isSureToMeet_2 rfl (lv_at hl 2 rfl) ?_
  obtain ⟨r1, hC, hR⟩ := ob hR
  try dsimp only at hR
  refine ro_calli (va_runV (As := [.int p1, .int p2]) (rest := []) ⟨hx, hb, hml, hown, ht⟩ (c_Ways_metFrom l dC dI ad tI tL tII tLL cnt w tot rew grp fin gns rst rws last now nxt whl au al mu ml p1 p2 r1 hC.symm) ⟨callB_of 2 ht (goodG k_32) rfl rfl rfl (ht _ k_33) (ht _ k_34) (by decide +kernel) ⟨Nat.le_of_ble_eq_true rfl, Nat.le_of_ble_eq_true rfl⟩, (ht _ k_36), (ht _ k_35)⟩ (pre_v hK hN hP (q0 := 12) (ci := 5) rfl rfl) rfl rfl hl.1 rfl (lv_room (Nat.le_of_ble_eq_true rfl)) dX5_isSureToMeet_3 ⟨Nat.zero_le _, Nat.zero_le _⟩) ?_
  refine lv_aload_n hx hb dX5_isSureToMeet_6 rfl (lv_at hl 0 rfl) ?_
  refine lv_iload_n hx hb dX5_isSureToMeet_7 rfl (lv_at hl 2 rfl) ?_
  refine lv_iconst (v := 0) hx hb dX5_isSureToMeet_8 (by decide) ?_
  obtain ⟨r2, hC, hR⟩ := ob hR
  try dsimp only at hR
  refine ro_calli (va_runV (As := [.int p2, .int (0 : Int32)]) (rest := [.int r1]) ⟨hx, hb, hml, hown, ht⟩ (c_Ways_leadingTo l dC dI ad tI tL tII tLL cnt w tot rew grp fin gns rst rws last now nxt whl au al mu ml p2 (0 : Int32) r2 hC.symm) ⟨callB_of 2 ht (goodG k_37) rfl rfl rfl (ht _ k_33) (ht _ k_38) (by decide +kernel) ⟨Nat.le_of_ble_eq_true rfl, Nat.le_of_ble_eq_true rfl⟩, (ht _ k_40), (ht _ k_39)⟩ (pre_v hK hN hP (q0 := 12) (ci := 5) rfl rfl) rfl rfl hl.1 rfl (lv_room (Nat.le_of_ble_eq_true rfl)) dX5_isSureToMeet_9 ⟨Nat.zero_le _, Nat.zero_le _⟩) ?_
  refine lv_iconst (v := (-1)) hx hb dX5_isSureToMeet_12 (by decide) ?_
  refine lv_ixor hx hb dX5_isSureToMeet_13 ?_
  refine lv_iand hx hb dX5_isSureToMeet_14 ?_
  refine lv_if_ne (tgt := 22) hx hb dX5_isSureToMeet_15 (by decide) (fun c3 => ?_) (fun c3 => ?_)
  · replace hR := it_n c3 hR
    refine lv_iconst (v := 0) hx hb dX5_isSureToMeet_22 (by decide) ?_
    cases hR
    exact W.zret hx hb hr rfl (fun t ht _ => ⟨rfl, ht⟩) t_nil dX5_isSureToMeet_23
  · replace hR := it_p c3 hR
    refine lv_iconst (v := 1) hx hb dX5_isSureToMeet_18 (by decide) ?_
    refine lv_goto (tgt := 23) hx hb dX5_isSureToMeet_19 (by decide) ?_
    cases hR
    exact W.zret hx hb hr rfl (fun t ht _ => ⟨rfl, ht⟩) t_nil dX5_isSureToMeet_23
abbrev RM_f_Ways_leastOfPart : Room := { frames := 4, cells := 0, slots := 0, locals := 91 }
abbrev W_Ways_leastOfPart : List Cond := .code yX5_leastOfPart cX5_leastOfPart 4 (some .int) :: tblG
set_option maxHeartbeats 4000000 in
set_option maxRecDepth 100000 in
theorem c_Ways_leastOfPart (l : Launch) (dC : Nat → ClassId) (dI : Nat → Nat → Nat) (ad : Nat → Nat) (tI tL tII tLL : ClassId) (cnt : Int32) (w : Nat → Nat → Int32) (tot : Nat → Int32) (rew : Nat → Int32) (grp : Nat → Int32) (fin : Nat → Int32) (gns : Nat → Int64) (rst : Nat → Int32) (rws : Nat → Nat → Int64) (last : Int32) (now : Nat → Int64) (nxt : Nat → Int64) (whl : Int64) (au : Int64) (al : Int64) (mu : Int64) (ml : Int64) (p1 : Int32) (R0 : Int32) (hR : some R0 = f_Ways_leastOfPart cnt w tot p1) : Met l yX5_leastOfPart W_Ways_leastOfPart RM_f_Ways_leastOfPart (roP (dC, dI) vwCl [(tI, .int), (tL, .long), (tII, .array .int), (tLL, .array .long)] (wC ad tI tL tII tLL cnt w tot rew grp fin gns rst rws last now nxt whl au al mu ml) ([.ref (ad 12), .int p1] : List Value)) (roQ (some (.int R0))) 0 0 (fun _ => False) := by
  refine Met.ofW (cc := cX5_leastOfPart) (maxL := 4) (ret := (some .int)) (by decide) rfl ?_
  intro p e s m args below meth c s₁ B hml hv
  obtain ⟨rfl, hP, hK, hN⟩ := hv
  have hx := B.exec
  have hb := B.bytes
  have hr := B.returns
  have hts := atoms_spec (ws := W_Ways_leastOfPart) B.pre
  have ht := fun (w : Cond) (h : w ∈ tblG) => hts w (List.mem_cons_of_mem _ h)
  have hown : s.vm.findClass RX5 = some m.cls := findClass_of_methodNamed B.named
  have hlocks := B.notSynchronized
  have hl := lv_entry ([.ref (ad 12), .int p1] : List Value) (n := 4) (Nat.le_of_ble_eq_true rfl)
  rw [lg_entry_eq]
  generalize (lg_sl ([.ref (ad 12), .int p1] : List Value) ++ List.replicate (4 - (lg_sl ([.ref (ad 12), .int p1] : List Value)).length) Slot.unset).toArray = ls at hl ⊢
  have hl : lv_has ls 4 [(0, .ref (ad 12)), (1, .int p1)] := hl
  rw [f_Ways_leastOfPart] at hR
  refine lv_aload_n hx hb dX5_leastOfPart_0 rfl (lv_at hl 0 rfl) ?_
  refine lv_iload_n hx hb dX5_leastOfPart_1 rfl (lv_at hl 1 rfl) ?_
  refine lv_iconst (v := 0) hx hb dX5_leastOfPart_2 (by decide) ?_
  obtain ⟨r1, hC, hR⟩ := ob hR
  try dsimp only at hR
  refine ro_calli (va_runV (As := [.int p1, .int (0 : Int32)]) (rest := []) ⟨hx, hb, hml, hown, ht⟩ (c_Ways_metFrom l dC dI ad tI tL tII tLL cnt w tot rew grp fin gns rst rws last now nxt whl au al mu ml p1 (0 : Int32) r1 hC.symm) ⟨callB_of 2 ht (goodG k_32) rfl rfl rfl (ht _ k_33) (ht _ k_34) (by decide +kernel) ⟨Nat.le_of_ble_eq_true rfl, Nat.le_of_ble_eq_true rfl⟩, (ht _ k_36), (ht _ k_35)⟩ (pre_v hK hN hP (q0 := 12) (ci := 5) rfl rfl) rfl rfl hl.1 rfl (lv_room (Nat.le_of_ble_eq_true rfl)) dX5_leastOfPart_3 ⟨Nat.zero_le _, Nat.zero_le _⟩) ?_
  refine lv_aload_n hx hb dX5_leastOfPart_6 rfl (lv_at hl 0 rfl) ?_
  refine lv_iconst (v := 1) hx hb dX5_leastOfPart_7 (by decide) ?_
  refine lv_iload_n hx hb dX5_leastOfPart_8 rfl (lv_at hl 1 rfl) ?_
  refine lv_ishl hx hb dX5_leastOfPart_9 ?_
  refine lv_iconst (v := 0) hx hb dX5_leastOfPart_10 (by decide) ?_
  obtain ⟨r2, hC, hR⟩ := ob hR
  try dsimp only at hR
  refine ro_calli (va_runV (As := [.int ((1 : Int32) <<< (p1 &&& 31)), .int (0 : Int32)]) (rest := [.int r1]) ⟨hx, hb, hml, hown, ht⟩ (c_Ways_leadingTo l dC dI ad tI tL tII tLL cnt w tot rew grp fin gns rst rws last now nxt whl au al mu ml ((1 : Int32) <<< (p1 &&& 31)) (0 : Int32) r2 hC.symm) ⟨callB_of 2 ht (goodG k_37) rfl rfl rfl (ht _ k_33) (ht _ k_38) (by decide +kernel) ⟨Nat.le_of_ble_eq_true rfl, Nat.le_of_ble_eq_true rfl⟩, (ht _ k_40), (ht _ k_39)⟩ (pre_v hK hN hP (q0 := 12) (ci := 5) rfl rfl) rfl rfl hl.1 rfl (lv_room (Nat.le_of_ble_eq_true rfl)) dX5_leastOfPart_11 ⟨Nat.zero_le _, Nat.zero_le _⟩) ?_
  refine lv_iand hx hb dX5_leastOfPart_14 ?_
  refine lv_istore_n (lv' := [(2, .int (r1 &&& r2)), (0, .ref (ad 12)), (1, .int p1)]) hx hb dX5_leastOfPart_15 rfl hl (by decide) rfl (fun ls hl => ?_)
  refine lv_iconst (v := 0) hx hb dX5_leastOfPart_16 (by decide) ?_
  refine lv_istore_n (lv' := [(3, .int (0 : Int32)), (2, .int (r1 &&& r2)), (0, .ref (ad 12)), (1, .int p1)]) hx hb dX5_leastOfPart_17 rfl hl (by decide) rfl (fun ls hl => ?_)
  have L18_8 : ∀ (y2_3 : Int32), ∀ (n : Nat) (x3_4 : Int32), ∀ (o : (Int32) ⊕ (Int32)), some o = f_Ways_leastOfPart_L18 p1 y2_3 n x3_4 → (∀ r, o = .inr r → r = R0) → (∀ (o_x3_4 : Int32), o = .inl o_x3_4 → ∀ ls : Array Slot, lv_has ls 4 [(1, .int p1), (2, .int y2_3), (3, .int o_x3_4)] → W p l e (headSpec W_Ways_leastOfPart RM_f_Ways_leastOfPart).room s m ([.ref (ad 12), .int p1] : List Value).toArray below meth c s.heap [] 0 0 (MQ below (roQ (some (.int R0))) ([.ref (ad 12), .int p1] : List Value).toArray s 0 0 (fun _ => False)) (F0 m 39 ls [])) → ∀ ls : Array Slot, lv_has ls 4 [(1, .int p1), (2, .int y2_3), (3, .int x3_4)] → W p l e (headSpec W_Ways_leastOfPart RM_f_Ways_leastOfPart).room s m ([.ref (ad 12), .int p1] : List Value).toArray below meth c s.heap [] 0 0 (MQ below (roQ (some (.int R0))) ([.ref (ad 12), .int p1] : List Value).toArray s 0 0 (fun _ => False)) (F0 m 18 ls []) := by
    intro y2_3
    intro n
    induction n with
    | zero =>
      intro x3_4 o hR
      cases (show some _ = none from hR)
    | succ n ih =>
      intro x3_4 o hR her hk ls hl
      rw [f_Ways_leastOfPart_L18_s] at hR
      obtain ⟨y, hR, hQ⟩ := ob hR
      replace hR := hR.symm
      rw [f_Ways_leastOfPart_B18] at hR
      refine lv_iload_n hx hb dX5_leastOfPart_18 rfl (lv_at hl 2 rfl) ?_
      refine lv_iload_n hx hb dX5_leastOfPart_19 rfl (lv_at hl 0 rfl) ?_
      refine lv_icmp_ge (tgt := 39) hx hb dX5_leastOfPart_20 (by decide) (fun c5 => ?_) (fun c5 => ?_)
      · replace hR := it_p c5 hR
        cases hR
        cases (show some _ = some _ from hQ)
        exact hk _ rfl ls (lv_sub hl [0, 1, 2] rfl)
      · replace hR := it_n c5 hR
        refine lv_iload_n hx hb dX5_leastOfPart_23 rfl (lv_at hl 1 rfl) ?_
        refine lv_iload_n hx hb dX5_leastOfPart_24 rfl (lv_at hl 2 rfl) ?_
        obtain ⟨r6, hC, hR⟩ := ob hR
        try dsimp only at hR
        refine ro_calli (va_runSN (As := [.int y2_3, .int x3_4]) (rest := []) ⟨hx, hb, hml, hown, ht⟩ (c_holds l dC dI ad tI tL tII tLL  y2_3 x3_4 r6 hC.symm) ⟨va_cnB 2 ht (goodG k_20) rfl rfl rfl (nm_3 hN) (ht _ k_8) (by decide +kernel) ⟨Nat.le_of_ble_eq_true rfl, Nat.le_of_ble_eq_true rfl⟩, (ht _ k_21), trivial⟩ (pre_s hK hN (hP.sub (ws' := []) [] rfl)) rfl rfl hl.1 rfl (lv_room (Nat.le_of_ble_eq_true rfl)) dX5_leastOfPart_25 ⟨Nat.zero_le _, Nat.zero_le _⟩) ?_
        refine lv_if_eq (tgt := 33) hx hb dX5_leastOfPart_28 (by decide) (fun c7 => ?_) (fun c7 => ?_)
        · replace hR := it_p c7 hR
          refine lv_iinc (v := (x3_4 + 1)) (lv' := [(3, .int (x3_4 + 1)), (1, .int p1), (2, .int y2_3)]) hx hb dX5_leastOfPart_33 hl (k := 2) rfl rfl (by decide) rfl (fun ls hl => ?_)
          refine lv_goto (tgt := 18) hx hb dX5_leastOfPart_36 (by decide) ?_
          cases hR
          exact ih (x3_4 + 1) o hQ her hk ls (lv_sub hl [1, 2, 0] rfl)
        · replace hR := it_n c7 hR
          refine lv_iload_n hx hb dX5_leastOfPart_31 rfl (lv_at hl 2 rfl) ?_
          cases hR
          cases (show some _ = some _ from hQ)
          have hR := her _ rfl
          cases hR
          exact W.iret hx hb hr (fun t ht _ => ⟨rfl, ht⟩) t_nil dX5_leastOfPart_32
  obtain ⟨o10, hL, hR⟩ := ob hR
  refine L18_8 (r1 &&& r2) 300 (0 : Int32) o10 hL.symm (fun r e => by subst e; exact (Option.some.inj hR).symm) (fun u9 e ls hl => ?_) ls (lv_sub hl [3, 1, 0] rfl)
  subst e
  try dsimp only at hR
  refine lv_iload_n hx hb dX5_leastOfPart_39 rfl (lv_at hl 0 rfl) ?_
  cases hR
  exact W.iret hx hb hr (fun t ht _ => ⟨rfl, ht⟩) t_nil dX5_leastOfPart_40
abbrev RM_f_Ways_isClosedAt : Room := { frames := 4, cells := 0, slots := 0, locals := 91 }
abbrev W_Ways_isClosedAt : List Cond := .code yX5_isClosedAt cX5_isClosedAt 2 (some .boolean) :: tblG
set_option maxHeartbeats 4000000 in
set_option maxRecDepth 100000 in
theorem c_Ways_isClosedAt (l : Launch) (dC : Nat → ClassId) (dI : Nat → Nat → Nat) (ad : Nat → Nat) (tI tL tII tLL : ClassId) (cnt : Int32) (w : Nat → Nat → Int32) (tot : Nat → Int32) (rew : Nat → Int32) (grp : Nat → Int32) (fin : Nat → Int32) (gns : Nat → Int64) (rst : Nat → Int32) (rws : Nat → Nat → Int64) (last : Int32) (now : Nat → Int64) (nxt : Nat → Int64) (whl : Int64) (au : Int64) (al : Int64) (mu : Int64) (ml : Int64) (p1 : Int32) (R0 : Int32) (hR : some R0 = f_Ways_isClosedAt cnt w tot p1) : Met l yX5_isClosedAt W_Ways_isClosedAt RM_f_Ways_isClosedAt (roP (dC, dI) vwCl [(tI, .int), (tL, .long), (tII, .array .int), (tLL, .array .long)] (wC ad tI tL tII tLL cnt w tot rew grp fin gns rst rws last now nxt whl au al mu ml) ([.ref (ad 12), .int p1] : List Value)) (roQ (some (.int R0))) 0 0 (fun _ => False) := by
  refine Met.ofW (cc := cX5_isClosedAt) (maxL := 2) (ret := (some .boolean)) (by decide) rfl ?_
  intro p e s m args below meth c s₁ B hml hv
  obtain ⟨rfl, hP, hK, hN⟩ := hv
  have hx := B.exec
  have hb := B.bytes
  have hr := B.returns
  have hts := atoms_spec (ws := W_Ways_isClosedAt) B.pre
  have ht := fun (w : Cond) (h : w ∈ tblG) => hts w (List.mem_cons_of_mem _ h)
  have hown : s.vm.findClass RX5 = some m.cls := findClass_of_methodNamed B.named
  have hlocks := B.notSynchronized
  have hl := lv_entry ([.ref (ad 12), .int p1] : List Value) (n := 2) (Nat.le_of_ble_eq_true rfl)
  rw [lg_entry_eq]
  generalize (lg_sl ([.ref (ad 12), .int p1] : List Value) ++ List.replicate (2 - (lg_sl ([.ref (ad 12), .int p1] : List Value)).length) Slot.unset).toArray = ls at hl ⊢
  have hl : lv_has ls 2 [(0, .ref (ad 12)), (1, .int p1)] := hl
  rw [f_Ways_isClosedAt] at hR
  refine lv_aload_n hx hb dX5_isClosedAt_0 rfl (lv_at hl 0 rfl) ?_
  refine lv_iload_n hx hb dX5_isClosedAt_1 rfl (lv_at hl 1 rfl) ?_
  refine lv_iconst (v := 0) hx hb dX5_isClosedAt_2 (by decide) ?_
  obtain ⟨r1, hC, hR⟩ := ob hR
  try dsimp only at hR
  refine ro_calli (va_runV (As := [.int p1, .int (0 : Int32)]) (rest := []) ⟨hx, hb, hml, hown, ht⟩ (c_Ways_metFrom l dC dI ad tI tL tII tLL cnt w tot rew grp fin gns rst rws last now nxt whl au al mu ml p1 (0 : Int32) r1 hC.symm) ⟨callB_of 2 ht (goodG k_32) rfl rfl rfl (ht _ k_33) (ht _ k_34) (by decide +kernel) ⟨Nat.le_of_ble_eq_true rfl, Nat.le_of_ble_eq_true rfl⟩, (ht _ k_36), (ht _ k_35)⟩ (pre_v hK hN hP (q0 := 12) (ci := 5) rfl rfl) rfl rfl hl.1 rfl (lv_room (Nat.le_of_ble_eq_true rfl)) dX5_isClosedAt_3 ⟨Nat.zero_le _, Nat.zero_le _⟩) ?_
  refine lv_aload_n hx hb dX5_isClosedAt_6 rfl (lv_at hl 0 rfl) ?_
  refine lv_iconst (v := 1) hx hb dX5_isClosedAt_7 (by decide) ?_
  refine lv_iload_n hx hb dX5_isClosedAt_8 rfl (lv_at hl 1 rfl) ?_
  refine lv_ishl hx hb dX5_isClosedAt_9 ?_
  refine lv_iconst (v := 0) hx hb dX5_isClosedAt_10 (by decide) ?_
  obtain ⟨r2, hC, hR⟩ := ob hR
  try dsimp only at hR
  refine ro_calli (va_runV (As := [.int ((1 : Int32) <<< (p1 &&& 31)), .int (0 : Int32)]) (rest := [.int r1]) ⟨hx, hb, hml, hown, ht⟩ (c_Ways_leadingTo l dC dI ad tI tL tII tLL cnt w tot rew grp fin gns rst rws last now nxt whl au al mu ml ((1 : Int32) <<< (p1 &&& 31)) (0 : Int32) r2 hC.symm) ⟨callB_of 2 ht (goodG k_37) rfl rfl rfl (ht _ k_33) (ht _ k_38) (by decide +kernel) ⟨Nat.le_of_ble_eq_true rfl, Nat.le_of_ble_eq_true rfl⟩, (ht _ k_40), (ht _ k_39)⟩ (pre_v hK hN hP (q0 := 12) (ci := 5) rfl rfl) rfl rfl hl.1 rfl (lv_room (Nat.le_of_ble_eq_true rfl)) dX5_isClosedAt_11 ⟨Nat.zero_le _, Nat.zero_le _⟩) ?_
  refine lv_iconst (v := (-1)) hx hb dX5_isClosedAt_14 (by decide) ?_
  refine lv_ixor hx hb dX5_isClosedAt_15 ?_
  refine lv_iand hx hb dX5_isClosedAt_16 ?_
  refine lv_if_ne (tgt := 24) hx hb dX5_isClosedAt_17 (by decide) (fun c3 => ?_) (fun c3 => ?_)
  · replace hR := it_n c3 hR
    refine lv_iconst (v := 0) hx hb dX5_isClosedAt_24 (by decide) ?_
    cases hR
    exact W.zret hx hb hr rfl (fun t ht _ => ⟨rfl, ht⟩) t_nil dX5_isClosedAt_25
  · replace hR := it_p c3 hR
    refine lv_iconst (v := 1) hx hb dX5_isClosedAt_20 (by decide) ?_
    refine lv_goto (tgt := 25) hx hb dX5_isClosedAt_21 (by decide) ?_
    cases hR
    exact W.zret hx hb hr rfl (fun t ht _ => ⟨rfl, ht⟩) t_nil dX5_isClosedAt_25
abbrev RM_f_Ways_countParts : Room := { frames := 5, cells := 0, slots := 0, locals := 114 }
abbrev W_Ways_countParts : List Cond := .code yX5_countParts cX5_countParts 4 (some .int) :: tblG
set_option maxHeartbeats 4000000 in
set_option maxRecDepth 100000 in
theorem c_Ways_countParts (l : Launch) (dC : Nat → ClassId) (dI : Nat → Nat → Nat) (ad : Nat → Nat) (tI tL tII tLL : ClassId) (cnt : Int32) (w : Nat → Nat → Int32) (tot : Nat → Int32) (rew : Nat → Int32) (grp : Nat → Int32) (fin : Nat → Int32) (gns : Nat → Int64) (rst : Nat → Int32) (rws : Nat → Nat → Int64) (last : Int32) (now : Nat → Int64) (nxt : Nat → Int64) (whl : Int64) (au : Int64) (al : Int64) (mu : Int64) (ml : Int64) (p1 : Int32) (R0 : Int32) (hR : some R0 = f_Ways_countParts cnt w tot p1) : Met l yX5_countParts W_Ways_countParts RM_f_Ways_countParts (roP (dC, dI) vwCl [(tI, .int), (tL, .long), (tII, .array .int), (tLL, .array .long)] (wC ad tI tL tII tLL cnt w tot rew grp fin gns rst rws last now nxt whl au al mu ml) ([.ref (ad 12), .int p1] : List Value)) (roQ (some (.int R0))) 0 0 (fun _ => False) := by
  refine Met.ofW (cc := cX5_countParts) (maxL := 4) (ret := (some .int)) (by decide) rfl ?_
  intro p e s m args below meth c s₁ B hml hv
  obtain ⟨rfl, hP, hK, hN⟩ := hv
  have hx := B.exec
  have hb := B.bytes
  have hr := B.returns
  have hts := atoms_spec (ws := W_Ways_countParts) B.pre
  have ht := fun (w : Cond) (h : w ∈ tblG) => hts w (List.mem_cons_of_mem _ h)
  have hown : s.vm.findClass RX5 = some m.cls := findClass_of_methodNamed B.named
  have hlocks := B.notSynchronized
  have hl := lv_entry ([.ref (ad 12), .int p1] : List Value) (n := 4) (Nat.le_of_ble_eq_true rfl)
  rw [lg_entry_eq]
  generalize (lg_sl ([.ref (ad 12), .int p1] : List Value) ++ List.replicate (4 - (lg_sl ([.ref (ad 12), .int p1] : List Value)).length) Slot.unset).toArray = ls at hl ⊢
  have hl : lv_has ls 4 [(0, .ref (ad 12)), (1, .int p1)] := hl
  rw [f_Ways_countParts] at hR
  refine lv_iconst (v := 0) hx hb dX5_countParts_0 (by decide) ?_
  refine lv_istore_n (lv' := [(2, .int (0 : Int32)), (0, .ref (ad 12)), (1, .int p1)]) hx hb dX5_countParts_1 rfl hl (by decide) rfl (fun ls hl => ?_)
  refine lv_iconst (v := 0) hx hb dX5_countParts_2 (by decide) ?_
  refine lv_istore_n (lv' := [(3, .int (0 : Int32)), (2, .int (0 : Int32)), (0, .ref (ad 12)), (1, .int p1)]) hx hb dX5_countParts_3 rfl hl (by decide) rfl (fun ls hl => ?_)
  have L4_9 : ∀ (n : Nat) (x2_1 : Int32) (x3_2 : Int32), ∀ (o_x2_1 : Int32) (o_x3_2 : Int32), some (o_x2_1, o_x3_2) = f_Ways_countParts_L4 cnt w tot p1 n x2_1 x3_2 → (∀ ls : Array Slot, lv_has ls 4 [(0, .ref (ad 12)), (1, .int p1), (2, .int o_x2_1), (3, .int o_x3_2)] → W p l e (headSpec W_Ways_countParts RM_f_Ways_countParts).room s m ([.ref (ad 12), .int p1] : List Value).toArray below meth c s.heap [] 0 0 (MQ below (roQ (some (.int R0))) ([.ref (ad 12), .int p1] : List Value).toArray s 0 0 (fun _ => False)) (F0 m 45 ls [])) → ∀ ls : Array Slot, lv_has ls 4 [(0, .ref (ad 12)), (1, .int p1), (2, .int x2_1), (3, .int x3_2)] → W p l e (headSpec W_Ways_countParts RM_f_Ways_countParts).room s m ([.ref (ad 12), .int p1] : List Value).toArray below meth c s.heap [] 0 0 (MQ below (roQ (some (.int R0))) ([.ref (ad 12), .int p1] : List Value).toArray s 0 0 (fun _ => False)) (F0 m 4 ls []) := by
    intro n
    induction n with
    | zero =>
      intro x2_1 x3_2 o_x2_1 o_x3_2 hR
      cases (show some _ = none from hR)
    | succ n ih =>
      intro x2_1 x3_2 o_x2_1 o_x3_2 hR hk ls hl
      rw [f_Ways_countParts_L4_s] at hR
      obtain ⟨y, hR, hQ⟩ := ob hR
      replace hR := hR.symm
      rw [f_Ways_countParts_B4] at hR
      refine lv_iload_n hx hb dX5_countParts_4 rfl (lv_at hl 3 rfl) ?_
      refine lv_aload_n hx hb dX5_countParts_5 rfl (lv_at hl 0 rfl) ?_
      refine va_get (D := (dC, dI)) (ci := 5) (v := .ref (ad 1)) (C := RX5) (T := TX5) (N := 1) hx hb ht hinX5 hown hK hP 12 rfl rfl 0 (by decide) (ht _ k_27) (fun _ h9 => h9) rfl dX5_countParts_6 ?_
      refine va_getN (D := (dC, dI)) (ci := 0) (v := .int cnt) (C := RX0) (T := TX0) (N := 4) hx hb ht hinX0 hown hK hP 1 rfl rfl 3 (by decide) (va_Nw.use rfl (nf_7 hN)) (fun _ h9 => h9) rfl dX5_countParts_9 ?_
      refine lv_icmp_ge (tgt := 45) hx hb dX5_countParts_12 (by decide) (fun c3 => ?_) (fun c3 => ?_)
      · replace hR := it_p c3 hR
        cases hR
        cases (show some _ = some _ from hQ)
        exact hk ls (lv_sub hl [0, 1, 2, 3] rfl)
      · replace hR := it_n c3 hR
        refine lv_aload_n hx hb dX5_countParts_15 rfl (lv_at hl 0 rfl) ?_
        refine lv_iload_n hx hb dX5_countParts_16 rfl (lv_at hl 3 rfl) ?_
        obtain ⟨r4, hC, hR⟩ := ob hR
        try dsimp only at hR
        refine ro_calli (va_runV (As := [.int x3_2]) (rest := []) ⟨hx, hb, hml, hown, ht⟩ (c_Ways_leastOfPart l dC dI ad tI tL tII tLL cnt w tot rew grp fin gns rst rws last now nxt whl au al mu ml x3_2 r4 hC.symm) ⟨callB_of 1 ht (goodG k_41) rfl rfl rfl (ht _ k_33) (ht _ k_42) (by decide +kernel) ⟨Nat.le_of_ble_eq_true rfl, Nat.le_of_ble_eq_true rfl⟩, (ht _ k_44), (ht _ k_43)⟩ (pre_v hK hN hP (q0 := 12) (ci := 5) rfl rfl) rfl rfl hl.1 rfl (lv_room (Nat.le_of_ble_eq_true rfl)) dX5_countParts_17 ⟨Nat.zero_le _, Nat.zero_le _⟩) ?_
        refine lv_iload_n hx hb dX5_countParts_20 rfl (lv_at hl 3 rfl) ?_
        refine lv_icmp_ne (tgt := 39) hx hb dX5_countParts_21 (by decide) (fun c5 => ?_) (fun c5 => ?_)
        · replace hR := it_n c5 hR
          refine lv_iinc (v := (x3_2 + 1)) (lv' := [(3, .int (x3_2 + 1)), (0, .ref (ad 12)), (1, .int p1), (2, .int x2_1)]) hx hb dX5_countParts_39 hl (k := 3) rfl rfl (by decide) rfl (fun ls hl => ?_)
          refine lv_goto (tgt := 4) hx hb dX5_countParts_42 (by decide) ?_
          cases hR
          exact ih x2_1 (x3_2 + 1) o_x2_1 o_x3_2 hQ hk ls (lv_sub hl [1, 2, 3, 0] rfl)
        · replace hR := it_p c5 hR
          refine lv_iload_n hx hb dX5_countParts_24 rfl (lv_at hl 1 rfl) ?_
          refine lv_if_eq (tgt := 36) hx hb dX5_countParts_25 (by decide) (fun c6 => ?_) (fun c6 => ?_)
          · replace hR := it_p c6 hR
            refine lv_iinc (v := (x2_1 + 1)) (lv' := [(2, .int (x2_1 + 1)), (0, .ref (ad 12)), (1, .int p1), (3, .int x3_2)]) hx hb dX5_countParts_36 hl (k := 2) rfl rfl (by decide) rfl (fun ls hl => ?_)
            refine lv_iinc (v := (x3_2 + 1)) (lv' := [(3, .int (x3_2 + 1)), (2, .int (x2_1 + 1)), (0, .ref (ad 12)), (1, .int p1)]) hx hb dX5_countParts_39 hl (k := 3) rfl rfl (by decide) rfl (fun ls hl => ?_)
            refine lv_goto (tgt := 4) hx hb dX5_countParts_42 (by decide) ?_
            cases hR
            exact ih (x2_1 + 1) (x3_2 + 1) o_x2_1 o_x3_2 hQ hk ls (lv_sub hl [2, 3, 1, 0] rfl)
          · replace hR := it_n c6 hR
            refine lv_aload_n hx hb dX5_countParts_28 rfl (lv_at hl 0 rfl) ?_
            refine lv_iload_n hx hb dX5_countParts_29 rfl (lv_at hl 3 rfl) ?_
            obtain ⟨r7, hC, hR⟩ := ob hR
            try dsimp only at hR
            refine ro_calli (va_runV (As := [.int x3_2]) (rest := []) ⟨hx, hb, hml, hown, ht⟩ (c_Ways_isClosedAt l dC dI ad tI tL tII tLL cnt w tot rew grp fin gns rst rws last now nxt whl au al mu ml x3_2 r7 hC.symm) ⟨callB_of 1 ht (goodG k_45) rfl rfl rfl (ht _ k_33) (ht _ k_46) (by decide +kernel) ⟨Nat.le_of_ble_eq_true rfl, Nat.le_of_ble_eq_true rfl⟩, (ht _ k_48), (ht _ k_47)⟩ (pre_v hK hN hP (q0 := 12) (ci := 5) rfl rfl) rfl rfl hl.1 rfl (lv_room (Nat.le_of_ble_eq_true rfl)) dX5_countParts_30 ⟨Nat.zero_le _, Nat.zero_le _⟩) ?_
            refine lv_if_eq (tgt := 39) hx hb dX5_countParts_33 (by decide) (fun c8 => ?_) (fun c8 => ?_)
            · replace hR := it_p c8 hR
              refine lv_iinc (v := (x3_2 + 1)) (lv' := [(3, .int (x3_2 + 1)), (0, .ref (ad 12)), (1, .int p1), (2, .int x2_1)]) hx hb dX5_countParts_39 hl (k := 3) rfl rfl (by decide) rfl (fun ls hl => ?_)
              refine lv_goto (tgt := 4) hx hb dX5_countParts_42 (by decide) ?_
              cases hR
              exact ih x2_1 (x3_2 + 1) o_x2_1 o_x3_2 hQ hk ls (lv_sub hl [1, 2, 3, 0] rfl)
            · replace hR := it_n c8 hR
              refine lv_iinc (v := (x2_1 + 1)) (lv' := [(2, .int (x2_1 + 1)), (0, .ref (ad 12)), (1, .int p1), (3, .int x3_2)]) hx hb dX5_countParts_36 hl (k := 2) rfl rfl (by decide) rfl (fun ls hl => ?_)
              refine lv_iinc (v := (x3_2 + 1)) (lv' := [(3, .int (x3_2 + 1)), (2, .int (x2_1 + 1)), (0, .ref (ad 12)), (1, .int p1)]) hx hb dX5_countParts_39 hl (k := 3) rfl rfl (by decide) rfl (fun ls hl => ?_)
              refine lv_goto (tgt := 4) hx hb dX5_countParts_42 (by decide) ?_
              cases hR
              exact ih (x2_1 + 1) (x3_2 + 1) o_x2_1 o_x3_2 hQ hk ls (lv_sub hl [2, 3, 1, 0] rfl)
  obtain ⟨⟨u10, u11⟩, hL, hR⟩ := ob hR
  try dsimp only at hR
  refine L4_9 300 (0 : Int32) (0 : Int32) u10 u11 hL.symm (fun ls hl => ?_) ls (lv_sub hl [2, 3, 1, 0] rfl)
  refine lv_iload_n hx hb dX5_countParts_45 rfl (lv_at hl 2 rfl) ?_
  cases hR
  exact W.iret hx hb hr (fun t ht _ => ⟨rfl, ht⟩) t_nil dX5_countParts_46
abbrev RM_f_Ways_oneStepOn : Room := { frames := 3, cells := 0, slots := 0, locals := 66 }
abbrev W_Ways_oneStepOn : List Cond := .code yX5_oneStepOn cX5_oneStepOn 4 (some .int) :: tblG
set_option maxHeartbeats 4000000 in
set_option maxRecDepth 100000 in
theorem c_Ways_oneStepOn (l : Launch) (dC : Nat → ClassId) (dI : Nat → Nat → Nat) (ad : Nat → Nat) (tI tL tII tLL : ClassId) (cnt : Int32) (w : Nat → Nat → Int32) (tot : Nat → Int32) (rew : Nat → Int32) (grp : Nat → Int32) (fin : Nat → Int32) (gns : Nat → Int64) (rst : Nat → Int32) (rws : Nat → Nat → Int64) (last : Int32) (now : Nat → Int64) (nxt : Nat → Int64) (whl : Int64) (au : Int64) (al : Int64) (mu : Int64) (ml : Int64) (p1 : Int32) (R0 : Int32) (hR : some R0 = f_Ways_oneStepOn cnt w tot p1) : Met l yX5_oneStepOn W_Ways_oneStepOn RM_f_Ways_oneStepOn (roP (dC, dI) vwCl [(tI, .int), (tL, .long), (tII, .array .int), (tLL, .array .long)] (wC ad tI tL tII tLL cnt w tot rew grp fin gns rst rws last now nxt whl au al mu ml) ([.ref (ad 12), .int p1] : List Value)) (roQ (some (.int R0))) 0 0 (fun _ => False) := by
  refine Met.ofW (cc := cX5_oneStepOn) (maxL := 4) (ret := (some .int)) (by decide) rfl ?_
  intro p e s m args below meth c s₁ B hml hv
  obtain ⟨rfl, hP, hK, hN⟩ := hv
  have hx := B.exec
  have hb := B.bytes
  have hr := B.returns
  have hts := atoms_spec (ws := W_Ways_oneStepOn) B.pre
  have ht := fun (w : Cond) (h : w ∈ tblG) => hts w (List.mem_cons_of_mem _ h)
  have hown : s.vm.findClass RX5 = some m.cls := findClass_of_methodNamed B.named
  have hlocks := B.notSynchronized
  have hl := lv_entry ([.ref (ad 12), .int p1] : List Value) (n := 4) (Nat.le_of_ble_eq_true rfl)
  rw [lg_entry_eq]
  generalize (lg_sl ([.ref (ad 12), .int p1] : List Value) ++ List.replicate (4 - (lg_sl ([.ref (ad 12), .int p1] : List Value)).length) Slot.unset).toArray = ls at hl ⊢
  have hl : lv_has ls 4 [(0, .ref (ad 12)), (1, .int p1)] := hl
  rw [f_Ways_oneStepOn] at hR
  refine lv_iconst (v := 0) hx hb dX5_oneStepOn_0 (by decide) ?_
  refine lv_istore_n (lv' := [(2, .int (0 : Int32)), (0, .ref (ad 12)), (1, .int p1)]) hx hb dX5_oneStepOn_1 rfl hl (by decide) rfl (fun ls hl => ?_)
  refine lv_iconst (v := 0) hx hb dX5_oneStepOn_2 (by decide) ?_
  refine lv_istore_n (lv' := [(3, .int (0 : Int32)), (2, .int (0 : Int32)), (0, .ref (ad 12)), (1, .int p1)]) hx hb dX5_oneStepOn_3 rfl hl (by decide) rfl (fun ls hl => ?_)
  have L4_7 : ∀ (n : Nat) (x2_1 : Int32) (x3_2 : Int32), ∀ (o_x2_1 : Int32) (o_x3_2 : Int32), some (o_x2_1, o_x3_2) = f_Ways_oneStepOn_L4 cnt w tot p1 n x2_1 x3_2 → (∀ ls : Array Slot, lv_has ls 4 [(0, .ref (ad 12)), (1, .int p1), (2, .int o_x2_1), (3, .int o_x3_2)] → W p l e (headSpec W_Ways_oneStepOn RM_f_Ways_oneStepOn).room s m ([.ref (ad 12), .int p1] : List Value).toArray below meth c s.heap [] 0 0 (MQ below (roQ (some (.int R0))) ([.ref (ad 12), .int p1] : List Value).toArray s 0 0 (fun _ => False)) (F0 m 40 ls [])) → ∀ ls : Array Slot, lv_has ls 4 [(0, .ref (ad 12)), (1, .int p1), (2, .int x2_1), (3, .int x3_2)] → W p l e (headSpec W_Ways_oneStepOn RM_f_Ways_oneStepOn).room s m ([.ref (ad 12), .int p1] : List Value).toArray below meth c s.heap [] 0 0 (MQ below (roQ (some (.int R0))) ([.ref (ad 12), .int p1] : List Value).toArray s 0 0 (fun _ => False)) (F0 m 4 ls []) := by
    intro n
    induction n with
    | zero =>
      intro x2_1 x3_2 o_x2_1 o_x3_2 hR
      cases (show some _ = none from hR)
    | succ n ih =>
      intro x2_1 x3_2 o_x2_1 o_x3_2 hR hk ls hl
      rw [f_Ways_oneStepOn_L4_s] at hR
      obtain ⟨y, hR, hQ⟩ := ob hR
      replace hR := hR.symm
      rw [f_Ways_oneStepOn_B4] at hR
      refine lv_iload_n hx hb dX5_oneStepOn_4 rfl (lv_at hl 3 rfl) ?_
      refine lv_aload_n hx hb dX5_oneStepOn_5 rfl (lv_at hl 0 rfl) ?_
      refine va_get (D := (dC, dI)) (ci := 5) (v := .ref (ad 1)) (C := RX5) (T := TX5) (N := 1) hx hb ht hinX5 hown hK hP 12 rfl rfl 0 (by decide) (ht _ k_27) (fun _ h9 => h9) rfl dX5_oneStepOn_6 ?_
      refine va_getN (D := (dC, dI)) (ci := 0) (v := .int cnt) (C := RX0) (T := TX0) (N := 4) hx hb ht hinX0 hown hK hP 1 rfl rfl 3 (by decide) (va_Nw.use rfl (nf_7 hN)) (fun _ h9 => h9) rfl dX5_oneStepOn_9 ?_
      refine lv_icmp_ge (tgt := 40) hx hb dX5_oneStepOn_12 (by decide) (fun c3 => ?_) (fun c3 => ?_)
      · replace hR := it_p c3 hR
        cases hR
        cases (show some _ = some _ from hQ)
        exact hk ls (lv_sub hl [0, 1, 2, 3] rfl)
      · replace hR := it_n c3 hR
        refine lv_iload_n hx hb dX5_oneStepOn_15 rfl (lv_at hl 1 rfl) ?_
        refine lv_iload_n hx hb dX5_oneStepOn_16 rfl (lv_at hl 3 rfl) ?_
        obtain ⟨r4, hC, hR⟩ := ob hR
        try dsimp only at hR
        refine ro_calli (va_runSN (As := [.int p1, .int x3_2]) (rest := []) ⟨hx, hb, hml, hown, ht⟩ (c_holds l dC dI ad tI tL tII tLL  p1 x3_2 r4 hC.symm) ⟨va_cnB 2 ht (goodG k_20) rfl rfl rfl (nm_3 hN) (ht _ k_8) (by decide +kernel) ⟨Nat.le_of_ble_eq_true rfl, Nat.le_of_ble_eq_true rfl⟩, (ht _ k_21), trivial⟩ (pre_s hK hN (hP.sub (ws' := []) [] rfl)) rfl rfl hl.1 rfl (lv_room (Nat.le_of_ble_eq_true rfl)) dX5_oneStepOn_17 ⟨Nat.zero_le _, Nat.zero_le _⟩) ?_
        refine lv_if_eq (tgt := 34) hx hb dX5_oneStepOn_20 (by decide) (fun c5 => ?_) (fun c5 => ?_)
        · replace hR := it_p c5 hR
          refine lv_iinc (v := (x3_2 + 1)) (lv' := [(3, .int (x3_2 + 1)), (0, .ref (ad 12)), (1, .int p1), (2, .int x2_1)]) hx hb dX5_oneStepOn_34 hl (k := 3) rfl rfl (by decide) rfl (fun ls hl => ?_)
          refine lv_goto (tgt := 4) hx hb dX5_oneStepOn_37 (by decide) ?_
          cases hR
          exact ih x2_1 (x3_2 + 1) o_x2_1 o_x3_2 hQ hk ls (lv_sub hl [1, 2, 3, 0] rfl)
        · replace hR := it_n c5 hR
          refine lv_iload_n hx hb dX5_oneStepOn_23 rfl (lv_at hl 2 rfl) ?_
          refine lv_aload_n hx hb dX5_oneStepOn_24 rfl (lv_at hl 0 rfl) ?_
          refine va_get (D := (dC, dI)) (ci := 5) (v := .ref (ad 1)) (C := RX5) (T := TX5) (N := 1) hx hb ht hinX5 hown hK hP 12 rfl rfl 0 (by decide) (ht _ k_27) (fun _ h9 => h9) rfl dX5_oneStepOn_25 ?_
          refine lv_iload_n hx hb dX5_oneStepOn_28 rfl (lv_at hl 3 rfl) ?_
          obtain ⟨r6, hC, hR⟩ := ob hR
          try dsimp only at hR
          refine ro_calli (va_runV (As := [.int x3_2]) (rest := [.int x2_1]) ⟨hx, hb, hml, hown, ht⟩ (c_Chain_nextOnes l dC dI ad tI tL tII tLL cnt w tot rew grp fin gns rst rws last now nxt whl au al mu ml x3_2 r6 hC.symm) ⟨callB_of 1 ht (goodG k_28) rfl rfl rfl (ht _ k_15) (ht _ k_29) (by decide +kernel) ⟨Nat.le_of_ble_eq_true rfl, Nat.le_of_ble_eq_true rfl⟩, (ht _ k_31), (ht _ k_30)⟩ (pre_v hK hN hP (q0 := 1) (ci := 0) rfl rfl) rfl rfl hl.1 rfl (lv_room (Nat.le_of_ble_eq_true rfl)) dX5_oneStepOn_29 ⟨Nat.zero_le _, Nat.zero_le _⟩) ?_
          refine lv_ior hx hb dX5_oneStepOn_32 ?_
          refine lv_istore_n (lv' := [(2, .int (x2_1 ||| r6)), (0, .ref (ad 12)), (1, .int p1), (3, .int x3_2)]) hx hb dX5_oneStepOn_33 rfl hl (by decide) rfl (fun ls hl => ?_)
          refine lv_iinc (v := (x3_2 + 1)) (lv' := [(3, .int (x3_2 + 1)), (2, .int (x2_1 ||| r6)), (0, .ref (ad 12)), (1, .int p1)]) hx hb dX5_oneStepOn_34 hl (k := 3) rfl rfl (by decide) rfl (fun ls hl => ?_)
          refine lv_goto (tgt := 4) hx hb dX5_oneStepOn_37 (by decide) ?_
          cases hR
          exact ih (x2_1 ||| r6) (x3_2 + 1) o_x2_1 o_x3_2 hQ hk ls (lv_sub hl [2, 3, 1, 0] rfl)
  obtain ⟨⟨u8, u9⟩, hL, hR⟩ := ob hR
  try dsimp only at hR
  refine L4_7 300 (0 : Int32) (0 : Int32) u8 u9 hL.symm (fun ls hl => ?_) ls (lv_sub hl [2, 3, 1, 0] rfl)
  refine lv_iload_n hx hb dX5_oneStepOn_40 rfl (lv_at hl 2 rfl) ?_
  cases hR
  exact W.iret hx hb hr (fun t ht _ => ⟨rfl, ht⟩) t_nil dX5_oneStepOn_41
abbrev RM_f_Ways_ringDivisor : Room := { frames := 4, cells := 0, slots := 0, locals := 89 }
abbrev W_Ways_ringDivisor : List Cond := .code yX5_ringDivisor cX5_ringDivisor 5 (some .int) :: tblG
set_option maxHeartbeats 4000000 in
set_option maxRecDepth 100000 in
theorem c_Ways_ringDivisor (l : Launch) (dC : Nat → ClassId) (dI : Nat → Nat → Nat) (ad : Nat → Nat) (tI tL tII tLL : ClassId) (cnt : Int32) (w : Nat → Nat → Int32) (tot : Nat → Int32) (rew : Nat → Int32) (grp : Nat → Int32) (fin : Nat → Int32) (gns : Nat → Int64) (rst : Nat → Int32) (rws : Nat → Nat → Int64) (last : Int32) (now : Nat → Int64) (nxt : Nat → Int64) (whl : Int64) (au : Int64) (al : Int64) (mu : Int64) (ml : Int64) (p1 : Int32) (R0 : Int32) (hR : some R0 = f_Ways_ringDivisor cnt w tot p1) : Met l yX5_ringDivisor W_Ways_ringDivisor RM_f_Ways_ringDivisor (roP (dC, dI) vwCl [(tI, .int), (tL, .long), (tII, .array .int), (tLL, .array .long)] (wC ad tI tL tII tLL cnt w tot rew grp fin gns rst rws last now nxt whl au al mu ml) ([.ref (ad 12), .int p1] : List Value)) (roQ (some (.int R0))) 0 0 (fun _ => False) := by
  refine Met.ofW (cc := cX5_ringDivisor) (maxL := 5) (ret := (some .int)) (by decide) rfl ?_
  intro p e s m args below meth c s₁ B hml hv
  obtain ⟨rfl, hP, hK, hN⟩ := hv
  have hx := B.exec
  have hb := B.bytes
  have hr := B.returns
  have hts := atoms_spec (ws := W_Ways_ringDivisor) B.pre
  have ht := fun (w : Cond) (h : w ∈ tblG) => hts w (List.mem_cons_of_mem _ h)
  have hown : s.vm.findClass RX5 = some m.cls := findClass_of_methodNamed B.named
  have hlocks := B.notSynchronized
  have hl := lv_entry ([.ref (ad 12), .int p1] : List Value) (n := 5) (Nat.le_of_ble_eq_true rfl)
  rw [lg_entry_eq]
  generalize (lg_sl ([.ref (ad 12), .int p1] : List Value) ++ List.replicate (5 - (lg_sl ([.ref (ad 12), .int p1] : List Value)).length) Slot.unset).toArray = ls at hl ⊢
  have hl : lv_has ls 5 [(0, .ref (ad 12)), (1, .int p1)] := hl
  rw [f_Ways_ringDivisor] at hR
  refine lv_iconst (v := 0) hx hb dX5_ringDivisor_0 (by decide) ?_
  refine lv_istore_n (lv' := [(2, .int (0 : Int32)), (0, .ref (ad 12)), (1, .int p1)]) hx hb dX5_ringDivisor_1 rfl hl (by decide) rfl (fun ls hl => ?_)
  refine lv_iconst (v := 1) hx hb dX5_ringDivisor_2 (by decide) ?_
  refine lv_iload_n hx hb dX5_ringDivisor_3 rfl (lv_at hl 2 rfl) ?_
  refine lv_ishl hx hb dX5_ringDivisor_4 ?_
  refine lv_istore_n (lv' := [(3, .int ((1 : Int32) <<< (p1 &&& 31))), (2, .int (0 : Int32)), (0, .ref (ad 12)), (1, .int p1)]) hx hb dX5_ringDivisor_5 rfl hl (by decide) rfl (fun ls hl => ?_)
  refine lv_iconst (v := 1) hx hb dX5_ringDivisor_6 (by decide) ?_
  refine lv_istore (lv' := [(4, .int (1 : Int32)), (3, .int ((1 : Int32) <<< (p1 &&& 31))), (2, .int (0 : Int32)), (0, .ref (ad 12)), (1, .int p1)]) hx hb dX5_ringDivisor_7 hl (by decide) rfl (fun ls hl => ?_)
  have L9_9 : ∀ (n : Nat) (x2_1 : Int32) (x3_2 : Int32) (x4_3 : Int32), ∀ (o_x2_1 : Int32) (o_x3_2 : Int32) (o_x4_3 : Int32), some (o_x2_1, o_x3_2, o_x4_3) = f_Ways_ringDivisor_L9 cnt w tot p1 n x2_1 x3_2 x4_3 → (∀ ls : Array Slot, lv_has ls 5 [(0, .ref (ad 12)), (1, .int p1), (2, .int o_x2_1), (3, .int o_x3_2), (4, .int o_x4_3)] → W p l e (headSpec W_Ways_ringDivisor RM_f_Ways_ringDivisor).room s m ([.ref (ad 12), .int p1] : List Value).toArray below meth c s.heap [] 0 0 (MQ below (roQ (some (.int R0))) ([.ref (ad 12), .int p1] : List Value).toArray s 0 0 (fun _ => False)) (F0 m 53 ls [])) → ∀ ls : Array Slot, lv_has ls 5 [(0, .ref (ad 12)), (1, .int p1), (2, .int x2_1), (3, .int x3_2), (4, .int x4_3)] → W p l e (headSpec W_Ways_ringDivisor RM_f_Ways_ringDivisor).room s m ([.ref (ad 12), .int p1] : List Value).toArray below meth c s.heap [] 0 0 (MQ below (roQ (some (.int R0))) ([.ref (ad 12), .int p1] : List Value).toArray s 0 0 (fun _ => False)) (F0 m 9 ls []) := by
    intro n
    induction n with
    | zero =>
      intro x2_1 x3_2 x4_3 o_x2_1 o_x3_2 o_x4_3 hR
      cases (show some _ = none from hR)
    | succ n ih =>
      intro x2_1 x3_2 x4_3 o_x2_1 o_x3_2 o_x4_3 hR hk ls hl
      rw [f_Ways_ringDivisor_L9_s] at hR
      obtain ⟨y, hR, hQ⟩ := ob hR
      replace hR := hR.symm
      rw [f_Ways_ringDivisor_B9] at hR
      refine lv_iload hx hb dX5_ringDivisor_9 (lv_at hl 4 rfl) ?_
      refine lv_iconst (v := 3) hx hb dX5_ringDivisor_11 (by decide) ?_
      refine lv_aload_n hx hb dX5_ringDivisor_12 rfl (lv_at hl 0 rfl) ?_
      refine va_get (D := (dC, dI)) (ci := 5) (v := .ref (ad 1)) (C := RX5) (T := TX5) (N := 1) hx hb ht hinX5 hown hK hP 12 rfl rfl 0 (by decide) (ht _ k_27) (fun _ h9 => h9) rfl dX5_ringDivisor_13 ?_
      refine va_getN (D := (dC, dI)) (ci := 0) (v := .int cnt) (C := RX0) (T := TX0) (N := 4) hx hb ht hinX0 hown hK hP 1 rfl rfl 3 (by decide) (va_Nw.use rfl (nf_7 hN)) (fun _ h9 => h9) rfl dX5_ringDivisor_16 ?_
      refine lv_imul hx hb dX5_ringDivisor_19 ?_
      refine lv_icmp_gt (tgt := 53) hx hb dX5_ringDivisor_20 (by decide) (fun c4 => ?_) (fun c4 => ?_)
      · replace hR := it_p c4 hR
        cases hR
        cases (show some _ = some _ from hQ)
        exact hk ls (lv_sub hl [0, 1, 2, 3, 4] rfl)
      · replace hR := it_n c4 hR
        refine lv_aload_n hx hb dX5_ringDivisor_23 rfl (lv_at hl 0 rfl) ?_
        refine lv_iload_n hx hb dX5_ringDivisor_24 rfl (lv_at hl 3 rfl) ?_
        obtain ⟨r5, hC, hR⟩ := ob hR
        try dsimp only at hR
        refine ro_calli (va_runV (As := [.int x3_2]) (rest := []) ⟨hx, hb, hml, hown, ht⟩ (c_Ways_oneStepOn l dC dI ad tI tL tII tLL cnt w tot rew grp fin gns rst rws last now nxt whl au al mu ml x3_2 r5 hC.symm) ⟨callB_of 1 ht (goodG k_49) rfl rfl rfl (ht _ k_33) (ht _ k_50) (by decide +kernel) ⟨Nat.le_of_ble_eq_true rfl, Nat.le_of_ble_eq_true rfl⟩, (ht _ k_52), (ht _ k_51)⟩ (pre_v hK hN hP (q0 := 12) (ci := 5) rfl rfl) rfl rfl hl.1 rfl (lv_room (Nat.le_of_ble_eq_true rfl)) dX5_ringDivisor_25 ⟨Nat.zero_le _, Nat.zero_le _⟩) ?_
        refine lv_istore_n (lv' := [(3, .int r5), (0, .ref (ad 12)), (1, .int p1), (2, .int x2_1), (4, .int x4_3)]) hx hb dX5_ringDivisor_28 rfl hl (by decide) rfl (fun ls hl => ?_)
        refine lv_iload_n hx hb dX5_ringDivisor_29 rfl (lv_at hl 0 rfl) ?_
        refine lv_iload_n hx hb dX5_ringDivisor_30 rfl (lv_at hl 2 rfl) ?_
        obtain ⟨r6, hC, hR⟩ := ob hR
        try dsimp only at hR
        refine ro_calli (va_runSN (As := [.int r5, .int p1]) (rest := []) ⟨hx, hb, hml, hown, ht⟩ (c_holds l dC dI ad tI tL tII tLL  r5 p1 r6 hC.symm) ⟨va_cnB 2 ht (goodG k_20) rfl rfl rfl (nm_3 hN) (ht _ k_8) (by decide +kernel) ⟨Nat.le_of_ble_eq_true rfl, Nat.le_of_ble_eq_true rfl⟩, (ht _ k_21), trivial⟩ (pre_s hK hN (hP.sub (ws' := []) [] rfl)) rfl rfl hl.1 rfl (lv_room (Nat.le_of_ble_eq_true rfl)) dX5_ringDivisor_31 ⟨Nat.zero_le _, Nat.zero_le _⟩) ?_
        refine lv_if_eq (tgt := 47) hx hb dX5_ringDivisor_34 (by decide) (fun c7 => ?_) (fun c7 => ?_)
        · replace hR := it_p c7 hR
          refine lv_iinc (v := (x4_3 + 1)) (lv' := [(4, .int (x4_3 + 1)), (3, .int r5), (0, .ref (ad 12)), (1, .int p1), (2, .int x2_1)]) hx hb dX5_ringDivisor_47 hl (k := 4) rfl rfl (by decide) rfl (fun ls hl => ?_)
          refine lv_goto (tgt := 9) hx hb dX5_ringDivisor_50 (by decide) ?_
          cases hR
          exact ih x2_1 r5 (x4_3 + 1) o_x2_1 o_x3_2 o_x4_3 hQ hk ls (lv_sub hl [2, 3, 4, 1, 0] rfl)
        · replace hR := it_n c7 hR
          refine lv_iload_n hx hb dX5_ringDivisor_37 rfl (lv_at hl 3 rfl) ?_
          refine lv_i2l hx hb dX5_ringDivisor_38 rfl ?_
          refine lv_iload hx hb dX5_ringDivisor_39 (lv_at hl 4 rfl) ?_
          refine lv_i2l hx hb dX5_ringDivisor_41 rfl ?_
          obtain ⟨r8, hC, hR⟩ := ob hR
          try dsimp only at hR
          refine ro_calll (va_runSN (As := [.long (x2_1.toInt64), .long (x4_3.toInt64)]) (rest := []) ⟨hx, hb, hml, hown, ht⟩ (c_gcd l dC dI ad tI tL tII tLL  (x2_1.toInt64) (x4_3.toInt64) r8 hC.symm) ⟨va_cnB 2 ht (goodG k_7) rfl rfl rfl (nm_4 hN) (ht _ k_8) (by decide +kernel) ⟨Nat.le_of_ble_eq_true rfl, Nat.le_of_ble_eq_true rfl⟩, (ht _ k_9), trivial⟩ (pre_s hK hN (hP.sub (ws' := []) [] rfl)) rfl rfl hl.1 rfl (lv_room (Nat.le_of_ble_eq_true rfl)) dX5_ringDivisor_42 ⟨Nat.zero_le _, Nat.zero_le _⟩) ?_
          refine lv_l2i hx hb dX5_ringDivisor_45 rfl ?_
          refine lv_istore_n (lv' := [(2, .int (r8.toInt32)), (3, .int r5), (0, .ref (ad 12)), (1, .int p1), (4, .int x4_3)]) hx hb dX5_ringDivisor_46 rfl hl (by decide) rfl (fun ls hl => ?_)
          refine lv_iinc (v := (x4_3 + 1)) (lv' := [(4, .int (x4_3 + 1)), (2, .int (r8.toInt32)), (3, .int r5), (0, .ref (ad 12)), (1, .int p1)]) hx hb dX5_ringDivisor_47 hl (k := 4) rfl rfl (by decide) rfl (fun ls hl => ?_)
          refine lv_goto (tgt := 9) hx hb dX5_ringDivisor_50 (by decide) ?_
          cases hR
          exact ih (r8.toInt32) r5 (x4_3 + 1) o_x2_1 o_x3_2 o_x4_3 hQ hk ls (lv_sub hl [3, 4, 1, 2, 0] rfl)
  obtain ⟨⟨u10, u11, u12⟩, hL, hR⟩ := ob hR
  try dsimp only at hR
  refine L9_9 300 (0 : Int32) ((1 : Int32) <<< (p1 &&& 31)) (1 : Int32) u10 u11 u12 hL.symm (fun ls hl => ?_) ls (lv_sub hl [3, 4, 2, 1, 0] rfl)
  refine lv_iload_n hx hb dX5_ringDivisor_53 rfl (lv_at hl 2 rfl) ?_
  cases hR
  exact W.iret hx hb hr (fun t ht _ => ⟨rfl, ht⟩) t_nil dX5_ringDivisor_54
abbrev RM_f_Likeness_membersOf : Room := { frames := 0, cells := 0, slots := 0, locals := 0 }
abbrev W_Likeness_membersOf : List Cond := .code yX3_membersOf cX3_membersOf 4 (some .int) :: tblG
set_option maxHeartbeats 4000000 in
set_option maxRecDepth 100000 in
theorem c_Likeness_membersOf (l : Launch) (dC : Nat → ClassId) (dI : Nat → Nat → Nat) (ad : Nat → Nat) (tI tL tII tLL : ClassId) (cnt : Int32) (w : Nat → Nat → Int32) (tot : Nat → Int32) (rew : Nat → Int32) (grp : Nat → Int32) (fin : Nat → Int32) (gns : Nat → Int64) (rst : Nat → Int32) (rws : Nat → Nat → Int64) (last : Int32) (now : Nat → Int64) (nxt : Nat → Int64) (whl : Int64) (au : Int64) (al : Int64) (mu : Int64) (ml : Int64) (p1 : Int32) (R0 : Int32) (hR : some R0 = f_Likeness_membersOf cnt grp p1) : Met l yX3_membersOf W_Likeness_membersOf RM_f_Likeness_membersOf (roP (dC, dI) vwCl [(tI, .int), (tL, .long), (tII, .array .int), (tLL, .array .long)] (wC ad tI tL tII tLL cnt w tot rew grp fin gns rst rws last now nxt whl au al mu ml) ([.ref (ad 13), .int p1] : List Value)) (roQ (some (.int R0))) 0 0 (fun _ => False) := by
  refine Met.ofW (cc := cX3_membersOf) (maxL := 4) (ret := (some .int)) (by decide) rfl ?_
  intro p e s m args below meth c s₁ B hml hv
  obtain ⟨rfl, hP, hK, hN⟩ := hv
  have hx := B.exec
  have hb := B.bytes
  have hr := B.returns
  have hts := atoms_spec (ws := W_Likeness_membersOf) B.pre
  have ht := fun (w : Cond) (h : w ∈ tblG) => hts w (List.mem_cons_of_mem _ h)
  have hown : s.vm.findClass RX3 = some m.cls := findClass_of_methodNamed B.named
  have hlocks := B.notSynchronized
  have hl := lv_entry ([.ref (ad 13), .int p1] : List Value) (n := 4) (Nat.le_of_ble_eq_true rfl)
  rw [lg_entry_eq]
  generalize (lg_sl ([.ref (ad 13), .int p1] : List Value) ++ List.replicate (4 - (lg_sl ([.ref (ad 13), .int p1] : List Value)).length) Slot.unset).toArray = ls at hl ⊢
  have hl : lv_has ls 4 [(0, .ref (ad 13)), (1, .int p1)] := hl
  rw [f_Likeness_membersOf] at hR
  refine lv_iconst (v := 0) hx hb dX3_membersOf_0 (by decide) ?_
  refine lv_istore_n (lv' := [(2, .int (0 : Int32)), (0, .ref (ad 13)), (1, .int p1)]) hx hb dX3_membersOf_1 rfl hl (by decide) rfl (fun ls hl => ?_)
  refine lv_iconst (v := 0) hx hb dX3_membersOf_2 (by decide) ?_
  refine lv_istore_n (lv' := [(3, .int (0 : Int32)), (2, .int (0 : Int32)), (0, .ref (ad 13)), (1, .int p1)]) hx hb dX3_membersOf_3 rfl hl (by decide) rfl (fun ls hl => ?_)
  have L4_6 : ∀ (n : Nat) (x2_1 : Int32) (x3_2 : Int32), ∀ (o_x2_1 : Int32) (o_x3_2 : Int32), some (o_x2_1, o_x3_2) = f_Likeness_membersOf_L4 cnt grp p1 n x2_1 x3_2 → (∀ ls : Array Slot, lv_has ls 4 [(0, .ref (ad 13)), (1, .int p1), (2, .int o_x2_1), (3, .int o_x3_2)] → W p l e (headSpec W_Likeness_membersOf RM_f_Likeness_membersOf).room s m ([.ref (ad 13), .int p1] : List Value).toArray below meth c s.heap [] 0 0 (MQ below (roQ (some (.int R0))) ([.ref (ad 13), .int p1] : List Value).toArray s 0 0 (fun _ => False)) (F0 m 37 ls [])) → ∀ ls : Array Slot, lv_has ls 4 [(0, .ref (ad 13)), (1, .int p1), (2, .int x2_1), (3, .int x3_2)] → W p l e (headSpec W_Likeness_membersOf RM_f_Likeness_membersOf).room s m ([.ref (ad 13), .int p1] : List Value).toArray below meth c s.heap [] 0 0 (MQ below (roQ (some (.int R0))) ([.ref (ad 13), .int p1] : List Value).toArray s 0 0 (fun _ => False)) (F0 m 4 ls []) := by
    intro n
    induction n with
    | zero =>
      intro x2_1 x3_2 o_x2_1 o_x3_2 hR
      cases (show some _ = none from hR)
    | succ n ih =>
      intro x2_1 x3_2 o_x2_1 o_x3_2 hR hk ls hl
      rw [f_Likeness_membersOf_L4_s] at hR
      obtain ⟨y, hR, hQ⟩ := ob hR
      replace hR := hR.symm
      rw [f_Likeness_membersOf_B4] at hR
      refine lv_iload_n hx hb dX3_membersOf_4 rfl (lv_at hl 3 rfl) ?_
      refine lv_aload_n hx hb dX3_membersOf_5 rfl (lv_at hl 0 rfl) ?_
      refine va_get (D := (dC, dI)) (ci := 3) (v := .ref (ad 1)) (C := RX3) (T := TX3) (N := 3) hx hb ht hinX3 hown hK hP 13 rfl rfl 0 (by decide) (ht _ k_53) (fun _ h9 => h9) rfl dX3_membersOf_6 ?_
      refine va_getN (D := (dC, dI)) (ci := 0) (v := .int cnt) (C := RX0) (T := TX0) (N := 4) hx hb ht hinX0 hown hK hP 1 rfl rfl 3 (by decide) (va_Nw.use rfl (nf_5 hN)) (fun _ h9 => h9) rfl dX3_membersOf_9 ?_
      refine lv_icmp_ge (tgt := 37) hx hb dX3_membersOf_12 (by decide) (fun c3 => ?_) (fun c3 => ?_)
      · replace hR := it_p c3 hR
        cases hR
        cases (show some _ = some _ from hQ)
        exact hk ls (lv_sub hl [0, 1, 2, 3] rfl)
      · replace hR := it_n c3 hR
        refine lv_aload_n hx hb dX3_membersOf_15 rfl (lv_at hl 0 rfl) ?_
        refine va_get (D := (dC, dI)) (ci := 3) (v := .ref (ad 14)) (C := RX3) (T := TX3) (N := 3) hx hb ht hinX3 hown hK hP 13 rfl rfl 1 (by decide) (ht _ k_54) (fun _ h9 => h9) rfl dX3_membersOf_16 ?_
        refine lv_iload_n hx hb dX3_membersOf_19 rfl (lv_at hl 3 rfl) ?_
        obtain ⟨z4, hR⟩ := og hR
        refine va_iald hx hb hK hP 14 0 rfl rfl (ix_in z4) dX3_membersOf_20 ?_
        refine lv_iload_n hx hb dX3_membersOf_21 rfl (lv_at hl 1 rfl) ?_
        refine lv_icmp_ne (tgt := 31) hx hb dX3_membersOf_22 (by decide) (fun c5 => ?_) (fun c5 => ?_)
        · replace hR := it_n c5 hR
          refine lv_iinc (v := (x3_2 + 1)) (lv' := [(3, .int (x3_2 + 1)), (0, .ref (ad 13)), (1, .int p1), (2, .int x2_1)]) hx hb dX3_membersOf_31 hl (k := 3) rfl rfl (by decide) rfl (fun ls hl => ?_)
          refine lv_goto (tgt := 4) hx hb dX3_membersOf_34 (by decide) ?_
          cases hR
          exact ih x2_1 (x3_2 + 1) o_x2_1 o_x3_2 hQ hk ls (lv_sub hl [1, 2, 3, 0] rfl)
        · replace hR := it_p c5 hR
          refine lv_iload_n hx hb dX3_membersOf_25 rfl (lv_at hl 2 rfl) ?_
          refine lv_iconst (v := 1) hx hb dX3_membersOf_26 (by decide) ?_
          refine lv_iload_n hx hb dX3_membersOf_27 rfl (lv_at hl 3 rfl) ?_
          refine lv_ishl hx hb dX3_membersOf_28 ?_
          refine lv_ior hx hb dX3_membersOf_29 ?_
          refine lv_istore_n (lv' := [(2, .int (x2_1 ||| ((1 : Int32) <<< (x3_2 &&& 31)))), (0, .ref (ad 13)), (1, .int p1), (3, .int x3_2)]) hx hb dX3_membersOf_30 rfl hl (by decide) rfl (fun ls hl => ?_)
          refine lv_iinc (v := (x3_2 + 1)) (lv' := [(3, .int (x3_2 + 1)), (2, .int (x2_1 ||| ((1 : Int32) <<< (x3_2 &&& 31)))), (0, .ref (ad 13)), (1, .int p1)]) hx hb dX3_membersOf_31 hl (k := 3) rfl rfl (by decide) rfl (fun ls hl => ?_)
          refine lv_goto (tgt := 4) hx hb dX3_membersOf_34 (by decide) ?_
          cases hR
          exact ih (x2_1 ||| ((1 : Int32) <<< (x3_2 &&& 31))) (x3_2 + 1) o_x2_1 o_x3_2 hQ hk ls (lv_sub hl [2, 3, 1, 0] rfl)
  obtain ⟨⟨u7, u8⟩, hL, hR⟩ := ob hR
  try dsimp only at hR
  refine L4_6 300 (0 : Int32) (0 : Int32) u7 u8 hL.symm (fun ls hl => ?_) ls (lv_sub hl [2, 3, 1, 0] rfl)
  refine lv_iload_n hx hb dX3_membersOf_37 rfl (lv_at hl 2 rfl) ?_
  cases hR
  exact W.iret hx hb hr (fun t ht _ => ⟨rfl, ht⟩) t_nil dX3_membersOf_38
