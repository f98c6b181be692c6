/-! CT2: the constructor of ChainSolves -/
abbrev wC0 (ad : Nat → Nat) (tI tL tII tLL : ClassId) : va_W := wC ad tI tL tII tLL 0 (fun _ _ => 0) (fun _ => 0) (fun _ => 0) (fun _ => 0) (fun _ => 0) (fun _ => 0) (fun _ => 0) (fun _ _ => 0) 0 (fun _ => 0) (fun _ => 0) 1 0 1 0 1
abbrev wJ6 (h0 : Nat) : va_W := [(h0, .inr (6, [.null, .null, .null, .null, .null, .null, .null]))]
abbrev RM_X6_init : Room := { frames := 2, cells := 32, slots := 214, locals := 33 }
abbrev W_X6_init : List Cond := .code yX6_init cX6_init 1 none :: tblN
set_option maxHeartbeats 4000000 in
set_option maxRecDepth 100000 in
theorem c_X6_init (l : Launch) (dC : Nat → ClassId) (dI : Nat → Nat → Nat) (tI tL tII tLL : ClassId) (h0 : Nat) (sz : Nat) : Met l yX6_init W_X6_init RM_X6_init (inP (dC, dI) vwCl (tysA tI tL tII tLL) (wJ6 h0) [.ref h0] sz) (va_Qv (fun ad : Nat → Nat => ad 0 = h0) (fun ad t => va_P (dC, dI) vwCl (wC0 ad tI tL tII tLL) t.heap ∧ va_D (va_A (wJ6 h0) sz) (wC0 ad tI tL tII tLL)) (va_A (wJ6 h0) sz)) 32 214 (va_A (wJ6 h0) sz) := by
  refine Met.ofW (cc := cX6_init) (maxL := 1) (ret := none) (by decide) rfl ?_
  intro p e s m args below meth c s₁ B hml hv
  obtain ⟨rfl, hsz, hP, hK, hN, hO1, hO2, hD0⟩ := hv
  have hx := B.exec
  have hb := B.bytes
  have hr := B.returns
  have hts := atoms_spec (ws := W_X6_init) B.pre
  have ht := fun (w : Cond) (h : w ∈ tblN) => hts w (List.mem_cons_of_mem _ h)
  have hown : s.vm.findClass RX6 = some m.cls := findClass_of_methodNamed B.named
  have hlocks := B.notSynchronized
  have hin : meth.name = "<init>" := (name_of_methodNamed B.named B.method).1
  subst hsz
  have hD := hD0.self (sz := s.heap.size)
  generalize hAe : va_A (wJ6 h0) s.heap.size = A at hD ⊢
  have hA : ∀ q : Nat, s.heap.size ≤ q → A q := fun q h => by rw [← hAe]; exact Or.inr h
  have hS : va_S A s.heap s.heap [] := va_S.rf
  have hl := lv_entry ([.ref h0] : List Value) (n := 1) (Nat.le_of_ble_eq_true rfl)
  rw [lg_entry_eq]
  generalize (lg_sl ([.ref h0] : List Value) ++ List.replicate (1 - (lg_sl ([.ref h0] : List Value)).length) Slot.unset).toArray = ls at hl ⊢
  have hl : lv_has ls 1 [(0, .ref h0)] := hl
  refine lv_aload_n hx hb dX6_init_0 rfl (lv_at hl 0 rfl) ?_
  refine W.objInit hx hb hown (ht _ kn_8) (ht _ kn_0) (ht _ kn_1) rfl (by rw [hml]; exact hl.1) rfl dX6_init_1 (Nat.le_of_ble_eq_true rfl) (Nat.le_of_ble_eq_true rfl) ?_
  refine W.eq (g2 := F0 m 4 ls []) rfl ?_
  refine lv_aload_n hx hb dX6_init_4 rfl (lv_at hl 0 rfl) ?_
  refine va_new (ci := 0) (fs := [.null, .null, .null, .int 0]) (C := RX0) (T := TX0) (N := 4) hx hb ht hinN0 tyX0 tyX0_ok hown (ht _ kn_14) (ht _ kn_15) (ht _ kn_16) hK hP hD hS hA rfl (fun j hj => by rcases (show j = 0 ∨ j = 1 ∨ j = 2 ∨ j = 3 by omega) with rfl | rfl | rfl | rfl <;> rfl) (Nat.le_of_ble_eq_true rfl) (Nat.le_of_ble_eq_true rfl) dX6_init_5 (fun q5 H hP hD hS => ?_)
  have hP : va_P (dC, dI) vwCl (([(h0, .inr (6, [.null, .null, .null, .null, .null, .null, .null]))] : va_W) ++ wJ0 q5) H := hP
  have hD : va_D A (([(h0, .inr (6, [.null, .null, .null, .null, .null, .null, .null]))] : va_W) ++ wJ0 q5) := hD
  refine W.widen (k := 1) (n := 4) (by omega) (by omega) ?_
  refine lv_dup hx hb dX6_init_8 rfl ?_
  have hPc := hP.sub (ws' := wJ0 q5) [1] rfl
  have hDc := hD.sub (ws' := wJ0 q5) [1] (by decide) rfl
  have hFc := va_free (wc := wJ0 q5) hD hS hA [1] rfl
  refine va_callv (va_runIN (As := []) (rest := [.ref q5, .ref h0]) ⟨hx, hb, hml, hown, ht⟩ (c_X0_init l dC dI tI tL tII tLL q5 H.size) ⟨va_cnB 0 ht (goodN kn_32) rfl rfl rfl (nm_0 hN) (ht _ kn_16) (by decide +kernel) ⟨Nat.le_of_ble_eq_true rfl, Nat.le_of_ble_eq_true rfl⟩, rfl, (ht _ kn_33)⟩ (pre_in hK hN hO1 hO2 hPc hDc) rfl rfl hl.1 rfl (lv_room (Nat.le_of_ble_eq_true rfl)) dX6_init_9 ⟨Nat.le_of_ble_eq_true rfl, Nat.le_of_ble_eq_true rfl⟩) hS (fun q _ h => hFc q h) hFc (fun u t H1 locs ht9 hvm _ hB hz1 hk1 hS => ?_)
  obtain ⟨ad0, r0⟩ := u
  obtain ⟨hP1, hD1⟩ := hB
  rw [ht9] at hP1
  obtain ⟨hP, hD⟩ := va_join (wr := ([(h0, .inr (6, [.null, .null, .null, .null, .null, .null, .null]))] : va_W)) (w1 := wI0 tI tL tII tLL q5 ad0 r0) hP hD [1] [0] rfl rfl (by decide) (by decide) hk1 hFc hP1 hD1
  generalize H1 = H at hP hS ⊢
  refine W.widen (k := 11) (n := 74) (by omega) (by omega) ?_
  refine va_putF (D := (dC, dI)) (ci := 6) (v := .ref q5) (ty := .object "ChainSolves$Chain") (C := RX6) (T := TX6) (N := 7) hx hb ht hinN6 tyX6 tyX6_ok nmX6 hown hK hP hD hS 0 rfl rfl 0 (by decide) (ht _ kn_67) (fun _ h9 => h9) rfl hin rfl (by decide +kernel) rfl rfl (Nat.le_of_ble_eq_true rfl) dX6_init_12 (fun H locs hP hD hS => ?_)
  have hP : va_P (dC, dI) vwCl (([(h0, .inr (6, [.ref q5, .null, .null, .null, .null, .null, .null]))] : va_W) ++ wI0 tI tL tII tLL q5 ad0 r0) H := hP
  have hD : va_D A (([(h0, .inr (6, [.ref q5, .null, .null, .null, .null, .null, .null]))] : va_W) ++ wI0 tI tL tII tLL q5 ad0 r0) := hD
  refine lv_aload_n hx hb dX6_init_15 rfl (lv_at hl 0 rfl) ?_
  refine va_new (ci := 5) (fs := [.null]) (C := RX5) (T := TX5) (N := 1) hx hb ht hinN5 tyX5 tyX5_ok hown (ht _ kn_17) (ht _ kn_18) (ht _ kn_19) hK hP hD hS hA rfl (fun j hj => by rcases (show j = 0 by omega) with rfl <;> rfl) (Nat.le_of_ble_eq_true rfl) (Nat.le_of_ble_eq_true rfl) dX6_init_16 (fun q16 H hP hD hS => ?_)
  have hP : va_P (dC, dI) vwCl ((([(h0, .inr (6, [.ref q5, .null, .null, .null, .null, .null, .null]))] : va_W) ++ wI0 tI tL tII tLL q5 ad0 r0) ++ wJ5 q16) H := hP
  have hD : va_D A ((([(h0, .inr (6, [.ref q5, .null, .null, .null, .null, .null, .null]))] : va_W) ++ wI0 tI tL tII tLL q5 ad0 r0) ++ wJ5 q16) := hD
  refine W.widen (k := 12) (n := 75) (by omega) (by omega) ?_
  refine lv_dup hx hb dX6_init_19 rfl ?_
  refine lv_aload_n hx hb dX6_init_20 rfl (lv_at hl 0 rfl) ?_
  refine va_get (D := (dC, dI)) (ci := 6) (v := .ref q5) (C := RX6) (T := TX6) (N := 7) hx hb ht hinN6 hown hK hP 0 rfl rfl 0 (by decide) (ht _ kn_67) (fun _ h9 => h9) rfl dX6_init_21 ?_
  have hPc := hP.sub (ws' := wJ5 q16) [12] rfl
  have hDc := hD.sub (ws' := wJ5 q16) [12] (by decide) rfl
  have hFc := va_free (wc := wJ5 q16) hD hS hA [12] rfl
  refine va_callv (va_runI (As := [.ref q5]) (rest := [.ref q16, .ref h0]) ⟨hx, hb, hml, hown, ht⟩ (c_X5_init l dC dI tI tL tII tLL q16 q5 H.size) (cwI 1 ht (goodN kn_42) rfl rfl rfl (ht _ kn_19) (ht _ kn_44) (ht _ kn_43) rfl (by decide +kernel) ⟨Nat.le_of_ble_eq_true rfl, Nat.le_of_ble_eq_true rfl⟩) (pre_in hK hN hO1 hO2 hPc hDc) rfl rfl hl.1 rfl (lv_room (Nat.le_of_ble_eq_true rfl)) dX6_init_24 ⟨Nat.le_of_ble_eq_true rfl, Nat.le_of_ble_eq_true rfl⟩) hS (fun q _ h => hFc q h) hFc (fun u t H1 locs ht9 hvm _ hB hz1 hk1 hS => ?_)
  obtain ⟨ad1, r1⟩ := u
  obtain ⟨hP1, hD1⟩ := hB
  rw [ht9] at hP1
  obtain ⟨hP, hD⟩ := va_join (wr := (([(h0, .inr (6, [.ref q5, .null, .null, .null, .null, .null, .null]))] : va_W) ++ wI0 tI tL tII tLL q5 ad0 r0)) (w1 := wI5 tI tL tII tLL q16 q5 ad1 r1) hP hD [12] [0, 1, 2, 3, 4, 5, 6, 7, 8, 9, 10, 11] rfl rfl (by decide) (by decide) hk1 hFc hP1 hD1
  generalize H1 = H at hP hS ⊢
  refine W.widen (k := 12) (n := 75) (by omega) (by omega) ?_
  refine va_putF (D := (dC, dI)) (ci := 6) (v := .ref q16) (ty := .object "ChainSolves$Ways") (C := RX6) (T := TX6) (N := 7) hx hb ht hinN6 tyX6 tyX6_ok nmX6 hown hK hP hD hS 0 rfl rfl 1 (by decide) (ht _ kn_68) (fun _ h9 => h9) rfl hin rfl (by decide +kernel) rfl rfl (Nat.le_of_ble_eq_true rfl) dX6_init_27 (fun H locs hP hD hS => ?_)
  have hP : va_P (dC, dI) vwCl ((([(h0, .inr (6, [.ref q5, .ref q16, .null, .null, .null, .null, .null]))] : va_W) ++ wI0 tI tL tII tLL q5 ad0 r0) ++ wI5 tI tL tII tLL q16 q5 ad1 r1) H := hP
  have hD : va_D A ((([(h0, .inr (6, [.ref q5, .ref q16, .null, .null, .null, .null, .null]))] : va_W) ++ wI0 tI tL tII tLL q5 ad0 r0) ++ wI5 tI tL tII tLL q16 q5 ad1 r1) := hD
  refine lv_aload_n hx hb dX6_init_30 rfl (lv_at hl 0 rfl) ?_
  refine va_new (ci := 3) (fs := [.null, .null, .null]) (C := RX3) (T := TX3) (N := 3) hx hb ht hinN3 tyX3 tyX3_ok hown (ht _ kn_20) (ht _ kn_21) (ht _ kn_22) hK hP hD hS hA rfl (fun j hj => by rcases (show j = 0 ∨ j = 1 ∨ j = 2 by omega) with rfl | rfl | rfl <;> rfl) (Nat.le_of_ble_eq_true rfl) (Nat.le_of_ble_eq_true rfl) dX6_init_31 (fun q31 H hP hD hS => ?_)
  have hP : va_P (dC, dI) vwCl (((([(h0, .inr (6, [.ref q5, .ref q16, .null, .null, .null, .null, .null]))] : va_W) ++ wI0 tI tL tII tLL q5 ad0 r0) ++ wI5 tI tL tII tLL q16 q5 ad1 r1) ++ wJ3 q31) H := hP
  have hD : va_D A (((([(h0, .inr (6, [.ref q5, .ref q16, .null, .null, .null, .null, .null]))] : va_W) ++ wI0 tI tL tII tLL q5 ad0 r0) ++ wI5 tI tL tII tLL q16 q5 ad1 r1) ++ wJ3 q31) := hD
  refine W.widen (k := 13) (n := 78) (by omega) (by omega) ?_
  refine lv_dup hx hb dX6_init_34 rfl ?_
  refine lv_aload_n hx hb dX6_init_35 rfl (lv_at hl 0 rfl) ?_
  refine va_get (D := (dC, dI)) (ci := 6) (v := .ref q5) (C := RX6) (T := TX6) (N := 7) hx hb ht hinN6 hown hK hP 0 rfl rfl 0 (by decide) (ht _ kn_67) (fun _ h9 => h9) rfl dX6_init_36 ?_
  have hPc := hP.sub (ws' := wJ3 q31) [13] rfl
  have hDc := hD.sub (ws' := wJ3 q31) [13] (by decide) rfl
  have hFc := va_free (wc := wJ3 q31) hD hS hA [13] rfl
  refine va_callv (va_runI (As := [.ref q5]) (rest := [.ref q31, .ref h0]) ⟨hx, hb, hml, hown, ht⟩ (c_X3_init l dC dI tI tL tII tLL q31 q5 H.size) (cwI 1 ht (goodN kn_38) rfl rfl rfl (ht _ kn_22) (ht _ kn_45) (ht _ kn_39) rfl (by decide +kernel) ⟨Nat.le_of_ble_eq_true rfl, Nat.le_of_ble_eq_true rfl⟩) (pre_in hK hN hO1 hO2 hPc hDc) rfl rfl hl.1 rfl (lv_room (Nat.le_of_ble_eq_true rfl)) dX6_init_39 ⟨Nat.le_of_ble_eq_true rfl, Nat.le_of_ble_eq_true rfl⟩) hS (fun q _ h => hFc q h) hFc (fun u t H1 locs ht9 hvm _ hB hz1 hk1 hS => ?_)
  obtain ⟨ad2, r2⟩ := u
  obtain ⟨hP1, hD1⟩ := hB
  rw [ht9] at hP1
  obtain ⟨hP, hD⟩ := va_join (wr := ((([(h0, .inr (6, [.ref q5, .ref q16, .null, .null, .null, .null, .null]))] : va_W) ++ wI0 tI tL tII tLL q5 ad0 r0) ++ wI5 tI tL tII tLL q16 q5 ad1 r1)) (w1 := wI3 tI tL tII tLL q31 q5 ad2 r2) hP hD [13] [0, 1, 2, 3, 4, 5, 6, 7, 8, 9, 10, 11, 12] rfl rfl (by decide) (by decide) hk1 hFc hP1 hD1
  generalize H1 = H at hP hS ⊢
  refine W.widen (k := 15) (n := 92) (by omega) (by omega) ?_
  refine va_putF (D := (dC, dI)) (ci := 6) (v := .ref q31) (ty := .object "ChainSolves$Likeness") (C := RX6) (T := TX6) (N := 7) hx hb ht hinN6 tyX6 tyX6_ok nmX6 hown hK hP hD hS 0 rfl rfl 2 (by decide) (ht _ kn_69) (fun _ h9 => h9) rfl hin rfl (by decide +kernel) rfl rfl (Nat.le_of_ble_eq_true rfl) dX6_init_42 (fun H locs hP hD hS => ?_)
  have hP : va_P (dC, dI) vwCl (((([(h0, .inr (6, [.ref q5, .ref q16, .ref q31, .null, .null, .null, .null]))] : va_W) ++ wI0 tI tL tII tLL q5 ad0 r0) ++ wI5 tI tL tII tLL q16 q5 ad1 r1) ++ wI3 tI tL tII tLL q31 q5 ad2 r2) H := hP
  have hD : va_D A (((([(h0, .inr (6, [.ref q5, .ref q16, .ref q31, .null, .null, .null, .null]))] : va_W) ++ wI0 tI tL tII tLL q5 ad0 r0) ++ wI5 tI tL tII tLL q16 q5 ad1 r1) ++ wI3 tI tL tII tLL q31 q5 ad2 r2) := hD
  refine lv_aload_n hx hb dX6_init_45 rfl (lv_at hl 0 rfl) ?_
  refine va_new (ci := 1) (fs := [.null, .null, .null, .null, .int 0]) (C := RX1) (T := TX1) (N := 5) hx hb ht hinN1 tyX1 tyX1_ok hown (ht _ kn_23) (ht _ kn_24) (ht _ kn_25) hK hP hD hS hA rfl (fun j hj => by rcases (show j = 0 ∨ j = 1 ∨ j = 2 ∨ j = 3 ∨ j = 4 by omega) with rfl | rfl | rfl | rfl | rfl <;> rfl) (Nat.le_of_ble_eq_true rfl) (Nat.le_of_ble_eq_true rfl) dX6_init_46 (fun q46 H hP hD hS => ?_)
  have hP : va_P (dC, dI) vwCl ((((([(h0, .inr (6, [.ref q5, .ref q16, .ref q31, .null, .null, .null, .null]))] : va_W) ++ wI0 tI tL tII tLL q5 ad0 r0) ++ wI5 tI tL tII tLL q16 q5 ad1 r1) ++ wI3 tI tL tII tLL q31 q5 ad2 r2) ++ wJ1 q46) H := hP
  have hD : va_D A ((((([(h0, .inr (6, [.ref q5, .ref q16, .ref q31, .null, .null, .null, .null]))] : va_W) ++ wI0 tI tL tII tLL q5 ad0 r0) ++ wI5 tI tL tII tLL q16 q5 ad1 r1) ++ wI3 tI tL tII tLL q31 q5 ad2 r2) ++ wJ1 q46) := hD
  refine W.widen (k := 16) (n := 97) (by omega) (by omega) ?_
  refine lv_dup hx hb dX6_init_49 rfl ?_
  refine lv_aload_n hx hb dX6_init_50 rfl (lv_at hl 0 rfl) ?_
  refine va_get (D := (dC, dI)) (ci := 6) (v := .ref q5) (C := RX6) (T := TX6) (N := 7) hx hb ht hinN6 hown hK hP 0 rfl rfl 0 (by decide) (ht _ kn_67) (fun _ h9 => h9) rfl dX6_init_51 ?_
  have hPc := hP.sub (ws' := wJ1 q46) [16] rfl
  have hDc := hD.sub (ws' := wJ1 q46) [16] (by decide) rfl
  have hFc := va_free (wc := wJ1 q46) hD hS hA [16] rfl
  refine va_callv (va_runI (As := [.ref q5]) (rest := [.ref q46, .ref h0]) ⟨hx, hb, hml, hown, ht⟩ (c_X1_init l dC dI tI tL tII tLL q46 q5 H.size) (cwI 1 ht (goodN kn_34) rfl rfl rfl (ht _ kn_25) (ht _ kn_46) (ht _ kn_35) rfl (by decide +kernel) ⟨Nat.le_of_ble_eq_true rfl, Nat.le_of_ble_eq_true rfl⟩) (pre_in hK hN hO1 hO2 hPc hDc) rfl rfl hl.1 rfl (lv_room (Nat.le_of_ble_eq_true rfl)) dX6_init_54 ⟨Nat.le_of_ble_eq_true rfl, Nat.le_of_ble_eq_true rfl⟩) hS (fun q _ h => hFc q h) hFc (fun u t H1 locs ht9 hvm _ hB hz1 hk1 hS => ?_)
  obtain ⟨ad3, r3⟩ := u
  obtain ⟨hP1, hD1⟩ := hB
  rw [ht9] at hP1
  obtain ⟨hP, hD⟩ := va_join (wr := (((([(h0, .inr (6, [.ref q5, .ref q16, .ref q31, .null, .null, .null, .null]))] : va_W) ++ wI0 tI tL tII tLL q5 ad0 r0) ++ wI5 tI tL tII tLL q16 q5 ad1 r1) ++ wI3 tI tL tII tLL q31 q5 ad2 r2)) (w1 := wI1 tI tL tII tLL q46 q5 ad3 r3) hP hD [16] [0, 1, 2, 3, 4, 5, 6, 7, 8, 9, 10, 11, 12, 13, 14, 15] rfl rfl (by decide) (by decide) hk1 hFc hP1 hD1
  generalize H1 = H at hP hS ⊢
  refine W.widen (k := 27) (n := 192) (by omega) (by omega) ?_
  refine va_putF (D := (dC, dI)) (ci := 6) (v := .ref q46) (ty := .object "ChainSolves$FirstSteps") (C := RX6) (T := TX6) (N := 7) hx hb ht hinN6 tyX6 tyX6_ok nmX6 hown hK hP hD hS 0 rfl rfl 3 (by decide) (ht _ kn_70) (fun _ h9 => h9) rfl hin rfl (by decide +kernel) rfl rfl (Nat.le_of_ble_eq_true rfl) dX6_init_57 (fun H locs hP hD hS => ?_)
  have hP : va_P (dC, dI) vwCl ((((([(h0, .inr (6, [.ref q5, .ref q16, .ref q31, .ref q46, .null, .null, .null]))] : va_W) ++ wI0 tI tL tII tLL q5 ad0 r0) ++ wI5 tI tL tII tLL q16 q5 ad1 r1) ++ wI3 tI tL tII tLL q31 q5 ad2 r2) ++ wI1 tI tL tII tLL q46 q5 ad3 r3) H := hP
  have hD : va_D A ((((([(h0, .inr (6, [.ref q5, .ref q16, .ref q31, .ref q46, .null, .null, .null]))] : va_W) ++ wI0 tI tL tII tLL q5 ad0 r0) ++ wI5 tI tL tII tLL q16 q5 ad1 r1) ++ wI3 tI tL tII tLL q31 q5 ad2 r2) ++ wI1 tI tL tII tLL q46 q5 ad3 r3) := hD
  refine lv_aload_n hx hb dX6_init_60 rfl (lv_at hl 0 rfl) ?_
  refine va_new (ci := 4) (fs := [.null, .null, .null, .long 0]) (C := RX4) (T := TX4) (N := 4) hx hb ht hinN4 tyX4 tyX4_ok hown (ht _ kn_26) (ht _ kn_27) (ht _ kn_28) hK hP hD hS hA rfl (fun j hj => by rcases (show j = 0 ∨ j = 1 ∨ j = 2 ∨ j = 3 by omega) with rfl | rfl | rfl | rfl <;> rfl) (Nat.le_of_ble_eq_true rfl) (Nat.le_of_ble_eq_true rfl) dX6_init_61 (fun q61 H hP hD hS => ?_)
  have hP : va_P (dC, dI) vwCl (((((([(h0, .inr (6, [.ref q5, .ref q16, .ref q31, .ref q46, .null, .null, .null]))] : va_W) ++ wI0 tI tL tII tLL q5 ad0 r0) ++ wI5 tI tL tII tLL q16 q5 ad1 r1) ++ wI3 tI tL tII tLL q31 q5 ad2 r2) ++ wI1 tI tL tII tLL q46 q5 ad3 r3) ++ wJ4 q61) H := hP
  have hD : va_D A (((((([(h0, .inr (6, [.ref q5, .ref q16, .ref q31, .ref q46, .null, .null, .null]))] : va_W) ++ wI0 tI tL tII tLL q5 ad0 r0) ++ wI5 tI tL tII tLL q16 q5 ad1 r1) ++ wI3 tI tL tII tLL q31 q5 ad2 r2) ++ wI1 tI tL tII tLL q46 q5 ad3 r3) ++ wJ4 q61) := hD
  refine W.widen (k := 28) (n := 196) (by omega) (by omega) ?_
  refine lv_dup hx hb dX6_init_64 rfl ?_
  refine lv_aload_n hx hb dX6_init_65 rfl (lv_at hl 0 rfl) ?_
  refine va_get (D := (dC, dI)) (ci := 6) (v := .ref q5) (C := RX6) (T := TX6) (N := 7) hx hb ht hinN6 hown hK hP 0 rfl rfl 0 (by decide) (ht _ kn_67) (fun _ h9 => h9) rfl dX6_init_66 ?_
  have hPc := hP.sub (ws' := wJ4 q61) [28] rfl
  have hDc := hD.sub (ws' := wJ4 q61) [28] (by decide) rfl
  have hFc := va_free (wc := wJ4 q61) hD hS hA [28] rfl
  refine va_callv (va_runI (As := [.ref q5]) (rest := [.ref q61, .ref h0]) ⟨hx, hb, hml, hown, ht⟩ (c_X4_init l dC dI tI tL tII tLL q61 q5 H.size) (cwI 1 ht (goodN kn_40) rfl rfl rfl (ht _ kn_28) (ht _ kn_47) (ht _ kn_41) rfl (by decide +kernel) ⟨Nat.le_of_ble_eq_true rfl, Nat.le_of_ble_eq_true rfl⟩) (pre_in hK hN hO1 hO2 hPc hDc) rfl rfl hl.1 rfl (lv_room (Nat.le_of_ble_eq_true rfl)) dX6_init_69 ⟨Nat.le_of_ble_eq_true rfl, Nat.le_of_ble_eq_true rfl⟩) hS (fun q _ h => hFc q h) hFc (fun u t H1 locs ht9 hvm _ hB hz1 hk1 hS => ?_)
  obtain ⟨ad4, r4⟩ := u
  obtain ⟨hP1, hD1⟩ := hB
  rw [ht9] at hP1
  obtain ⟨hP, hD⟩ := va_join (wr := ((((([(h0, .inr (6, [.ref q5, .ref q16, .ref q31, .ref q46, .null, .null, .null]))] : va_W) ++ wI0 tI tL tII tLL q5 ad0 r0) ++ wI5 tI tL tII tLL q16 q5 ad1 r1) ++ wI3 tI tL tII tLL q31 q5 ad2 r2) ++ wI1 tI tL tII tLL q46 q5 ad3 r3)) (w1 := wI4 tI tL tII tLL q61 q5 ad4 r4) hP hD [28] [0, 1, 2, 3, 4, 5, 6, 7, 8, 9, 10, 11, 12, 13, 14, 15, 16, 17, 18, 19, 20, 21, 22, 23, 24, 25, 26, 27] rfl rfl (by decide) (by decide) hk1 hFc hP1 hD1
  generalize H1 = H at hP hS ⊢
  refine W.widen (k := 30) (n := 210) (by omega) (by omega) ?_
  refine va_putF (D := (dC, dI)) (ci := 6) (v := .ref q61) (ty := .object "ChainSolves$Spread") (C := RX6) (T := TX6) (N := 7) hx hb ht hinN6 tyX6 tyX6_ok nmX6 hown hK hP hD hS 0 rfl rfl 4 (by decide) (ht _ kn_71) (fun _ h9 => h9) rfl hin rfl (by decide +kernel) rfl rfl (Nat.le_of_ble_eq_true rfl) dX6_init_72 (fun H locs hP hD hS => ?_)
  have hP : va_P (dC, dI) vwCl (((((([(h0, .inr (6, [.ref q5, .ref q16, .ref q31, .ref q46, .ref q61, .null, .null]))] : va_W) ++ wI0 tI tL tII tLL q5 ad0 r0) ++ wI5 tI tL tII tLL q16 q5 ad1 r1) ++ wI3 tI tL tII tLL q31 q5 ad2 r2) ++ wI1 tI tL tII tLL q46 q5 ad3 r3) ++ wI4 tI tL tII tLL q61 q5 ad4 r4) H := hP
  have hD : va_D A (((((([(h0, .inr (6, [.ref q5, .ref q16, .ref q31, .ref q46, .ref q61, .null, .null]))] : va_W) ++ wI0 tI tL tII tLL q5 ad0 r0) ++ wI5 tI tL tII tLL q16 q5 ad1 r1) ++ wI3 tI tL tII tLL q31 q5 ad2 r2) ++ wI1 tI tL tII tLL q46 q5 ad3 r3) ++ wI4 tI tL tII tLL q61 q5 ad4 r4) := hD
  refine lv_aload_n hx hb dX6_init_75 rfl (lv_at hl 0 rfl) ?_
  refine va_new (ci := 2) (fs := [.long 0, .long 0]) (C := RX2) (T := TX2) (N := 2) hx hb ht hinN2 tyX2 tyX2_ok hown (ht _ kn_29) (ht _ kn_30) (ht _ kn_31) hK hP hD hS hA rfl (fun j hj => by rcases (show j = 0 ∨ j = 1 by omega) with rfl | rfl <;> rfl) (Nat.le_of_ble_eq_true rfl) (Nat.le_of_ble_eq_true rfl) dX6_init_76 (fun q76 H hP hD hS => ?_)
  have hP : va_P (dC, dI) vwCl ((((((([(h0, .inr (6, [.ref q5, .ref q16, .ref q31, .ref q46, .ref q61, .null, .null]))] : va_W) ++ wI0 tI tL tII tLL q5 ad0 r0) ++ wI5 tI tL tII tLL q16 q5 ad1 r1) ++ wI3 tI tL tII tLL q31 q5 ad2 r2) ++ wI1 tI tL tII tLL q46 q5 ad3 r3) ++ wI4 tI tL tII tLL q61 q5 ad4 r4) ++ wJ2 q76) H := hP
  have hD : va_D A ((((((([(h0, .inr (6, [.ref q5, .ref q16, .ref q31, .ref q46, .ref q61, .null, .null]))] : va_W) ++ wI0 tI tL tII tLL q5 ad0 r0) ++ wI5 tI tL tII tLL q16 q5 ad1 r1) ++ wI3 tI tL tII tLL q31 q5 ad2 r2) ++ wI1 tI tL tII tLL q46 q5 ad3 r3) ++ wI4 tI tL tII tLL q61 q5 ad4 r4) ++ wJ2 q76) := hD
  refine W.widen (k := 31) (n := 212) (by omega) (by omega) ?_
  refine lv_dup hx hb dX6_init_79 rfl ?_
  have hPc := hP.sub (ws' := wJ2 q76) [31] rfl
  have hDc := hD.sub (ws' := wJ2 q76) [31] (by decide) rfl
  have hFc := va_free (wc := wJ2 q76) hD hS hA [31] rfl
  refine va_callv (va_runIN (As := []) (rest := [.ref q76, .ref h0]) ⟨hx, hb, hml, hown, ht⟩ (c_X2_init l dC dI tI tL tII tLL q76 H.size) ⟨va_cnB 0 ht (goodN kn_36) rfl rfl rfl (nm_1 hN) (ht _ kn_31) (by decide +kernel) ⟨Nat.le_of_ble_eq_true rfl, Nat.le_of_ble_eq_true rfl⟩, rfl, (ht _ kn_37)⟩ (pre_in hK hN hO1 hO2 hPc hDc) rfl rfl hl.1 rfl (lv_room (Nat.le_of_ble_eq_true rfl)) dX6_init_80 ⟨Nat.le_of_ble_eq_true rfl, Nat.le_of_ble_eq_true rfl⟩) hS (fun q _ h => hFc q h) hFc (fun u t H1 locs ht9 hvm _ hB hz1 hk1 hS => ?_)
  obtain ⟨ad5, r5⟩ := u
  obtain ⟨hP1, hD1⟩ := hB
  rw [ht9] at hP1
  obtain ⟨hP, hD⟩ := va_join (wr := (((((([(h0, .inr (6, [.ref q5, .ref q16, .ref q31, .ref q46, .ref q61, .null, .null]))] : va_W) ++ wI0 tI tL tII tLL q5 ad0 r0) ++ wI5 tI tL tII tLL q16 q5 ad1 r1) ++ wI3 tI tL tII tLL q31 q5 ad2 r2) ++ wI1 tI tL tII tLL q46 q5 ad3 r3) ++ wI4 tI tL tII tLL q61 q5 ad4 r4)) (w1 := wI2 tI tL tII tLL q76 ad5 r5) hP hD [31] [0, 1, 2, 3, 4, 5, 6, 7, 8, 9, 10, 11, 12, 13, 14, 15, 16, 17, 18, 19, 20, 21, 22, 23, 24, 25, 26, 27, 28, 29, 30] rfl rfl (by decide) (by decide) hk1 hFc hP1 hD1
  generalize H1 = H at hP hS ⊢
  refine W.widen (k := 31) (n := 212) (by omega) (by omega) ?_
  refine va_putF (D := (dC, dI)) (ci := 6) (v := .ref q76) (ty := .object "ChainSolves$Fraction") (C := RX6) (T := TX6) (N := 7) hx hb ht hinN6 tyX6 tyX6_ok nmX6 hown hK hP hD hS 0 rfl rfl 5 (by decide) (ht _ kn_72) (fun _ h9 => h9) rfl hin rfl (by decide +kernel) rfl rfl (Nat.le_of_ble_eq_true rfl) dX6_init_83 (fun H locs hP hD hS => ?_)
  have hP : va_P (dC, dI) vwCl ((((((([(h0, .inr (6, [.ref q5, .ref q16, .ref q31, .ref q46, .ref q61, .ref q76, .null]))] : va_W) ++ wI0 tI tL tII tLL q5 ad0 r0) ++ wI5 tI tL tII tLL q16 q5 ad1 r1) ++ wI3 tI tL tII tLL q31 q5 ad2 r2) ++ wI1 tI tL tII tLL q46 q5 ad3 r3) ++ wI4 tI tL tII tLL q61 q5 ad4 r4) ++ wI2 tI tL tII tLL q76 ad5 r5) H := hP
  have hD : va_D A ((((((([(h0, .inr (6, [.ref q5, .ref q16, .ref q31, .ref q46, .ref q61, .ref q76, .null]))] : va_W) ++ wI0 tI tL tII tLL q5 ad0 r0) ++ wI5 tI tL tII tLL q16 q5 ad1 r1) ++ wI3 tI tL tII tLL q31 q5 ad2 r2) ++ wI1 tI tL tII tLL q46 q5 ad3 r3) ++ wI4 tI tL tII tLL q61 q5 ad4 r4) ++ wI2 tI tL tII tLL q76 ad5 r5) := hD
  refine lv_aload_n hx hb dX6_init_86 rfl (lv_at hl 0 rfl) ?_
  refine va_new (ci := 2) (fs := [.long 0, .long 0]) (C := RX2) (T := TX2) (N := 2) hx hb ht hinN2 tyX2 tyX2_ok hown (ht _ kn_29) (ht _ kn_30) (ht _ kn_31) hK hP hD hS hA rfl (fun j hj => by rcases (show j = 0 ∨ j = 1 by omega) with rfl | rfl <;> rfl) (Nat.le_of_ble_eq_true rfl) (Nat.le_of_ble_eq_true rfl) dX6_init_87 (fun q87 H hP hD hS => ?_)
  have hP : va_P (dC, dI) vwCl (((((((([(h0, .inr (6, [.ref q5, .ref q16, .ref q31, .ref q46, .ref q61, .ref q76, .null]))] : va_W) ++ wI0 tI tL tII tLL q5 ad0 r0) ++ wI5 tI tL tII tLL q16 q5 ad1 r1) ++ wI3 tI tL tII tLL q31 q5 ad2 r2) ++ wI1 tI tL tII tLL q46 q5 ad3 r3) ++ wI4 tI tL tII tLL q61 q5 ad4 r4) ++ wI2 tI tL tII tLL q76 ad5 r5) ++ wJ2 q87) H := hP
  have hD : va_D A (((((((([(h0, .inr (6, [.ref q5, .ref q16, .ref q31, .ref q46, .ref q61, .ref q76, .null]))] : va_W) ++ wI0 tI tL tII tLL q5 ad0 r0) ++ wI5 tI tL tII tLL q16 q5 ad1 r1) ++ wI3 tI tL tII tLL q31 q5 ad2 r2) ++ wI1 tI tL tII tLL q46 q5 ad3 r3) ++ wI4 tI tL tII tLL q61 q5 ad4 r4) ++ wI2 tI tL tII tLL q76 ad5 r5) ++ wJ2 q87) := hD
  refine W.widen (k := 32) (n := 214) (by omega) (by omega) ?_
  refine lv_dup hx hb dX6_init_90 rfl ?_
  have hPc := hP.sub (ws' := wJ2 q87) [32] rfl
  have hDc := hD.sub (ws' := wJ2 q87) [32] (by decide) rfl
  have hFc := va_free (wc := wJ2 q87) hD hS hA [32] rfl
  refine va_callv (va_runIN (As := []) (rest := [.ref q87, .ref h0]) ⟨hx, hb, hml, hown, ht⟩ (c_X2_init l dC dI tI tL tII tLL q87 H.size) ⟨va_cnB 0 ht (goodN kn_36) rfl rfl rfl (nm_1 hN) (ht _ kn_31) (by decide +kernel) ⟨Nat.le_of_ble_eq_true rfl, Nat.le_of_ble_eq_true rfl⟩, rfl, (ht _ kn_37)⟩ (pre_in hK hN hO1 hO2 hPc hDc) rfl rfl hl.1 rfl (lv_room (Nat.le_of_ble_eq_true rfl)) dX6_init_91 ⟨Nat.le_of_ble_eq_true rfl, Nat.le_of_ble_eq_true rfl⟩) hS (fun q _ h => hFc q h) hFc (fun u t H1 locs ht9 hvm _ hB hz1 hk1 hS => ?_)
  obtain ⟨ad6, r6⟩ := u
  obtain ⟨hP1, hD1⟩ := hB
  rw [ht9] at hP1
  obtain ⟨hP, hD⟩ := va_join (wr := ((((((([(h0, .inr (6, [.ref q5, .ref q16, .ref q31, .ref q46, .ref q61, .ref q76, .null]))] : va_W) ++ wI0 tI tL tII tLL q5 ad0 r0) ++ wI5 tI tL tII tLL q16 q5 ad1 r1) ++ wI3 tI tL tII tLL q31 q5 ad2 r2) ++ wI1 tI tL tII tLL q46 q5 ad3 r3) ++ wI4 tI tL tII tLL q61 q5 ad4 r4) ++ wI2 tI tL tII tLL q76 ad5 r5)) (w1 := wI2 tI tL tII tLL q87 ad6 r6) hP hD [32] [0, 1, 2, 3, 4, 5, 6, 7, 8, 9, 10, 11, 12, 13, 14, 15, 16, 17, 18, 19, 20, 21, 22, 23, 24, 25, 26, 27, 28, 29, 30, 31] rfl rfl (by decide) (by decide) hk1 hFc hP1 hD1
  generalize H1 = H at hP hS ⊢
  refine W.widen (k := 32) (n := 214) (by omega) (by omega) ?_
  refine va_putF (D := (dC, dI)) (ci := 6) (v := .ref q87) (ty := .object "ChainSolves$Fraction") (C := RX6) (T := TX6) (N := 7) hx hb ht hinN6 tyX6 tyX6_ok nmX6 hown hK hP hD hS 0 rfl rfl 6 (by decide) (ht _ kn_73) (fun _ h9 => h9) rfl hin rfl (by decide +kernel) rfl rfl (Nat.le_of_ble_eq_true rfl) dX6_init_94 (fun H locs hP hD hS => ?_)
  have hP : va_P (dC, dI) vwCl (((((((([(h0, .inr (6, [.ref q5, .ref q16, .ref q31, .ref q46, .ref q61, .ref q76, .ref q87]))] : va_W) ++ wI0 tI tL tII tLL q5 ad0 r0) ++ wI5 tI tL tII tLL q16 q5 ad1 r1) ++ wI3 tI tL tII tLL q31 q5 ad2 r2) ++ wI1 tI tL tII tLL q46 q5 ad3 r3) ++ wI4 tI tL tII tLL q61 q5 ad4 r4) ++ wI2 tI tL tII tLL q76 ad5 r5) ++ wI2 tI tL tII tLL q87 ad6 r6) H := hP
  have hD : va_D A (((((((([(h0, .inr (6, [.ref q5, .ref q16, .ref q31, .ref q46, .ref q61, .ref q76, .ref q87]))] : va_W) ++ wI0 tI tL tII tLL q5 ad0 r0) ++ wI5 tI tL tII tLL q16 q5 ad1 r1) ++ wI3 tI tL tII tLL q31 q5 ad2 r2) ++ wI1 tI tL tII tLL q46 q5 ad3 r3) ++ wI4 tI tL tII tLL q61 q5 ad4 r4) ++ wI2 tI tL tII tLL q76 ad5 r5) ++ wI2 tI tL tII tLL q87 ad6 r6) := hD
  obtain ⟨ad, had⟩ : ∃ ad : Nat → Nat, ad = lAt [h0, q5, ad0 0, r0 0, r0 1, r0 2, r0 3, r0 4, r0 5, r0 6, ad0 1, ad0 2, q16, q31, ad2 0, ad2 1, q46, ad3 0, ad3 1, ad3 2, r3 0, r3 1, r3 2, r3 3, r3 4, r3 5, r3 6, r3 7, q61, ad4 0, ad4 1, q76, q87] := ⟨_, rfl⟩
  have g0 : ∀ i, i < 7 → r0 i = gR (lAt [h0, q5, ad0 0, r0 0, r0 1, r0 2, r0 3, r0 4, r0 5, r0 6, ad0 1, ad0 2, q16, q31, ad2 0, ad2 1, q46, ad3 0, ad3 1, ad3 2, r3 0, r3 1, r3 2, r3 3, r3 4, r3 5, r3 6, r3 7, q61, ad4 0, ad4 1, q76, q87]) 3 i
    | 0, _ => rfl
    | 1, _ => rfl
    | 2, _ => rfl
    | 3, _ => rfl
    | 4, _ => rfl
    | 5, _ => rfl
    | 6, _ => rfl
    | i + 7, h => absurd h (by omega)
  have g1 : ∀ i, i < 8 → r3 i = gR (lAt [h0, q5, ad0 0, r0 0, r0 1, r0 2, r0 3, r0 4, r0 5, r0 6, ad0 1, ad0 2, q16, q31, ad2 0, ad2 1, q46, ad3 0, ad3 1, ad3 2, r3 0, r3 1, r3 2, r3 3, r3 4, r3 5, r3 6, r3 7, q61, ad4 0, ad4 1, q76, q87]) 20 i
    | 0, _ => rfl
    | 1, _ => rfl
    | 2, _ => rfl
    | 3, _ => rfl
    | 4, _ => rfl
    | 5, _ => rfl
    | 6, _ => rfl
    | 7, _ => rfl
    | i + 8, h => absurd h (by omega)
  have hP9 := (hP.rows 2 rfl g0).rows 19 rfl g1
  have hP9 : va_P (dC, dI) vwCl (wC0 (lAt [h0, q5, ad0 0, r0 0, r0 1, r0 2, r0 3, r0 4, r0 5, r0 6, ad0 1, ad0 2, q16, q31, ad2 0, ad2 1, q46, ad3 0, ad3 1, ad3 2, r3 0, r3 1, r3 2, r3 3, r3 4, r3 5, r3 6, r3 7, q61, ad4 0, ad4 1, q76, q87]) tI tL tII tLL) H := hP9
  have hD9 : va_D A (wC0 (lAt [h0, q5, ad0 0, r0 0, r0 1, r0 2, r0 3, r0 4, r0 5, r0 6, ad0 1, ad0 2, q16, q31, ad2 0, ad2 1, q46, ad3 0, ad3 1, ad3 2, r3 0, r3 1, r3 2, r3 3, r3 4, r3 5, r3 6, r3 7, q61, ad4 0, ad4 1, q76, q87]) tI tL tII tLL) := hD.same rfl
  exact W.vret hx hb hr (fun t ht _ => ⟨⟨lAt [h0, q5, ad0 0, r0 0, r0 1, r0 2, r0 3, r0 4, r0 5, r0 6, ad0 1, ad0 2, q16, q31, ad2 0, ad2 1, q46, ad3 0, ad3 1, ad3 2, r3 0, r3 1, r3 2, r3 3, r3 4, r3 5, r3 6, r3 7, q61, ad4 0, ad4 1, q76, q87], rfl, rfl, by rw [ht]; exact hP9, hD9⟩, hS.F ht⟩) hS.2.2 dX6_init_97
