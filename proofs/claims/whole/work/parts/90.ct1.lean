/-! CT1: constructors -/
abbrev wI2 (tI tL tII tLL : ClassId) (h0 : Nat) (ad r : Nat → Nat) : va_W := [(h0, .inr (2, [.long 0, .long 1]))]
abbrev wJ2 (h0 : Nat) : va_W := [(h0, .inr (2, [.long 0, .long 0]))]
abbrev RM_X2_init : Room := { frames := 1, cells := 0, slots := 0, locals := 12 }
abbrev W_X2_init : List Cond := .code yX2_init cX2_init 1 none :: tblN
set_option maxHeartbeats 4000000 in
set_option maxRecDepth 100000 in
theorem c_X2_init (l : Launch) (dC : Nat → ClassId) (dI : Nat → Nat → Nat) (tI tL tII tLL : ClassId) (h0 : Nat) (sz : Nat) : Met l yX2_init W_X2_init RM_X2_init (inP (dC, dI) vwCl (tysA tI tL tII tLL) (wJ2 h0) [.ref h0] sz) (inQ (dC, dI) vwCl (wI2 tI tL tII tLL h0) (va_A (wJ2 h0) sz)) 0 0 (va_A (wJ2 h0) sz) := by
  refine Met.ofW (cc := cX2_init) (maxL := 1) (ret := none) (by decide) rfl ?_
  intro p e s m args below meth c s₁ B hml hv
  obtain ⟨rfl, hsz, hP, hK, hN, hO1, hO2, hD0⟩ := hv
  have hx := B.exec
  have hb := B.bytes
  have hr := B.returns
  have hts := atoms_spec (ws := W_X2_init) B.pre
  have ht := fun (w : Cond) (h : w ∈ tblN) => hts w (List.mem_cons_of_mem _ h)
  have hown : s.vm.findClass RX2 = some m.cls := findClass_of_methodNamed B.named
  have hlocks := B.notSynchronized
  have hin : meth.name = "<init>" := (name_of_methodNamed B.named B.method).1
  subst hsz
  have hD := hD0.self (sz := s.heap.size)
  generalize hAe : va_A (wJ2 h0) s.heap.size = A at hD ⊢
  have hA : ∀ q : Nat, s.heap.size ≤ q → A q := fun q h => by rw [← hAe]; exact Or.inr h
  have hS : va_S A s.heap s.heap [] := va_S.rf
  have hl := lv_entry ([.ref h0] : List Value) (n := 1) (Nat.le_of_ble_eq_true rfl)
  rw [lg_entry_eq]
  generalize (lg_sl ([.ref h0] : List Value) ++ List.replicate (1 - (lg_sl ([.ref h0] : List Value)).length) Slot.unset).toArray = ls at hl ⊢
  have hl : lv_has ls 1 [(0, .ref h0)] := hl
  refine lv_aload_n hx hb dX2_init_0 rfl (lv_at hl 0 rfl) ?_
  refine W.objInit hx hb hown (ht _ kn_4) (ht _ kn_0) (ht _ kn_1) rfl (by rw [hml]; exact hl.1) rfl dX2_init_1 (Nat.le_of_ble_eq_true rfl) (Nat.le_of_ble_eq_true rfl) ?_
  refine W.eq (g2 := F0 m 4 ls []) rfl ?_
  refine lv_aload_n hx hb dX2_init_4 rfl (lv_at hl 0 rfl) ?_
  refine lv_lconst (v := 0) hx hb dX2_init_5 (by decide) ?_
  refine va_put (D := (dC, dI)) (ci := 2) (v := .long 0) (ty := .long) (C := RX2) (T := TX2) (N := 2) hx hb ht hinN2 tyX2 tyX2_ok nmX2 hown hK hP hD hS 0 rfl rfl 0 (by decide) (ht _ kn_57) (fun _ h9 => h9) rfl (by decide +kernel) rfl rfl (Nat.le_of_ble_eq_true rfl) dX2_init_6 (fun H locs hP hD hS => ?_)
  have hP : va_P (dC, dI) vwCl [(h0, .inr (2, [.long 0, .long 0]))] H := hP
  have hD : va_D A [(h0, .inr (2, [.long 0, .long 0]))] := hD
  refine lv_aload_n hx hb dX2_init_9 rfl (lv_at hl 0 rfl) ?_
  refine lv_lconst (v := 1) hx hb dX2_init_10 (by decide) ?_
  refine va_put (D := (dC, dI)) (ci := 2) (v := .long 1) (ty := .long) (C := RX2) (T := TX2) (N := 2) hx hb ht hinN2 tyX2 tyX2_ok nmX2 hown hK hP hD hS 0 rfl rfl 1 (by decide) (ht _ kn_58) (fun _ h9 => h9) rfl (by decide +kernel) rfl rfl (Nat.le_of_ble_eq_true rfl) dX2_init_11 (fun H locs hP hD hS => ?_)
  have hP : va_P (dC, dI) vwCl [(h0, .inr (2, [.long 0, .long 1]))] H := hP
  have hD : va_D A [(h0, .inr (2, [.long 0, .long 1]))] := hD
  exact W.vret hx hb hr (fun t ht _ => ⟨⟨(lAt [], (fun _ => 0)), rfl, trivial, by rw [ht]; exact hP, hD⟩, hS.F ht⟩) hS.2.2 dX2_init_14
abbrev wI0 (tI tL tII tLL : ClassId) (h0 : Nat) (ad r : Nat → Nat) : va_W := [(h0, .inr (0, [.ref (ad 0), .ref (ad 1), .ref (ad 2), .int 0])), ((ad 0), .inl (tII, 7, .inr (.inr (.inr (.inr (fun i => some (r i))))))), (r 0, .inl (tI, 7, .inl (fun _ => 0))), (r 1, .inl (tI, 7, .inl (fun _ => 0))), (r 2, .inl (tI, 7, .inl (fun _ => 0))), (r 3, .inl (tI, 7, .inl (fun _ => 0))), (r 4, .inl (tI, 7, .inl (fun _ => 0))), (r 5, .inl (tI, 7, .inl (fun _ => 0))), (r 6, .inl (tI, 7, .inl (fun _ => 0))), ((ad 1), .inl (tI, 7, .inl (fun _ => 0))), ((ad 2), .inl (tI, 7, .inl (fun _ => 0)))]
abbrev wJ0 (h0 : Nat) : va_W := [(h0, .inr (0, [.null, .null, .null, .int 0]))]
abbrev RM_X0_init : Room := { frames := 1, cells := 10, slots := 70, locals := 12 }
abbrev W_X0_init : List Cond := .code yX0_init cX0_init 1 none :: tblN
set_option maxHeartbeats 4000000 in
set_option maxRecDepth 100000 in
theorem c_X0_init (l : Launch) (dC : Nat → ClassId) (dI : Nat → Nat → Nat) (tI tL tII tLL : ClassId) (h0 : Nat) (sz : Nat) : Met l yX0_init W_X0_init RM_X0_init (inP (dC, dI) vwCl (tysA tI tL tII tLL) (wJ0 h0) [.ref h0] sz) (inQ (dC, dI) vwCl (wI0 tI tL tII tLL h0) (va_A (wJ0 h0) sz)) 10 70 (va_A (wJ0 h0) sz) := by
  refine Met.ofW (cc := cX0_init) (maxL := 1) (ret := none) (by decide) rfl ?_
  intro p e s m args below meth c s₁ B hml hv
  obtain ⟨rfl, hsz, hP, hK, hN, hO1, hO2, hD0⟩ := hv
  have hx := B.exec
  have hb := B.bytes
  have hr := B.returns
  have hts := atoms_spec (ws := W_X0_init) B.pre
  have ht := fun (w : Cond) (h : w ∈ tblN) => hts w (List.mem_cons_of_mem _ h)
  have hown : s.vm.findClass RX0 = some m.cls := findClass_of_methodNamed B.named
  have hlocks := B.notSynchronized
  have hin : meth.name = "<init>" := (name_of_methodNamed B.named B.method).1
  subst hsz
  have hD := hD0.self (sz := s.heap.size)
  generalize hAe : va_A (wJ0 h0) s.heap.size = A at hD ⊢
  have hA : ∀ q : Nat, s.heap.size ≤ q → A q := fun q h => by rw [← hAe]; exact Or.inr h
  have hS : va_S A s.heap s.heap [] := va_S.rf
  have hl := lv_entry ([.ref h0] : List Value) (n := 1) (Nat.le_of_ble_eq_true rfl)
  rw [lg_entry_eq]
  generalize (lg_sl ([.ref h0] : List Value) ++ List.replicate (1 - (lg_sl ([.ref h0] : List Value)).length) Slot.unset).toArray = ls at hl ⊢
  have hl : lv_has ls 1 [(0, .ref h0)] := hl
  refine lv_aload_n hx hb dX0_init_0 rfl (lv_at hl 0 rfl) ?_
  refine W.objInit hx hb hown (ht _ kn_2) (ht _ kn_0) (ht _ kn_1) rfl (by rw [hml]; exact hl.1) rfl dX0_init_1 (Nat.le_of_ble_eq_true rfl) (Nat.le_of_ble_eq_true rfl) ?_
  refine W.eq (g2 := F0 m 4 ls []) rfl ?_
  refine lv_aload_n hx hb dX0_init_4 rfl (lv_at hl 0 rfl) ?_
  refine lv_bipush (v := 7) hx hb dX0_init_5 (by decide) ?_
  refine lv_bipush (v := 7) hx hb dX0_init_7 (by decide) ?_
  refine va_mnT (cy := tI) (tA := tII) (z := (7, .inl (fun _ => 0))) hx hb hown (ht _ kn_12) hO1 (ht _ kn_10) (fun _ _ h => h) 0 2 rfl rfl hK hP hD hS hA (N' := 7) (K' := 7) (by decide) (by decide) (by decide) (by decide) (by decide) (by decide) (by decide) (by decide) (by decide) (Nat.le_of_ble_eq_true rfl) (Nat.le_of_ble_eq_true rfl) (fun _ => by exact arrV_new _ _ _) dX0_init_9 (fun q9 r H hP hD hS => ?_)
  have hP : va_P (dC, dI) vwCl [(h0, .inr (0, [.null, .null, .null, .int 0])), (q9, .inl (tII, 7, .inr (.inr (.inr (.inr (fun i => some (r i))))))), (r 0, .inl (tI, 7, .inl (fun _ => 0))), (r 1, .inl (tI, 7, .inl (fun _ => 0))), (r 2, .inl (tI, 7, .inl (fun _ => 0))), (r 3, .inl (tI, 7, .inl (fun _ => 0))), (r 4, .inl (tI, 7, .inl (fun _ => 0))), (r 5, .inl (tI, 7, .inl (fun _ => 0))), (r 6, .inl (tI, 7, .inl (fun _ => 0)))] H := hP
  have hD : va_D A [(h0, .inr (0, [.null, .null, .null, .int 0])), (q9, .inl (tII, 7, .inr (.inr (.inr (.inr (fun i => some (r i))))))), (r 0, .inl (tI, 7, .inl (fun _ => 0))), (r 1, .inl (tI, 7, .inl (fun _ => 0))), (r 2, .inl (tI, 7, .inl (fun _ => 0))), (r 3, .inl (tI, 7, .inl (fun _ => 0))), (r 4, .inl (tI, 7, .inl (fun _ => 0))), (r 5, .inl (tI, 7, .inl (fun _ => 0))), (r 6, .inl (tI, 7, .inl (fun _ => 0)))] := hD
  refine W.widen (k := 8) (n := 56) (by omega) (by omega) ?_
  refine va_putF (D := (dC, dI)) (ci := 0) (v := .ref q9) (ty := .array (.array .int)) (C := RX0) (T := TX0) (N := 4) hx hb ht hinN0 tyX0 tyX0_ok nmX0 hown hK hP hD hS 0 rfl rfl 0 (by decide) (ht _ kn_48) (fun _ h9 => h9) rfl hin rfl (by decide +kernel) rfl rfl (Nat.le_of_ble_eq_true rfl) dX0_init_13 (fun H locs hP hD hS => ?_)
  have hP : va_P (dC, dI) vwCl [(h0, .inr (0, [.ref q9, .null, .null, .int 0])), (q9, .inl (tII, 7, .inr (.inr (.inr (.inr (fun i => some (r i))))))), (r 0, .inl (tI, 7, .inl (fun _ => 0))), (r 1, .inl (tI, 7, .inl (fun _ => 0))), (r 2, .inl (tI, 7, .inl (fun _ => 0))), (r 3, .inl (tI, 7, .inl (fun _ => 0))), (r 4, .inl (tI, 7, .inl (fun _ => 0))), (r 5, .inl (tI, 7, .inl (fun _ => 0))), (r 6, .inl (tI, 7, .inl (fun _ => 0)))] H := hP
  have hD : va_D A [(h0, .inr (0, [.ref q9, .null, .null, .int 0])), (q9, .inl (tII, 7, .inr (.inr (.inr (.inr (fun i => some (r i))))))), (r 0, .inl (tI, 7, .inl (fun _ => 0))), (r 1, .inl (tI, 7, .inl (fun _ => 0))), (r 2, .inl (tI, 7, .inl (fun _ => 0))), (r 3, .inl (tI, 7, .inl (fun _ => 0))), (r 4, .inl (tI, 7, .inl (fun _ => 0))), (r 5, .inl (tI, 7, .inl (fun _ => 0))), (r 6, .inl (tI, 7, .inl (fun _ => 0)))] := hD
  refine lv_aload_n hx hb dX0_init_16 rfl (lv_at hl 0 rfl) ?_
  refine lv_bipush (v := 7) hx hb dX0_init_17 (by decide) ?_
  refine va_newT (atype := .int) (ty := .int) (tA := tI) (a0 := (7, .inl (fun _ => 0))) hx hb (ht _ kn_10) rfl (fun _ _ h => h) 0 rfl hK hP hD hS hA (fun _ => rfl) (by decide) (by decide) (by decide) (Nat.le_of_ble_eq_true rfl) (Nat.le_of_ble_eq_true rfl) dX0_init_19 (fun q19 H hP hD hS => ?_)
  have hP : va_P (dC, dI) vwCl [(h0, .inr (0, [.ref q9, .null, .null, .int 0])), (q9, .inl (tII, 7, .inr (.inr (.inr (.inr (fun i => some (r i))))))), (r 0, .inl (tI, 7, .inl (fun _ => 0))), (r 1, .inl (tI, 7, .inl (fun _ => 0))), (r 2, .inl (tI, 7, .inl (fun _ => 0))), (r 3, .inl (tI, 7, .inl (fun _ => 0))), (r 4, .inl (tI, 7, .inl (fun _ => 0))), (r 5, .inl (tI, 7, .inl (fun _ => 0))), (r 6, .inl (tI, 7, .inl (fun _ => 0))), (q19, .inl (tI, 7, .inl (fun _ => 0)))] H := hP
  have hD : va_D A [(h0, .inr (0, [.ref q9, .null, .null, .int 0])), (q9, .inl (tII, 7, .inr (.inr (.inr (.inr (fun i => some (r i))))))), (r 0, .inl (tI, 7, .inl (fun _ => 0))), (r 1, .inl (tI, 7, .inl (fun _ => 0))), (r 2, .inl (tI, 7, .inl (fun _ => 0))), (r 3, .inl (tI, 7, .inl (fun _ => 0))), (r 4, .inl (tI, 7, .inl (fun _ => 0))), (r 5, .inl (tI, 7, .inl (fun _ => 0))), (r 6, .inl (tI, 7, .inl (fun _ => 0))), (q19, .inl (tI, 7, .inl (fun _ => 0)))] := hD
  refine W.widen (k := 9) (n := 63) (by omega) (by omega) ?_
  refine va_putF (D := (dC, dI)) (ci := 0) (v := .ref q19) (ty := .array .int) (C := RX0) (T := TX0) (N := 4) hx hb ht hinN0 tyX0 tyX0_ok nmX0 hown hK hP hD hS 0 rfl rfl 1 (by decide) (ht _ kn_49) (fun _ h9 => h9) rfl hin rfl (by decide +kernel) rfl rfl (Nat.le_of_ble_eq_true rfl) dX0_init_21 (fun H locs hP hD hS => ?_)
  have hP : va_P (dC, dI) vwCl [(h0, .inr (0, [.ref q9, .ref q19, .null, .int 0])), (q9, .inl (tII, 7, .inr (.inr (.inr (.inr (fun i => some (r i))))))), (r 0, .inl (tI, 7, .inl (fun _ => 0))), (r 1, .inl (tI, 7, .inl (fun _ => 0))), (r 2, .inl (tI, 7, .inl (fun _ => 0))), (r 3, .inl (tI, 7, .inl (fun _ => 0))), (r 4, .inl (tI, 7, .inl (fun _ => 0))), (r 5, .inl (tI, 7, .inl (fun _ => 0))), (r 6, .inl (tI, 7, .inl (fun _ => 0))), (q19, .inl (tI, 7, .inl (fun _ => 0)))] H := hP
  have hD : va_D A [(h0, .inr (0, [.ref q9, .ref q19, .null, .int 0])), (q9, .inl (tII, 7, .inr (.inr (.inr (.inr (fun i => some (r i))))))), (r 0, .inl (tI, 7, .inl (fun _ => 0))), (r 1, .inl (tI, 7, .inl (fun _ => 0))), (r 2, .inl (tI, 7, .inl (fun _ => 0))), (r 3, .inl (tI, 7, .inl (fun _ => 0))), (r 4, .inl (tI, 7, .inl (fun _ => 0))), (r 5, .inl (tI, 7, .inl (fun _ => 0))), (r 6, .inl (tI, 7, .inl (fun _ => 0))), (q19, .inl (tI, 7, .inl (fun _ => 0)))] := hD
  refine lv_aload_n hx hb dX0_init_24 rfl (lv_at hl 0 rfl) ?_
  refine lv_bipush (v := 7) hx hb dX0_init_25 (by decide) ?_
  refine va_newT (atype := .int) (ty := .int) (tA := tI) (a0 := (7, .inl (fun _ => 0))) hx hb (ht _ kn_10) rfl (fun _ _ h => h) 0 rfl hK hP hD hS hA (fun _ => rfl) (by decide) (by decide) (by decide) (Nat.le_of_ble_eq_true rfl) (Nat.le_of_ble_eq_true rfl) dX0_init_27 (fun q27 H hP hD hS => ?_)
  have hP : va_P (dC, dI) vwCl [(h0, .inr (0, [.ref q9, .ref q19, .null, .int 0])), (q9, .inl (tII, 7, .inr (.inr (.inr (.inr (fun i => some (r i))))))), (r 0, .inl (tI, 7, .inl (fun _ => 0))), (r 1, .inl (tI, 7, .inl (fun _ => 0))), (r 2, .inl (tI, 7, .inl (fun _ => 0))), (r 3, .inl (tI, 7, .inl (fun _ => 0))), (r 4, .inl (tI, 7, .inl (fun _ => 0))), (r 5, .inl (tI, 7, .inl (fun _ => 0))), (r 6, .inl (tI, 7, .inl (fun _ => 0))), (q19, .inl (tI, 7, .inl (fun _ => 0))), (q27, .inl (tI, 7, .inl (fun _ => 0)))] H := hP
  have hD : va_D A [(h0, .inr (0, [.ref q9, .ref q19, .null, .int 0])), (q9, .inl (tII, 7, .inr (.inr (.inr (.inr (fun i => some (r i))))))), (r 0, .inl (tI, 7, .inl (fun _ => 0))), (r 1, .inl (tI, 7, .inl (fun _ => 0))), (r 2, .inl (tI, 7, .inl (fun _ => 0))), (r 3, .inl (tI, 7, .inl (fun _ => 0))), (r 4, .inl (tI, 7, .inl (fun _ => 0))), (r 5, .inl (tI, 7, .inl (fun _ => 0))), (r 6, .inl (tI, 7, .inl (fun _ => 0))), (q19, .inl (tI, 7, .inl (fun _ => 0))), (q27, .inl (tI, 7, .inl (fun _ => 0)))] := hD
  refine W.widen (k := 10) (n := 70) (by omega) (by omega) ?_
  refine va_putF (D := (dC, dI)) (ci := 0) (v := .ref q27) (ty := .array .int) (C := RX0) (T := TX0) (N := 4) hx hb ht hinN0 tyX0 tyX0_ok nmX0 hown hK hP hD hS 0 rfl rfl 2 (by decide) (ht _ kn_50) (fun _ h9 => h9) rfl hin rfl (by decide +kernel) rfl rfl (Nat.le_of_ble_eq_true rfl) dX0_init_29 (fun H locs hP hD hS => ?_)
  have hP : va_P (dC, dI) vwCl [(h0, .inr (0, [.ref q9, .ref q19, .ref q27, .int 0])), (q9, .inl (tII, 7, .inr (.inr (.inr (.inr (fun i => some (r i))))))), (r 0, .inl (tI, 7, .inl (fun _ => 0))), (r 1, .inl (tI, 7, .inl (fun _ => 0))), (r 2, .inl (tI, 7, .inl (fun _ => 0))), (r 3, .inl (tI, 7, .inl (fun _ => 0))), (r 4, .inl (tI, 7, .inl (fun _ => 0))), (r 5, .inl (tI, 7, .inl (fun _ => 0))), (r 6, .inl (tI, 7, .inl (fun _ => 0))), (q19, .inl (tI, 7, .inl (fun _ => 0))), (q27, .inl (tI, 7, .inl (fun _ => 0)))] H := hP
  have hD : va_D A [(h0, .inr (0, [.ref q9, .ref q19, .ref q27, .int 0])), (q9, .inl (tII, 7, .inr (.inr (.inr (.inr (fun i => some (r i))))))), (r 0, .inl (tI, 7, .inl (fun _ => 0))), (r 1, .inl (tI, 7, .inl (fun _ => 0))), (r 2, .inl (tI, 7, .inl (fun _ => 0))), (r 3, .inl (tI, 7, .inl (fun _ => 0))), (r 4, .inl (tI, 7, .inl (fun _ => 0))), (r 5, .inl (tI, 7, .inl (fun _ => 0))), (r 6, .inl (tI, 7, .inl (fun _ => 0))), (q19, .inl (tI, 7, .inl (fun _ => 0))), (q27, .inl (tI, 7, .inl (fun _ => 0)))] := hD
  refine lv_aload_n hx hb dX0_init_32 rfl (lv_at hl 0 rfl) ?_
  refine lv_iconst (v := 0) hx hb dX0_init_33 (by decide) ?_
  refine va_put (D := (dC, dI)) (ci := 0) (v := .int 0) (ty := .int) (C := RX0) (T := TX0) (N := 4) hx hb ht hinN0 tyX0 tyX0_ok nmX0 hown hK hP hD hS 0 rfl rfl 3 (by decide) (ht _ kn_51) (fun _ h9 => h9) rfl (by decide +kernel) rfl rfl (Nat.le_of_ble_eq_true rfl) dX0_init_34 (fun H locs hP hD hS => ?_)
  have hP : va_P (dC, dI) vwCl [(h0, .inr (0, [.ref q9, .ref q19, .ref q27, .int 0])), (q9, .inl (tII, 7, .inr (.inr (.inr (.inr (fun i => some (r i))))))), (r 0, .inl (tI, 7, .inl (fun _ => 0))), (r 1, .inl (tI, 7, .inl (fun _ => 0))), (r 2, .inl (tI, 7, .inl (fun _ => 0))), (r 3, .inl (tI, 7, .inl (fun _ => 0))), (r 4, .inl (tI, 7, .inl (fun _ => 0))), (r 5, .inl (tI, 7, .inl (fun _ => 0))), (r 6, .inl (tI, 7, .inl (fun _ => 0))), (q19, .inl (tI, 7, .inl (fun _ => 0))), (q27, .inl (tI, 7, .inl (fun _ => 0)))] H := hP
  have hD : va_D A [(h0, .inr (0, [.ref q9, .ref q19, .ref q27, .int 0])), (q9, .inl (tII, 7, .inr (.inr (.inr (.inr (fun i => some (r i))))))), (r 0, .inl (tI, 7, .inl (fun _ => 0))), (r 1, .inl (tI, 7, .inl (fun _ => 0))), (r 2, .inl (tI, 7, .inl (fun _ => 0))), (r 3, .inl (tI, 7, .inl (fun _ => 0))), (r 4, .inl (tI, 7, .inl (fun _ => 0))), (r 5, .inl (tI, 7, .inl (fun _ => 0))), (r 6, .inl (tI, 7, .inl (fun _ => 0))), (q19, .inl (tI, 7, .inl (fun _ => 0))), (q27, .inl (tI, 7, .inl (fun _ => 0)))] := hD
  exact W.vret hx hb hr (fun t ht _ => ⟨⟨(lAt [q9, q19, q27], r), rfl, trivial, by rw [ht]; exact hP, hD⟩, hS.F ht⟩) hS.2.2 dX0_init_37
abbrev wI5 (tI tL tII tLL : ClassId) (h0 : Nat) (a1 : Nat) (ad r : Nat → Nat) : va_W := [(h0, .inr (5, [.ref a1]))]
abbrev wJ5 (h0 : Nat) : va_W := [(h0, .inr (5, [.null]))]
abbrev RM_X5_init : Room := { frames := 1, cells := 0, slots := 0, locals := 12 }
abbrev W_X5_init : List Cond := .code yX5_init cX5_init 2 none :: tblN
set_option maxHeartbeats 4000000 in
set_option maxRecDepth 100000 in
theorem c_X5_init (l : Launch) (dC : Nat → ClassId) (dI : Nat → Nat → Nat) (tI tL tII tLL : ClassId) (h0 : Nat) (a1 : Nat) (sz : Nat) : Met l yX5_init W_X5_init RM_X5_init (inP (dC, dI) vwCl (tysA tI tL tII tLL) (wJ5 h0) [.ref h0, .ref a1] sz) (inQ (dC, dI) vwCl (wI5 tI tL tII tLL h0 a1) (va_A (wJ5 h0) sz)) 0 0 (va_A (wJ5 h0) sz) := by
  refine Met.ofW (cc := cX5_init) (maxL := 2) (ret := none) (by decide) rfl ?_
  intro p e s m args below meth c s₁ B hml hv
  obtain ⟨rfl, hsz, hP, hK, hN, hO1, hO2, hD0⟩ := hv
  have hx := B.exec
  have hb := B.bytes
  have hr := B.returns
  have hts := atoms_spec (ws := W_X5_init) B.pre
  have ht := fun (w : Cond) (h : w ∈ tblN) => hts w (List.mem_cons_of_mem _ h)
  have hown : s.vm.findClass RX5 = some m.cls := findClass_of_methodNamed B.named
  have hlocks := B.notSynchronized
  have hin : meth.name = "<init>" := (name_of_methodNamed B.named B.method).1
  subst hsz
  have hD := hD0.self (sz := s.heap.size)
  generalize hAe : va_A (wJ5 h0) s.heap.size = A at hD ⊢
  have hA : ∀ q : Nat, s.heap.size ≤ q → A q := fun q h => by rw [← hAe]; exact Or.inr h
  have hS : va_S A s.heap s.heap [] := va_S.rf
  have hl := lv_entry ([.ref h0, .ref a1] : List Value) (n := 2) (Nat.le_of_ble_eq_true rfl)
  rw [lg_entry_eq]
  generalize (lg_sl ([.ref h0, .ref a1] : List Value) ++ List.replicate (2 - (lg_sl ([.ref h0, .ref a1] : List Value)).length) Slot.unset).toArray = ls at hl ⊢
  have hl : lv_has ls 2 [(0, .ref h0), (1, .ref a1)] := hl
  refine lv_aload_n hx hb dX5_init_0 rfl (lv_at hl 0 rfl) ?_
  refine W.objInit hx hb hown (ht _ kn_7) (ht _ kn_0) (ht _ kn_1) rfl (by rw [hml]; exact hl.1) rfl dX5_init_1 (Nat.le_of_ble_eq_true rfl) (Nat.le_of_ble_eq_true rfl) ?_
  refine W.eq (g2 := F0 m 4 ls []) rfl ?_
  refine lv_aload_n hx hb dX5_init_4 rfl (lv_at hl 0 rfl) ?_
  refine lv_aload_n hx hb dX5_init_5 rfl (lv_at hl 1 rfl) ?_
  refine va_putF (D := (dC, dI)) (ci := 5) (v := .ref a1) (ty := .object "ChainSolves$Chain") (C := RX5) (T := TX5) (N := 1) hx hb ht hinN5 tyX5 tyX5_ok nmX5 hown hK hP hD hS 0 rfl rfl 0 (by decide) (ht _ kn_66) (fun _ h9 => h9) rfl hin rfl (by decide +kernel) rfl rfl (Nat.le_of_ble_eq_true rfl) dX5_init_6 (fun H locs hP hD hS => ?_)
  have hP : va_P (dC, dI) vwCl [(h0, .inr (5, [.ref a1]))] H := hP
  have hD : va_D A [(h0, .inr (5, [.ref a1]))] := hD
  exact W.vret hx hb hr (fun t ht _ => ⟨⟨(lAt [], (fun _ => 0)), rfl, trivial, by rw [ht]; exact hP, hD⟩, hS.F ht⟩) hS.2.2 dX5_init_9
abbrev wI3 (tI tL tII tLL : ClassId) (h0 : Nat) (a1 : Nat) (ad r : Nat → Nat) : va_W := [(h0, .inr (3, [.ref a1, .ref (ad 0), .ref (ad 1)])), ((ad 0), .inl (tI, 7, .inl (fun _ => 0))), ((ad 1), .inl (tI, 7, .inl (fun _ => 0)))]
abbrev wJ3 (h0 : Nat) : va_W := [(h0, .inr (3, [.null, .null, .null]))]
abbrev RM_X3_init : Room := { frames := 1, cells := 2, slots := 14, locals := 12 }
abbrev W_X3_init : List Cond := .code yX3_init cX3_init 2 none :: tblN
set_option maxHeartbeats 4000000 in
set_option maxRecDepth 100000 in
theorem c_X3_init (l : Launch) (dC : Nat → ClassId) (dI : Nat → Nat → Nat) (tI tL tII tLL : ClassId) (h0 : Nat) (a1 : Nat) (sz : Nat) : Met l yX3_init W_X3_init RM_X3_init (inP (dC, dI) vwCl (tysA tI tL tII tLL) (wJ3 h0) [.ref h0, .ref a1] sz) (inQ (dC, dI) vwCl (wI3 tI tL tII tLL h0 a1) (va_A (wJ3 h0) sz)) 2 14 (va_A (wJ3 h0) sz) := by
  refine Met.ofW (cc := cX3_init) (maxL := 2) (ret := none) (by decide) rfl ?_
  intro p e s m args below meth c s₁ B hml hv
  obtain ⟨rfl, hsz, hP, hK, hN, hO1, hO2, hD0⟩ := hv
  have hx := B.exec
  have hb := B.bytes
  have hr := B.returns
  have hts := atoms_spec (ws := W_X3_init) B.pre
  have ht := fun (w : Cond) (h : w ∈ tblN) => hts w (List.mem_cons_of_mem _ h)
  have hown : s.vm.findClass RX3 = some m.cls := findClass_of_methodNamed B.named
  have hlocks := B.notSynchronized
  have hin : meth.name = "<init>" := (name_of_methodNamed B.named B.method).1
  subst hsz
  have hD := hD0.self (sz := s.heap.size)
  generalize hAe : va_A (wJ3 h0) s.heap.size = A at hD ⊢
  have hA : ∀ q : Nat, s.heap.size ≤ q → A q := fun q h => by rw [← hAe]; exact Or.inr h
  have hS : va_S A s.heap s.heap [] := va_S.rf
  have hl := lv_entry ([.ref h0, .ref a1] : List Value) (n := 2) (Nat.le_of_ble_eq_true rfl)
  rw [lg_entry_eq]
  generalize (lg_sl ([.ref h0, .ref a1] : List Value) ++ List.replicate (2 - (lg_sl ([.ref h0, .ref a1] : List Value)).length) Slot.unset).toArray = ls at hl ⊢
  have hl : lv_has ls 2 [(0, .ref h0), (1, .ref a1)] := hl
  refine lv_aload_n hx hb dX3_init_0 rfl (lv_at hl 0 rfl) ?_
  refine W.objInit hx hb hown (ht _ kn_5) (ht _ kn_0) (ht _ kn_1) rfl (by rw [hml]; exact hl.1) rfl dX3_init_1 (Nat.le_of_ble_eq_true rfl) (Nat.le_of_ble_eq_true rfl) ?_
  refine W.eq (g2 := F0 m 4 ls []) rfl ?_
  refine lv_aload_n hx hb dX3_init_4 rfl (lv_at hl 0 rfl) ?_
  refine lv_bipush (v := 7) hx hb dX3_init_5 (by decide) ?_
  refine va_newT (atype := .int) (ty := .int) (tA := tI) (a0 := (7, .inl (fun _ => 0))) hx hb (ht _ kn_10) rfl (fun _ _ h => h) 0 rfl hK hP hD hS hA (fun _ => rfl) (by decide) (by decide) (by decide) (Nat.le_of_ble_eq_true rfl) (Nat.le_of_ble_eq_true rfl) dX3_init_7 (fun q7 H hP hD hS => ?_)
  have hP : va_P (dC, dI) vwCl [(h0, .inr (3, [.null, .null, .null])), (q7, .inl (tI, 7, .inl (fun _ => 0)))] H := hP
  have hD : va_D A [(h0, .inr (3, [.null, .null, .null])), (q7, .inl (tI, 7, .inl (fun _ => 0)))] := hD
  refine W.widen (k := 1) (n := 7) (by omega) (by omega) ?_
  refine va_putF (D := (dC, dI)) (ci := 3) (v := .ref q7) (ty := .array .int) (C := RX3) (T := TX3) (N := 3) hx hb ht hinN3 tyX3 tyX3_ok nmX3 hown hK hP hD hS 0 rfl rfl 1 (by decide) (ht _ kn_59) (fun _ h9 => h9) rfl hin rfl (by decide +kernel) rfl rfl (Nat.le_of_ble_eq_true rfl) dX3_init_9 (fun H locs hP hD hS => ?_)
  have hP : va_P (dC, dI) vwCl [(h0, .inr (3, [.null, .ref q7, .null])), (q7, .inl (tI, 7, .inl (fun _ => 0)))] H := hP
  have hD : va_D A [(h0, .inr (3, [.null, .ref q7, .null])), (q7, .inl (tI, 7, .inl (fun _ => 0)))] := hD
  refine lv_aload_n hx hb dX3_init_12 rfl (lv_at hl 0 rfl) ?_
  refine lv_bipush (v := 7) hx hb dX3_init_13 (by decide) ?_
  refine va_newT (atype := .int) (ty := .int) (tA := tI) (a0 := (7, .inl (fun _ => 0))) hx hb (ht _ kn_10) rfl (fun _ _ h => h) 0 rfl hK hP hD hS hA (fun _ => rfl) (by decide) (by decide) (by decide) (Nat.le_of_ble_eq_true rfl) (Nat.le_of_ble_eq_true rfl) dX3_init_15 (fun q15 H hP hD hS => ?_)
  have hP : va_P (dC, dI) vwCl [(h0, .inr (3, [.null, .ref q7, .null])), (q7, .inl (tI, 7, .inl (fun _ => 0))), (q15, .inl (tI, 7, .inl (fun _ => 0)))] H := hP
  have hD : va_D A [(h0, .inr (3, [.null, .ref q7, .null])), (q7, .inl (tI, 7, .inl (fun _ => 0))), (q15, .inl (tI, 7, .inl (fun _ => 0)))] := hD
  refine W.widen (k := 2) (n := 14) (by omega) (by omega) ?_
  refine va_putF (D := (dC, dI)) (ci := 3) (v := .ref q15) (ty := .array .int) (C := RX3) (T := TX3) (N := 3) hx hb ht hinN3 tyX3 tyX3_ok nmX3 hown hK hP hD hS 0 rfl rfl 2 (by decide) (ht _ kn_60) (fun _ h9 => h9) rfl hin rfl (by decide +kernel) rfl rfl (Nat.le_of_ble_eq_true rfl) dX3_init_17 (fun H locs hP hD hS => ?_)
  have hP : va_P (dC, dI) vwCl [(h0, .inr (3, [.null, .ref q7, .ref q15])), (q7, .inl (tI, 7, .inl (fun _ => 0))), (q15, .inl (tI, 7, .inl (fun _ => 0)))] H := hP
  have hD : va_D A [(h0, .inr (3, [.null, .ref q7, .ref q15])), (q7, .inl (tI, 7, .inl (fun _ => 0))), (q15, .inl (tI, 7, .inl (fun _ => 0)))] := hD
  refine lv_aload_n hx hb dX3_init_20 rfl (lv_at hl 0 rfl) ?_
  refine lv_aload_n hx hb dX3_init_21 rfl (lv_at hl 1 rfl) ?_
  refine va_putF (D := (dC, dI)) (ci := 3) (v := .ref a1) (ty := .object "ChainSolves$Chain") (C := RX3) (T := TX3) (N := 3) hx hb ht hinN3 tyX3 tyX3_ok nmX3 hown hK hP hD hS 0 rfl rfl 0 (by decide) (ht _ kn_61) (fun _ h9 => h9) rfl hin rfl (by decide +kernel) rfl rfl (Nat.le_of_ble_eq_true rfl) dX3_init_22 (fun H locs hP hD hS => ?_)
  have hP : va_P (dC, dI) vwCl [(h0, .inr (3, [.ref a1, .ref q7, .ref q15])), (q7, .inl (tI, 7, .inl (fun _ => 0))), (q15, .inl (tI, 7, .inl (fun _ => 0)))] H := hP
  have hD : va_D A [(h0, .inr (3, [.ref a1, .ref q7, .ref q15])), (q7, .inl (tI, 7, .inl (fun _ => 0))), (q15, .inl (tI, 7, .inl (fun _ => 0)))] := hD
  exact W.vret hx hb hr (fun t ht _ => ⟨⟨(lAt [q7, q15], (fun _ => 0)), rfl, trivial, by rw [ht]; exact hP, hD⟩, hS.F ht⟩) hS.2.2 dX3_init_25
abbrev wI1 (tI tL tII tLL : ClassId) (h0 : Nat) (a1 : Nat) (ad r : Nat → Nat) : va_W := [(h0, .inr (1, [.ref a1, .ref (ad 0), .ref (ad 1), .ref (ad 2), .int 0])), ((ad 0), .inl (tL, 7, .inr (.inl (fun _ => 0)))), ((ad 1), .inl (tI, 8, .inl (fun _ => 0))), ((ad 2), .inl (tLL, 8, .inr (.inr (.inr (.inr (fun i => some (r i))))))), (r 0, .inl (tL, 9, .inr (.inl (fun _ => 0)))), (r 1, .inl (tL, 9, .inr (.inl (fun _ => 0)))), (r 2, .inl (tL, 9, .inr (.inl (fun _ => 0)))), (r 3, .inl (tL, 9, .inr (.inl (fun _ => 0)))), (r 4, .inl (tL, 9, .inr (.inl (fun _ => 0)))), (r 5, .inl (tL, 9, .inr (.inl (fun _ => 0)))), (r 6, .inl (tL, 9, .inr (.inl (fun _ => 0)))), (r 7, .inl (tL, 9, .inr (.inl (fun _ => 0))))]
abbrev wJ1 (h0 : Nat) : va_W := [(h0, .inr (1, [.null, .null, .null, .null, .int 0]))]
abbrev RM_X1_init : Room := { frames := 1, cells := 11, slots := 95, locals := 12 }
abbrev W_X1_init : List Cond := .code yX1_init cX1_init 2 none :: tblN
set_option maxHeartbeats 4000000 in
set_option maxRecDepth 100000 in
theorem c_X1_init (l : Launch) (dC : Nat → ClassId) (dI : Nat → Nat → Nat) (tI tL tII tLL : ClassId) (h0 : Nat) (a1 : Nat) (sz : Nat) : Met l yX1_init W_X1_init RM_X1_init (inP (dC, dI) vwCl (tysA tI tL tII tLL) (wJ1 h0) [.ref h0, .ref a1] sz) (inQ (dC, dI) vwCl (wI1 tI tL tII tLL h0 a1) (va_A (wJ1 h0) sz)) 11 95 (va_A (wJ1 h0) sz) := by
  refine Met.ofW (cc := cX1_init) (maxL := 2) (ret := none) (by decide) rfl ?_
  intro p e s m args below meth c s₁ B hml hv
  obtain ⟨rfl, hsz, hP, hK, hN, hO1, hO2, hD0⟩ := hv
  have hx := B.exec
  have hb := B.bytes
  have hr := B.returns
  have hts := atoms_spec (ws := W_X1_init) B.pre
  have ht := fun (w : Cond) (h : w ∈ tblN) => hts w (List.mem_cons_of_mem _ h)
  have hown : s.vm.findClass RX1 = some m.cls := findClass_of_methodNamed B.named
  have hlocks := B.notSynchronized
  have hin : meth.name = "<init>" := (name_of_methodNamed B.named B.method).1
  subst hsz
  have hD := hD0.self (sz := s.heap.size)
  generalize hAe : va_A (wJ1 h0) s.heap.size = A at hD ⊢
  have hA : ∀ q : Nat, s.heap.size ≤ q → A q := fun q h => by rw [← hAe]; exact Or.inr h
  have hS : va_S A s.heap s.heap [] := va_S.rf
  have hl := lv_entry ([.ref h0, .ref a1] : List Value) (n := 2) (Nat.le_of_ble_eq_true rfl)
  rw [lg_entry_eq]
  generalize (lg_sl ([.ref h0, .ref a1] : List Value) ++ List.replicate (2 - (lg_sl ([.ref h0, .ref a1] : List Value)).length) Slot.unset).toArray = ls at hl ⊢
  have hl : lv_has ls 2 [(0, .ref h0), (1, .ref a1)] := hl
  refine lv_aload_n hx hb dX1_init_0 rfl (lv_at hl 0 rfl) ?_
  refine W.objInit hx hb hown (ht _ kn_3) (ht _ kn_0) (ht _ kn_1) rfl (by rw [hml]; exact hl.1) rfl dX1_init_1 (Nat.le_of_ble_eq_true rfl) (Nat.le_of_ble_eq_true rfl) ?_
  refine W.eq (g2 := F0 m 4 ls []) rfl ?_
  refine lv_aload_n hx hb dX1_init_4 rfl (lv_at hl 0 rfl) ?_
  refine lv_bipush (v := 7) hx hb dX1_init_5 (by decide) ?_
  refine va_newT (atype := .long) (ty := .long) (tA := tL) (a0 := (7, .inr (.inl (fun _ => 0)))) hx hb (ht _ kn_11) rfl (fun _ _ h => h) 1 rfl hK hP hD hS hA (fun _ => rfl) (by decide) (by decide) (by decide) (Nat.le_of_ble_eq_true rfl) (Nat.le_of_ble_eq_true rfl) dX1_init_7 (fun q7 H hP hD hS => ?_)
  have hP : va_P (dC, dI) vwCl [(h0, .inr (1, [.null, .null, .null, .null, .int 0])), (q7, .inl (tL, 7, .inr (.inl (fun _ => 0))))] H := hP
  have hD : va_D A [(h0, .inr (1, [.null, .null, .null, .null, .int 0])), (q7, .inl (tL, 7, .inr (.inl (fun _ => 0))))] := hD
  refine W.widen (k := 1) (n := 7) (by omega) (by omega) ?_
  refine va_putF (D := (dC, dI)) (ci := 1) (v := .ref q7) (ty := .array .long) (C := RX1) (T := TX1) (N := 5) hx hb ht hinN1 tyX1 tyX1_ok nmX1 hown hK hP hD hS 0 rfl rfl 1 (by decide) (ht _ kn_52) (fun _ h9 => h9) rfl hin rfl (by decide +kernel) rfl rfl (Nat.le_of_ble_eq_true rfl) dX1_init_9 (fun H locs hP hD hS => ?_)
  have hP : va_P (dC, dI) vwCl [(h0, .inr (1, [.null, .ref q7, .null, .null, .int 0])), (q7, .inl (tL, 7, .inr (.inl (fun _ => 0))))] H := hP
  have hD : va_D A [(h0, .inr (1, [.null, .ref q7, .null, .null, .int 0])), (q7, .inl (tL, 7, .inr (.inl (fun _ => 0))))] := hD
  refine lv_aload_n hx hb dX1_init_12 rfl (lv_at hl 0 rfl) ?_
  refine lv_bipush (v := 8) hx hb dX1_init_13 (by decide) ?_
  refine va_newT (atype := .int) (ty := .int) (tA := tI) (a0 := (8, .inl (fun _ => 0))) hx hb (ht _ kn_10) rfl (fun _ _ h => h) 0 rfl hK hP hD hS hA (fun _ => rfl) (by decide) (by decide) (by decide) (Nat.le_of_ble_eq_true rfl) (Nat.le_of_ble_eq_true rfl) dX1_init_15 (fun q15 H hP hD hS => ?_)
  have hP : va_P (dC, dI) vwCl [(h0, .inr (1, [.null, .ref q7, .null, .null, .int 0])), (q7, .inl (tL, 7, .inr (.inl (fun _ => 0)))), (q15, .inl (tI, 8, .inl (fun _ => 0)))] H := hP
  have hD : va_D A [(h0, .inr (1, [.null, .ref q7, .null, .null, .int 0])), (q7, .inl (tL, 7, .inr (.inl (fun _ => 0)))), (q15, .inl (tI, 8, .inl (fun _ => 0)))] := hD
  refine W.widen (k := 2) (n := 15) (by omega) (by omega) ?_
  refine va_putF (D := (dC, dI)) (ci := 1) (v := .ref q15) (ty := .array .int) (C := RX1) (T := TX1) (N := 5) hx hb ht hinN1 tyX1 tyX1_ok nmX1 hown hK hP hD hS 0 rfl rfl 2 (by decide) (ht _ kn_53) (fun _ h9 => h9) rfl hin rfl (by decide +kernel) rfl rfl (Nat.le_of_ble_eq_true rfl) dX1_init_17 (fun H locs hP hD hS => ?_)
  have hP : va_P (dC, dI) vwCl [(h0, .inr (1, [.null, .ref q7, .ref q15, .null, .int 0])), (q7, .inl (tL, 7, .inr (.inl (fun _ => 0)))), (q15, .inl (tI, 8, .inl (fun _ => 0)))] H := hP
  have hD : va_D A [(h0, .inr (1, [.null, .ref q7, .ref q15, .null, .int 0])), (q7, .inl (tL, 7, .inr (.inl (fun _ => 0)))), (q15, .inl (tI, 8, .inl (fun _ => 0)))] := hD
  refine lv_aload_n hx hb dX1_init_20 rfl (lv_at hl 0 rfl) ?_
  refine lv_bipush (v := 8) hx hb dX1_init_21 (by decide) ?_
  refine lv_bipush (v := 9) hx hb dX1_init_23 (by decide) ?_
  refine va_mnT (cy := tL) (tA := tLL) (z := (9, .inr (.inl (fun _ => 0)))) hx hb hown (ht _ kn_13) hO2 (ht _ kn_11) (fun _ _ h => h) 1 3 rfl rfl hK hP hD hS hA (N' := 8) (K' := 9) (by decide) (by decide) (by decide) (by decide) (by decide) (by decide) (by decide) (by decide) (by decide) (Nat.le_of_ble_eq_true rfl) (Nat.le_of_ble_eq_true rfl) (fun _ => by exact arrV_new _ _ _) dX1_init_25 (fun q25 r H hP hD hS => ?_)
  have hP : va_P (dC, dI) vwCl [(h0, .inr (1, [.null, .ref q7, .ref q15, .null, .int 0])), (q7, .inl (tL, 7, .inr (.inl (fun _ => 0)))), (q15, .inl (tI, 8, .inl (fun _ => 0))), (q25, .inl (tLL, 8, .inr (.inr (.inr (.inr (fun i => some (r i))))))), (r 0, .inl (tL, 9, .inr (.inl (fun _ => 0)))), (r 1, .inl (tL, 9, .inr (.inl (fun _ => 0)))), (r 2, .inl (tL, 9, .inr (.inl (fun _ => 0)))), (r 3, .inl (tL, 9, .inr (.inl (fun _ => 0)))), (r 4, .inl (tL, 9, .inr (.inl (fun _ => 0)))), (r 5, .inl (tL, 9, .inr (.inl (fun _ => 0)))), (r 6, .inl (tL, 9, .inr (.inl (fun _ => 0)))), (r 7, .inl (tL, 9, .inr (.inl (fun _ => 0))))] H := hP
  have hD : va_D A [(h0, .inr (1, [.null, .ref q7, .ref q15, .null, .int 0])), (q7, .inl (tL, 7, .inr (.inl (fun _ => 0)))), (q15, .inl (tI, 8, .inl (fun _ => 0))), (q25, .inl (tLL, 8, .inr (.inr (.inr (.inr (fun i => some (r i))))))), (r 0, .inl (tL, 9, .inr (.inl (fun _ => 0)))), (r 1, .inl (tL, 9, .inr (.inl (fun _ => 0)))), (r 2, .inl (tL, 9, .inr (.inl (fun _ => 0)))), (r 3, .inl (tL, 9, .inr (.inl (fun _ => 0)))), (r 4, .inl (tL, 9, .inr (.inl (fun _ => 0)))), (r 5, .inl (tL, 9, .inr (.inl (fun _ => 0)))), (r 6, .inl (tL, 9, .inr (.inl (fun _ => 0)))), (r 7, .inl (tL, 9, .inr (.inl (fun _ => 0))))] := hD
  refine W.widen (k := 11) (n := 95) (by omega) (by omega) ?_
  refine va_putF (D := (dC, dI)) (ci := 1) (v := .ref q25) (ty := .array (.array .long)) (C := RX1) (T := TX1) (N := 5) hx hb ht hinN1 tyX1 tyX1_ok nmX1 hown hK hP hD hS 0 rfl rfl 3 (by decide) (ht _ kn_54) (fun _ h9 => h9) rfl hin rfl (by decide +kernel) rfl rfl (Nat.le_of_ble_eq_true rfl) dX1_init_29 (fun H locs hP hD hS => ?_)
  have hP : va_P (dC, dI) vwCl [(h0, .inr (1, [.null, .ref q7, .ref q15, .ref q25, .int 0])), (q7, .inl (tL, 7, .inr (.inl (fun _ => 0)))), (q15, .inl (tI, 8, .inl (fun _ => 0))), (q25, .inl (tLL, 8, .inr (.inr (.inr (.inr (fun i => some (r i))))))), (r 0, .inl (tL, 9, .inr (.inl (fun _ => 0)))), (r 1, .inl (tL, 9, .inr (.inl (fun _ => 0)))), (r 2, .inl (tL, 9, .inr (.inl (fun _ => 0)))), (r 3, .inl (tL, 9, .inr (.inl (fun _ => 0)))), (r 4, .inl (tL, 9, .inr (.inl (fun _ => 0)))), (r 5, .inl (tL, 9, .inr (.inl (fun _ => 0)))), (r 6, .inl (tL, 9, .inr (.inl (fun _ => 0)))), (r 7, .inl (tL, 9, .inr (.inl (fun _ => 0))))] H := hP
  have hD : va_D A [(h0, .inr (1, [.null, .ref q7, .ref q15, .ref q25, .int 0])), (q7, .inl (tL, 7, .inr (.inl (fun _ => 0)))), (q15, .inl (tI, 8, .inl (fun _ => 0))), (q25, .inl (tLL, 8, .inr (.inr (.inr (.inr (fun i => some (r i))))))), (r 0, .inl (tL, 9, .inr (.inl (fun _ => 0)))), (r 1, .inl (tL, 9, .inr (.inl (fun _ => 0)))), (r 2, .inl (tL, 9, .inr (.inl (fun _ => 0)))), (r 3, .inl (tL, 9, .inr (.inl (fun _ => 0)))), (r 4, .inl (tL, 9, .inr (.inl (fun _ => 0)))), (r 5, .inl (tL, 9, .inr (.inl (fun _ => 0)))), (r 6, .inl (tL, 9, .inr (.inl (fun _ => 0)))), (r 7, .inl (tL, 9, .inr (.inl (fun _ => 0))))] := hD
  refine lv_aload_n hx hb dX1_init_32 rfl (lv_at hl 0 rfl) ?_
  refine lv_iconst (v := 0) hx hb dX1_init_33 (by decide) ?_
  refine va_put (D := (dC, dI)) (ci := 1) (v := .int 0) (ty := .int) (C := RX1) (T := TX1) (N := 5) hx hb ht hinN1 tyX1 tyX1_ok nmX1 hown hK hP hD hS 0 rfl rfl 4 (by decide) (ht _ kn_55) (fun _ h9 => h9) rfl (by decide +kernel) rfl rfl (Nat.le_of_ble_eq_true rfl) dX1_init_34 (fun H locs hP hD hS => ?_)
  have hP : va_P (dC, dI) vwCl [(h0, .inr (1, [.null, .ref q7, .ref q15, .ref q25, .int 0])), (q7, .inl (tL, 7, .inr (.inl (fun _ => 0)))), (q15, .inl (tI, 8, .inl (fun _ => 0))), (q25, .inl (tLL, 8, .inr (.inr (.inr (.inr (fun i => some (r i))))))), (r 0, .inl (tL, 9, .inr (.inl (fun _ => 0)))), (r 1, .inl (tL, 9, .inr (.inl (fun _ => 0)))), (r 2, .inl (tL, 9, .inr (.inl (fun _ => 0)))), (r 3, .inl (tL, 9, .inr (.inl (fun _ => 0)))), (r 4, .inl (tL, 9, .inr (.inl (fun _ => 0)))), (r 5, .inl (tL, 9, .inr (.inl (fun _ => 0)))), (r 6, .inl (tL, 9, .inr (.inl (fun _ => 0)))), (r 7, .inl (tL, 9, .inr (.inl (fun _ => 0))))] H := hP
  have hD : va_D A [(h0, .inr (1, [.null, .ref q7, .ref q15, .ref q25, .int 0])), (q7, .inl (tL, 7, .inr (.inl (fun _ => 0)))), (q15, .inl (tI, 8, .inl (fun _ => 0))), (q25, .inl (tLL, 8, .inr (.inr (.inr (.inr (fun i => some (r i))))))), (r 0, .inl (tL, 9, .inr (.inl (fun _ => 0)))), (r 1, .inl (tL, 9, .inr (.inl (fun _ => 0)))), (r 2, .inl (tL, 9, .inr (.inl (fun _ => 0)))), (r 3, .inl (tL, 9, .inr (.inl (fun _ => 0)))), (r 4, .inl (tL, 9, .inr (.inl (fun _ => 0)))), (r 5, .inl (tL, 9, .inr (.inl (fun _ => 0)))), (r 6, .inl (tL, 9, .inr (.inl (fun _ => 0)))), (r 7, .inl (tL, 9, .inr (.inl (fun _ => 0))))] := hD
  refine lv_aload_n hx hb dX1_init_37 rfl (lv_at hl 0 rfl) ?_
  refine lv_aload_n hx hb dX1_init_38 rfl (lv_at hl 1 rfl) ?_
  refine va_putF (D := (dC, dI)) (ci := 1) (v := .ref a1) (ty := .object "ChainSolves$Chain") (C := RX1) (T := TX1) (N := 5) hx hb ht hinN1 tyX1 tyX1_ok nmX1 hown hK hP hD hS 0 rfl rfl 0 (by decide) (ht _ kn_56) (fun _ h9 => h9) rfl hin rfl (by decide +kernel) rfl rfl (Nat.le_of_ble_eq_true rfl) dX1_init_39 (fun H locs hP hD hS => ?_)
  have hP : va_P (dC, dI) vwCl [(h0, .inr (1, [.ref a1, .ref q7, .ref q15, .ref q25, .int 0])), (q7, .inl (tL, 7, .inr (.inl (fun _ => 0)))), (q15, .inl (tI, 8, .inl (fun _ => 0))), (q25, .inl (tLL, 8, .inr (.inr (.inr (.inr (fun i => some (r i))))))), (r 0, .inl (tL, 9, .inr (.inl (fun _ => 0)))), (r 1, .inl (tL, 9, .inr (.inl (fun _ => 0)))), (r 2, .inl (tL, 9, .inr (.inl (fun _ => 0)))), (r 3, .inl (tL, 9, .inr (.inl (fun _ => 0)))), (r 4, .inl (tL, 9, .inr (.inl (fun _ => 0)))), (r 5, .inl (tL, 9, .inr (.inl (fun _ => 0)))), (r 6, .inl (tL, 9, .inr (.inl (fun _ => 0)))), (r 7, .inl (tL, 9, .inr (.inl (fun _ => 0))))] H := hP
  have hD : va_D A [(h0, .inr (1, [.ref a1, .ref q7, .ref q15, .ref q25, .int 0])), (q7, .inl (tL, 7, .inr (.inl (fun _ => 0)))), (q15, .inl (tI, 8, .inl (fun _ => 0))), (q25, .inl (tLL, 8, .inr (.inr (.inr (.inr (fun i => some (r i))))))), (r 0, .inl (tL, 9, .inr (.inl (fun _ => 0)))), (r 1, .inl (tL, 9, .inr (.inl (fun _ => 0)))), (r 2, .inl (tL, 9, .inr (.inl (fun _ => 0)))), (r 3, .inl (tL, 9, .inr (.inl (fun _ => 0)))), (r 4, .inl (tL, 9, .inr (.inl (fun _ => 0)))), (r 5, .inl (tL, 9, .inr (.inl (fun _ => 0)))), (r 6, .inl (tL, 9, .inr (.inl (fun _ => 0)))), (r 7, .inl (tL, 9, .inr (.inl (fun _ => 0))))] := hD
  exact W.vret hx hb hr (fun t ht _ => ⟨⟨(lAt [q7, q15, q25], r), rfl, trivial, by rw [ht]; exact hP, hD⟩, hS.F ht⟩) hS.2.2 dX1_init_42
abbrev wI4 (tI tL tII tLL : ClassId) (h0 : Nat) (a1 : Nat) (ad r : Nat → Nat) : va_W := [(h0, .inr (4, [.ref a1, .ref (ad 0), .ref (ad 1), .long 1])), ((ad 0), .inl (tL, 7, .inr (.inl (fun _ => 0)))), ((ad 1), .inl (tL, 7, .inr (.inl (fun _ => 0))))]
abbrev wJ4 (h0 : Nat) : va_W := [(h0, .inr (4, [.null, .null, .null, .long 0]))]
abbrev RM_X4_init : Room := { frames := 1, cells := 2, slots := 14, locals := 12 }
abbrev W_X4_init : List Cond := .code yX4_init cX4_init 2 none :: tblN
set_option maxHeartbeats 4000000 in
set_option maxRecDepth 100000 in
theorem c_X4_init (l : Launch) (dC : Nat → ClassId) (dI : Nat → Nat → Nat) (tI tL tII tLL : ClassId) (h0 : Nat) (a1 : Nat) (sz : Nat) : Met l yX4_init W_X4_init RM_X4_init (inP (dC, dI) vwCl (tysA tI tL tII tLL) (wJ4 h0) [.ref h0, .ref a1] sz) (inQ (dC, dI) vwCl (wI4 tI tL tII tLL h0 a1) (va_A (wJ4 h0) sz)) 2 14 (va_A (wJ4 h0) sz) := by
  refine Met.ofW (cc := cX4_init) (maxL := 2) (ret := none) (by decide) rfl ?_
  intro p e s m args below meth c s₁ B hml hv
  obtain ⟨rfl, hsz, hP, hK, hN, hO1, hO2, hD0⟩ := hv
  have hx := B.exec
  have hb := B.bytes
  have hr := B.returns
  have hts := atoms_spec (ws := W_X4_init) B.pre
  have ht := fun (w : Cond) (h : w ∈ tblN) => hts w (List.mem_cons_of_mem _ h)
  have hown : s.vm.findClass RX4 = some m.cls := findClass_of_methodNamed B.named
  have hlocks := B.notSynchronized
  have hin : meth.name = "<init>" := (name_of_methodNamed B.named B.method).1
  subst hsz
  have hD := hD0.self (sz := s.heap.size)
  generalize hAe : va_A (wJ4 h0) s.heap.size = A at hD ⊢
  have hA : ∀ q : Nat, s.heap.size ≤ q → A q := fun q h => by rw [← hAe]; exact Or.inr h
  have hS : va_S A s.heap s.heap [] := va_S.rf
  have hl := lv_entry ([.ref h0, .ref a1] : List Value) (n := 2) (Nat.le_of_ble_eq_true rfl)
  rw [lg_entry_eq]
  generalize (lg_sl ([.ref h0, .ref a1] : List Value) ++ List.replicate (2 - (lg_sl ([.ref h0, .ref a1] : List Value)).length) Slot.unset).toArray = ls at hl ⊢
  have hl : lv_has ls 2 [(0, .ref h0), (1, .ref a1)] := hl
  refine lv_aload_n hx hb dX4_init_0 rfl (lv_at hl 0 rfl) ?_
  refine W.objInit hx hb hown (ht _ kn_6) (ht _ kn_0) (ht _ kn_1) rfl (by rw [hml]; exact hl.1) rfl dX4_init_1 (Nat.le_of_ble_eq_true rfl) (Nat.le_of_ble_eq_true rfl) ?_
  refine W.eq (g2 := F0 m 4 ls []) rfl ?_
  refine lv_aload_n hx hb dX4_init_4 rfl (lv_at hl 0 rfl) ?_
  refine lv_bipush (v := 7) hx hb dX4_init_5 (by decide) ?_
  refine va_newT (atype := .long) (ty := .long) (tA := tL) (a0 := (7, .inr (.inl (fun _ => 0)))) hx hb (ht _ kn_11) rfl (fun _ _ h => h) 1 rfl hK hP hD hS hA (fun _ => rfl) (by decide) (by decide) (by decide) (Nat.le_of_ble_eq_true rfl) (Nat.le_of_ble_eq_true rfl) dX4_init_7 (fun q7 H hP hD hS => ?_)
  have hP : va_P (dC, dI) vwCl [(h0, .inr (4, [.null, .null, .null, .long 0])), (q7, .inl (tL, 7, .inr (.inl (fun _ => 0))))] H := hP
  have hD : va_D A [(h0, .inr (4, [.null, .null, .null, .long 0])), (q7, .inl (tL, 7, .inr (.inl (fun _ => 0))))] := hD
  refine W.widen (k := 1) (n := 7) (by omega) (by omega) ?_
  refine va_putF (D := (dC, dI)) (ci := 4) (v := .ref q7) (ty := .array .long) (C := RX4) (T := TX4) (N := 4) hx hb ht hinN4 tyX4 tyX4_ok nmX4 hown hK hP hD hS 0 rfl rfl 1 (by decide) (ht _ kn_62) (fun _ h9 => h9) rfl hin rfl (by decide +kernel) rfl rfl (Nat.le_of_ble_eq_true rfl) dX4_init_9 (fun H locs hP hD hS => ?_)
  have hP : va_P (dC, dI) vwCl [(h0, .inr (4, [.null, .ref q7, .null, .long 0])), (q7, .inl (tL, 7, .inr (.inl (fun _ => 0))))] H := hP
  have hD : va_D A [(h0, .inr (4, [.null, .ref q7, .null, .long 0])), (q7, .inl (tL, 7, .inr (.inl (fun _ => 0))))] := hD
  refine lv_aload_n hx hb dX4_init_12 rfl (lv_at hl 0 rfl) ?_
  refine lv_bipush (v := 7) hx hb dX4_init_13 (by decide) ?_
  refine va_newT (atype := .long) (ty := .long) (tA := tL) (a0 := (7, .inr (.inl (fun _ => 0)))) hx hb (ht _ kn_11) rfl (fun _ _ h => h) 1 rfl hK hP hD hS hA (fun _ => rfl) (by decide) (by decide) (by decide) (Nat.le_of_ble_eq_true rfl) (Nat.le_of_ble_eq_true rfl) dX4_init_15 (fun q15 H hP hD hS => ?_)
  have hP : va_P (dC, dI) vwCl [(h0, .inr (4, [.null, .ref q7, .null, .long 0])), (q7, .inl (tL, 7, .inr (.inl (fun _ => 0)))), (q15, .inl (tL, 7, .inr (.inl (fun _ => 0))))] H := hP
  have hD : va_D A [(h0, .inr (4, [.null, .ref q7, .null, .long 0])), (q7, .inl (tL, 7, .inr (.inl (fun _ => 0)))), (q15, .inl (tL, 7, .inr (.inl (fun _ => 0))))] := hD
  refine W.widen (k := 2) (n := 14) (by omega) (by omega) ?_
  refine va_putF (D := (dC, dI)) (ci := 4) (v := .ref q15) (ty := .array .long) (C := RX4) (T := TX4) (N := 4) hx hb ht hinN4 tyX4 tyX4_ok nmX4 hown hK hP hD hS 0 rfl rfl 2 (by decide) (ht _ kn_63) (fun _ h9 => h9) rfl hin rfl (by decide +kernel) rfl rfl (Nat.le_of_ble_eq_true rfl) dX4_init_17 (fun H locs hP hD hS => ?_)
  have hP : va_P (dC, dI) vwCl [(h0, .inr (4, [.null, .ref q7, .ref q15, .long 0])), (q7, .inl (tL, 7, .inr (.inl (fun _ => 0)))), (q15, .inl (tL, 7, .inr (.inl (fun _ => 0))))] H := hP
  have hD : va_D A [(h0, .inr (4, [.null, .ref q7, .ref q15, .long 0])), (q7, .inl (tL, 7, .inr (.inl (fun _ => 0)))), (q15, .inl (tL, 7, .inr (.inl (fun _ => 0))))] := hD
  refine lv_aload_n hx hb dX4_init_20 rfl (lv_at hl 0 rfl) ?_
  refine lv_lconst (v := 1) hx hb dX4_init_21 (by decide) ?_
  refine va_put (D := (dC, dI)) (ci := 4) (v := .long 1) (ty := .long) (C := RX4) (T := TX4) (N := 4) hx hb ht hinN4 tyX4 tyX4_ok nmX4 hown hK hP hD hS 0 rfl rfl 3 (by decide) (ht _ kn_64) (fun _ h9 => h9) rfl (by decide +kernel) rfl rfl (Nat.le_of_ble_eq_true rfl) dX4_init_22 (fun H locs hP hD hS => ?_)
  have hP : va_P (dC, dI) vwCl [(h0, .inr (4, [.null, .ref q7, .ref q15, .long 1])), (q7, .inl (tL, 7, .inr (.inl (fun _ => 0)))), (q15, .inl (tL, 7, .inr (.inl (fun _ => 0))))] H := hP
  have hD : va_D A [(h0, .inr (4, [.null, .ref q7, .ref q15, .long 1])), (q7, .inl (tL, 7, .inr (.inl (fun _ => 0)))), (q15, .inl (tL, 7, .inr (.inl (fun _ => 0))))] := hD
  refine lv_aload_n hx hb dX4_init_25 rfl (lv_at hl 0 rfl) ?_
  refine lv_aload_n hx hb dX4_init_26 rfl (lv_at hl 1 rfl) ?_
  refine va_putF (D := (dC, dI)) (ci := 4) (v := .ref a1) (ty := .object "ChainSolves$Chain") (C := RX4) (T := TX4) (N := 4) hx hb ht hinN4 tyX4 tyX4_ok nmX4 hown hK hP hD hS 0 rfl rfl 0 (by decide) (ht _ kn_65) (fun _ h9 => h9) rfl hin rfl (by decide +kernel) rfl rfl (Nat.le_of_ble_eq_true rfl) dX4_init_27 (fun H locs hP hD hS => ?_)
  have hP : va_P (dC, dI) vwCl [(h0, .inr (4, [.ref a1, .ref q7, .ref q15, .long 1])), (q7, .inl (tL, 7, .inr (.inl (fun _ => 0)))), (q15, .inl (tL, 7, .inr (.inl (fun _ => 0))))] H := hP
  have hD : va_D A [(h0, .inr (4, [.ref a1, .ref q7, .ref q15, .long 1])), (q7, .inl (tL, 7, .inr (.inl (fun _ => 0)))), (q15, .inl (tL, 7, .inr (.inl (fun _ => 0))))] := hD
  exact W.vret hx hb hr (fun t ht _ => ⟨⟨(lAt [q7, q15], (fun _ => 0)), rfl, trivial, by rw [ht]; exact hP, hD⟩, hS.F ht⟩) hS.2.2 dX4_init_30
abbrev wI7 (tI tL tII tLL : ClassId) (h0 : Nat) (ad r : Nat → Nat) : va_W := [(h0, .inr (7, [.int 0, .int 0, .ref (ad 0), .ref (ad 1), .long 0, .long 1, .ref (ad 2), .ref (ad 3), .ref (ad 4), .ref (ad 5), .ref (ad 6), .int 0])), ((ad 0), .inl (tI, 49, .inl (fun _ => 0))), ((ad 1), .inl (tI, 7, .inl (fun _ => 0))), ((ad 2), .inl (tL, 49, .inr (.inl (fun _ => 0)))), ((ad 3), .inl (tL, 7, .inr (.inl (fun _ => 0)))), ((ad 4), .inl (tL, 128, .inr (.inl (fun _ => 0)))), ((ad 5), .inl (tI, 7, .inl (fun _ => 0))), ((ad 6), .inl (tI, 7, .inl (fun _ => 0)))]
abbrev wJ7 (h0 : Nat) : va_W := [(h0, .inr (7, [.int 0, .int 0, .null, .null, .long 0, .long 0, .null, .null, .null, .null, .null, .int 0]))]
abbrev RM_X7_init : Room := { frames := 1, cells := 7, slots := 254, locals := 12 }
abbrev W_X7_init : List Cond := .code yX7_init cX7_init 1 none :: tblN
set_option maxHeartbeats 4000000 in
set_option maxRecDepth 100000 in
theorem c_X7_init (l : Launch) (dC : Nat → ClassId) (dI : Nat → Nat → Nat) (tI tL tII tLL : ClassId) (h0 : Nat) (sz : Nat) : Met l yX7_init W_X7_init RM_X7_init (inP (dC, dI) vwCl (tysA tI tL tII tLL) (wJ7 h0) [.ref h0] sz) (inQ (dC, dI) vwCl (wI7 tI tL tII tLL h0) (va_A (wJ7 h0) sz)) 7 254 (va_A (wJ7 h0) sz) := by
  refine Met.ofW (cc := cX7_init) (maxL := 1) (ret := none) (by decide) rfl ?_
  intro p e s m args below meth c s₁ B hml hv
  obtain ⟨rfl, hsz, hP, hK, hN, hO1, hO2, hD0⟩ := hv
  have hx := B.exec
  have hb := B.bytes
  have hr := B.returns
  have hts := atoms_spec (ws := W_X7_init) B.pre
  have ht := fun (w : Cond) (h : w ∈ tblN) => hts w (List.mem_cons_of_mem _ h)
  have hown : s.vm.findClass RX7 = some m.cls := findClass_of_methodNamed B.named
  have hlocks := B.notSynchronized
  have hin : meth.name = "<init>" := (name_of_methodNamed B.named B.method).1
  subst hsz
  have hD := hD0.self (sz := s.heap.size)
  generalize hAe : va_A (wJ7 h0) s.heap.size = A at hD ⊢
  have hA : ∀ q : Nat, s.heap.size ≤ q → A q := fun q h => by rw [← hAe]; exact Or.inr h
  have hS : va_S A s.heap s.heap [] := va_S.rf
  have hl := lv_entry ([.ref h0] : List Value) (n := 1) (Nat.le_of_ble_eq_true rfl)
  rw [lg_entry_eq]
  generalize (lg_sl ([.ref h0] : List Value) ++ List.replicate (1 - (lg_sl ([.ref h0] : List Value)).length) Slot.unset).toArray = ls at hl ⊢
  have hl : lv_has ls 1 [(0, .ref h0)] := hl
  refine lv_aload_n hx hb dX7_init_0 rfl (lv_at hl 0 rfl) ?_
  refine W.objInit hx hb hown (ht _ kn_9) (ht _ kn_0) (ht _ kn_1) rfl (by rw [hml]; exact hl.1) rfl dX7_init_1 (Nat.le_of_ble_eq_true rfl) (Nat.le_of_ble_eq_true rfl) ?_
  refine W.eq (g2 := F0 m 4 ls []) rfl ?_
  refine lv_aload_n hx hb dX7_init_4 rfl (lv_at hl 0 rfl) ?_
  refine lv_bipush (v := 49) hx hb dX7_init_5 (by decide) ?_
  refine va_newT (atype := .int) (ty := .int) (tA := tI) (a0 := (49, .inl (fun _ => 0))) hx hb (ht _ kn_10) rfl (fun _ _ h => h) 0 rfl hK hP hD hS hA (fun _ => rfl) (by decide) (by decide) (by decide) (Nat.le_of_ble_eq_true rfl) (Nat.le_of_ble_eq_true rfl) dX7_init_7 (fun q7 H hP hD hS => ?_)
  have hP : va_P (dC, dI) vwCl [(h0, .inr (7, [.int 0, .int 0, .null, .null, .long 0, .long 0, .null, .null, .null, .null, .null, .int 0])), (q7, .inl (tI, 49, .inl (fun _ => 0)))] H := hP
  have hD : va_D A [(h0, .inr (7, [.int 0, .int 0, .null, .null, .long 0, .long 0, .null, .null, .null, .null, .null, .int 0])), (q7, .inl (tI, 49, .inl (fun _ => 0)))] := hD
  refine W.widen (k := 1) (n := 49) (by omega) (by omega) ?_
  refine va_put (D := (dC, dI)) (ci := 7) (v := .ref q7) (ty := .array .int) (C := RX7) (T := TX7) (N := 12) hx hb ht hinN7 tyX7 tyX7_ok nmX7 hown hK hP hD hS 0 rfl rfl 2 (by decide) (ht _ kn_74) (fun _ h9 => h9) rfl (by decide +kernel) rfl rfl (Nat.le_of_ble_eq_true rfl) dX7_init_9 (fun H locs hP hD hS => ?_)
  have hP : va_P (dC, dI) vwCl [(h0, .inr (7, [.int 0, .int 0, .ref q7, .null, .long 0, .long 0, .null, .null, .null, .null, .null, .int 0])), (q7, .inl (tI, 49, .inl (fun _ => 0)))] H := hP
  have hD : va_D A [(h0, .inr (7, [.int 0, .int 0, .ref q7, .null, .long 0, .long 0, .null, .null, .null, .null, .null, .int 0])), (q7, .inl (tI, 49, .inl (fun _ => 0)))] := hD
  refine lv_aload_n hx hb dX7_init_12 rfl (lv_at hl 0 rfl) ?_
  refine lv_bipush (v := 7) hx hb dX7_init_13 (by decide) ?_
  refine va_newT (atype := .int) (ty := .int) (tA := tI) (a0 := (7, .inl (fun _ => 0))) hx hb (ht _ kn_10) rfl (fun _ _ h => h) 0 rfl hK hP hD hS hA (fun _ => rfl) (by decide) (by decide) (by decide) (Nat.le_of_ble_eq_true rfl) (Nat.le_of_ble_eq_true rfl) dX7_init_15 (fun q15 H hP hD hS => ?_)
  have hP : va_P (dC, dI) vwCl [(h0, .inr (7, [.int 0, .int 0, .ref q7, .null, .long 0, .long 0, .null, .null, .null, .null, .null, .int 0])), (q7, .inl (tI, 49, .inl (fun _ => 0))), (q15, .inl (tI, 7, .inl (fun _ => 0)))] H := hP
  have hD : va_D A [(h0, .inr (7, [.int 0, .int 0, .ref q7, .null, .long 0, .long 0, .null, .null, .null, .null, .null, .int 0])), (q7, .inl (tI, 49, .inl (fun _ => 0))), (q15, .inl (tI, 7, .inl (fun _ => 0)))] := hD
  refine W.widen (k := 2) (n := 56) (by omega) (by omega) ?_
  refine va_put (D := (dC, dI)) (ci := 7) (v := .ref q15) (ty := .array .int) (C := RX7) (T := TX7) (N := 12) hx hb ht hinN7 tyX7 tyX7_ok nmX7 hown hK hP hD hS 0 rfl rfl 3 (by decide) (ht _ kn_75) (fun _ h9 => h9) rfl (by decide +kernel) rfl rfl (Nat.le_of_ble_eq_true rfl) dX7_init_17 (fun H locs hP hD hS => ?_)
  have hP : va_P (dC, dI) vwCl [(h0, .inr (7, [.int 0, .int 0, .ref q7, .ref q15, .long 0, .long 0, .null, .null, .null, .null, .null, .int 0])), (q7, .inl (tI, 49, .inl (fun _ => 0))), (q15, .inl (tI, 7, .inl (fun _ => 0)))] H := hP
  have hD : va_D A [(h0, .inr (7, [.int 0, .int 0, .ref q7, .ref q15, .long 0, .long 0, .null, .null, .null, .null, .null, .int 0])), (q7, .inl (tI, 49, .inl (fun _ => 0))), (q15, .inl (tI, 7, .inl (fun _ => 0)))] := hD
  refine lv_aload_n hx hb dX7_init_20 rfl (lv_at hl 0 rfl) ?_
  refine lv_lconst (v := 1) hx hb dX7_init_21 (by decide) ?_
  refine va_put (D := (dC, dI)) (ci := 7) (v := .long 1) (ty := .long) (C := RX7) (T := TX7) (N := 12) hx hb ht hinN7 tyX7 tyX7_ok nmX7 hown hK hP hD hS 0 rfl rfl 5 (by decide) (ht _ kn_76) (fun _ h9 => h9) rfl (by decide +kernel) rfl rfl (Nat.le_of_ble_eq_true rfl) dX7_init_22 (fun H locs hP hD hS => ?_)
  have hP : va_P (dC, dI) vwCl [(h0, .inr (7, [.int 0, .int 0, .ref q7, .ref q15, .long 0, .long 1, .null, .null, .null, .null, .null, .int 0])), (q7, .inl (tI, 49, .inl (fun _ => 0))), (q15, .inl (tI, 7, .inl (fun _ => 0)))] H := hP
  have hD : va_D A [(h0, .inr (7, [.int 0, .int 0, .ref q7, .ref q15, .long 0, .long 1, .null, .null, .null, .null, .null, .int 0])), (q7, .inl (tI, 49, .inl (fun _ => 0))), (q15, .inl (tI, 7, .inl (fun _ => 0)))] := hD
  refine lv_aload_n hx hb dX7_init_25 rfl (lv_at hl 0 rfl) ?_
  refine lv_bipush (v := 49) hx hb dX7_init_26 (by decide) ?_
  refine va_newT (atype := .long) (ty := .long) (tA := tL) (a0 := (49, .inr (.inl (fun _ => 0)))) hx hb (ht _ kn_11) rfl (fun _ _ h => h) 1 rfl hK hP hD hS hA (fun _ => rfl) (by decide) (by decide) (by decide) (Nat.le_of_ble_eq_true rfl) (Nat.le_of_ble_eq_true rfl) dX7_init_28 (fun q28 H hP hD hS => ?_)
  have hP : va_P (dC, dI) vwCl [(h0, .inr (7, [.int 0, .int 0, .ref q7, .ref q15, .long 0, .long 1, .null, .null, .null, .null, .null, .int 0])), (q7, .inl (tI, 49, .inl (fun _ => 0))), (q15, .inl (tI, 7, .inl (fun _ => 0))), (q28, .inl (tL, 49, .inr (.inl (fun _ => 0))))] H := hP
  have hD : va_D A [(h0, .inr (7, [.int 0, .int 0, .ref q7, .ref q15, .long 0, .long 1, .null, .null, .null, .null, .null, .int 0])), (q7, .inl (tI, 49, .inl (fun _ => 0))), (q15, .inl (tI, 7, .inl (fun _ => 0))), (q28, .inl (tL, 49, .inr (.inl (fun _ => 0))))] := hD
  refine W.widen (k := 3) (n := 105) (by omega) (by omega) ?_
  refine va_put (D := (dC, dI)) (ci := 7) (v := .ref q28) (ty := .array .long) (C := RX7) (T := TX7) (N := 12) hx hb ht hinN7 tyX7 tyX7_ok nmX7 hown hK hP hD hS 0 rfl rfl 6 (by decide) (ht _ kn_77) (fun _ h9 => h9) rfl (by decide +kernel) rfl rfl (Nat.le_of_ble_eq_true rfl) dX7_init_30 (fun H locs hP hD hS => ?_)
  have hP : va_P (dC, dI) vwCl [(h0, .inr (7, [.int 0, .int 0, .ref q7, .ref q15, .long 0, .long 1, .ref q28, .null, .null, .null, .null, .int 0])), (q7, .inl (tI, 49, .inl (fun _ => 0))), (q15, .inl (tI, 7, .inl (fun _ => 0))), (q28, .inl (tL, 49, .inr (.inl (fun _ => 0))))] H := hP
  have hD : va_D A [(h0, .inr (7, [.int 0, .int 0, .ref q7, .ref q15, .long 0, .long 1, .ref q28, .null, .null, .null, .null, .int 0])), (q7, .inl (tI, 49, .inl (fun _ => 0))), (q15, .inl (tI, 7, .inl (fun _ => 0))), (q28, .inl (tL, 49, .inr (.inl (fun _ => 0))))] := hD
  refine lv_aload_n hx hb dX7_init_33 rfl (lv_at hl 0 rfl) ?_
  refine lv_bipush (v := 7) hx hb dX7_init_34 (by decide) ?_
  refine va_newT (atype := .long) (ty := .long) (tA := tL) (a0 := (7, .inr (.inl (fun _ => 0)))) hx hb (ht _ kn_11) rfl (fun _ _ h => h) 1 rfl hK hP hD hS hA (fun _ => rfl) (by decide) (by decide) (by decide) (Nat.le_of_ble_eq_true rfl) (Nat.le_of_ble_eq_true rfl) dX7_init_36 (fun q36 H hP hD hS => ?_)
  have hP : va_P (dC, dI) vwCl [(h0, .inr (7, [.int 0, .int 0, .ref q7, .ref q15, .long 0, .long 1, .ref q28, .null, .null, .null, .null, .int 0])), (q7, .inl (tI, 49, .inl (fun _ => 0))), (q15, .inl (tI, 7, .inl (fun _ => 0))), (q28, .inl (tL, 49, .inr (.inl (fun _ => 0)))), (q36, .inl (tL, 7, .inr (.inl (fun _ => 0))))] H := hP
  have hD : va_D A [(h0, .inr (7, [.int 0, .int 0, .ref q7, .ref q15, .long 0, .long 1, .ref q28, .null, .null, .null, .null, .int 0])), (q7, .inl (tI, 49, .inl (fun _ => 0))), (q15, .inl (tI, 7, .inl (fun _ => 0))), (q28, .inl (tL, 49, .inr (.inl (fun _ => 0)))), (q36, .inl (tL, 7, .inr (.inl (fun _ => 0))))] := hD
  refine W.widen (k := 4) (n := 112) (by omega) (by omega) ?_
  refine va_put (D := (dC, dI)) (ci := 7) (v := .ref q36) (ty := .array .long) (C := RX7) (T := TX7) (N := 12) hx hb ht hinN7 tyX7 tyX7_ok nmX7 hown hK hP hD hS 0 rfl rfl 7 (by decide) (ht _ kn_78) (fun _ h9 => h9) rfl (by decide +kernel) rfl rfl (Nat.le_of_ble_eq_true rfl) dX7_init_38 (fun H locs hP hD hS => ?_)
  have hP : va_P (dC, dI) vwCl [(h0, .inr (7, [.int 0, .int 0, .ref q7, .ref q15, .long 0, .long 1, .ref q28, .ref q36, .null, .null, .null, .int 0])), (q7, .inl (tI, 49, .inl (fun _ => 0))), (q15, .inl (tI, 7, .inl (fun _ => 0))), (q28, .inl (tL, 49, .inr (.inl (fun _ => 0)))), (q36, .inl (tL, 7, .inr (.inl (fun _ => 0))))] H := hP
  have hD : va_D A [(h0, .inr (7, [.int 0, .int 0, .ref q7, .ref q15, .long 0, .long 1, .ref q28, .ref q36, .null, .null, .null, .int 0])), (q7, .inl (tI, 49, .inl (fun _ => 0))), (q15, .inl (tI, 7, .inl (fun _ => 0))), (q28, .inl (tL, 49, .inr (.inl (fun _ => 0)))), (q36, .inl (tL, 7, .inr (.inl (fun _ => 0))))] := hD
  refine lv_aload_n hx hb dX7_init_41 rfl (lv_at hl 0 rfl) ?_
  refine lv_sipush (v := 128) hx hb dX7_init_42 (by decide) ?_
  refine va_newT (atype := .long) (ty := .long) (tA := tL) (a0 := (128, .inr (.inl (fun _ => 0)))) hx hb (ht _ kn_11) rfl (fun _ _ h => h) 1 rfl hK hP hD hS hA (fun _ => rfl) (by decide) (by decide) (by decide) (Nat.le_of_ble_eq_true rfl) (Nat.le_of_ble_eq_true rfl) dX7_init_45 (fun q45 H hP hD hS => ?_)
  have hP : va_P (dC, dI) vwCl [(h0, .inr (7, [.int 0, .int 0, .ref q7, .ref q15, .long 0, .long 1, .ref q28, .ref q36, .null, .null, .null, .int 0])), (q7, .inl (tI, 49, .inl (fun _ => 0))), (q15, .inl (tI, 7, .inl (fun _ => 0))), (q28, .inl (tL, 49, .inr (.inl (fun _ => 0)))), (q36, .inl (tL, 7, .inr (.inl (fun _ => 0)))), (q45, .inl (tL, 128, .inr (.inl (fun _ => 0))))] H := hP
  have hD : va_D A [(h0, .inr (7, [.int 0, .int 0, .ref q7, .ref q15, .long 0, .long 1, .ref q28, .ref q36, .null, .null, .null, .int 0])), (q7, .inl (tI, 49, .inl (fun _ => 0))), (q15, .inl (tI, 7, .inl (fun _ => 0))), (q28, .inl (tL, 49, .inr (.inl (fun _ => 0)))), (q36, .inl (tL, 7, .inr (.inl (fun _ => 0)))), (q45, .inl (tL, 128, .inr (.inl (fun _ => 0))))] := hD
  refine W.widen (k := 5) (n := 240) (by omega) (by omega) ?_
  refine va_put (D := (dC, dI)) (ci := 7) (v := .ref q45) (ty := .array .long) (C := RX7) (T := TX7) (N := 12) hx hb ht hinN7 tyX7 tyX7_ok nmX7 hown hK hP hD hS 0 rfl rfl 8 (by decide) (ht _ kn_79) (fun _ h9 => h9) rfl (by decide +kernel) rfl rfl (Nat.le_of_ble_eq_true rfl) dX7_init_47 (fun H locs hP hD hS => ?_)
  have hP : va_P (dC, dI) vwCl [(h0, .inr (7, [.int 0, .int 0, .ref q7, .ref q15, .long 0, .long 1, .ref q28, .ref q36, .ref q45, .null, .null, .int 0])), (q7, .inl (tI, 49, .inl (fun _ => 0))), (q15, .inl (tI, 7, .inl (fun _ => 0))), (q28, .inl (tL, 49, .inr (.inl (fun _ => 0)))), (q36, .inl (tL, 7, .inr (.inl (fun _ => 0)))), (q45, .inl (tL, 128, .inr (.inl (fun _ => 0))))] H := hP
  have hD : va_D A [(h0, .inr (7, [.int 0, .int 0, .ref q7, .ref q15, .long 0, .long 1, .ref q28, .ref q36, .ref q45, .null, .null, .int 0])), (q7, .inl (tI, 49, .inl (fun _ => 0))), (q15, .inl (tI, 7, .inl (fun _ => 0))), (q28, .inl (tL, 49, .inr (.inl (fun _ => 0)))), (q36, .inl (tL, 7, .inr (.inl (fun _ => 0)))), (q45, .inl (tL, 128, .inr (.inl (fun _ => 0))))] := hD
  refine lv_aload_n hx hb dX7_init_50 rfl (lv_at hl 0 rfl) ?_
  refine lv_bipush (v := 7) hx hb dX7_init_51 (by decide) ?_
  refine va_newT (atype := .int) (ty := .int) (tA := tI) (a0 := (7, .inl (fun _ => 0))) hx hb (ht _ kn_10) rfl (fun _ _ h => h) 0 rfl hK hP hD hS hA (fun _ => rfl) (by decide) (by decide) (by decide) (Nat.le_of_ble_eq_true rfl) (Nat.le_of_ble_eq_true rfl) dX7_init_53 (fun q53 H hP hD hS => ?_)
  have hP : va_P (dC, dI) vwCl [(h0, .inr (7, [.int 0, .int 0, .ref q7, .ref q15, .long 0, .long 1, .ref q28, .ref q36, .ref q45, .null, .null, .int 0])), (q7, .inl (tI, 49, .inl (fun _ => 0))), (q15, .inl (tI, 7, .inl (fun _ => 0))), (q28, .inl (tL, 49, .inr (.inl (fun _ => 0)))), (q36, .inl (tL, 7, .inr (.inl (fun _ => 0)))), (q45, .inl (tL, 128, .inr (.inl (fun _ => 0)))), (q53, .inl (tI, 7, .inl (fun _ => 0)))] H := hP
  have hD : va_D A [(h0, .inr (7, [.int 0, .int 0, .ref q7, .ref q15, .long 0, .long 1, .ref q28, .ref q36, .ref q45, .null, .null, .int 0])), (q7, .inl (tI, 49, .inl (fun _ => 0))), (q15, .inl (tI, 7, .inl (fun _ => 0))), (q28, .inl (tL, 49, .inr (.inl (fun _ => 0)))), (q36, .inl (tL, 7, .inr (.inl (fun _ => 0)))), (q45, .inl (tL, 128, .inr (.inl (fun _ => 0)))), (q53, .inl (tI, 7, .inl (fun _ => 0)))] := hD
  refine W.widen (k := 6) (n := 247) (by omega) (by omega) ?_
  refine va_put (D := (dC, dI)) (ci := 7) (v := .ref q53) (ty := .array .int) (C := RX7) (T := TX7) (N := 12) hx hb ht hinN7 tyX7 tyX7_ok nmX7 hown hK hP hD hS 0 rfl rfl 9 (by decide) (ht _ kn_80) (fun _ h9 => h9) rfl (by decide +kernel) rfl rfl (Nat.le_of_ble_eq_true rfl) dX7_init_55 (fun H locs hP hD hS => ?_)
  have hP : va_P (dC, dI) vwCl [(h0, .inr (7, [.int 0, .int 0, .ref q7, .ref q15, .long 0, .long 1, .ref q28, .ref q36, .ref q45, .ref q53, .null, .int 0])), (q7, .inl (tI, 49, .inl (fun _ => 0))), (q15, .inl (tI, 7, .inl (fun _ => 0))), (q28, .inl (tL, 49, .inr (.inl (fun _ => 0)))), (q36, .inl (tL, 7, .inr (.inl (fun _ => 0)))), (q45, .inl (tL, 128, .inr (.inl (fun _ => 0)))), (q53, .inl (tI, 7, .inl (fun _ => 0)))] H := hP
  have hD : va_D A [(h0, .inr (7, [.int 0, .int 0, .ref q7, .ref q15, .long 0, .long 1, .ref q28, .ref q36, .ref q45, .ref q53, .null, .int 0])), (q7, .inl (tI, 49, .inl (fun _ => 0))), (q15, .inl (tI, 7, .inl (fun _ => 0))), (q28, .inl (tL, 49, .inr (.inl (fun _ => 0)))), (q36, .inl (tL, 7, .inr (.inl (fun _ => 0)))), (q45, .inl (tL, 128, .inr (.inl (fun _ => 0)))), (q53, .inl (tI, 7, .inl (fun _ => 0)))] := hD
  refine lv_aload_n hx hb dX7_init_58 rfl (lv_at hl 0 rfl) ?_
  refine lv_bipush (v := 7) hx hb dX7_init_59 (by decide) ?_
  refine va_newT (atype := .int) (ty := .int) (tA := tI) (a0 := (7, .inl (fun _ => 0))) hx hb (ht _ kn_10) rfl (fun _ _ h => h) 0 rfl hK hP hD hS hA (fun _ => rfl) (by decide) (by decide) (by decide) (Nat.le_of_ble_eq_true rfl) (Nat.le_of_ble_eq_true rfl) dX7_init_61 (fun q61 H hP hD hS => ?_)
  have hP : va_P (dC, dI) vwCl [(h0, .inr (7, [.int 0, .int 0, .ref q7, .ref q15, .long 0, .long 1, .ref q28, .ref q36, .ref q45, .ref q53, .null, .int 0])), (q7, .inl (tI, 49, .inl (fun _ => 0))), (q15, .inl (tI, 7, .inl (fun _ => 0))), (q28, .inl (tL, 49, .inr (.inl (fun _ => 0)))), (q36, .inl (tL, 7, .inr (.inl (fun _ => 0)))), (q45, .inl (tL, 128, .inr (.inl (fun _ => 0)))), (q53, .inl (tI, 7, .inl (fun _ => 0))), (q61, .inl (tI, 7, .inl (fun _ => 0)))] H := hP
  have hD : va_D A [(h0, .inr (7, [.int 0, .int 0, .ref q7, .ref q15, .long 0, .long 1, .ref q28, .ref q36, .ref q45, .ref q53, .null, .int 0])), (q7, .inl (tI, 49, .inl (fun _ => 0))), (q15, .inl (tI, 7, .inl (fun _ => 0))), (q28, .inl (tL, 49, .inr (.inl (fun _ => 0)))), (q36, .inl (tL, 7, .inr (.inl (fun _ => 0)))), (q45, .inl (tL, 128, .inr (.inl (fun _ => 0)))), (q53, .inl (tI, 7, .inl (fun _ => 0))), (q61, .inl (tI, 7, .inl (fun _ => 0)))] := hD
  refine W.widen (k := 7) (n := 254) (by omega) (by omega) ?_
  refine va_put (D := (dC, dI)) (ci := 7) (v := .ref q61) (ty := .array .int) (C := RX7) (T := TX7) (N := 12) hx hb ht hinN7 tyX7 tyX7_ok nmX7 hown hK hP hD hS 0 rfl rfl 10 (by decide) (ht _ kn_81) (fun _ h9 => h9) rfl (by decide +kernel) rfl rfl (Nat.le_of_ble_eq_true rfl) dX7_init_63 (fun H locs hP hD hS => ?_)
  have hP : va_P (dC, dI) vwCl [(h0, .inr (7, [.int 0, .int 0, .ref q7, .ref q15, .long 0, .long 1, .ref q28, .ref q36, .ref q45, .ref q53, .ref q61, .int 0])), (q7, .inl (tI, 49, .inl (fun _ => 0))), (q15, .inl (tI, 7, .inl (fun _ => 0))), (q28, .inl (tL, 49, .inr (.inl (fun _ => 0)))), (q36, .inl (tL, 7, .inr (.inl (fun _ => 0)))), (q45, .inl (tL, 128, .inr (.inl (fun _ => 0)))), (q53, .inl (tI, 7, .inl (fun _ => 0))), (q61, .inl (tI, 7, .inl (fun _ => 0)))] H := hP
  have hD : va_D A [(h0, .inr (7, [.int 0, .int 0, .ref q7, .ref q15, .long 0, .long 1, .ref q28, .ref q36, .ref q45, .ref q53, .ref q61, .int 0])), (q7, .inl (tI, 49, .inl (fun _ => 0))), (q15, .inl (tI, 7, .inl (fun _ => 0))), (q28, .inl (tL, 49, .inr (.inl (fun _ => 0)))), (q36, .inl (tL, 7, .inr (.inl (fun _ => 0)))), (q45, .inl (tL, 128, .inr (.inl (fun _ => 0)))), (q53, .inl (tI, 7, .inl (fun _ => 0))), (q61, .inl (tI, 7, .inl (fun _ => 0)))] := hD
  exact W.vret hx hb hr (fun t ht _ => ⟨⟨(lAt [q7, q15, q28, q36, q45, q53, q61], (fun _ => 0)), rfl, trivial, by rw [ht]; exact hP, hD⟩, hS.F ht⟩) hS.2.2 dX7_init_66
