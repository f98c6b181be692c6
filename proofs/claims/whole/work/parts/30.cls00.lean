abbrev RM_f_bitCount : Room := { frames := 0, cells := 0, slots := 0, locals := 0 }
abbrev W_bitCount : List Cond := .code yJ6_bitCount cJ6_bitCount 1 (some .int) :: tblG
set_option maxHeartbeats 4000000 in
set_option maxRecDepth 100000 in
theorem c_bitCount (l : Launch) (dC : Nat → ClassId) (dI : Nat → Nat → Nat) (ad : Nat → Nat) (tI tL tII tLL : ClassId)  (p1 : Int32) (R0 : Int32) (hR : some R0 = f_bitCount p1) : Met l yJ6_bitCount W_bitCount RM_f_bitCount (roP (dC, dI) vwCl [(tI, .int), (tL, .long), (tII, .array .int), (tLL, .array .long)] [] ([.int p1] : List Value)) (roQ (some (.int R0))) 0 0 (fun _ => False) := by
  refine Met.ofW (cc := cJ6_bitCount) (maxL := 1) (ret := (some .int)) (by decide) rfl ?_
  intro p e s m args below meth c s₁ B hml hv
  obtain ⟨rfl, hP, hK, hN⟩ := hv
  have hx := B.exec
  have hb := B.bytes
  have hr := B.returns
  have hts := atoms_spec (ws := W_bitCount) B.pre
  have ht := fun (w : Cond) (h : w ∈ tblG) => hts w (List.mem_cons_of_mem _ h)
  have hown : s.vm.findClass RJ6 = some m.cls := findClass_of_methodNamed B.named
  have hlocks := B.notSynchronized
  have hl := lv_entry ([.int p1] : List Value) (n := 1) (Nat.le_of_ble_eq_true rfl)
  rw [lg_entry_eq]
  generalize (lg_sl ([.int p1] : List Value) ++ List.replicate (1 - (lg_sl ([.int p1] : List Value)).length) Slot.unset).toArray = ls at hl ⊢
  have hl : lv_has ls 1 [(0, .int p1)] := hl
  rw [f_bitCount] at hR
  refine lv_iload_n hx hb dJ6_bitCount_0 rfl (lv_at hl 0 rfl) ?_
  refine lv_iload_n hx hb dJ6_bitCount_1 rfl (lv_at hl 0 rfl) ?_
  refine lv_iconst (v := 1) hx hb dJ6_bitCount_2 (by decide) ?_
  refine lv_iushr hx hb dJ6_bitCount_3 rfl ?_
  refine lv_ldcw (v := 1431655765) hx hb hown (ht _ k_0) dJ6_bitCount_4 ?_
  refine lv_iand hx hb dJ6_bitCount_7 ?_
  refine lv_isub hx hb dJ6_bitCount_8 ?_
  refine lv_istore_n (lv' := [(0, .int (p1 - (((p1.toUInt32 >>> ((1 : Int32).toUInt32 &&& Int32.toUInt32 31)).toInt32) &&& (1431655765 : Int32))))]) hx hb dJ6_bitCount_9 rfl hl (by decide) rfl (fun ls hl => ?_)
  refine lv_iload_n hx hb dJ6_bitCount_10 rfl (lv_at hl 0 rfl) ?_
  refine lv_ldcw (v := 858993459) hx hb hown (ht _ k_1) dJ6_bitCount_11 ?_
  refine lv_iand hx hb dJ6_bitCount_14 ?_
  refine lv_iload_n hx hb dJ6_bitCount_15 rfl (lv_at hl 0 rfl) ?_
  refine lv_iconst (v := 2) hx hb dJ6_bitCount_16 (by decide) ?_
  refine lv_iushr hx hb dJ6_bitCount_17 rfl ?_
  refine lv_ldcw (v := 858993459) hx hb hown (ht _ k_1) dJ6_bitCount_18 ?_
  refine lv_iand hx hb dJ6_bitCount_21 ?_
  refine lv_iadd hx hb dJ6_bitCount_22 ?_
  refine lv_istore_n (lv' := [(0, .int (((p1 - (((p1.toUInt32 >>> ((1 : Int32).toUInt32 &&& Int32.toUInt32 31)).toInt32) &&& (1431655765 : Int32))) &&& (858993459 : Int32)) + ((((p1 - (((p1.toUInt32 >>> ((1 : Int32).toUInt32 &&& Int32.toUInt32 31)).toInt32) &&& (1431655765 : Int32))).toUInt32 >>> ((2 : Int32).toUInt32 &&& Int32.toUInt32 31)).toInt32) &&& (858993459 : Int32))))]) hx hb dJ6_bitCount_23 rfl hl (by decide) rfl (fun ls hl => ?_)
  refine lv_iload_n hx hb dJ6_bitCount_24 rfl (lv_at hl 0 rfl) ?_
  refine lv_iload_n hx hb dJ6_bitCount_25 rfl (lv_at hl 0 rfl) ?_
  refine lv_iconst (v := 4) hx hb dJ6_bitCount_26 (by decide) ?_
  refine lv_iushr hx hb dJ6_bitCount_27 rfl ?_
  refine lv_iadd hx hb dJ6_bitCount_28 ?_
  refine lv_ldcw (v := 252645135) hx hb hown (ht _ k_2) dJ6_bitCount_29 ?_
  refine lv_iand hx hb dJ6_bitCount_32 ?_
  refine lv_istore_n (lv' := [(0, .int (((((p1 - (((p1.toUInt32 >>> ((1 : Int32).toUInt32 &&& Int32.toUInt32 31)).toInt32) &&& (1431655765 : Int32))) &&& (858993459 : Int32)) + ((((p1 - (((p1.toUInt32 >>> ((1 : Int32).toUInt32 &&& Int32.toUInt32 31)).toInt32) &&& (1431655765 : Int32))).toUInt32 >>> ((2 : Int32).toUInt32 &&& Int32.toUInt32 31)).toInt32) &&& (858993459 : Int32))) + (((((p1 - (((p1.toUInt32 >>> ((1 : Int32).toUInt32 &&& Int32.toUInt32 31)).toInt32) &&& (1431655765 : Int32))) &&& (858993459 : Int32)) + ((((p1 - (((p1.toUInt32 >>> ((1 : Int32).toUInt32 &&& Int32.toUInt32 31)).toInt32) &&& (1431655765 : Int32))).toUInt32 >>> ((2 : Int32).toUInt32 &&& Int32.toUInt32 31)).toInt32) &&& (858993459 : Int32))).toUInt32 >>> ((4 : Int32).toUInt32 &&& Int32.toUInt32 31)).toInt32)) &&& (252645135 : Int32)))]) hx hb dJ6_bitCount_33 rfl hl (by decide) rfl (fun ls hl => ?_)
  refine lv_iload_n hx hb dJ6_bitCount_34 rfl (lv_at hl 0 rfl) ?_
  refine lv_iload_n hx hb dJ6_bitCount_35 rfl (lv_at hl 0 rfl) ?_
  refine lv_bipush (v := 8) hx hb dJ6_bitCount_36 (by decide) ?_
  refine lv_iushr hx hb dJ6_bitCount_38 rfl ?_
  refine lv_iadd hx hb dJ6_bitCount_39 ?_
  refine lv_istore_n (lv' := [(0, .int ((((((p1 - (((p1.toUInt32 >>> ((1 : Int32).toUInt32 &&& Int32.toUInt32 31)).toInt32) &&& (1431655765 : Int32))) &&& (858993459 : Int32)) + ((((p1 - (((p1.toUInt32 >>> ((1 : Int32).toUInt32 &&& Int32.toUInt32 31)).toInt32) &&& (1431655765 : Int32))).toUInt32 >>> ((2 : Int32).toUInt32 &&& Int32.toUInt32 31)).toInt32) &&& (858993459 : Int32))) + (((((p1 - (((p1.toUInt32 >>> ((1 : Int32).toUInt32 &&& Int32.toUInt32 31)).toInt32) &&& (1431655765 : Int32))) &&& (858993459 : Int32)) + ((((p1 - (((p1.toUInt32 >>> ((1 : Int32).toUInt32 &&& Int32.toUInt32 31)).toInt32) &&& (1431655765 : Int32))).toUInt32 >>> ((2 : Int32).toUInt32 &&& Int32.toUInt32 31)).toInt32) &&& (858993459 : Int32))).toUInt32 >>> ((4 : Int32).toUInt32 &&& Int32.toUInt32 31)).toInt32)) &&& (252645135 : Int32)) + (((((((p1 - (((p1.toUInt32 >>> ((1 : Int32).toUInt32 &&& Int32.toUInt32 31)).toInt32) &&& (1431655765 : Int32))) &&& (858993459 : Int32)) + ((((p1 - (((p1.toUInt32 >>> ((1 : Int32).toUInt32 &&& Int32.toUInt32 31)).toInt32) &&& (1431655765 : Int32))).toUInt32 >>> ((2 : Int32).toUInt32 &&& Int32.toUInt32 31)).toInt32) &&& (858993459 : Int32))) + (((((p1 - (((p1.toUInt32 >>> ((1 : Int32).toUInt32 &&& Int32.toUInt32 31)).toInt32) &&& (1431655765 : Int32))) &&& (858993459 : Int32)) + ((((p1 - (((p1.toUInt32 >>> ((1 : Int32).toUInt32 &&& Int32.toUInt32 31)).toInt32) &&& (1431655765 : Int32))).toUInt32 >>> ((2 : Int32).toUInt32 &&& Int32.toUInt32 31)).toInt32) &&& (858993459 : Int32))).toUInt32 >>> ((4 : Int32).toUInt32 &&& Int32.toUInt32 31)).toInt32)) &&& (252645135 : Int32)).toUInt32 >>> ((8 : Int32).toUInt32 &&& Int32.toUInt32 31)).toInt32)))]) hx hb dJ6_bitCount_40 rfl hl (by decide) rfl (fun ls hl => ?_)
  refine lv_iload_n hx hb dJ6_bitCount_41 rfl (lv_at hl 0 rfl) ?_
  refine lv_iload_n hx hb dJ6_bitCount_42 rfl (lv_at hl 0 rfl) ?_
  refine lv_bipush (v := 16) hx hb dJ6_bitCount_43 (by decide) ?_
  refine lv_iushr hx hb dJ6_bitCount_45 rfl ?_
  refine lv_iadd hx hb dJ6_bitCount_46 ?_
  refine lv_istore_n (lv' := [(0, .int (((((((p1 - (((p1.toUInt32 >>> ((1 : Int32).toUInt32 &&& Int32.toUInt32 31)).toInt32) &&& (1431655765 : Int32))) &&& (858993459 : Int32)) + ((((p1 - (((p1.toUInt32 >>> ((1 : Int32).toUInt32 &&& Int32.toUInt32 31)).toInt32) &&& (1431655765 : Int32))).toUInt32 >>> ((2 : Int32).toUInt32 &&& Int32.toUInt32 31)).toInt32) &&& (858993459 : Int32))) + (((((p1 - (((p1.toUInt32 >>> ((1 : Int32).toUInt32 &&& Int32.toUInt32 31)).toInt32) &&& (1431655765 : Int32))) &&& (858993459 : Int32)) + ((((p1 - (((p1.toUInt32 >>> ((1 : Int32).toUInt32 &&& Int32.toUInt32 31)).toInt32) &&& (1431655765 : Int32))).toUInt32 >>> ((2 : Int32).toUInt32 &&& Int32.toUInt32 31)).toInt32) &&& (858993459 : Int32))).toUInt32 >>> ((4 : Int32).toUInt32 &&& Int32.toUInt32 31)).toInt32)) &&& (252645135 : Int32)) + (((((((p1 - (((p1.toUInt32 >>> ((1 : Int32).toUInt32 &&& Int32.toUInt32 31)).toInt32) &&& (1431655765 : Int32))) &&& (858993459 : Int32)) + ((((p1 - (((p1.toUInt32 >>> ((1 : Int32).toUInt32 &&& Int32.toUInt32 31)).toInt32) &&& (1431655765 : Int32))).toUInt32 >>> ((2 : Int32).toUInt32 &&& Int32.toUInt32 31)).toInt32) &&& (858993459 : Int32))) + (((((p1 - (((p1.toUInt32 >>> ((1 : Int32).toUInt32 &&& Int32.toUInt32 31)).toInt32) &&& (1431655765 : Int32))) &&& (858993459 : Int32)) + ((((p1 - (((p1.toUInt32 >>> ((1 : Int32).toUInt32 &&& Int32.toUInt32 31)).toInt32) &&& (1431655765 : Int32))).toUInt32 >>> ((2 : Int32).toUInt32 &&& Int32.toUInt32 31)).toInt32) &&& (858993459 : Int32))).toUInt32 >>> ((4 : Int32).toUInt32 &&& Int32.toUInt32 31)).toInt32)) &&& (252645135 : Int32)).toUInt32 >>> ((8 : Int32).toUInt32 &&& Int32.toUInt32 31)).toInt32)) + ((((((((p1 - (((p1.toUInt32 >>> ((1 : Int32).toUInt32 &&& Int32.toUInt32 31)).toInt32) &&& (1431655765 : Int32))) &&& (858993459 : Int32)) + ((((p1 - (((p1.toUInt32 >>> ((1 : Int32).toUInt32 &&& Int32.toUInt32 31)).toInt32) &&& (1431655765 : Int32))).toUInt32 >>> ((2 : Int32).toUInt32 &&& Int32.toUInt32 31)).toInt32) &&& (858993459 : Int32))) + (((((p1 - (((p1.toUInt32 >>> ((1 : Int32).toUInt32 &&& Int32.toUInt32 31)).toInt32) &&& (1431655765 : Int32))) &&& (858993459 : Int32)) + ((((p1 - (((p1.toUInt32 >>> ((1 : Int32).toUInt32 &&& Int32.toUInt32 31)).toInt32) &&& (1431655765 : Int32))).toUInt32 >>> ((2 : Int32).toUInt32 &&& Int32.toUInt32 31)).toInt32) &&& (858993459 : Int32))).toUInt32 >>> ((4 : Int32).toUInt32 &&& Int32.toUInt32 31)).toInt32)) &&& (252645135 : Int32)) + (((((((p1 - (((p1.toUInt32 >>> ((1 : Int32).toUInt32 &&& Int32.toUInt32 31)).toInt32) &&& (1431655765 : Int32))) &&& (858993459 : Int32)) + ((((p1 - (((p1.toUInt32 >>> ((1 : Int32).toUInt32 &&& Int32.toUInt32 31)).toInt32) &&& (1431655765 : Int32))).toUInt32 >>> ((2 : Int32).toUInt32 &&& Int32.toUInt32 31)).toInt32) &&& (858993459 : Int32))) + (((((p1 - (((p1.toUInt32 >>> ((1 : Int32).toUInt32 &&& Int32.toUInt32 31)).toInt32) &&& (1431655765 : Int32))) &&& (858993459 : Int32)) + ((((p1 - (((p1.toUInt32 >>> ((1 : Int32).toUInt32 &&& Int32.toUInt32 31)).toInt32) &&& (1431655765 : Int32))).toUInt32 >>> ((2 : Int32).toUInt32 &&& Int32.toUInt32 31)).toInt32) &&& (858993459 : Int32))).toUInt32 >>> ((4 : Int32).toUInt32 &&& Int32.toUInt32 31)).toInt32)) &&& (252645135 : Int32)).toUInt32 >>> ((8 : Int32).toUInt32 &&& Int32.toUInt32 31)).toInt32)).toUInt32 >>> ((16 : Int32).toUInt32 &&& Int32.toUInt32 31)).toInt32)))]) hx hb dJ6_bitCount_47 rfl hl (by decide) rfl (fun ls hl => ?_)
  refine lv_iload_n hx hb dJ6_bitCount_48 rfl (lv_at hl 0 rfl) ?_
  refine lv_bipush (v := 63) hx hb dJ6_bitCount_49 (by decide) ?_
  refine lv_iand hx hb dJ6_bitCount_51 ?_
  cases hR
  exact W.iret hx hb hr (fun t ht _ => ⟨rfl, ht⟩) t_nil dJ6_bitCount_52
abbrev RM_f_holds : Room := { frames := 0, cells := 0, slots := 0, locals := 0 }
abbrev W_holds : List Cond := .code yX6_holds cX6_holds 2 (some .boolean) :: tblG
set_option maxHeartbeats 4000000 in
set_option maxRecDepth 100000 in
theorem c_holds (l : Launch) (dC : Nat → ClassId) (dI : Nat → Nat → Nat) (ad : Nat → Nat) (tI tL tII tLL : ClassId)  (p1 : Int32) (p2 : Int32) (R0 : Int32) (hR : some R0 = f_holds p1 p2) : Met l yX6_holds W_holds RM_f_holds (roP (dC, dI) vwCl [(tI, .int), (tL, .long), (tII, .array .int), (tLL, .array .long)] [] ([.int p1, .int p2] : List Value)) (roQ (some (.int R0))) 0 0 (fun _ => False) := by
  refine Met.ofW (cc := cX6_holds) (maxL := 2) (ret := (some .boolean)) (by decide) rfl ?_
  intro p e s m args below meth c s₁ B hml hv
  obtain ⟨rfl, hP, hK, hN⟩ := hv
  have hx := B.exec
  have hb := B.bytes
  have hr := B.returns
  have hts := atoms_spec (ws := W_holds) B.pre
  have ht := fun (w : Cond) (h : w ∈ tblG) => hts w (List.mem_cons_of_mem _ h)
  have hown : s.vm.findClass RX6 = some m.cls := findClass_of_methodNamed B.named
  have hlocks := B.notSynchronized
  have hl := lv_entry ([.int p1, .int p2] : List Value) (n := 2) (Nat.le_of_ble_eq_true rfl)
  rw [lg_entry_eq]
  generalize (lg_sl ([.int p1, .int p2] : List Value) ++ List.replicate (2 - (lg_sl ([.int p1, .int p2] : List Value)).length) Slot.unset).toArray = ls at hl ⊢
  have hl : lv_has ls 2 [(0, .int p1), (1, .int p2)] := hl
  rw [f_holds] at hR
  refine lv_iload_n hx hb dX6_holds_0 rfl (lv_at hl 0 rfl) ?_
  refine lv_iload_n hx hb dX6_holds_1 rfl (lv_at hl 1 rfl) ?_
  refine lv_ishr hx hb dX6_holds_2 ?_
  refine lv_iconst (v := 1) hx hb dX6_holds_3 (by decide) ?_
  refine lv_iand hx hb dX6_holds_4 ?_
  refine lv_if_eq (tgt := 12) hx hb dX6_holds_5 (by decide) (fun c1 => ?_) (fun c1 => ?_)
  · replace hR := it_p c1 hR
    refine lv_iconst (v := 0) hx hb dX6_holds_12 (by decide) ?_
    cases hR
    exact W.zret hx hb hr rfl (fun t ht _ => ⟨rfl, ht⟩) t_nil dX6_holds_13
  · replace hR := it_n c1 hR
    refine lv_iconst (v := 1) hx hb dX6_holds_8 (by decide) ?_
    refine lv_goto (tgt := 13) hx hb dX6_holds_9 (by decide) ?_
    cases hR
    exact W.zret hx hb hr rfl (fun t ht _ => ⟨rfl, ht⟩) t_nil dX6_holds_13
abbrev RM_f_gcd : Room := { frames := 1, cells := 0, slots := 0, locals := 21 }
abbrev W_gcd : List Cond := .code yX6_commonDivisor cX6_commonDivisor 11 (some .long) :: tblG
set_option maxHeartbeats 4000000 in
set_option maxRecDepth 100000 in
theorem c_gcd (l : Launch) (dC : Nat → ClassId) (dI : Nat → Nat → Nat) (ad : Nat → Nat) (tI tL tII tLL : ClassId)  (p1 : Int64) (p2 : Int64) (R0 : Int64) (hR : some R0 = f_gcd p1 p2) : Met l yX6_commonDivisor W_gcd RM_f_gcd (roP (dC, dI) vwCl [(tI, .int), (tL, .long), (tII, .array .int), (tLL, .array .long)] [] ([.long p1, .long p2] : List Value)) (roQ (some (.long R0))) 0 0 (fun _ => False) := by
  refine Met.ofW (cc := cX6_commonDivisor) (maxL := 11) (ret := (some .long)) (by decide) rfl ?_
  intro p e s m args below meth c s₁ B hml hv
  obtain ⟨rfl, hP, hK, hN⟩ := hv
  have hx := B.exec
  have hb := B.bytes
  have hr := B.returns
  have hts := atoms_spec (ws := W_gcd) B.pre
  have ht := fun (w : Cond) (h : w ∈ tblG) => hts w (List.mem_cons_of_mem _ h)
  have hown : s.vm.findClass RX6 = some m.cls := findClass_of_methodNamed B.named
  have hlocks := B.notSynchronized
  have hl := lv_entry ([.long p1, .long p2] : List Value) (n := 11) (Nat.le_of_ble_eq_true rfl)
  rw [lg_entry_eq]
  generalize (lg_sl ([.long p1, .long p2] : List Value) ++ List.replicate (11 - (lg_sl ([.long p1, .long p2] : List Value)).length) Slot.unset).toArray = ls at hl ⊢
  have hl : lv_has ls 11 [(0, .long p1), (2, .long p2)] := hl
  rw [f_gcd] at hR
  refine lv_lload_n hx hb dX6_commonDivisor_0 rfl (lv_at hl 0 rfl) ?_
  refine va_mabs_long hx hb (hml.trans hl.1.symm) hown (ht _ k_3) (ht _ k_4) (ht _ k_5) (ht _ k_6) (Nat.le_of_ble_eq_true rfl) (Nat.le_of_ble_eq_true rfl) (Nat.zero_le _) (Nat.zero_le _) dX6_commonDivisor_1 ?_
  refine lv_lstore (lv' := [(4, .long (if 0 < p1 then p1 else -p1)), (0, .long p1), (2, .long p2)]) hx hb dX6_commonDivisor_4 hl (by decide) rfl (fun ls hl => ?_)
  refine lv_lload_n hx hb dX6_commonDivisor_6 rfl (lv_at hl 2 rfl) ?_
  refine va_mabs_long hx hb (hml.trans hl.1.symm) hown (ht _ k_3) (ht _ k_4) (ht _ k_5) (ht _ k_6) (Nat.le_of_ble_eq_true rfl) (Nat.le_of_ble_eq_true rfl) (Nat.zero_le _) (Nat.zero_le _) dX6_commonDivisor_7 ?_
  refine lv_lstore (lv' := [(6, .long (if 0 < p2 then p2 else -p2)), (4, .long (if 0 < p1 then p1 else -p1)), (0, .long p1), (2, .long p2)]) hx hb dX6_commonDivisor_10 hl (by decide) rfl (fun ls hl => ?_)
  refine lv_iconst (v := 0) hx hb dX6_commonDivisor_12 (by decide) ?_
  refine lv_istore (lv' := [(8, .int (0 : Int32)), (6, .long (if 0 < p2 then p2 else -p2)), (4, .long (if 0 < p1 then p1 else -p1)), (0, .long p1), (2, .long p2)]) hx hb dX6_commonDivisor_13 hl (by decide) rfl (fun ls hl => ?_)
  have L15_7 : ∀ (n : Nat) (x4_1 : Int64) (x6_2 : Int64) (x8_3 : Int32), ∀ (o_x4_1 : Int64) (o_x6_2 : Int64) (o_x8_3 : Int32), some (o_x4_1, o_x6_2, o_x8_3) = f_gcd_L15 n x4_1 x6_2 x8_3 → (∀ ls : Array Slot, lv_has ls 11 [(4, .long o_x4_1), (6, .long o_x6_2), (8, .int o_x8_3)] → W p l e (headSpec W_gcd RM_f_gcd).room s m ([.long p1, .long p2] : List Value).toArray below meth c s.heap [] 0 0 (MQ below (roQ (some (.long R0))) ([.long p1, .long p2] : List Value).toArray s 0 0 (fun _ => False)) (F0 m 50 ls [])) → ∀ ls : Array Slot, lv_has ls 11 [(4, .long x4_1), (6, .long x6_2), (8, .int x8_3)] → W p l e (headSpec W_gcd RM_f_gcd).room s m ([.long p1, .long p2] : List Value).toArray below meth c s.heap [] 0 0 (MQ below (roQ (some (.long R0))) ([.long p1, .long p2] : List Value).toArray s 0 0 (fun _ => False)) (F0 m 15 ls []) := by
    intro n
    induction n with
    | zero =>
      intro x4_1 x6_2 x8_3 o_x4_1 o_x6_2 o_x8_3 hR
      cases (show some _ = none from hR)
    | succ n ih =>
      intro x4_1 x6_2 x8_3 o_x4_1 o_x6_2 o_x8_3 hR hk ls hl
      rw [f_gcd_L15_s] at hR
      obtain ⟨y, hR, hQ⟩ := ob hR
      replace hR := hR.symm
      rw [f_gcd_B15] at hR
      refine lv_iload hx hb dX6_commonDivisor_15 (lv_at hl 2 rfl) ?_
      refine lv_bipush (v := 100) hx hb dX6_commonDivisor_17 (by decide) ?_
      refine lv_icmp_ge (tgt := 50) hx hb dX6_commonDivisor_19 (by decide) (fun c4 => ?_) (fun c4 => ?_)
      · replace hR := it_p c4 hR
        cases hR
        cases (show some _ = some _ from hQ)
        exact hk ls (lv_sub hl [0, 1, 2] rfl)
      · replace hR := it_n c4 hR
        refine lv_lload hx hb dX6_commonDivisor_22 (lv_at hl 1 rfl) ?_
        refine lv_lconst (v := 0) hx hb dX6_commonDivisor_24 (by decide) ?_
        refine W.lcmp hx hb dX6_commonDivisor_25 ?_
        refine lv_if_eq (tgt := 50) hx hb dX6_commonDivisor_26 (by decide) (fun c5 => ?_) (fun c5 => ?_)
        · replace hR := it_p c5 hR
          cases hR
          cases (show some _ = some _ from hQ)
          exact hk ls (lv_sub hl [0, 1, 2] rfl)
        · replace hR := it_n c5 hR
          refine lv_lload hx hb dX6_commonDivisor_29 (lv_at hl 0 rfl) ?_
          refine lv_lload hx hb dX6_commonDivisor_31 (lv_at hl 1 rfl) ?_
          obtain ⟨z6, hR⟩ := og hR
          refine lv_lrem hx hb dX6_commonDivisor_33 z6 ?_
          refine lv_lstore (lv' := [(9, .long (x4_1 - x4_1 / x6_2 * x6_2)), (4, .long x4_1), (6, .long x6_2), (8, .int x8_3)]) hx hb dX6_commonDivisor_34 hl (by decide) rfl (fun ls hl => ?_)
          refine lv_lload hx hb dX6_commonDivisor_36 (lv_at hl 2 rfl) ?_
          refine lv_lstore (lv' := [(4, .long x6_2), (9, .long (x4_1 - x4_1 / x6_2 * x6_2)), (6, .long x6_2), (8, .int x8_3)]) hx hb dX6_commonDivisor_38 hl (by decide) rfl (fun ls hl => ?_)
          refine lv_lload hx hb dX6_commonDivisor_40 (lv_at hl 1 rfl) ?_
          refine lv_lstore (lv' := [(6, .long (x4_1 - x4_1 / x6_2 * x6_2)), (4, .long x6_2), (9, .long (x4_1 - x4_1 / x6_2 * x6_2)), (8, .int x8_3)]) hx hb dX6_commonDivisor_42 hl (by decide) rfl (fun ls hl => ?_)
          refine lv_iinc (v := (x8_3 + 1)) (lv' := [(8, .int (x8_3 + 1)), (6, .long (x4_1 - x4_1 / x6_2 * x6_2)), (4, .long x6_2), (9, .long (x4_1 - x4_1 / x6_2 * x6_2))]) hx hb dX6_commonDivisor_44 hl (k := 3) rfl rfl (by decide) rfl (fun ls hl => ?_)
          refine lv_goto (tgt := 15) hx hb dX6_commonDivisor_47 (by decide) ?_
          cases hR
          exact ih x6_2 (x4_1 - x4_1 / x6_2 * x6_2) (x8_3 + 1) o_x4_1 o_x6_2 o_x8_3 hQ hk ls (lv_sub hl [2, 1, 0] rfl)
  obtain ⟨⟨u8, u9, u10⟩, hL, hR⟩ := ob hR
  try dsimp only at hR
  refine L15_7 300 (if 0 < p1 then p1 else -p1) (if 0 < p2 then p2 else -p2) (0 : Int32) u8 u9 u10 hL.symm (fun ls hl => ?_) ls (lv_sub hl [2, 1, 0] rfl)
  refine lv_lload hx hb dX6_commonDivisor_50 (lv_at hl 0 rfl) ?_
  cases hR
  exact W.lret hx hb hr (fun t ht _ => ⟨rfl, ht⟩) t_nil dX6_commonDivisor_52
abbrev RM_f_Fraction_put : Room := { frames := 2, cells := 0, slots := 0, locals := 51 }
abbrev W_Fraction_put : List Cond := .code yX2_put cX2_put 9 none :: tblG
set_option maxHeartbeats 4000000 in
set_option maxRecDepth 100000 in
theorem c_Fraction_put (l : Launch) (dC : Nat → ClassId) (dI : Nat → Nat → Nat) (ad : Nat → Nat) (tI tL tII tLL : ClassId) (a : Nat) (u : Int64) (lo : Int64) (p1 : Int64) (p2 : Int64) (R_u : Int64) (R_lo : Int64) (hR : some (R_u, R_lo) = f_Fraction_put p1 p2) : Met l yX2_put W_Fraction_put RM_f_Fraction_put (rwP (dC, dI) vwCl [(tI, .int), (tL, .long), (tII, .array .int), (tLL, .array .long)] (wF a u lo) ([.ref a, .long p1, .long p2] : List Value)) (rwQ (dC, dI) vwCl (wF a R_u R_lo) none (rwA (wF a u lo))) 0 0 (rwA (wF a u lo)) := by
  refine Met.ofW (cc := cX2_put) (maxL := 9) (ret := none) (by decide) rfl ?_
  intro p e s m args below meth c s₁ B hml hv
  obtain ⟨rfl, hP, hK, hN, hD⟩ := hv
  have hx := B.exec
  have hb := B.bytes
  have hr := B.returns
  have hts := atoms_spec (ws := W_Fraction_put) B.pre
  have ht := fun (w : Cond) (h : w ∈ tblG) => hts w (List.mem_cons_of_mem _ h)
  have hown : s.vm.findClass RX2 = some m.cls := findClass_of_methodNamed B.named
  have hlocks := B.notSynchronized
  have hl := lv_entry ([.ref a, .long p1, .long p2] : List Value) (n := 9) (Nat.le_of_ble_eq_true rfl)
  rw [lg_entry_eq]
  generalize (lg_sl ([.ref a, .long p1, .long p2] : List Value) ++ List.replicate (9 - (lg_sl ([.ref a, .long p1, .long p2] : List Value)).length) Slot.unset).toArray = ls at hl ⊢
  have hl : lv_has ls 9 [(0, .ref a), (1, .long p1), (3, .long p2)] := hl
  have hD := hD.own
  have hS : va_S (rwA (wF a u lo)) s.heap s.heap [] := va_S.rf
  suffices K : ∀ (H : Heap) (locs : List Loc), va_P (dC, dI) vwCl (wF a u lo) H → va_D (rwA (wF a u lo)) (wF a u lo) → va_S (rwA (wF a u lo)) s.heap H locs → W p l e (headSpec W_Fraction_put RM_f_Fraction_put).room s m ([.ref a, .long p1, .long p2] : List Value).toArray below meth c H locs 0 0 (MQ below (rwQ (dC, dI) vwCl (wF a R_u R_lo) none (rwA (wF a u lo))) ([.ref a, .long p1, .long p2] : List Value).toArray s 0 0 (rwA (wF a u lo))) (F0 m 0 ls []) from K s.heap [] hP hD hS
  clear hP hD hS
  intro H locs hP hD hS
  rw [f_Fraction_put] at hR
  refine lv_lload_n hx hb dX2_put_0 rfl (lv_at hl 1 rfl) ?_
  refine lv_lload_n hx hb dX2_put_1 rfl (lv_at hl 2 rfl) ?_
  obtain ⟨r1, hC, hR⟩ := ob hR
  try dsimp only at hR
  refine ro_calll (va_runSN (As := [.long p1, .long p2]) (rest := []) ⟨hx, hb, hml, hown, ht⟩ (c_gcd l dC dI ad tI tL tII tLL  p1 p2 r1 hC.symm) ⟨va_cnB 2 ht (goodG k_7) rfl rfl rfl (nm_2 hN) (ht _ k_8) (by decide +kernel) ⟨Nat.le_of_ble_eq_true rfl, Nat.le_of_ble_eq_true rfl⟩, (ht _ k_9), trivial⟩ (pre_s hK hN (hP.sub (ws' := []) [] rfl)) rfl rfl hl.1 rfl (lv_room (Nat.le_of_ble_eq_true rfl)) dX2_put_2 ⟨Nat.zero_le _, Nat.zero_le _⟩) ?_
  refine lv_lstore (lv' := [(5, .long r1), (0, .ref a), (1, .long p1), (3, .long p2)]) hx hb dX2_put_5 hl (by decide) rfl (fun ls hl => ?_)
  refine lv_lload_n hx hb dX2_put_7 rfl (lv_at hl 3 rfl) ?_
  refine lv_lconst (v := 0) hx hb dX2_put_8 (by decide) ?_
  refine W.lcmp hx hb dX2_put_9 ?_
  refine lv_if_eq (tgt := 20) hx hb dX2_put_10 (by decide) (fun c2 => ?_) (fun c2 => ?_)
  · replace hR := it_p c2 hR
    refine lv_aload_n hx hb dX2_put_20 rfl (lv_at hl 1 rfl) ?_
    refine lv_lconst (v := 0) hx hb dX2_put_21 (by decide) ?_
    refine va_put (D := (dC, dI)) (ci := 2) (v := .long (0 : Int64)) (ty := .long) (C := RX2) (T := TX2) (N := 2) hx hb ht hinX2 tyX2 tyX2_ok nmX2 hown hK hP hD hS 0 rfl rfl 0 (by decide) (ht _ k_10) (fun _ h9 => h9) rfl (by decide +kernel) rfl rfl (Nat.le_of_ble_eq_true rfl) dX2_put_22 (fun H locs hP hD hS => ?_)
    have hP : va_P (dC, dI) vwCl (wF a (0 : Int64) lo) H := hP
    have hD : va_D (rwA (wF a u lo)) (wF a (0 : Int64) lo) := hD
    refine lv_aload_n hx hb dX2_put_25 rfl (lv_at hl 1 rfl) ?_
    refine lv_lconst (v := 1) hx hb dX2_put_26 (by decide) ?_
    refine va_put (D := (dC, dI)) (ci := 2) (v := .long (1 : Int64)) (ty := .long) (C := RX2) (T := TX2) (N := 2) hx hb ht hinX2 tyX2 tyX2_ok nmX2 hown hK hP hD hS 0 rfl rfl 1 (by decide) (ht _ k_11) (fun _ h9 => h9) rfl (by decide +kernel) rfl rfl (Nat.le_of_ble_eq_true rfl) dX2_put_27 (fun H locs hP hD hS => ?_)
    have hP : va_P (dC, dI) vwCl (wF a (0 : Int64) (1 : Int64)) H := hP
    have hD : va_D (rwA (wF a u lo)) (wF a (0 : Int64) (1 : Int64)) := hD
    cases hR
    exact W.vret hx hb hr (fun t ht _ => ⟨rfl, by rw [ht]; exact hP, hS.F ht⟩) hS.2.2 dX2_put_30
  · replace hR := it_n c2 hR
    refine lv_lload hx hb dX2_put_13 (lv_at hl 0 rfl) ?_
    refine lv_lconst (v := 0) hx hb dX2_put_15 (by decide) ?_
    refine W.lcmp hx hb dX2_put_16 ?_
    refine lv_if_ne (tgt := 31) hx hb dX2_put_17 (by decide) (fun c3 => ?_) (fun c3 => ?_)
    · replace hR := it_n c3 hR
      refine lv_lload_n hx hb dX2_put_31 rfl (lv_at hl 3 rfl) ?_
      refine lv_lconst (v := 0) hx hb dX2_put_32 (by decide) ?_
      refine W.lcmp hx hb dX2_put_33 ?_
      refine lv_if_ge (tgt := 43) hx hb dX2_put_34 (by decide) (fun c4 => ?_) (fun c4 => ?_)
      · replace hR := it_p c4 hR
        refine lv_lload hx hb dX2_put_43 (lv_at hl 0 rfl) ?_
        refine lv_lstore (lv' := [(7, .long r1), (5, .long r1), (0, .ref a), (1, .long p1), (3, .long p2)]) hx hb dX2_put_45 hl (by decide) rfl (fun ls hl => ?_)
        refine lv_aload_n hx hb dX2_put_47 rfl (lv_at hl 2 rfl) ?_
        refine lv_lload_n hx hb dX2_put_48 rfl (lv_at hl 3 rfl) ?_
        refine lv_lload hx hb dX2_put_49 (lv_at hl 0 rfl) ?_
        obtain ⟨z5, hR⟩ := og hR
        refine lv_ldiv hx hb dX2_put_51 z5 ?_
        refine va_put (D := (dC, dI)) (ci := 2) (v := .long (p1 / r1)) (ty := .long) (C := RX2) (T := TX2) (N := 2) hx hb ht hinX2 tyX2 tyX2_ok nmX2 hown hK hP hD hS 0 rfl rfl 0 (by decide) (ht _ k_10) (fun _ h9 => h9) rfl (by decide +kernel) rfl rfl (Nat.le_of_ble_eq_true rfl) dX2_put_52 (fun H locs hP hD hS => ?_)
        have hP : va_P (dC, dI) vwCl (wF a (p1 / r1) lo) H := hP
        have hD : va_D (rwA (wF a u lo)) (wF a (p1 / r1) lo) := hD
        refine lv_aload_n hx hb dX2_put_55 rfl (lv_at hl 2 rfl) ?_
        refine lv_lload_n hx hb dX2_put_56 rfl (lv_at hl 4 rfl) ?_
        refine lv_lload hx hb dX2_put_57 (lv_at hl 0 rfl) ?_
        obtain ⟨z6, hR⟩ := og hR
        refine lv_ldiv hx hb dX2_put_59 z6 ?_
        refine va_put (D := (dC, dI)) (ci := 2) (v := .long (p2 / r1)) (ty := .long) (C := RX2) (T := TX2) (N := 2) hx hb ht hinX2 tyX2 tyX2_ok nmX2 hown hK hP hD hS 0 rfl rfl 1 (by decide) (ht _ k_11) (fun _ h9 => h9) rfl (by decide +kernel) rfl rfl (Nat.le_of_ble_eq_true rfl) dX2_put_60 (fun H locs hP hD hS => ?_)
        have hP : va_P (dC, dI) vwCl (wF a (p1 / r1) (p2 / r1)) H := hP
        have hD : va_D (rwA (wF a u lo)) (wF a (p1 / r1) (p2 / r1)) := hD
        cases hR
        exact W.vret hx hb hr (fun t ht _ => ⟨rfl, by rw [ht]; exact hP, hS.F ht⟩) hS.2.2 dX2_put_63
      · replace hR := it_n c4 hR
        refine lv_lload hx hb dX2_put_37 (lv_at hl 0 rfl) ?_
        refine lv_lneg hx hb dX2_put_39 ?_
        refine lv_goto (tgt := 45) hx hb dX2_put_40 (by decide) ?_
        refine lv_lstore (lv' := [(7, .long (-r1)), (5, .long r1), (0, .ref a), (1, .long p1), (3, .long p2)]) hx hb dX2_put_45 hl (by decide) rfl (fun ls hl => ?_)
        refine lv_aload_n hx hb dX2_put_47 rfl (lv_at hl 2 rfl) ?_
        refine lv_lload_n hx hb dX2_put_48 rfl (lv_at hl 3 rfl) ?_
        refine lv_lload hx hb dX2_put_49 (lv_at hl 0 rfl) ?_
        obtain ⟨z7, hR⟩ := og hR
        refine lv_ldiv hx hb dX2_put_51 z7 ?_
        refine va_put (D := (dC, dI)) (ci := 2) (v := .long (p1 / (-r1))) (ty := .long) (C := RX2) (T := TX2) (N := 2) hx hb ht hinX2 tyX2 tyX2_ok nmX2 hown hK hP hD hS 0 rfl rfl 0 (by decide) (ht _ k_10) (fun _ h9 => h9) rfl (by decide +kernel) rfl rfl (Nat.le_of_ble_eq_true rfl) dX2_put_52 (fun H locs hP hD hS => ?_)
        have hP : va_P (dC, dI) vwCl (wF a (p1 / (-r1)) lo) H := hP
        have hD : va_D (rwA (wF a u lo)) (wF a (p1 / (-r1)) lo) := hD
        refine lv_aload_n hx hb dX2_put_55 rfl (lv_at hl 2 rfl) ?_
        refine lv_lload_n hx hb dX2_put_56 rfl (lv_at hl 4 rfl) ?_
        refine lv_lload hx hb dX2_put_57 (lv_at hl 0 rfl) ?_
        obtain ⟨z8, hR⟩ := og hR
        refine lv_ldiv hx hb dX2_put_59 z8 ?_
        refine va_put (D := (dC, dI)) (ci := 2) (v := .long (p2 / (-r1))) (ty := .long) (C := RX2) (T := TX2) (N := 2) hx hb ht hinX2 tyX2 tyX2_ok nmX2 hown hK hP hD hS 0 rfl rfl 1 (by decide) (ht _ k_11) (fun _ h9 => h9) rfl (by decide +kernel) rfl rfl (Nat.le_of_ble_eq_true rfl) dX2_put_60 (fun H locs hP hD hS => ?_)
        have hP : va_P (dC, dI) vwCl (wF a (p1 / (-r1)) (p2 / (-r1))) H := hP
        have hD : va_D (rwA (wF a u lo)) (wF a (p1 / (-r1)) (p2 / (-r1))) := hD
        cases hR
        exact W.vret hx hb hr (fun t ht _ => ⟨rfl, by rw [ht]; exact hP, hS.F ht⟩) hS.2.2 dX2_put_63
    · replace hR := it_p c3 hR
      refine lv_aload_n hx hb dX2_put_20 rfl (lv_at hl 1 rfl) ?_
      refine lv_lconst (v := 0) hx hb dX2_put_21 (by decide) ?_
      refine va_put (D := (dC, dI)) (ci := 2) (v := .long (0 : Int64)) (ty := .long) (C := RX2) (T := TX2) (N := 2) hx hb ht hinX2 tyX2 tyX2_ok nmX2 hown hK hP hD hS 0 rfl rfl 0 (by decide) (ht _ k_10) (fun _ h9 => h9) rfl (by decide +kernel) rfl rfl (Nat.le_of_ble_eq_true rfl) dX2_put_22 (fun H locs hP hD hS => ?_)
      have hP : va_P (dC, dI) vwCl (wF a (0 : Int64) lo) H := hP
      have hD : va_D (rwA (wF a u lo)) (wF a (0 : Int64) lo) := hD
      refine lv_aload_n hx hb dX2_put_25 rfl (lv_at hl 1 rfl) ?_
      refine lv_lconst (v := 1) hx hb dX2_put_26 (by decide) ?_
      refine va_put (D := (dC, dI)) (ci := 2) (v := .long (1 : Int64)) (ty := .long) (C := RX2) (T := TX2) (N := 2) hx hb ht hinX2 tyX2 tyX2_ok nmX2 hown hK hP hD hS 0 rfl rfl 1 (by decide) (ht _ k_11) (fun _ h9 => h9) rfl (by decide +kernel) rfl rfl (Nat.le_of_ble_eq_true rfl) dX2_put_27 (fun H locs hP hD hS => ?_)
      have hP : va_P (dC, dI) vwCl (wF a (0 : Int64) (1 : Int64)) H := hP
      have hD : va_D (rwA (wF a u lo)) (wF a (0 : Int64) (1 : Int64)) := hD
      cases hR
      exact W.vret hx hb hr (fun t ht _ => ⟨rfl, by rw [ht]; exact hP, hS.F ht⟩) hS.2.2 dX2_put_30
abbrev RM_f_Chain_has : Room := { frames := 0, cells := 0, slots := 0, locals := 0 }
abbrev W_Chain_has : List Cond := .code yX0_has cX0_has 2 (some .boolean) :: tblG
set_option maxHeartbeats 4000000 in
set_option maxRecDepth 100000 in
theorem c_Chain_has (l : Launch) (dC : Nat → ClassId) (dI : Nat → Nat → Nat) (ad : Nat → Nat) (tI tL tII tLL : ClassId) (cnt : Int32) (w : Nat → Nat → Int32) (tot : Nat → Int32) (rew : Nat → Int32) (grp : Nat → Int32) (fin : Nat → Int32) (gns : Nat → Int64) (rst : Nat → Int32) (rws : Nat → Nat → Int64) (last : Int32) (now : Nat → Int64) (nxt : Nat → Int64) (whl : Int64) (au : Int64) (al : Int64) (mu : Int64) (ml : Int64) (p1 : Int32) (R0 : Int32) (hR : some R0 = f_Chain_has cnt p1) : Met l yX0_has W_Chain_has RM_f_Chain_has (roP (dC, dI) vwCl [(tI, .int), (tL, .long), (tII, .array .int), (tLL, .array .long)] (wC ad tI tL tII tLL cnt w tot rew grp fin gns rst rws last now nxt whl au al mu ml) ([.ref (ad 1), .int p1] : List Value)) (roQ (some (.int R0))) 0 0 (fun _ => False) := by
  refine Met.ofW (cc := cX0_has) (maxL := 2) (ret := (some .boolean)) (by decide) rfl ?_
  intro p e s m args below meth c s₁ B hml hv
  obtain ⟨rfl, hP, hK, hN⟩ := hv
  have hx := B.exec
  have hb := B.bytes
  have hr := B.returns
  have hts := atoms_spec (ws := W_Chain_has) B.pre
  have ht := fun (w : Cond) (h : w ∈ tblG) => hts w (List.mem_cons_of_mem _ h)
  have hown : s.vm.findClass RX0 = some m.cls := findClass_of_methodNamed B.named
  have hlocks := B.notSynchronized
  have hl := lv_entry ([.ref (ad 1), .int p1] : List Value) (n := 2) (Nat.le_of_ble_eq_true rfl)
  rw [lg_entry_eq]
  generalize (lg_sl ([.ref (ad 1), .int p1] : List Value) ++ List.replicate (2 - (lg_sl ([.ref (ad 1), .int p1] : List Value)).length) Slot.unset).toArray = ls at hl ⊢
  have hl : lv_has ls 2 [(0, .ref (ad 1)), (1, .int p1)] := hl
  rw [f_Chain_has] at hR
  refine lv_iload_n hx hb dX0_has_0 rfl (lv_at hl 1 rfl) ?_
  refine lv_if_lt (tgt := 16) hx hb dX0_has_1 (by decide) (fun c1 => ?_) (fun c1 => ?_)
  · replace hR := it_p c1 hR
    refine lv_iconst (v := 0) hx hb dX0_has_16 (by decide) ?_
    cases hR
    exact W.zret hx hb hr rfl (fun t ht _ => ⟨rfl, ht⟩) t_nil dX0_has_17
  · replace hR := it_n c1 hR
    refine lv_iload_n hx hb dX0_has_4 rfl (lv_at hl 1 rfl) ?_
    refine lv_aload_n hx hb dX0_has_5 rfl (lv_at hl 0 rfl) ?_
    refine va_get (D := (dC, dI)) (ci := 0) (v := .int cnt) (C := RX0) (T := TX0) (N := 4) hx hb ht hinX0 hown hK hP 1 rfl rfl 3 (by decide) (ht _ k_12) (fun _ h9 => h9) rfl dX0_has_6 ?_
    refine lv_icmp_ge (tgt := 16) hx hb dX0_has_9 (by decide) (fun c2 => ?_) (fun c2 => ?_)
    · replace hR := it_p c2 hR
      refine lv_iconst (v := 0) hx hb dX0_has_16 (by decide) ?_
      cases hR
      exact W.zret hx hb hr rfl (fun t ht _ => ⟨rfl, ht⟩) t_nil dX0_has_17
    · replace hR := it_n c2 hR
      refine lv_iconst (v := 1) hx hb dX0_has_12 (by decide) ?_
      refine lv_goto (tgt := 17) hx hb dX0_has_13 (by decide) ?_
      cases hR
      exact W.zret hx hb hr rfl (fun t ht _ => ⟨rfl, ht⟩) t_nil dX0_has_17
abbrev RM_f_Chain_all : Room := { frames := 0, cells := 0, slots := 0, locals := 0 }
abbrev W_Chain_all : List Cond := .code yX0_all cX0_all 1 (some .int) :: tblG
set_option maxHeartbeats 4000000 in
set_option maxRecDepth 100000 in
theorem c_Chain_all (l : Launch) (dC : Nat → ClassId) (dI : Nat → Nat → Nat) (ad : Nat → Nat) (tI tL tII tLL : ClassId) (cnt : Int32) (w : Nat → Nat → Int32) (tot : Nat → Int32) (rew : Nat → Int32) (grp : Nat → Int32) (fin : Nat → Int32) (gns : Nat → Int64) (rst : Nat → Int32) (rws : Nat → Nat → Int64) (last : Int32) (now : Nat → Int64) (nxt : Nat → Int64) (whl : Int64) (au : Int64) (al : Int64) (mu : Int64) (ml : Int64)  (R0 : Int32) (hR : some R0 = f_Chain_all cnt) : Met l yX0_all W_Chain_all RM_f_Chain_all (roP (dC, dI) vwCl [(tI, .int), (tL, .long), (tII, .array .int), (tLL, .array .long)] (wC ad tI tL tII tLL cnt w tot rew grp fin gns rst rws last now nxt whl au al mu ml) ([.ref (ad 1)] : List Value)) (roQ (some (.int R0))) 0 0 (fun _ => False) := by
  refine Met.ofW (cc := cX0_all) (maxL := 1) (ret := (some .int)) (by decide) rfl ?_
  intro p e s m args below meth c s₁ B hml hv
  obtain ⟨rfl, hP, hK, hN⟩ := hv
  have hx := B.exec
  have hb := B.bytes
  have hr := B.returns
  have hts := atoms_spec (ws := W_Chain_all) B.pre
  have ht := fun (w : Cond) (h : w ∈ tblG) => hts w (List.mem_cons_of_mem _ h)
  have hown : s.vm.findClass RX0 = some m.cls := findClass_of_methodNamed B.named
  have hlocks := B.notSynchronized
  have hl := lv_entry ([.ref (ad 1)] : List Value) (n := 1) (Nat.le_of_ble_eq_true rfl)
  rw [lg_entry_eq]
  generalize (lg_sl ([.ref (ad 1)] : List Value) ++ List.replicate (1 - (lg_sl ([.ref (ad 1)] : List Value)).length) Slot.unset).toArray = ls at hl ⊢
  have hl : lv_has ls 1 [(0, .ref (ad 1))] := hl
  rw [f_Chain_all] at hR
  refine lv_iconst (v := 1) hx hb dX0_all_0 (by decide) ?_
  refine lv_aload_n hx hb dX0_all_1 rfl (lv_at hl 0 rfl) ?_
  refine va_get (D := (dC, dI)) (ci := 0) (v := .int cnt) (C := RX0) (T := TX0) (N := 4) hx hb ht hinX0 hown hK hP 1 rfl rfl 3 (by decide) (ht _ k_12) (fun _ h9 => h9) rfl dX0_all_2 ?_
  refine lv_ishl hx hb dX0_all_5 ?_
  refine lv_iconst (v := 1) hx hb dX0_all_6 (by decide) ?_
  refine lv_isub hx hb dX0_all_7 ?_
  cases hR
  exact W.iret hx hb hr (fun t ht _ => ⟨rfl, ht⟩) t_nil dX0_all_8
abbrev RM_f_Chain_isEnd : Room := { frames := 0, cells := 0, slots := 0, locals := 0 }
abbrev W_Chain_isEnd : List Cond := .code yX0_isEnd cX0_isEnd 2 (some .boolean) :: tblG
set_option maxHeartbeats 4000000 in
set_option maxRecDepth 100000 in
theorem c_Chain_isEnd (l : Launch) (dC : Nat → ClassId) (dI : Nat → Nat → Nat) (ad : Nat → Nat) (tI tL tII tLL : ClassId) (cnt : Int32) (w : Nat → Nat → Int32) (tot : Nat → Int32) (rew : Nat → Int32) (grp : Nat → Int32) (fin : Nat → Int32) (gns : Nat → Int64) (rst : Nat → Int32) (rws : Nat → Nat → Int64) (last : Int32) (now : Nat → Int64) (nxt : Nat → Int64) (whl : Int64) (au : Int64) (al : Int64) (mu : Int64) (ml : Int64) (p1 : Int32) (R0 : Int32) (hR : some R0 = f_Chain_isEnd tot p1) : Met l yX0_isEnd W_Chain_isEnd RM_f_Chain_isEnd (roP (dC, dI) vwCl [(tI, .int), (tL, .long), (tII, .array .int), (tLL, .array .long)] (wC ad tI tL tII tLL cnt w tot rew grp fin gns rst rws last now nxt whl au al mu ml) ([.ref (ad 1), .int p1] : List Value)) (roQ (some (.int R0))) 0 0 (fun _ => False) := by
  refine Met.ofW (cc := cX0_isEnd) (maxL := 2) (ret := (some .boolean)) (by decide) rfl ?_
  intro p e s m args below meth c s₁ B hml hv
  obtain ⟨rfl, hP, hK, hN⟩ := hv
  have hx := B.exec
  have hb := B.bytes
  have hr := B.returns
  have hts := atoms_spec (ws := W_Chain_isEnd) B.pre
  have ht := fun (w : Cond) (h : w ∈ tblG) => hts w (List.mem_cons_of_mem _ h)
  have hown : s.vm.findClass RX0 = some m.cls := findClass_of_methodNamed B.named
  have hlocks := B.notSynchronized
  have hl := lv_entry ([.ref (ad 1), .int p1] : List Value) (n := 2) (Nat.le_of_ble_eq_true rfl)
  rw [lg_entry_eq]
  generalize (lg_sl ([.ref (ad 1), .int p1] : List Value) ++ List.replicate (2 - (lg_sl ([.ref (ad 1), .int p1] : List Value)).length) Slot.unset).toArray = ls at hl ⊢
  have hl : lv_has ls 2 [(0, .ref (ad 1)), (1, .int p1)] := hl
  rw [f_Chain_isEnd] at hR
  refine lv_aload_n hx hb dX0_isEnd_0 rfl (lv_at hl 0 rfl) ?_
  refine va_get (D := (dC, dI)) (ci := 0) (v := .ref (ad 10)) (C := RX0) (T := TX0) (N := 4) hx hb ht hinX0 hown hK hP 1 rfl rfl 1 (by decide) (ht _ k_13) (fun _ h9 => h9) rfl dX0_isEnd_1 ?_
  refine lv_iload_n hx hb dX0_isEnd_4 rfl (lv_at hl 1 rfl) ?_
  obtain ⟨z1, hR⟩ := og hR
  refine va_iald hx hb hK hP 10 0 rfl rfl (ix_in z1) dX0_isEnd_5 ?_
  refine lv_if_ne (tgt := 13) hx hb dX0_isEnd_6 (by decide) (fun c2 => ?_) (fun c2 => ?_)
  · replace hR := it_n c2 hR
    refine lv_iconst (v := 0) hx hb dX0_isEnd_13 (by decide) ?_
    cases hR
    exact W.zret hx hb hr rfl (fun t ht _ => ⟨rfl, ht⟩) t_nil dX0_isEnd_14
  · replace hR := it_p c2 hR
    refine lv_iconst (v := 1) hx hb dX0_isEnd_9 (by decide) ?_
    refine lv_goto (tgt := 14) hx hb dX0_isEnd_10 (by decide) ?_
    cases hR
    exact W.zret hx hb hr rfl (fun t ht _ => ⟨rfl, ht⟩) t_nil dX0_isEnd_14
abbrev RM_f_Chain_ends : Room := { frames := 1, cells := 0, slots := 0, locals := 21 }
abbrev W_Chain_ends : List Cond := .code yX0_ends cX0_ends 3 (some .int) :: tblG
set_option maxHeartbeats 4000000 in
set_option maxRecDepth 100000 in
theorem c_Chain_ends (l : Launch) (dC : Nat → ClassId) (dI : Nat → Nat → Nat) (ad : Nat → Nat) (tI tL tII tLL : ClassId) (cnt : Int32) (w : Nat → Nat → Int32) (tot : Nat → Int32) (rew : Nat → Int32) (grp : Nat → Int32) (fin : Nat → Int32) (gns : Nat → Int64) (rst : Nat → Int32) (rws : Nat → Nat → Int64) (last : Int32) (now : Nat → Int64) (nxt : Nat → Int64) (whl : Int64) (au : Int64) (al : Int64) (mu : Int64) (ml : Int64)  (R0 : Int32) (hR : some R0 = f_Chain_ends cnt tot) : Met l yX0_ends W_Chain_ends RM_f_Chain_ends (roP (dC, dI) vwCl [(tI, .int), (tL, .long), (tII, .array .int), (tLL, .array .long)] (wC ad tI tL tII tLL cnt w tot rew grp fin gns rst rws last now nxt whl au al mu ml) ([.ref (ad 1)] : List Value)) (roQ (some (.int R0))) 0 0 (fun _ => False) := by
  refine Met.ofW (cc := cX0_ends) (maxL := 3) (ret := (some .int)) (by decide) rfl ?_
  intro p e s m args below meth c s₁ B hml hv
  obtain ⟨rfl, hP, hK, hN⟩ := hv
  have hx := B.exec
  have hb := B.bytes
  have hr := B.returns
  have hts := atoms_spec (ws := W_Chain_ends) B.pre
  have ht := fun (w : Cond) (h : w ∈ tblG) => hts w (List.mem_cons_of_mem _ h)
  have hown : s.vm.findClass RX0 = some m.cls := findClass_of_methodNamed B.named
  have hlocks := B.notSynchronized
  have hl := lv_entry ([.ref (ad 1)] : List Value) (n := 3) (Nat.le_of_ble_eq_true rfl)
  rw [lg_entry_eq]
  generalize (lg_sl ([.ref (ad 1)] : List Value) ++ List.replicate (3 - (lg_sl ([.ref (ad 1)] : List Value)).length) Slot.unset).toArray = ls at hl ⊢
  have hl : lv_has ls 3 [(0, .ref (ad 1))] := hl
  rw [f_Chain_ends] at hR
  refine lv_iconst (v := 0) hx hb dX0_ends_0 (by decide) ?_
  refine lv_istore_n (lv' := [(1, .int (0 : Int32)), (0, .ref (ad 1))]) hx hb dX0_ends_1 rfl hl (by decide) rfl (fun ls hl => ?_)
  refine lv_iconst (v := 0) hx hb dX0_ends_2 (by decide) ?_
  refine lv_istore_n (lv' := [(2, .int (0 : Int32)), (1, .int (0 : Int32)), (0, .ref (ad 1))]) hx hb dX0_ends_3 rfl hl (by decide) rfl (fun ls hl => ?_)
  have L4_6 : ∀ (n : Nat) (x1_1 : Int32) (x2_2 : Int32), ∀ (o_x1_1 : Int32) (o_x2_2 : Int32), some (o_x1_1, o_x2_2) = f_Chain_ends_L4 cnt tot n x1_1 x2_2 → (∀ ls : Array Slot, lv_has ls 3 [(0, .ref (ad 1)), (1, .int o_x1_1), (2, .int o_x2_2)] → W p l e (headSpec W_Chain_ends RM_f_Chain_ends).room s m ([.ref (ad 1)] : List Value).toArray below meth c s.heap [] 0 0 (MQ below (roQ (some (.int R0))) ([.ref (ad 1)] : List Value).toArray s 0 0 (fun _ => False)) (F0 m 32 ls [])) → ∀ ls : Array Slot, lv_has ls 3 [(0, .ref (ad 1)), (1, .int x1_1), (2, .int x2_2)] → W p l e (headSpec W_Chain_ends RM_f_Chain_ends).room s m ([.ref (ad 1)] : List Value).toArray below meth c s.heap [] 0 0 (MQ below (roQ (some (.int R0))) ([.ref (ad 1)] : List Value).toArray s 0 0 (fun _ => False)) (F0 m 4 ls []) := by
    intro n
    induction n with
    | zero =>
      intro x1_1 x2_2 o_x1_1 o_x2_2 hR
      cases (show some _ = none from hR)
    | succ n ih =>
      intro x1_1 x2_2 o_x1_1 o_x2_2 hR hk ls hl
      rw [f_Chain_ends_L4_s] at hR
      obtain ⟨y, hR, hQ⟩ := ob hR
      replace hR := hR.symm
      rw [f_Chain_ends_B4] at hR
      refine lv_iload_n hx hb dX0_ends_4 rfl (lv_at hl 2 rfl) ?_
      refine lv_aload_n hx hb dX0_ends_5 rfl (lv_at hl 0 rfl) ?_
      refine va_get (D := (dC, dI)) (ci := 0) (v := .int cnt) (C := RX0) (T := TX0) (N := 4) hx hb ht hinX0 hown hK hP 1 rfl rfl 3 (by decide) (ht _ k_12) (fun _ h9 => h9) rfl dX0_ends_6 ?_
      refine lv_icmp_ge (tgt := 32) hx hb dX0_ends_9 (by decide) (fun c3 => ?_) (fun c3 => ?_)
      · replace hR := it_p c3 hR
        cases hR
        cases (show some _ = some _ from hQ)
        exact hk ls (lv_sub hl [0, 1, 2] rfl)
      · replace hR := it_n c3 hR
        refine lv_aload_n hx hb dX0_ends_12 rfl (lv_at hl 0 rfl) ?_
        refine lv_iload_n hx hb dX0_ends_13 rfl (lv_at hl 2 rfl) ?_
        obtain ⟨r4, hC, hR⟩ := ob hR
        try dsimp only at hR
        refine ro_calli (va_runV (As := [.int x2_2]) (rest := []) ⟨hx, hb, hml, hown, ht⟩ (c_Chain_isEnd l dC dI ad tI tL tII tLL cnt w tot rew grp fin gns rst rws last now nxt whl au al mu ml x2_2 r4 hC.symm) ⟨callB_of 1 ht (goodG k_14) rfl rfl rfl (ht _ k_15) (ht _ k_16) (by decide +kernel) ⟨Nat.le_of_ble_eq_true rfl, Nat.le_of_ble_eq_true rfl⟩, (ht _ k_18), (ht _ k_17)⟩ (pre_v hK hN hP (q0 := 1) (ci := 0) rfl rfl) rfl rfl hl.1 rfl (lv_room (Nat.le_of_ble_eq_true rfl)) dX0_ends_14 ⟨Nat.zero_le _, Nat.zero_le _⟩) ?_
        refine lv_if_eq (tgt := 26) hx hb dX0_ends_17 (by decide) (fun c5 => ?_) (fun c5 => ?_)
        · replace hR := it_p c5 hR
          refine lv_iinc (v := (x2_2 + 1)) (lv' := [(2, .int (x2_2 + 1)), (0, .ref (ad 1)), (1, .int x1_1)]) hx hb dX0_ends_26 hl (k := 2) rfl rfl (by decide) rfl (fun ls hl => ?_)
          refine lv_goto (tgt := 4) hx hb dX0_ends_29 (by decide) ?_
          cases hR
          exact ih x1_1 (x2_2 + 1) o_x1_1 o_x2_2 hQ hk ls (lv_sub hl [1, 2, 0] rfl)
        · replace hR := it_n c5 hR
          refine lv_iload_n hx hb dX0_ends_20 rfl (lv_at hl 1 rfl) ?_
          refine lv_iconst (v := 1) hx hb dX0_ends_21 (by decide) ?_
          refine lv_iload_n hx hb dX0_ends_22 rfl (lv_at hl 2 rfl) ?_
          refine lv_ishl hx hb dX0_ends_23 ?_
          refine lv_ior hx hb dX0_ends_24 ?_
          refine lv_istore_n (lv' := [(1, .int (x1_1 ||| ((1 : Int32) <<< (x2_2 &&& 31)))), (0, .ref (ad 1)), (2, .int x2_2)]) hx hb dX0_ends_25 rfl hl (by decide) rfl (fun ls hl => ?_)
          refine lv_iinc (v := (x2_2 + 1)) (lv' := [(2, .int (x2_2 + 1)), (1, .int (x1_1 ||| ((1 : Int32) <<< (x2_2 &&& 31)))), (0, .ref (ad 1))]) hx hb dX0_ends_26 hl (k := 2) rfl rfl (by decide) rfl (fun ls hl => ?_)
          refine lv_goto (tgt := 4) hx hb dX0_ends_29 (by decide) ?_
          cases hR
          exact ih (x1_1 ||| ((1 : Int32) <<< (x2_2 &&& 31))) (x2_2 + 1) o_x1_1 o_x2_2 hQ hk ls (lv_sub hl [2, 1, 0] rfl)
  obtain ⟨⟨u7, u8⟩, hL, hR⟩ := ob hR
  try dsimp only at hR
  refine L4_6 300 (0 : Int32) (0 : Int32) u7 u8 hL.symm (fun ls hl => ?_) ls (lv_sub hl [2, 1, 0] rfl)
  refine lv_iload_n hx hb dX0_ends_32 rfl (lv_at hl 1 rfl) ?_
  cases hR
  exact W.iret hx hb hr (fun t ht _ => ⟨rfl, ht⟩) t_nil dX0_ends_33
abbrev RM_f_Chain_countWeights : Room := { frames := 0, cells := 0, slots := 0, locals := 0 }
abbrev W_Chain_countWeights : List Cond := .code yX0_countWeights cX0_countWeights 4 (some .int) :: tblG
set_option maxHeartbeats 4000000 in
set_option maxRecDepth 100000 in
theorem c_Chain_countWeights (l : Launch) (dC : Nat → ClassId) (dI : Nat → Nat → Nat) (ad : Nat → Nat) (tI tL tII tLL : ClassId) (cnt : Int32) (w : Nat → Nat → Int32) (tot : Nat → Int32) (rew : Nat → Int32) (grp : Nat → Int32) (fin : Nat → Int32) (gns : Nat → Int64) (rst : Nat → Int32) (rws : Nat → Nat → Int64) (last : Int32) (now : Nat → Int64) (nxt : Nat → Int64) (whl : Int64) (au : Int64) (al : Int64) (mu : Int64) (ml : Int64)  (R0 : Int32) (hR : some R0 = f_Chain_countWeights cnt w) : Met l yX0_countWeights W_Chain_countWeights RM_f_Chain_countWeights (roP (dC, dI) vwCl [(tI, .int), (tL, .long), (tII, .array .int), (tLL, .array .long)] (wC ad tI tL tII tLL cnt w tot rew grp fin gns rst rws last now nxt whl au al mu ml) ([.ref (ad 1)] : List Value)) (roQ (some (.int R0))) 0 0 (fun _ => False) := by
  refine Met.ofW (cc := cX0_countWeights) (maxL := 4) (ret := (some .int)) (by decide) rfl ?_
  intro p e s m args below meth c s₁ B hml hv
  obtain ⟨rfl, hP, hK, hN⟩ := hv
  have hx := B.exec
  have hb := B.bytes
  have hr := B.returns
  have hts := atoms_spec (ws := W_Chain_countWeights) B.pre
  have ht := fun (w : Cond) (h : w ∈ tblG) => hts w (List.mem_cons_of_mem _ h)
  have hown : s.vm.findClass RX0 = some m.cls := findClass_of_methodNamed B.named
  have hlocks := B.notSynchronized
  have hl := lv_entry ([.ref (ad 1)] : List Value) (n := 4) (Nat.le_of_ble_eq_true rfl)
  rw [lg_entry_eq]
  generalize (lg_sl ([.ref (ad 1)] : List Value) ++ List.replicate (4 - (lg_sl ([.ref (ad 1)] : List Value)).length) Slot.unset).toArray = ls at hl ⊢
  have hl : lv_has ls 4 [(0, .ref (ad 1))] := hl
  rw [f_Chain_countWeights] at hR
  refine lv_iconst (v := 0) hx hb dX0_countWeights_0 (by decide) ?_
  refine lv_istore_n (lv' := [(1, .int (0 : Int32)), (0, .ref (ad 1))]) hx hb dX0_countWeights_1 rfl hl (by decide) rfl (fun ls hl => ?_)
  refine lv_iconst (v := 0) hx hb dX0_countWeights_2 (by decide) ?_
  refine lv_istore_n (lv' := [(2, .int (0 : Int32)), (1, .int (0 : Int32)), (0, .ref (ad 1))]) hx hb dX0_countWeights_3 rfl hl (by decide) rfl (fun ls hl => ?_)
  have L4_13 : ∀ (n : Nat) (x1_1 : Int32) (x2_2 : Int32), ∀ (o_x1_1 : Int32) (o_x2_2 : Int32), some (o_x1_1, o_x2_2) = f_Chain_countWeights_L4 cnt w n x1_1 x2_2 → (∀ ls : Array Slot, lv_has ls 4 [(0, .ref (ad 1)), (1, .int o_x1_1), (2, .int o_x2_2)] → W p l e (headSpec W_Chain_countWeights RM_f_Chain_countWeights).room s m ([.ref (ad 1)] : List Value).toArray below meth c s.heap [] 0 0 (MQ below (roQ (some (.int R0))) ([.ref (ad 1)] : List Value).toArray s 0 0 (fun _ => False)) (F0 m 48 ls [])) → ∀ ls : Array Slot, lv_has ls 4 [(0, .ref (ad 1)), (1, .int x1_1), (2, .int x2_2)] → W p l e (headSpec W_Chain_countWeights RM_f_Chain_countWeights).room s m ([.ref (ad 1)] : List Value).toArray below meth c s.heap [] 0 0 (MQ below (roQ (some (.int R0))) ([.ref (ad 1)] : List Value).toArray s 0 0 (fun _ => False)) (F0 m 4 ls []) := by
    intro n
    induction n with
    | zero =>
      intro x1_1 x2_2 o_x1_1 o_x2_2 hR
      cases (show some _ = none from hR)
    | succ n ih =>
      intro x1_1 x2_2 o_x1_1 o_x2_2 hR hk ls hl
      rw [f_Chain_countWeights_L4_s] at hR
      obtain ⟨y, hR, hQ⟩ := ob hR
      replace hR := hR.symm
      rw [f_Chain_countWeights_B4] at hR
      refine lv_iload_n hx hb dX0_countWeights_4 rfl (lv_at hl 2 rfl) ?_
      refine lv_aload_n hx hb dX0_countWeights_5 rfl (lv_at hl 0 rfl) ?_
      refine va_get (D := (dC, dI)) (ci := 0) (v := .int cnt) (C := RX0) (T := TX0) (N := 4) hx hb ht hinX0 hown hK hP 1 rfl rfl 3 (by decide) (ht _ k_12) (fun _ h9 => h9) rfl dX0_countWeights_6 ?_
      refine lv_icmp_ge (tgt := 48) hx hb dX0_countWeights_9 (by decide) (fun c3 => ?_) (fun c3 => ?_)
      · replace hR := it_p c3 hR
        cases hR
        cases (show some _ = some _ from hQ)
        exact hk ls (lv_sub hl [0, 1, 2] rfl)
      · replace hR := it_n c3 hR
        refine lv_iconst (v := 0) hx hb dX0_countWeights_12 (by decide) ?_
        refine lv_istore_n (lv' := [(3, .int (0 : Int32)), (0, .ref (ad 1)), (1, .int x1_1), (2, .int x2_2)]) hx hb dX0_countWeights_13 rfl hl (by decide) rfl (fun ls hl => ?_)
        have L14_10 : ∀ (n : Nat) (x1_4 : Int32) (x3_5 : Int32), ∀ (o_x1_4 : Int32) (o_x3_5 : Int32), some (o_x1_4, o_x3_5) = f_Chain_countWeights_L14 cnt w x2_2 n x1_4 x3_5 → (∀ ls : Array Slot, lv_has ls 4 [(0, .ref (ad 1)), (1, .int o_x1_4), (2, .int x2_2), (3, .int o_x3_5)] → W p l e (headSpec W_Chain_countWeights RM_f_Chain_countWeights).room s m ([.ref (ad 1)] : List Value).toArray below meth c s.heap [] 0 0 (MQ below (roQ (some (.int R0))) ([.ref (ad 1)] : List Value).toArray s 0 0 (fun _ => False)) (F0 m 42 ls [])) → ∀ ls : Array Slot, lv_has ls 4 [(0, .ref (ad 1)), (1, .int x1_4), (2, .int x2_2), (3, .int x3_5)] → W p l e (headSpec W_Chain_countWeights RM_f_Chain_countWeights).room s m ([.ref (ad 1)] : List Value).toArray below meth c s.heap [] 0 0 (MQ below (roQ (some (.int R0))) ([.ref (ad 1)] : List Value).toArray s 0 0 (fun _ => False)) (F0 m 14 ls []) := by
          intro n
          induction n with
          | zero =>
            intro x1_4 x3_5 o_x1_4 o_x3_5 hR
            cases (show some _ = none from hR)
          | succ n ih =>
            intro x1_4 x3_5 o_x1_4 o_x3_5 hR hk ls hl
            rw [f_Chain_countWeights_L14_s] at hR
            obtain ⟨y, hR, hQ⟩ := ob hR
            replace hR := hR.symm
            rw [f_Chain_countWeights_B14] at hR
            refine lv_iload_n hx hb dX0_countWeights_14 rfl (lv_at hl 3 rfl) ?_
            refine lv_aload_n hx hb dX0_countWeights_15 rfl (lv_at hl 0 rfl) ?_
            refine va_get (D := (dC, dI)) (ci := 0) (v := .int cnt) (C := RX0) (T := TX0) (N := 4) hx hb ht hinX0 hown hK hP 1 rfl rfl 3 (by decide) (ht _ k_12) (fun _ h9 => h9) rfl dX0_countWeights_16 ?_
            refine lv_icmp_ge (tgt := 42) hx hb dX0_countWeights_19 (by decide) (fun c6 => ?_) (fun c6 => ?_)
            · replace hR := it_p c6 hR
              cases hR
              cases (show some _ = some _ from hQ)
              exact hk ls (lv_sub hl [0, 1, 2, 3] rfl)
            · replace hR := it_n c6 hR
              refine lv_aload_n hx hb dX0_countWeights_22 rfl (lv_at hl 0 rfl) ?_
              refine va_get (D := (dC, dI)) (ci := 0) (v := .ref (ad 2)) (C := RX0) (T := TX0) (N := 4) hx hb ht hinX0 hown hK hP 1 rfl rfl 0 (by decide) (ht _ k_19) (fun _ h9 => h9) rfl dX0_countWeights_23 ?_
              refine lv_iload_n hx hb dX0_countWeights_26 rfl (lv_at hl 2 rfl) ?_
              obtain ⟨z7, hR⟩ := og hR
              refine va_aldA hx hb hK hP 2 2 rfl rfl rfl (ix_in z7) dX0_countWeights_27 ?_
              refine lv_iload_n hx hb dX0_countWeights_28 rfl (lv_at hl 3 rfl) ?_
              obtain ⟨z8, hR⟩ := og hR
              refine va_iald hx hb hK hP (2 + 1 + x2_2.toNatClampNeg) 0 (wC_row_we (ix_lt z7)) rfl (ix_in z8) dX0_countWeights_29 ?_
              refine lv_if_eq (tgt := 36) hx hb dX0_countWeights_30 (by decide) (fun c9 => ?_) (fun c9 => ?_)
              · replace hR := it_p c9 hR
                refine lv_iinc (v := (x3_5 + 1)) (lv' := [(3, .int (x3_5 + 1)), (0, .ref (ad 1)), (1, .int x1_4), (2, .int x2_2)]) hx hb dX0_countWeights_36 hl (k := 3) rfl rfl (by decide) rfl (fun ls hl => ?_)
                refine lv_goto (tgt := 14) hx hb dX0_countWeights_39 (by decide) ?_
                cases hR
                exact ih x1_4 (x3_5 + 1) o_x1_4 o_x3_5 hQ hk ls (lv_sub hl [1, 2, 3, 0] rfl)
              · replace hR := it_n c9 hR
                refine lv_iinc (v := (x1_4 + 1)) (lv' := [(1, .int (x1_4 + 1)), (0, .ref (ad 1)), (2, .int x2_2), (3, .int x3_5)]) hx hb dX0_countWeights_33 hl (k := 1) rfl rfl (by decide) rfl (fun ls hl => ?_)
                refine lv_iinc (v := (x3_5 + 1)) (lv' := [(3, .int (x3_5 + 1)), (1, .int (x1_4 + 1)), (0, .ref (ad 1)), (2, .int x2_2)]) hx hb dX0_countWeights_36 hl (k := 3) rfl rfl (by decide) rfl (fun ls hl => ?_)
                refine lv_goto (tgt := 14) hx hb dX0_countWeights_39 (by decide) ?_
                cases hR
                exact ih (x1_4 + 1) (x3_5 + 1) o_x1_4 o_x3_5 hQ hk ls (lv_sub hl [2, 1, 3, 0] rfl)
        obtain ⟨⟨u11, u12⟩, hL, hR⟩ := ob hR
        try dsimp only at hR
        refine L14_10 300 x1_1 (0 : Int32) u11 u12 hL.symm (fun ls hl => ?_) ls (lv_sub hl [1, 2, 3, 0] rfl)
        refine lv_iinc (v := (x2_2 + 1)) (lv' := [(2, .int (x2_2 + 1)), (0, .ref (ad 1)), (1, .int u11), (3, .int u12)]) hx hb dX0_countWeights_42 hl (k := 2) rfl rfl (by decide) rfl (fun ls hl => ?_)
        refine lv_goto (tgt := 4) hx hb dX0_countWeights_45 (by decide) ?_
        cases hR
        exact ih u11 (x2_2 + 1) o_x1_1 o_x2_2 hQ hk ls (lv_sub hl [1, 2, 0] rfl)
  obtain ⟨⟨u14, u15⟩, hL, hR⟩ := ob hR
  try dsimp only at hR
  refine L4_13 300 (0 : Int32) (0 : Int32) u14 u15 hL.symm (fun ls hl => ?_) ls (lv_sub hl [2, 1, 0] rfl)
  refine lv_iload_n hx hb dX0_countWeights_48 rfl (lv_at hl 1 rfl) ?_
  cases hR
  exact W.iret hx hb hr (fun t ht _ => ⟨rfl, ht⟩) t_nil dX0_countWeights_49
abbrev RM_f_Chain_pull : Room := { frames := 1, cells := 0, slots := 0, locals := 21 }
abbrev W_Chain_pull : List Cond := .code yX0_pull cX0_pull 3 (some .int) :: tblG
set_option maxHeartbeats 4000000 in
set_option maxRecDepth 100000 in
theorem c_Chain_pull (l : Launch) (dC : Nat → ClassId) (dI : Nat → Nat → Nat) (ad : Nat → Nat) (tI tL tII tLL : ClassId) (cnt : Int32) (w : Nat → Nat → Int32) (tot : Nat → Int32) (rew : Nat → Int32) (grp : Nat → Int32) (fin : Nat → Int32) (gns : Nat → Int64) (rst : Nat → Int32) (rws : Nat → Nat → Int64) (last : Int32) (now : Nat → Int64) (nxt : Nat → Int64) (whl : Int64) (au : Int64) (al : Int64) (mu : Int64) (ml : Int64) (p1 : Int32) (p2 : Int32) (R0 : Int32) (hR : some R0 = f_Chain_pull w tot p1 p2) : Met l yX0_pull W_Chain_pull RM_f_Chain_pull (roP (dC, dI) vwCl [(tI, .int), (tL, .long), (tII, .array .int), (tLL, .array .long)] (wC ad tI tL tII tLL cnt w tot rew grp fin gns rst rws last now nxt whl au al mu ml) ([.ref (ad 1), .int p1, .int p2] : List Value)) (roQ (some (.int R0))) 0 0 (fun _ => False) := by
  refine Met.ofW (cc := cX0_pull) (maxL := 3) (ret := (some .int)) (by decide) rfl ?_
  intro p e s m args below meth c s₁ B hml hv
  obtain ⟨rfl, hP, hK, hN⟩ := hv
  have hx := B.exec
  have hb := B.bytes
  have hr := B.returns
  have hts := atoms_spec (ws := W_Chain_pull) B.pre
  have ht := fun (w : Cond) (h : w ∈ tblG) => hts w (List.mem_cons_of_mem _ h)
  have hown : s.vm.findClass RX0 = some m.cls := findClass_of_methodNamed B.named
  have hlocks := B.notSynchronized
  have hl := lv_entry ([.ref (ad 1), .int p1, .int p2] : List Value) (n := 3) (Nat.le_of_ble_eq_true rfl)
  rw [lg_entry_eq]
  generalize (lg_sl ([.ref (ad 1), .int p1, .int p2] : List Value) ++ List.replicate (3 - (lg_sl ([.ref (ad 1), .int p1, .int p2] : List Value)).length) Slot.unset).toArray = ls at hl ⊢
  have hl : lv_has ls 3 [(0, .ref (ad 1)), (1, .int p1), (2, .int p2)] := hl
  rw [f_Chain_pull] at hR
  refine lv_aload_n hx hb dX0_pull_0 rfl (lv_at hl 0 rfl) ?_
  refine lv_iload_n hx hb dX0_pull_1 rfl (lv_at hl 1 rfl) ?_
  obtain ⟨r1, hC, hR⟩ := ob hR
  try dsimp only at hR
  refine ro_calli (va_runV (As := [.int p1]) (rest := []) ⟨hx, hb, hml, hown, ht⟩ (c_Chain_isEnd l dC dI ad tI tL tII tLL cnt w tot rew grp fin gns rst rws last now nxt whl au al mu ml p1 r1 hC.symm) ⟨callB_of 1 ht (goodG k_14) rfl rfl rfl (ht _ k_15) (ht _ k_16) (by decide +kernel) ⟨Nat.le_of_ble_eq_true rfl, Nat.le_of_ble_eq_true rfl⟩, (ht _ k_18), (ht _ k_17)⟩ (pre_v hK hN hP (q0 := 1) (ci := 0) rfl rfl) rfl rfl hl.1 rfl (lv_room (Nat.le_of_ble_eq_true rfl)) dX0_pull_2 ⟨Nat.zero_le _, Nat.zero_le _⟩) ?_
  refine lv_if_eq (tgt := 19) hx hb dX0_pull_5 (by decide) (fun c2 => ?_) (fun c2 => ?_)
  · replace hR := it_p c2 hR
    refine lv_aload_n hx hb dX0_pull_19 rfl (lv_at hl 0 rfl) ?_
    refine va_get (D := (dC, dI)) (ci := 0) (v := .ref (ad 2)) (C := RX0) (T := TX0) (N := 4) hx hb ht hinX0 hown hK hP 1 rfl rfl 0 (by decide) (ht _ k_19) (fun _ h9 => h9) rfl dX0_pull_20 ?_
    refine lv_iload_n hx hb dX0_pull_23 rfl (lv_at hl 1 rfl) ?_
    obtain ⟨z3, hR⟩ := og hR
    refine va_aldA hx hb hK hP 2 2 rfl rfl rfl (ix_in z3) dX0_pull_24 ?_
    refine lv_iload_n hx hb dX0_pull_25 rfl (lv_at hl 2 rfl) ?_
    obtain ⟨z4, hR⟩ := og hR
    refine va_iald hx hb hK hP (2 + 1 + p1.toNatClampNeg) 0 (wC_row_we (ix_lt z3)) rfl (ix_in z4) dX0_pull_26 ?_
    cases hR
    exact W.iret hx hb hr (fun t ht _ => ⟨rfl, ht⟩) t_nil dX0_pull_27
  · replace hR := it_n c2 hR
    refine lv_iload_n hx hb dX0_pull_8 rfl (lv_at hl 1 rfl) ?_
    refine lv_iload_n hx hb dX0_pull_9 rfl (lv_at hl 2 rfl) ?_
    refine lv_icmp_ne (tgt := 17) hx hb dX0_pull_10 (by decide) (fun c5 => ?_) (fun c5 => ?_)
    · replace hR := it_n c5 hR
      refine lv_iconst (v := 0) hx hb dX0_pull_17 (by decide) ?_
      cases hR
      exact W.iret hx hb hr (fun t ht _ => ⟨rfl, ht⟩) t_nil dX0_pull_18
    · replace hR := it_p c5 hR
      refine lv_iconst (v := 1) hx hb dX0_pull_13 (by decide) ?_
      refine lv_goto (tgt := 18) hx hb dX0_pull_14 (by decide) ?_
      cases hR
      exact W.iret hx hb hr (fun t ht _ => ⟨rfl, ht⟩) t_nil dX0_pull_18
abbrev RM_f_Chain_pullOfAll : Room := { frames := 1, cells := 0, slots := 0, locals := 21 }
abbrev W_Chain_pullOfAll : List Cond := .code yX0_pullOfAll cX0_pullOfAll 2 (some .int) :: tblG
set_option maxHeartbeats 4000000 in
set_option maxRecDepth 100000 in
theorem c_Chain_pullOfAll (l : Launch) (dC : Nat → ClassId) (dI : Nat → Nat → Nat) (ad : Nat → Nat) (tI tL tII tLL : ClassId) (cnt : Int32) (w : Nat → Nat → Int32) (tot : Nat → Int32) (rew : Nat → Int32) (grp : Nat → Int32) (fin : Nat → Int32) (gns : Nat → Int64) (rst : Nat → Int32) (rws : Nat → Nat → Int64) (last : Int32) (now : Nat → Int64) (nxt : Nat → Int64) (whl : Int64) (au : Int64) (al : Int64) (mu : Int64) (ml : Int64) (p1 : Int32) (R0 : Int32) (hR : some R0 = f_Chain_pullOfAll tot p1) : Met l yX0_pullOfAll W_Chain_pullOfAll RM_f_Chain_pullOfAll (roP (dC, dI) vwCl [(tI, .int), (tL, .long), (tII, .array .int), (tLL, .array .long)] (wC ad tI tL tII tLL cnt w tot rew grp fin gns rst rws last now nxt whl au al mu ml) ([.ref (ad 1), .int p1] : List Value)) (roQ (some (.int R0))) 0 0 (fun _ => False) := by
  refine Met.ofW (cc := cX0_pullOfAll) (maxL := 2) (ret := (some .int)) (by decide) rfl ?_
  intro p e s m args below meth c s₁ B hml hv
  obtain ⟨rfl, hP, hK, hN⟩ := hv
  have hx := B.exec
  have hb := B.bytes
  have hr := B.returns
  have hts := atoms_spec (ws := W_Chain_pullOfAll) B.pre
  have ht := fun (w : Cond) (h : w ∈ tblG) => hts w (List.mem_cons_of_mem _ h)
  have hown : s.vm.findClass RX0 = some m.cls := findClass_of_methodNamed B.named
  have hlocks := B.notSynchronized
  have hl := lv_entry ([.ref (ad 1), .int p1] : List Value) (n := 2) (Nat.le_of_ble_eq_true rfl)
  rw [lg_entry_eq]
  generalize (lg_sl ([.ref (ad 1), .int p1] : List Value) ++ List.replicate (2 - (lg_sl ([.ref (ad 1), .int p1] : List Value)).length) Slot.unset).toArray = ls at hl ⊢
  have hl : lv_has ls 2 [(0, .ref (ad 1)), (1, .int p1)] := hl
  rw [f_Chain_pullOfAll] at hR
  refine lv_aload_n hx hb dX0_pullOfAll_0 rfl (lv_at hl 0 rfl) ?_
  refine lv_iload_n hx hb dX0_pullOfAll_1 rfl (lv_at hl 1 rfl) ?_
  obtain ⟨r1, hC, hR⟩ := ob hR
  try dsimp only at hR
  refine ro_calli (va_runV (As := [.int p1]) (rest := []) ⟨hx, hb, hml, hown, ht⟩ (c_Chain_isEnd l dC dI ad tI tL tII tLL cnt w tot rew grp fin gns rst rws last now nxt whl au al mu ml p1 r1 hC.symm) ⟨callB_of 1 ht (goodG k_14) rfl rfl rfl (ht _ k_15) (ht _ k_16) (by decide +kernel) ⟨Nat.le_of_ble_eq_true rfl, Nat.le_of_ble_eq_true rfl⟩, (ht _ k_18), (ht _ k_17)⟩ (pre_v hK hN hP (q0 := 1) (ci := 0) rfl rfl) rfl rfl hl.1 rfl (lv_room (Nat.le_of_ble_eq_true rfl)) dX0_pullOfAll_2 ⟨Nat.zero_le _, Nat.zero_le _⟩) ?_
  refine lv_if_eq (tgt := 12) hx hb dX0_pullOfAll_5 (by decide) (fun c2 => ?_) (fun c2 => ?_)
  · replace hR := it_p c2 hR
    refine lv_aload_n hx hb dX0_pullOfAll_12 rfl (lv_at hl 0 rfl) ?_
    refine va_get (D := (dC, dI)) (ci := 0) (v := .ref (ad 10)) (C := RX0) (T := TX0) (N := 4) hx hb ht hinX0 hown hK hP 1 rfl rfl 1 (by decide) (ht _ k_13) (fun _ h9 => h9) rfl dX0_pullOfAll_13 ?_
    refine lv_iload_n hx hb dX0_pullOfAll_16 rfl (lv_at hl 1 rfl) ?_
    obtain ⟨z3, hR⟩ := og hR
    refine va_iald hx hb hK hP 10 0 rfl rfl (ix_in z3) dX0_pullOfAll_17 ?_
    cases hR
    exact W.iret hx hb hr (fun t ht _ => ⟨rfl, ht⟩) t_nil dX0_pullOfAll_18
  · replace hR := it_n c2 hR
    refine lv_iconst (v := 1) hx hb dX0_pullOfAll_8 (by decide) ?_
    refine lv_goto (tgt := 18) hx hb dX0_pullOfAll_9 (by decide) ?_
    cases hR
    exact W.iret hx hb hr (fun t ht _ => ⟨rfl, ht⟩) t_nil dX0_pullOfAll_18
abbrev RM_f_Chain_pullInto : Room := { frames := 2, cells := 0, slots := 0, locals := 43 }
abbrev W_Chain_pullInto : List Cond := .code yX0_pullInto cX0_pullInto 5 (some .int) :: tblG
set_option maxHeartbeats 4000000 in
set_option maxRecDepth 100000 in
theorem c_Chain_pullInto (l : Launch) (dC : Nat → ClassId) (dI : Nat → Nat → Nat) (ad : Nat → Nat) (tI tL tII tLL : ClassId) (cnt : Int32) (w : Nat → Nat → Int32) (tot : Nat → Int32) (rew : Nat → Int32) (grp : Nat → Int32) (fin : Nat → Int32) (gns : Nat → Int64) (rst : Nat → Int32) (rws : Nat → Nat → Int64) (last : Int32) (now : Nat → Int64) (nxt : Nat → Int64) (whl : Int64) (au : Int64) (al : Int64) (mu : Int64) (ml : Int64) (p1 : Int32) (p2 : Int32) (R0 : Int32) (hR : some R0 = f_Chain_pullInto cnt w tot p1 p2) : Met l yX0_pullInto W_Chain_pullInto RM_f_Chain_pullInto (roP (dC, dI) vwCl [(tI, .int), (tL, .long), (tII, .array .int), (tLL, .array .long)] (wC ad tI tL tII tLL cnt w tot rew grp fin gns rst rws last now nxt whl au al mu ml) ([.ref (ad 1), .int p1, .int p2] : List Value)) (roQ (some (.int R0))) 0 0 (fun _ => False) := by
  refine Met.ofW (cc := cX0_pullInto) (maxL := 5) (ret := (some .int)) (by decide) rfl ?_
  intro p e s m args below meth c s₁ B hml hv
  obtain ⟨rfl, hP, hK, hN⟩ := hv
  have hx := B.exec
  have hb := B.bytes
  have hr := B.returns
  have hts := atoms_spec (ws := W_Chain_pullInto) B.pre
  have ht := fun (w : Cond) (h : w ∈ tblG) => hts w (List.mem_cons_of_mem _ h)
  have hown : s.vm.findClass RX0 = some m.cls := findClass_of_methodNamed B.named
  have hlocks := B.notSynchronized
  have hl := lv_entry ([.ref (ad 1), .int p1, .int p2] : List Value) (n := 5) (Nat.le_of_ble_eq_true rfl)
  rw [lg_entry_eq]
  generalize (lg_sl ([.ref (ad 1), .int p1, .int p2] : List Value) ++ List.replicate (5 - (lg_sl ([.ref (ad 1), .int p1, .int p2] : List Value)).length) Slot.unset).toArray = ls at hl ⊢
  have hl : lv_has ls 5 [(0, .ref (ad 1)), (1, .int p1), (2, .int p2)] := hl
  rw [f_Chain_pullInto] at hR
  refine lv_iconst (v := 0) hx hb dX0_pullInto_0 (by decide) ?_
  refine lv_istore_n (lv' := [(3, .int (0 : Int32)), (0, .ref (ad 1)), (1, .int p1), (2, .int p2)]) hx hb dX0_pullInto_1 rfl hl (by decide) rfl (fun ls hl => ?_)
  refine lv_iconst (v := 0) hx hb dX0_pullInto_2 (by decide) ?_
  refine lv_istore (lv' := [(4, .int (0 : Int32)), (3, .int (0 : Int32)), (0, .ref (ad 1)), (1, .int p1), (2, .int p2)]) hx hb dX0_pullInto_3 hl (by decide) rfl (fun ls hl => ?_)
  have L5_7 : ∀ (n : Nat) (x3_1 : Int32) (x4_2 : Int32), ∀ (o_x3_1 : Int32) (o_x4_2 : Int32), some (o_x3_1, o_x4_2) = f_Chain_pullInto_L5 cnt w tot p1 p2 n x3_1 x4_2 → (∀ ls : Array Slot, lv_has ls 5 [(0, .ref (ad 1)), (1, .int p1), (2, .int p2), (3, .int o_x3_1), (4, .int o_x4_2)] → W p l e (headSpec W_Chain_pullInto RM_f_Chain_pullInto).room s m ([.ref (ad 1), .int p1, .int p2] : List Value).toArray below meth c s.heap [] 0 0 (MQ below (roQ (some (.int R0))) ([.ref (ad 1), .int p1, .int p2] : List Value).toArray s 0 0 (fun _ => False)) (F0 m 39 ls [])) → ∀ ls : Array Slot, lv_has ls 5 [(0, .ref (ad 1)), (1, .int p1), (2, .int p2), (3, .int x3_1), (4, .int x4_2)] → W p l e (headSpec W_Chain_pullInto RM_f_Chain_pullInto).room s m ([.ref (ad 1), .int p1, .int p2] : List Value).toArray below meth c s.heap [] 0 0 (MQ below (roQ (some (.int R0))) ([.ref (ad 1), .int p1, .int p2] : List Value).toArray s 0 0 (fun _ => False)) (F0 m 5 ls []) := by
    intro n
    induction n with
    | zero =>
      intro x3_1 x4_2 o_x3_1 o_x4_2 hR
      cases (show some _ = none from hR)
    | succ n ih =>
      intro x3_1 x4_2 o_x3_1 o_x4_2 hR hk ls hl
      rw [f_Chain_pullInto_L5_s] at hR
      obtain ⟨y, hR, hQ⟩ := ob hR
      replace hR := hR.symm
      rw [f_Chain_pullInto_B5] at hR
      refine lv_iload hx hb dX0_pullInto_5 (lv_at hl 4 rfl) ?_
      refine lv_aload_n hx hb dX0_pullInto_7 rfl (lv_at hl 0 rfl) ?_
      refine va_get (D := (dC, dI)) (ci := 0) (v := .int cnt) (C := RX0) (T := TX0) (N := 4) hx hb ht hinX0 hown hK hP 1 rfl rfl 3 (by decide) (ht _ k_12) (fun _ h9 => h9) rfl dX0_pullInto_8 ?_
      refine lv_icmp_ge (tgt := 39) hx hb dX0_pullInto_11 (by decide) (fun c3 => ?_) (fun c3 => ?_)
      · replace hR := it_p c3 hR
        cases hR
        cases (show some _ = some _ from hQ)
        exact hk ls (lv_sub hl [0, 1, 2, 3, 4] rfl)
      · replace hR := it_n c3 hR
        refine lv_iload_n hx hb dX0_pullInto_14 rfl (lv_at hl 2 rfl) ?_
        refine lv_iload hx hb dX0_pullInto_15 (lv_at hl 4 rfl) ?_
        obtain ⟨r4, hC, hR⟩ := ob hR
        try dsimp only at hR
        refine ro_calli (va_runSN (As := [.int p2, .int x4_2]) (rest := []) ⟨hx, hb, hml, hown, ht⟩ (c_holds l dC dI ad tI tL tII tLL  p2 x4_2 r4 hC.symm) ⟨va_cnB 2 ht (goodG k_20) rfl rfl rfl (nm_5 hN) (ht _ k_8) (by decide +kernel) ⟨Nat.le_of_ble_eq_true rfl, Nat.le_of_ble_eq_true rfl⟩, (ht _ k_21), trivial⟩ (pre_s hK hN (hP.sub (ws' := []) [] rfl)) rfl rfl hl.1 rfl (lv_room (Nat.le_of_ble_eq_true rfl)) dX0_pullInto_17 ⟨Nat.zero_le _, Nat.zero_le _⟩) ?_
        refine lv_if_eq (tgt := 33) hx hb dX0_pullInto_20 (by decide) (fun c5 => ?_) (fun c5 => ?_)
        · replace hR := it_p c5 hR
          refine lv_iinc (v := (x4_2 + 1)) (lv' := [(4, .int (x4_2 + 1)), (0, .ref (ad 1)), (1, .int p1), (2, .int p2), (3, .int x3_1)]) hx hb dX0_pullInto_33 hl (k := 4) rfl rfl (by decide) rfl (fun ls hl => ?_)
          refine lv_goto (tgt := 5) hx hb dX0_pullInto_36 (by decide) ?_
          cases hR
          exact ih x3_1 (x4_2 + 1) o_x3_1 o_x4_2 hQ hk ls (lv_sub hl [1, 2, 3, 4, 0] rfl)
        · replace hR := it_n c5 hR
          refine lv_iload_n hx hb dX0_pullInto_23 rfl (lv_at hl 3 rfl) ?_
          refine lv_aload_n hx hb dX0_pullInto_24 rfl (lv_at hl 0 rfl) ?_
          refine lv_iload_n hx hb dX0_pullInto_25 rfl (lv_at hl 1 rfl) ?_
          refine lv_iload hx hb dX0_pullInto_26 (lv_at hl 4 rfl) ?_
          obtain ⟨r6, hC, hR⟩ := ob hR
          try dsimp only at hR
          refine ro_calli (va_runV (As := [.int p1, .int x4_2]) (rest := [.int x3_1]) ⟨hx, hb, hml, hown, ht⟩ (c_Chain_pull l dC dI ad tI tL tII tLL cnt w tot rew grp fin gns rst rws last now nxt whl au al mu ml p1 x4_2 r6 hC.symm) ⟨callB_of 2 ht (goodG k_22) rfl rfl rfl (ht _ k_15) (ht _ k_23) (by decide +kernel) ⟨Nat.le_of_ble_eq_true rfl, Nat.le_of_ble_eq_true rfl⟩, (ht _ k_25), (ht _ k_24)⟩ (pre_v hK hN hP (q0 := 1) (ci := 0) rfl rfl) rfl rfl hl.1 rfl (lv_room (Nat.le_of_ble_eq_true rfl)) dX0_pullInto_28 ⟨Nat.zero_le _, Nat.zero_le _⟩) ?_
          refine lv_iadd hx hb dX0_pullInto_31 ?_
          refine lv_istore_n (lv' := [(3, .int (x3_1 + r6)), (0, .ref (ad 1)), (1, .int p1), (2, .int p2), (4, .int x4_2)]) hx hb dX0_pullInto_32 rfl hl (by decide) rfl (fun ls hl => ?_)
          refine lv_iinc (v := (x4_2 + 1)) (lv' := [(4, .int (x4_2 + 1)), (3, .int (x3_1 + r6)), (0, .ref (ad 1)), (1, .int p1), (2, .int p2)]) hx hb dX0_pullInto_33 hl (k := 4) rfl rfl (by decide) rfl (fun ls hl => ?_)
          refine lv_goto (tgt := 5) hx hb dX0_pullInto_36 (by decide) ?_
          cases hR
          exact ih (x3_1 + r6) (x4_2 + 1) o_x3_1 o_x4_2 hQ hk ls (lv_sub hl [2, 3, 4, 1, 0] rfl)
  obtain ⟨⟨u8, u9⟩, hL, hR⟩ := ob hR
  try dsimp only at hR
  refine L5_7 300 (0 : Int32) (0 : Int32) u8 u9 hL.symm (fun ls hl => ?_) ls (lv_sub hl [2, 3, 4, 1, 0] rfl)
  refine lv_iload_n hx hb dX0_pullInto_39 rfl (lv_at hl 3 rfl) ?_
  cases hR
  exact W.iret hx hb hr (fun t ht _ => ⟨rfl, ht⟩) t_nil dX0_pullInto_40
abbrev RM_f_Chain_nextOnes : Room := { frames := 2, cells := 0, slots := 0, locals := 43 }
abbrev W_Chain_nextOnes : List Cond := .code yX0_nextOnes cX0_nextOnes 4 (some .int) :: tblG
set_option maxHeartbeats 4000000 in
set_option maxRecDepth 100000 in
theorem c_Chain_nextOnes (l : Launch) (dC : Nat → ClassId) (dI : Nat → Nat → Nat) (ad : Nat → Nat) (tI tL tII tLL : ClassId) (cnt : Int32) (w : Nat → Nat → Int32) (tot : Nat → Int32) (rew : Nat → Int32) (grp : Nat → Int32) (fin : Nat → Int32) (gns : Nat → Int64) (rst : Nat → Int32) (rws : Nat → Nat → Int64) (last : Int32) (now : Nat → Int64) (nxt : Nat → Int64) (whl : Int64) (au : Int64) (al : Int64) (mu : Int64) (ml : Int64) (p1 : Int32) (R0 : Int32) (hR : some R0 = f_Chain_nextOnes cnt w tot p1) : Met l yX0_nextOnes W_Chain_nextOnes RM_f_Chain_nextOnes (roP (dC, dI) vwCl [(tI, .int), (tL, .long), (tII, .array .int), (tLL, .array .long)] (wC ad tI tL tII tLL cnt w tot rew grp fin gns rst rws last now nxt whl au al mu ml) ([.ref (ad 1), .int p1] : List Value)) (roQ (some (.int R0))) 0 0 (fun _ => False) := by
  refine Met.ofW (cc := cX0_nextOnes) (maxL := 4) (ret := (some .int)) (by decide) rfl ?_
  intro p e s m args below meth c s₁ B hml hv
  obtain ⟨rfl, hP, hK, hN⟩ := hv
  have hx := B.exec
  have hb := B.bytes
  have hr := B.returns
  have hts := atoms_spec (ws := W_Chain_nextOnes) B.pre
  have ht := fun (w : Cond) (h : w ∈ tblG) => hts w (List.mem_cons_of_mem _ h)
  have hown : s.vm.findClass RX0 = some m.cls := findClass_of_methodNamed B.named
  have hlocks := B.notSynchronized
  have hl := lv_entry ([.ref (ad 1), .int p1] : List Value) (n := 4) (Nat.le_of_ble_eq_true rfl)
  rw [lg_entry_eq]
  generalize (lg_sl ([.ref (ad 1), .int p1] : List Value) ++ List.replicate (4 - (lg_sl ([.ref (ad 1), .int p1] : List Value)).length) Slot.unset).toArray = ls at hl ⊢
  have hl : lv_has ls 4 [(0, .ref (ad 1)), (1, .int p1)] := hl
  rw [f_Chain_nextOnes] at hR
  refine lv_iconst (v := 0) hx hb dX0_nextOnes_0 (by decide) ?_
  refine lv_istore_n (lv' := [(2, .int (0 : Int32)), (0, .ref (ad 1)), (1, .int p1)]) hx hb dX0_nextOnes_1 rfl hl (by decide) rfl (fun ls hl => ?_)
  refine lv_iconst (v := 0) hx hb dX0_nextOnes_2 (by decide) ?_
  refine lv_istore_n (lv' := [(3, .int (0 : Int32)), (2, .int (0 : Int32)), (0, .ref (ad 1)), (1, .int p1)]) hx hb dX0_nextOnes_3 rfl hl (by decide) rfl (fun ls hl => ?_)
  have L4_6 : ∀ (n : Nat) (x2_1 : Int32) (x3_2 : Int32), ∀ (o_x2_1 : Int32) (o_x3_2 : Int32), some (o_x2_1, o_x3_2) = f_Chain_nextOnes_L4 cnt w tot p1 n x2_1 x3_2 → (∀ ls : Array Slot, lv_has ls 4 [(0, .ref (ad 1)), (1, .int p1), (2, .int o_x2_1), (3, .int o_x3_2)] → W p l e (headSpec W_Chain_nextOnes RM_f_Chain_nextOnes).room s m ([.ref (ad 1), .int p1] : List Value).toArray below meth c s.heap [] 0 0 (MQ below (roQ (some (.int R0))) ([.ref (ad 1), .int p1] : List Value).toArray s 0 0 (fun _ => False)) (F0 m 33 ls [])) → ∀ ls : Array Slot, lv_has ls 4 [(0, .ref (ad 1)), (1, .int p1), (2, .int x2_1), (3, .int x3_2)] → W p l e (headSpec W_Chain_nextOnes RM_f_Chain_nextOnes).room s m ([.ref (ad 1), .int p1] : List Value).toArray below meth c s.heap [] 0 0 (MQ below (roQ (some (.int R0))) ([.ref (ad 1), .int p1] : List Value).toArray s 0 0 (fun _ => False)) (F0 m 4 ls []) := by
    intro n
    induction n with
    | zero =>
      intro x2_1 x3_2 o_x2_1 o_x3_2 hR
      cases (show some _ = none from hR)
    | succ n ih =>
      intro x2_1 x3_2 o_x2_1 o_x3_2 hR hk ls hl
      rw [f_Chain_nextOnes_L4_s] at hR
      obtain ⟨y, hR, hQ⟩ := ob hR
      replace hR := hR.symm
      rw [f_Chain_nextOnes_B4] at hR
      refine lv_iload_n hx hb dX0_nextOnes_4 rfl (lv_at hl 3 rfl) ?_
      refine lv_aload_n hx hb dX0_nextOnes_5 rfl (lv_at hl 0 rfl) ?_
      refine va_get (D := (dC, dI)) (ci := 0) (v := .int cnt) (C := RX0) (T := TX0) (N := 4) hx hb ht hinX0 hown hK hP 1 rfl rfl 3 (by decide) (ht _ k_12) (fun _ h9 => h9) rfl dX0_nextOnes_6 ?_
      refine lv_icmp_ge (tgt := 33) hx hb dX0_nextOnes_9 (by decide) (fun c3 => ?_) (fun c3 => ?_)
      · replace hR := it_p c3 hR
        cases hR
        cases (show some _ = some _ from hQ)
        exact hk ls (lv_sub hl [0, 1, 2, 3] rfl)
      · replace hR := it_n c3 hR
        refine lv_aload_n hx hb dX0_nextOnes_12 rfl (lv_at hl 0 rfl) ?_
        refine lv_iload_n hx hb dX0_nextOnes_13 rfl (lv_at hl 1 rfl) ?_
        refine lv_iload_n hx hb dX0_nextOnes_14 rfl (lv_at hl 3 rfl) ?_
        obtain ⟨r4, hC, hR⟩ := ob hR
        try dsimp only at hR
        refine ro_calli (va_runV (As := [.int p1, .int x3_2]) (rest := []) ⟨hx, hb, hml, hown, ht⟩ (c_Chain_pull l dC dI ad tI tL tII tLL cnt w tot rew grp fin gns rst rws last now nxt whl au al mu ml p1 x3_2 r4 hC.symm) ⟨callB_of 2 ht (goodG k_22) rfl rfl rfl (ht _ k_15) (ht _ k_23) (by decide +kernel) ⟨Nat.le_of_ble_eq_true rfl, Nat.le_of_ble_eq_true rfl⟩, (ht _ k_25), (ht _ k_24)⟩ (pre_v hK hN hP (q0 := 1) (ci := 0) rfl rfl) rfl rfl hl.1 rfl (lv_room (Nat.le_of_ble_eq_true rfl)) dX0_nextOnes_15 ⟨Nat.zero_le _, Nat.zero_le _⟩) ?_
        refine lv_if_eq (tgt := 27) hx hb dX0_nextOnes_18 (by decide) (fun c5 => ?_) (fun c5 => ?_)
        · replace hR := it_p c5 hR
          refine lv_iinc (v := (x3_2 + 1)) (lv' := [(3, .int (x3_2 + 1)), (0, .ref (ad 1)), (1, .int p1), (2, .int x2_1)]) hx hb dX0_nextOnes_27 hl (k := 3) rfl rfl (by decide) rfl (fun ls hl => ?_)
          refine lv_goto (tgt := 4) hx hb dX0_nextOnes_30 (by decide) ?_
          cases hR
          exact ih x2_1 (x3_2 + 1) o_x2_1 o_x3_2 hQ hk ls (lv_sub hl [1, 2, 3, 0] rfl)
        · replace hR := it_n c5 hR
          refine lv_iload_n hx hb dX0_nextOnes_21 rfl (lv_at hl 2 rfl) ?_
          refine lv_iconst (v := 1) hx hb dX0_nextOnes_22 (by decide) ?_
          refine lv_iload_n hx hb dX0_nextOnes_23 rfl (lv_at hl 3 rfl) ?_
          refine lv_ishl hx hb dX0_nextOnes_24 ?_
          refine lv_ior hx hb dX0_nextOnes_25 ?_
          refine lv_istore_n (lv' := [(2, .int (x2_1 ||| ((1 : Int32) <<< (x3_2 &&& 31)))), (0, .ref (ad 1)), (1, .int p1), (3, .int x3_2)]) hx hb dX0_nextOnes_26 rfl hl (by decide) rfl (fun ls hl => ?_)
          refine lv_iinc (v := (x3_2 + 1)) (lv' := [(3, .int (x3_2 + 1)), (2, .int (x2_1 ||| ((1 : Int32) <<< (x3_2 &&& 31)))), (0, .ref (ad 1)), (1, .int p1)]) hx hb dX0_nextOnes_27 hl (k := 3) rfl rfl (by decide) rfl (fun ls hl => ?_)
          refine lv_goto (tgt := 4) hx hb dX0_nextOnes_30 (by decide) ?_
          cases hR
          exact ih (x2_1 ||| ((1 : Int32) <<< (x3_2 &&& 31))) (x3_2 + 1) o_x2_1 o_x3_2 hQ hk ls (lv_sub hl [2, 3, 1, 0] rfl)
  obtain ⟨⟨u7, u8⟩, hL, hR⟩ := ob hR
  try dsimp only at hR
  refine L4_6 300 (0 : Int32) (0 : Int32) u7 u8 hL.symm (fun ls hl => ?_) ls (lv_sub hl [2, 3, 1, 0] rfl)
  refine lv_iload_n hx hb dX0_nextOnes_33 rfl (lv_at hl 2 rfl) ?_
  cases hR
  exact W.iret hx hb hr (fun t ht _ => ⟨rfl, ht⟩) t_nil dX0_nextOnes_34
