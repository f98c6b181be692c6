abbrev RM_f_M_within : Room := { frames := 0, cells := 0, slots := 0, locals := 0 }
abbrev W_M_within : List Cond := .code yX7_within cX7_within 3 (some .boolean) :: tblG
set_option maxHeartbeats 4000000 in
set_option maxRecDepth 100000 in
theorem c_M_within (l : Launch) (dC : Nat → ClassId) (dI : Nat → Nat → Nat) (ad : Nat → Nat) (tI tL tII tLL : ClassId)  (p1 : Int32) (p2 : Int32) (p3 : Int32) (R0 : Int32) (hR : some R0 = f_M_within p1 p2 p3) : Met l yX7_within W_M_within RM_f_M_within (roP (dC, dI) vwCl [(tI, .int), (tL, .long), (tII, .array .int), (tLL, .array .long)] [] ([.int p1, .int p2, .int p3] : List Value)) (roQ (some (.int R0))) 0 0 (fun _ => False) := by
  refine Met.ofW (cc := cX7_within) (maxL := 3) (ret := (some .boolean)) (by decide) rfl ?_
  intro p e s m args below meth c s₁ B hml hv
  obtain ⟨rfl, hP, hK, hN⟩ := hv
  have hx := B.exec
  have hb := B.bytes
  have hr := B.returns
  have hts := atoms_spec (ws := W_M_within) B.pre
  have ht := fun (w : Cond) (h : w ∈ tblG) => hts w (List.mem_cons_of_mem _ h)
  have hown : s.vm.findClass RX7 = some m.cls := findClass_of_methodNamed B.named
  have hlocks := B.notSynchronized
  have hl := lv_entry ([.int p1, .int p2, .int p3] : List Value) (n := 3) (Nat.le_of_ble_eq_true rfl)
  rw [lg_entry_eq]
  generalize (lg_sl ([.int p1, .int p2, .int p3] : List Value) ++ List.replicate (3 - (lg_sl ([.int p1, .int p2, .int p3] : List Value)).length) Slot.unset).toArray = ls at hl ⊢
  have hl : lv_has ls 3 [(0, .int p1), (1, .int p2), (2, .int p3)] := hl
  rw [f_M_within] at hR
  refine lv_iload_n hx hb dX7_within_0 rfl (lv_at hl 0 rfl) ?_
  refine lv_iload_n hx hb dX7_within_1 rfl (lv_at hl 1 rfl) ?_
  refine lv_icmp_lt (tgt := 14) hx hb dX7_within_2 (by decide) (fun c1 => ?_) (fun c1 => ?_)
  · replace hR := it_p c1 hR
    refine lv_iconst (v := 0) hx hb dX7_within_14 (by decide) ?_
    cases hR
    exact W.zret hx hb hr rfl (fun t ht _ => ⟨rfl, ht⟩) t_nil dX7_within_15
  · replace hR := it_n c1 hR
    refine lv_iload_n hx hb dX7_within_5 rfl (lv_at hl 0 rfl) ?_
    refine lv_iload_n hx hb dX7_within_6 rfl (lv_at hl 2 rfl) ?_
    refine lv_icmp_gt (tgt := 14) hx hb dX7_within_7 (by decide) (fun c2 => ?_) (fun c2 => ?_)
    · replace hR := it_p c2 hR
      refine lv_iconst (v := 0) hx hb dX7_within_14 (by decide) ?_
      cases hR
      exact W.zret hx hb hr rfl (fun t ht _ => ⟨rfl, ht⟩) t_nil dX7_within_15
    · replace hR := it_n c2 hR
      refine lv_iconst (v := 1) hx hb dX7_within_10 (by decide) ?_
      refine lv_goto (tgt := 15) hx hb dX7_within_11 (by decide) ?_
      cases hR
      exact W.zret hx hb hr rfl (fun t ht _ => ⟨rfl, ht⟩) t_nil dX7_within_15
abbrev RM_f_M_has : Room := { frames := 0, cells := 0, slots := 0, locals := 0 }
abbrev W_M_has : List Cond := .code yX7_has cX7_has 2 (some .boolean) :: tblG
set_option maxHeartbeats 4000000 in
set_option maxRecDepth 100000 in
theorem c_M_has (l : Launch) (dC : Nat → ClassId) (dI : Nat → Nat → Nat) (ad : Nat → Nat) (tI tL tII tLL : ClassId)  (p1 : Int32) (p2 : Int32) (R0 : Int32) (hR : some R0 = f_M_has p1 p2) : Met l yX7_has W_M_has RM_f_M_has (roP (dC, dI) vwCl [(tI, .int), (tL, .long), (tII, .array .int), (tLL, .array .long)] [] ([.int p1, .int p2] : List Value)) (roQ (some (.int R0))) 0 0 (fun _ => False) := by
  refine Met.ofW (cc := cX7_has) (maxL := 2) (ret := (some .boolean)) (by decide) rfl ?_
  intro p e s m args below meth c s₁ B hml hv
  obtain ⟨rfl, hP, hK, hN⟩ := hv
  have hx := B.exec
  have hb := B.bytes
  have hr := B.returns
  have hts := atoms_spec (ws := W_M_has) B.pre
  have ht := fun (w : Cond) (h : w ∈ tblG) => hts w (List.mem_cons_of_mem _ h)
  have hown : s.vm.findClass RX7 = some m.cls := findClass_of_methodNamed B.named
  have hlocks := B.notSynchronized
  have hl := lv_entry ([.int p1, .int p2] : List Value) (n := 2) (Nat.le_of_ble_eq_true rfl)
  rw [lg_entry_eq]
  generalize (lg_sl ([.int p1, .int p2] : List Value) ++ List.replicate (2 - (lg_sl ([.int p1, .int p2] : List Value)).length) Slot.unset).toArray = ls at hl ⊢
  have hl : lv_has ls 2 [(0, .int p1), (1, .int p2)] := hl
  rw [f_M_has] at hR
  refine lv_iload_n hx hb dX7_has_0 rfl (lv_at hl 0 rfl) ?_
  refine lv_iload_n hx hb dX7_has_1 rfl (lv_at hl 1 rfl) ?_
  refine lv_ishr hx hb dX7_has_2 ?_
  refine lv_iconst (v := 1) hx hb dX7_has_3 (by decide) ?_
  refine lv_iand hx hb dX7_has_4 ?_
  refine lv_iconst (v := 1) hx hb dX7_has_5 (by decide) ?_
  refine lv_icmp_ne (tgt := 13) hx hb dX7_has_6 (by decide) (fun c1 => ?_) (fun c1 => ?_)
  · replace hR := it_n c1 hR
    refine lv_iconst (v := 0) hx hb dX7_has_13 (by decide) ?_
    cases hR
    exact W.zret hx hb hr rfl (fun t ht _ => ⟨rfl, ht⟩) t_nil dX7_has_14
  · replace hR := it_p c1 hR
    refine lv_iconst (v := 1) hx hb dX7_has_9 (by decide) ?_
    refine lv_goto (tgt := 14) hx hb dX7_has_10 (by decide) ?_
    cases hR
    exact W.zret hx hb hr rfl (fun t ht _ => ⟨rfl, ht⟩) t_nil dX7_has_14
abbrev RM_f_M_many : Room := { frames := 0, cells := 0, slots := 0, locals := 0 }
abbrev W_M_many : List Cond := .code yX7_many cX7_many 3 (some .int) :: tblG
set_option maxHeartbeats 4000000 in
set_option maxRecDepth 100000 in
theorem c_M_many (l : Launch) (dC : Nat → ClassId) (dI : Nat → Nat → Nat) (ad : Nat → Nat) (tI tL tII tLL : ClassId)  (p1 : Int32) (R0 : Int32) (hR : some R0 = f_M_many p1) : Met l yX7_many W_M_many RM_f_M_many (roP (dC, dI) vwCl [(tI, .int), (tL, .long), (tII, .array .int), (tLL, .array .long)] [] ([.int p1] : List Value)) (roQ (some (.int R0))) 0 0 (fun _ => False) := by
  refine Met.ofW (cc := cX7_many) (maxL := 3) (ret := (some .int)) (by decide) rfl ?_
  intro p e s m args below meth c s₁ B hml hv
  obtain ⟨rfl, hP, hK, hN⟩ := hv
  have hx := B.exec
  have hb := B.bytes
  have hr := B.returns
  have hts := atoms_spec (ws := W_M_many) B.pre
  have ht := fun (w : Cond) (h : w ∈ tblG) => hts w (List.mem_cons_of_mem _ h)
  have hown : s.vm.findClass RX7 = some m.cls := findClass_of_methodNamed B.named
  have hlocks := B.notSynchronized
  have hl := lv_entry ([.int p1] : List Value) (n := 3) (Nat.le_of_ble_eq_true rfl)
  rw [lg_entry_eq]
  generalize (lg_sl ([.int p1] : List Value) ++ List.replicate (3 - (lg_sl ([.int p1] : List Value)).length) Slot.unset).toArray = ls at hl ⊢
  have hl : lv_has ls 3 [(0, .int p1)] := hl
  rw [f_M_many] at hR
  refine lv_iconst (v := 0) hx hb dX7_many_0 (by decide) ?_
  refine lv_istore_n (lv' := [(1, .int (0 : Int32)), (0, .int p1)]) hx hb dX7_many_1 rfl hl (by decide) rfl (fun ls hl => ?_)
  refine lv_iconst (v := 0) hx hb dX7_many_2 (by decide) ?_
  refine lv_istore_n (lv' := [(2, .int (0 : Int32)), (1, .int (0 : Int32)), (0, .int p1)]) hx hb dX7_many_3 rfl hl (by decide) rfl (fun ls hl => ?_)
  have L4_4 : ∀ (n : Nat) (x1_1 : Int32) (x2_2 : Int32), ∀ (o_x1_1 : Int32) (o_x2_2 : Int32), some (o_x1_1, o_x2_2) = f_M_many_L4 p1 n x1_1 x2_2 → (∀ ls : Array Slot, lv_has ls 3 [(0, .int p1), (1, .int o_x1_1), (2, .int o_x2_2)] → W p l e (headSpec W_M_many RM_f_M_many).room s m ([.int p1] : List Value).toArray below meth c s.heap [] 0 0 (MQ below (roQ (some (.int R0))) ([.int p1] : List Value).toArray s 0 0 (fun _ => False)) (F0 m 24 ls [])) → ∀ ls : Array Slot, lv_has ls 3 [(0, .int p1), (1, .int x1_1), (2, .int x2_2)] → W p l e (headSpec W_M_many RM_f_M_many).room s m ([.int p1] : List Value).toArray below meth c s.heap [] 0 0 (MQ below (roQ (some (.int R0))) ([.int p1] : List Value).toArray s 0 0 (fun _ => False)) (F0 m 4 ls []) := by
    intro n
    induction n with
    | zero =>
      intro x1_1 x2_2 o_x1_1 o_x2_2 hR
      cases (show some _ = none from hR)
    | succ n ih =>
      intro x1_1 x2_2 o_x1_1 o_x2_2 hR hk ls hl
      rw [f_M_many_L4_s] at hR
      obtain ⟨y, hR, hQ⟩ := ob hR
      replace hR := hR.symm
      rw [f_M_many_B4] at hR
      refine lv_iload_n hx hb dX7_many_4 rfl (lv_at hl 2 rfl) ?_
      refine lv_bipush (v := 7) hx hb dX7_many_5 (by decide) ?_
      refine lv_icmp_ge (tgt := 24) hx hb dX7_many_7 (by decide) (fun c3 => ?_) (fun c3 => ?_)
      · replace hR := it_p c3 hR
        cases hR
        cases (show some _ = some _ from hQ)
        exact hk ls (lv_sub hl [0, 1, 2] rfl)
      · replace hR := it_n c3 hR
        refine lv_iload_n hx hb dX7_many_10 rfl (lv_at hl 1 rfl) ?_
        refine lv_iload_n hx hb dX7_many_11 rfl (lv_at hl 0 rfl) ?_
        refine lv_iload_n hx hb dX7_many_12 rfl (lv_at hl 2 rfl) ?_
        refine lv_ishr hx hb dX7_many_13 ?_
        refine lv_iconst (v := 1) hx hb dX7_many_14 (by decide) ?_
        refine lv_iand hx hb dX7_many_15 ?_
        refine lv_iadd hx hb dX7_many_16 ?_
        refine lv_istore_n (lv' := [(1, .int (x1_1 + ((p1 >>> (x2_2 &&& 31)) &&& (1 : Int32)))), (0, .int p1), (2, .int x2_2)]) hx hb dX7_many_17 rfl hl (by decide) rfl (fun ls hl => ?_)
        refine lv_iinc (v := (x2_2 + 1)) (lv' := [(2, .int (x2_2 + 1)), (1, .int (x1_1 + ((p1 >>> (x2_2 &&& 31)) &&& (1 : Int32)))), (0, .int p1)]) hx hb dX7_many_18 hl (k := 2) rfl rfl (by decide) rfl (fun ls hl => ?_)
        refine lv_goto (tgt := 4) hx hb dX7_many_21 (by decide) ?_
        cases hR
        exact ih (x1_1 + ((p1 >>> (x2_2 &&& 31)) &&& (1 : Int32))) (x2_2 + 1) o_x1_1 o_x2_2 hQ hk ls (lv_sub hl [2, 1, 0] rfl)
  obtain ⟨⟨u5, u6⟩, hL, hR⟩ := ob hR
  try dsimp only at hR
  refine L4_4 300 (0 : Int32) (0 : Int32) u5 u6 hL.symm (fun ls hl => ?_) ls (lv_sub hl [2, 1, 0] rfl)
  refine lv_iload_n hx hb dX7_many_24 rfl (lv_at hl 1 rfl) ?_
  cases hR
  exact W.iret hx hb hr (fun t ht _ => ⟨rfl, ht⟩) t_nil dX7_many_25
abbrev RM_f_M_least : Room := { frames := 1, cells := 0, slots := 0, locals := 21 }
abbrev W_M_least : List Cond := .code yX7_least cX7_least 2 (some .int) :: tblG
set_option maxHeartbeats 4000000 in
set_option maxRecDepth 100000 in
theorem c_M_least (l : Launch) (dC : Nat → ClassId) (dI : Nat → Nat → Nat) (ad : Nat → Nat) (tI tL tII tLL : ClassId)  (p1 : Int32) (R0 : Int32) (hR : some R0 = f_M_least p1) : Met l yX7_least W_M_least RM_f_M_least (roP (dC, dI) vwCl [(tI, .int), (tL, .long), (tII, .array .int), (tLL, .array .long)] [] ([.int p1] : List Value)) (roQ (some (.int R0))) 0 0 (fun _ => False) := by
  refine Met.ofW (cc := cX7_least) (maxL := 2) (ret := (some .int)) (by decide) rfl ?_
  intro p e s m args below meth c s₁ B hml hv
  obtain ⟨rfl, hP, hK, hN⟩ := hv
  have hx := B.exec
  have hb := B.bytes
  have hr := B.returns
  have hts := atoms_spec (ws := W_M_least) B.pre
  have ht := fun (w : Cond) (h : w ∈ tblG) => hts w (List.mem_cons_of_mem _ h)
  have hown : s.vm.findClass RX7 = some m.cls := findClass_of_methodNamed B.named
  have hlocks := B.notSynchronized
  have hl := lv_entry ([.int p1] : List Value) (n := 2) (Nat.le_of_ble_eq_true rfl)
  rw [lg_entry_eq]
  generalize (lg_sl ([.int p1] : List Value) ++ List.replicate (2 - (lg_sl ([.int p1] : List Value)).length) Slot.unset).toArray = ls at hl ⊢
  have hl : lv_has ls 2 [(0, .int p1)] := hl
  rw [f_M_least] at hR
  refine lv_iconst (v := 0) hx hb dX7_least_0 (by decide) ?_
  refine lv_istore_n (lv' := [(1, .int (0 : Int32)), (0, .int p1)]) hx hb dX7_least_1 rfl hl (by decide) rfl (fun ls hl => ?_)
  have L2_5 : ∀ (n : Nat) (x1_1 : Int32), ∀ (o_x1_1 : Int32), some o_x1_1 = f_M_least_L2 p1 n x1_1 → (∀ ls : Array Slot, lv_has ls 2 [(0, .int p1), (1, .int o_x1_1)] → W p l e (headSpec W_M_least RM_f_M_least).room s m ([.int p1] : List Value).toArray below meth c s.heap [] 0 0 (MQ below (roQ (some (.int R0))) ([.int p1] : List Value).toArray s 0 0 (fun _ => False)) (F0 m 22 ls [])) → ∀ ls : Array Slot, lv_has ls 2 [(0, .int p1), (1, .int x1_1)] → W p l e (headSpec W_M_least RM_f_M_least).room s m ([.int p1] : List Value).toArray below meth c s.heap [] 0 0 (MQ below (roQ (some (.int R0))) ([.int p1] : List Value).toArray s 0 0 (fun _ => False)) (F0 m 2 ls []) := by
    intro n
    induction n with
    | zero =>
      intro x1_1 o_x1_1 hR
      cases (show some _ = none from hR)
    | succ n ih =>
      intro x1_1 o_x1_1 hR hk ls hl
      rw [f_M_least_L2_s] at hR
      obtain ⟨y, hR, hQ⟩ := ob hR
      replace hR := hR.symm
      rw [f_M_least_B2] at hR
      refine lv_iload_n hx hb dX7_least_2 rfl (lv_at hl 1 rfl) ?_
      refine lv_bipush (v := 7) hx hb dX7_least_3 (by decide) ?_
      refine lv_icmp_ge (tgt := 22) hx hb dX7_least_5 (by decide) (fun c2 => ?_) (fun c2 => ?_)
      · replace hR := it_p c2 hR
        cases hR
        cases (show some _ = some _ from hQ)
        exact hk ls (lv_sub hl [0, 1] rfl)
      · replace hR := it_n c2 hR
        refine lv_iload_n hx hb dX7_least_8 rfl (lv_at hl 0 rfl) ?_
        refine lv_iload_n hx hb dX7_least_9 rfl (lv_at hl 1 rfl) ?_
        obtain ⟨r3, hC, hR⟩ := ob hR
        try dsimp only at hR
        refine ro_calli (va_runS (As := [.int p1, .int x1_1]) (rest := []) ⟨hx, hb, hml, hown, ht⟩ (c_M_has l dC dI ad tI tL tII tLL  p1 x1_1 r3 hC.symm) ⟨callB_of 2 ht (goodG k_201) rfl rfl rfl (ht _ k_202) (ht _ k_203) (by decide +kernel) ⟨Nat.le_of_ble_eq_true rfl, Nat.le_of_ble_eq_true rfl⟩, (ht _ k_204)⟩ (pre_s hK hN (hP.sub (ws' := []) [] rfl)) rfl rfl hl.1 rfl (lv_room (Nat.le_of_ble_eq_true rfl)) dX7_least_10 ⟨Nat.zero_le _, Nat.zero_le _⟩) ?_
        refine lv_if_ne (tgt := 22) hx hb dX7_least_13 (by decide) (fun c4 => ?_) (fun c4 => ?_)
        · replace hR := it_n c4 hR
          cases hR
          cases (show some _ = some _ from hQ)
          exact hk ls (lv_sub hl [0, 1] rfl)
        · replace hR := it_p c4 hR
          refine lv_iinc (v := (x1_1 + 1)) (lv' := [(1, .int (x1_1 + 1)), (0, .int p1)]) hx hb dX7_least_16 hl (k := 1) rfl rfl (by decide) rfl (fun ls hl => ?_)
          refine lv_goto (tgt := 2) hx hb dX7_least_19 (by decide) ?_
          cases hR
          exact ih (x1_1 + 1) o_x1_1 hQ hk ls (lv_sub hl [1, 0] rfl)
  obtain ⟨u6, hL, hR⟩ := ob hR
  try dsimp only at hR
  refine L2_5 300 (0 : Int32) u6 hL.symm (fun ls hl => ?_) ls (lv_sub hl [1, 0] rfl)
  refine lv_iload_n hx hb dX7_least_22 rfl (lv_at hl 1 rfl) ?_
  cases hR
  exact W.iret hx hb hr (fun t ht _ => ⟨rfl, ht⟩) t_nil dX7_least_23
abbrev RM_f_M_isState : Room := { frames := 1, cells := 0, slots := 0, locals := 22 }
abbrev W_M_isState : List Cond := .code yX7_isState cX7_isState 2 (some .boolean) :: tblG
set_option maxHeartbeats 4000000 in
set_option maxRecDepth 100000 in
theorem c_M_isState (l : Launch) (dC : Nat → ClassId) (dI : Nat → Nat → Nat) (ad : Nat → Nat) (tI tL tII tLL : ClassId) (thr : Int32) (sts : Int32) (wgt : Nat → Int32) (rwd : Nat → Int32) (up : Int64) (dn : Int64) (cel : Nat → Int64) (rig : Nat → Int64) (sum : Nat → Int64) (gp : Nat → Int32) (bst : Nat → Int32) (few : Int32) (p1 : Int32) (R0 : Int32) (hR : some R0 = f_M_isState sts p1) : Met l yX7_isState W_M_isState RM_f_M_isState (roP (dC, dI) vwCl [(tI, .int), (tL, .long), (tII, .array .int), (tLL, .array .long)] (wM ad tI tL tII tLL thr sts wgt rwd up dn cel rig sum gp bst few) ([.ref (ad 0), .int p1] : List Value)) (roQ (some (.int R0))) 0 0 (fun _ => False) := by
  refine Met.ofW (cc := cX7_isState) (maxL := 2) (ret := (some .boolean)) (by decide) rfl ?_
  intro p e s m args below meth c s₁ B hml hv
  obtain ⟨rfl, hP, hK, hN⟩ := hv
  have hx := B.exec
  have hb := B.bytes
  have hr := B.returns
  have hts := atoms_spec (ws := W_M_isState) B.pre
  have ht := fun (w : Cond) (h : w ∈ tblG) => hts w (List.mem_cons_of_mem _ h)
  have hown : s.vm.findClass RX7 = some m.cls := findClass_of_methodNamed B.named
  have hlocks := B.notSynchronized
  have hl := lv_entry ([.ref (ad 0), .int p1] : List Value) (n := 2) (Nat.le_of_ble_eq_true rfl)
  rw [lg_entry_eq]
  generalize (lg_sl ([.ref (ad 0), .int p1] : List Value) ++ List.replicate (2 - (lg_sl ([.ref (ad 0), .int p1] : List Value)).length) Slot.unset).toArray = ls at hl ⊢
  have hl : lv_has ls 2 [(0, .ref (ad 0)), (1, .int p1)] := hl
  rw [f_M_isState] at hR
  refine lv_iload_n hx hb dX7_isState_0 rfl (lv_at hl 1 rfl) ?_
  refine lv_iconst (v := 0) hx hb dX7_isState_1 (by decide) ?_
  refine lv_aload_n hx hb dX7_isState_2 rfl (lv_at hl 0 rfl) ?_
  refine va_get (D := (dC, dI)) (ci := 7) (v := .int sts) (C := RX7) (T := TX7) (N := 12) hx hb ht hinX7 hown hK hP 0 rfl rfl 1 (by decide) (ht _ k_205) (fun _ h9 => h9) rfl dX7_isState_3 ?_
  refine lv_iconst (v := 1) hx hb dX7_isState_6 (by decide) ?_
  refine lv_isub hx hb dX7_isState_7 ?_
  obtain ⟨r1, hC, hR⟩ := ob hR
  try dsimp only at hR
  refine ro_calli (va_runS (As := [.int p1, .int (0 : Int32), .int (sts - (1 : Int32))]) (rest := []) ⟨hx, hb, hml, hown, ht⟩ (c_M_within l dC dI ad tI tL tII tLL  p1 (0 : Int32) (sts - (1 : Int32)) r1 hC.symm) ⟨callB_of 3 ht (goodG k_206) rfl rfl rfl (ht _ k_202) (ht _ k_207) (by decide +kernel) ⟨Nat.le_of_ble_eq_true rfl, Nat.le_of_ble_eq_true rfl⟩, (ht _ k_208)⟩ (pre_s hK hN (hP.sub (ws' := []) [] rfl)) rfl rfl hl.1 rfl (lv_room (Nat.le_of_ble_eq_true rfl)) dX7_isState_8 ⟨Nat.zero_le _, Nat.zero_le _⟩) ?_
  obtain ⟨z2, hR⟩ := og hR
  cases hR
  exact W.zret hx hb hr (zb_n z2) (fun t ht _ => ⟨rfl, ht⟩) t_nil dX7_isState_11
abbrev RM_f_M_w : Room := { frames := 0, cells := 0, slots := 0, locals := 0 }
abbrev W_M_w : List Cond := .code yX7_w cX7_w 3 (some .int) :: tblG
set_option maxHeartbeats 4000000 in
set_option maxRecDepth 100000 in
theorem c_M_w (l : Launch) (dC : Nat → ClassId) (dI : Nat → Nat → Nat) (ad : Nat → Nat) (tI tL tII tLL : ClassId) (thr : Int32) (sts : Int32) (wgt : Nat → Int32) (rwd : Nat → Int32) (up : Int64) (dn : Int64) (cel : Nat → Int64) (rig : Nat → Int64) (sum : Nat → Int64) (gp : Nat → Int32) (bst : Nat → Int32) (few : Int32) (p1 : Int32) (p2 : Int32) (R0 : Int32) (hR : some R0 = f_M_w wgt p1 p2) : Met l yX7_w W_M_w RM_f_M_w (roP (dC, dI) vwCl [(tI, .int), (tL, .long), (tII, .array .int), (tLL, .array .long)] (wM ad tI tL tII tLL thr sts wgt rwd up dn cel rig sum gp bst few) ([.ref (ad 0), .int p1, .int p2] : List Value)) (roQ (some (.int R0))) 0 0 (fun _ => False) := by
  refine Met.ofW (cc := cX7_w) (maxL := 3) (ret := (some .int)) (by decide) rfl ?_
  intro p e s m args below meth c s₁ B hml hv
  obtain ⟨rfl, hP, hK, hN⟩ := hv
  have hx := B.exec
  have hb := B.bytes
  have hr := B.returns
  have hts := atoms_spec (ws := W_M_w) B.pre
  have ht := fun (w : Cond) (h : w ∈ tblG) => hts w (List.mem_cons_of_mem _ h)
  have hown : s.vm.findClass RX7 = some m.cls := findClass_of_methodNamed B.named
  have hlocks := B.notSynchronized
  have hl := lv_entry ([.ref (ad 0), .int p1, .int p2] : List Value) (n := 3) (Nat.le_of_ble_eq_true rfl)
  rw [lg_entry_eq]
  generalize (lg_sl ([.ref (ad 0), .int p1, .int p2] : List Value) ++ List.replicate (3 - (lg_sl ([.ref (ad 0), .int p1, .int p2] : List Value)).length) Slot.unset).toArray = ls at hl ⊢
  have hl : lv_has ls 3 [(0, .ref (ad 0)), (1, .int p1), (2, .int p2)] := hl
  rw [f_M_w] at hR
  refine lv_aload_n hx hb dX7_w_0 rfl (lv_at hl 0 rfl) ?_
  refine va_get (D := (dC, dI)) (ci := 7) (v := .ref (ad 1)) (C := RX7) (T := TX7) (N := 12) hx hb ht hinX7 hown hK hP 0 rfl rfl 2 (by decide) (ht _ k_209) (fun _ h9 => h9) rfl dX7_w_1 ?_
  refine lv_bipush (v := 7) hx hb dX7_w_4 (by decide) ?_
  refine lv_iload_n hx hb dX7_w_6 rfl (lv_at hl 1 rfl) ?_
  refine lv_imul hx hb dX7_w_7 ?_
  refine lv_iload_n hx hb dX7_w_8 rfl (lv_at hl 2 rfl) ?_
  refine lv_iadd hx hb dX7_w_9 ?_
  obtain ⟨z1, hR⟩ := og hR
  refine va_iald hx hb hK hP 1 0 rfl rfl (ix_in z1) dX7_w_10 ?_
  cases hR
  exact W.iret hx hb hr (fun t ht _ => ⟨rfl, ht⟩) t_nil dX7_w_11
abbrev RM_f_M_total : Room := { frames := 1, cells := 0, slots := 0, locals := 22 }
abbrev W_M_total : List Cond := .code yX7_total cX7_total 4 (some .int) :: tblG
set_option maxHeartbeats 4000000 in
set_option maxRecDepth 100000 in
theorem c_M_total (l : Launch) (dC : Nat → ClassId) (dI : Nat → Nat → Nat) (ad : Nat → Nat) (tI tL tII tLL : ClassId) (thr : Int32) (sts : Int32) (wgt : Nat → Int32) (rwd : Nat → Int32) (up : Int64) (dn : Int64) (cel : Nat → Int64) (rig : Nat → Int64) (sum : Nat → Int64) (gp : Nat → Int32) (bst : Nat → Int32) (few : Int32) (p1 : Int32) (R0 : Int32) (hR : some R0 = f_M_total sts wgt p1) : Met l yX7_total W_M_total RM_f_M_total (roP (dC, dI) vwCl [(tI, .int), (tL, .long), (tII, .array .int), (tLL, .array .long)] (wM ad tI tL tII tLL thr sts wgt rwd up dn cel rig sum gp bst few) ([.ref (ad 0), .int p1] : List Value)) (roQ (some (.int R0))) 0 0 (fun _ => False) := by
  refine Met.ofW (cc := cX7_total) (maxL := 4) (ret := (some .int)) (by decide) rfl ?_
  intro p e s m args below meth c s₁ B hml hv
  obtain ⟨rfl, hP, hK, hN⟩ := hv
  have hx := B.exec
  have hb := B.bytes
  have hr := B.returns
  have hts := atoms_spec (ws := W_M_total) B.pre
  have ht := fun (w : Cond) (h : w ∈ tblG) => hts w (List.mem_cons_of_mem _ h)
  have hown : s.vm.findClass RX7 = some m.cls := findClass_of_methodNamed B.named
  have hlocks := B.notSynchronized
  have hl := lv_entry ([.ref (ad 0), .int p1] : List Value) (n := 4) (Nat.le_of_ble_eq_true rfl)
  rw [lg_entry_eq]
  generalize (lg_sl ([.ref (ad 0), .int p1] : List Value) ++ List.replicate (4 - (lg_sl ([.ref (ad 0), .int p1] : List Value)).length) Slot.unset).toArray = ls at hl ⊢
  have hl : lv_has ls 4 [(0, .ref (ad 0)), (1, .int p1)] := hl
  rw [f_M_total] at hR
  refine lv_iconst (v := 0) hx hb dX7_total_0 (by decide) ?_
  refine lv_istore_n (lv' := [(2, .int (0 : Int32)), (0, .ref (ad 0)), (1, .int p1)]) hx hb dX7_total_1 rfl hl (by decide) rfl (fun ls hl => ?_)
  refine lv_iconst (v := 0) hx hb dX7_total_2 (by decide) ?_
  refine lv_istore_n (lv' := [(3, .int (0 : Int32)), (2, .int (0 : Int32)), (0, .ref (ad 0)), (1, .int p1)]) hx hb dX7_total_3 rfl hl (by decide) rfl (fun ls hl => ?_)
  have L4_5 : ∀ (n : Nat) (x2_1 : Int32) (x3_2 : Int32), ∀ (o_x2_1 : Int32) (o_x3_2 : Int32), some (o_x2_1, o_x3_2) = f_M_total_L4 sts wgt p1 n x2_1 x3_2 → (∀ ls : Array Slot, lv_has ls 4 [(0, .ref (ad 0)), (1, .int p1), (2, .int o_x2_1), (3, .int o_x3_2)] → W p l e (headSpec W_M_total RM_f_M_total).room s m ([.ref (ad 0), .int p1] : List Value).toArray below meth c s.heap [] 0 0 (MQ below (roQ (some (.int R0))) ([.ref (ad 0), .int p1] : List Value).toArray s 0 0 (fun _ => False)) (F0 m 27 ls [])) → ∀ ls : Array Slot, lv_has ls 4 [(0, .ref (ad 0)), (1, .int p1), (2, .int x2_1), (3, .int x3_2)] → W p l e (headSpec W_M_total RM_f_M_total).room s m ([.ref (ad 0), .int p1] : List Value).toArray below meth c s.heap [] 0 0 (MQ below (roQ (some (.int R0))) ([.ref (ad 0), .int p1] : List Value).toArray s 0 0 (fun _ => False)) (F0 m 4 ls []) := by
    intro n
    induction n with
    | zero =>
      intro x2_1 x3_2 o_x2_1 o_x3_2 hR
      cases (show some _ = none from hR)
    | succ n ih =>
      intro x2_1 x3_2 o_x2_1 o_x3_2 hR hk ls hl
      rw [f_M_total_L4_s] at hR
      obtain ⟨y, hR, hQ⟩ := ob hR
      replace hR := hR.symm
      rw [f_M_total_B4] at hR
      refine lv_iload_n hx hb dX7_total_4 rfl (lv_at hl 3 rfl) ?_
      refine lv_aload_n hx hb dX7_total_5 rfl (lv_at hl 0 rfl) ?_
      refine va_get (D := (dC, dI)) (ci := 7) (v := .int sts) (C := RX7) (T := TX7) (N := 12) hx hb ht hinX7 hown hK hP 0 rfl rfl 1 (by decide) (ht _ k_205) (fun _ h9 => h9) rfl dX7_total_6 ?_
      refine lv_icmp_ge (tgt := 27) hx hb dX7_total_9 (by decide) (fun c3 => ?_) (fun c3 => ?_)
      · replace hR := it_p c3 hR
        cases hR
        cases (show some _ = some _ from hQ)
        exact hk ls (lv_sub hl [0, 1, 2, 3] rfl)
      · replace hR := it_n c3 hR
        refine lv_iload_n hx hb dX7_total_12 rfl (lv_at hl 2 rfl) ?_
        refine lv_aload_n hx hb dX7_total_13 rfl (lv_at hl 0 rfl) ?_
        refine lv_iload_n hx hb dX7_total_14 rfl (lv_at hl 1 rfl) ?_
        refine lv_iload_n hx hb dX7_total_15 rfl (lv_at hl 3 rfl) ?_
        obtain ⟨r4, hC, hR⟩ := ob hR
        try dsimp only at hR
        refine ro_calli (va_runV (As := [.int p1, .int x3_2]) (rest := [.int x2_1]) ⟨hx, hb, hml, hown, ht⟩ (c_M_w l dC dI ad tI tL tII tLL thr sts wgt rwd up dn cel rig sum gp bst few p1 x3_2 r4 hC.symm) ⟨callB_of 2 ht (goodG k_210) rfl rfl rfl (ht _ k_202) (ht _ k_211) (by decide +kernel) ⟨Nat.le_of_ble_eq_true rfl, Nat.le_of_ble_eq_true rfl⟩, (ht _ k_213), (ht _ k_212)⟩ (pre_v hK hN hP (q0 := 0) (ci := 7) rfl rfl) rfl rfl hl.1 rfl (lv_room (Nat.le_of_ble_eq_true rfl)) dX7_total_16 ⟨Nat.zero_le _, Nat.zero_le _⟩) ?_
        refine lv_iadd hx hb dX7_total_19 ?_
        refine lv_istore_n (lv' := [(2, .int (x2_1 + r4)), (0, .ref (ad 0)), (1, .int p1), (3, .int x3_2)]) hx hb dX7_total_20 rfl hl (by decide) rfl (fun ls hl => ?_)
        refine lv_iinc (v := (x3_2 + 1)) (lv' := [(3, .int (x3_2 + 1)), (2, .int (x2_1 + r4)), (0, .ref (ad 0)), (1, .int p1)]) hx hb dX7_total_21 hl (k := 3) rfl rfl (by decide) rfl (fun ls hl => ?_)
        refine lv_goto (tgt := 4) hx hb dX7_total_24 (by decide) ?_
        cases hR
        exact ih (x2_1 + r4) (x3_2 + 1) o_x2_1 o_x3_2 hQ hk ls (lv_sub hl [2, 3, 1, 0] rfl)
  obtain ⟨⟨u6, u7⟩, hL, hR⟩ := ob hR
  try dsimp only at hR
  refine L4_5 300 (0 : Int32) (0 : Int32) u6 u7 hL.symm (fun ls hl => ?_) ls (lv_sub hl [2, 3, 1, 0] rfl)
  refine lv_iload_n hx hb dX7_total_27 rfl (lv_at hl 2 rfl) ?_
  cases hR
  exact W.iret hx hb hr (fun t ht _ => ⟨rfl, ht⟩) t_nil dX7_total_28
abbrev RM_f_M_isEnd : Room := { frames := 2, cells := 0, slots := 0, locals := 45 }
abbrev W_M_isEnd : List Cond := .code yX7_isEnd cX7_isEnd 2 (some .boolean) :: tblG
set_option maxHeartbeats 4000000 in
set_option maxRecDepth 100000 in
theorem c_M_isEnd (l : Launch) (dC : Nat → ClassId) (dI : Nat → Nat → Nat) (ad : Nat → Nat) (tI tL tII tLL : ClassId) (thr : Int32) (sts : Int32) (wgt : Nat → Int32) (rwd : Nat → Int32) (up : Int64) (dn : Int64) (cel : Nat → Int64) (rig : Nat → Int64) (sum : Nat → Int64) (gp : Nat → Int32) (bst : Nat → Int32) (few : Int32) (p1 : Int32) (R0 : Int32) (hR : some R0 = f_M_isEnd sts wgt p1) : Met l yX7_isEnd W_M_isEnd RM_f_M_isEnd (roP (dC, dI) vwCl [(tI, .int), (tL, .long), (tII, .array .int), (tLL, .array .long)] (wM ad tI tL tII tLL thr sts wgt rwd up dn cel rig sum gp bst few) ([.ref (ad 0), .int p1] : List Value)) (roQ (some (.int R0))) 0 0 (fun _ => False) := by
  refine Met.ofW (cc := cX7_isEnd) (maxL := 2) (ret := (some .boolean)) (by decide) rfl ?_
  intro p e s m args below meth c s₁ B hml hv
  obtain ⟨rfl, hP, hK, hN⟩ := hv
  have hx := B.exec
  have hb := B.bytes
  have hr := B.returns
  have hts := atoms_spec (ws := W_M_isEnd) B.pre
  have ht := fun (w : Cond) (h : w ∈ tblG) => hts w (List.mem_cons_of_mem _ h)
  have hown : s.vm.findClass RX7 = some m.cls := findClass_of_methodNamed B.named
  have hlocks := B.notSynchronized
  have hl := lv_entry ([.ref (ad 0), .int p1] : List Value) (n := 2) (Nat.le_of_ble_eq_true rfl)
  rw [lg_entry_eq]
  generalize (lg_sl ([.ref (ad 0), .int p1] : List Value) ++ List.replicate (2 - (lg_sl ([.ref (ad 0), .int p1] : List Value)).length) Slot.unset).toArray = ls at hl ⊢
  have hl : lv_has ls 2 [(0, .ref (ad 0)), (1, .int p1)] := hl
  rw [f_M_isEnd] at hR
  refine lv_aload_n hx hb dX7_isEnd_0 rfl (lv_at hl 0 rfl) ?_
  refine lv_iload_n hx hb dX7_isEnd_1 rfl (lv_at hl 1 rfl) ?_
  obtain ⟨r1, hC, hR⟩ := ob hR
  try dsimp only at hR
  refine ro_calli (va_runV (As := [.int p1]) (rest := []) ⟨hx, hb, hml, hown, ht⟩ (c_M_total l dC dI ad tI tL tII tLL thr sts wgt rwd up dn cel rig sum gp bst few p1 r1 hC.symm) ⟨callB_of 1 ht (goodG k_214) rfl rfl rfl (ht _ k_202) (ht _ k_215) (by decide +kernel) ⟨Nat.le_of_ble_eq_true rfl, Nat.le_of_ble_eq_true rfl⟩, (ht _ k_217), (ht _ k_216)⟩ (pre_v hK hN hP (q0 := 0) (ci := 7) rfl rfl) rfl rfl hl.1 rfl (lv_room (Nat.le_of_ble_eq_true rfl)) dX7_isEnd_2 ⟨Nat.zero_le _, Nat.zero_le _⟩) ?_
  refine lv_if_ne (tgt := 12) hx hb dX7_isEnd_5 (by decide) (fun c2 => ?_) (fun c2 => ?_)
  · replace hR := it_n c2 hR
    refine lv_iconst (v := 0) hx hb dX7_isEnd_12 (by decide) ?_
    cases hR
    exact W.zret hx hb hr rfl (fun t ht _ => ⟨rfl, ht⟩) t_nil dX7_isEnd_13
  · replace hR := it_p c2 hR
    refine lv_iconst (v := 1) hx hb dX7_isEnd_8 (by decide) ?_
    refine lv_goto (tgt := 13) hx hb dX7_isEnd_9 (by decide) ?_
    cases hR
    exact W.zret hx hb hr rfl (fun t ht _ => ⟨rfl, ht⟩) t_nil dX7_isEnd_13
abbrev RM_f_M_answer : Room := { frames := 0, cells := 0, slots := 0, locals := 0 }
abbrev W_M_answer : List Cond := .code yX7_answer cX7_answer 11 (some .int) :: tblG
set_option maxHeartbeats 4000000 in
set_option maxRecDepth 100000 in
theorem c_M_answer (l : Launch) (dC : Nat → ClassId) (dI : Nat → Nat → Nat) (ad : Nat → Nat) (tI tL tII tLL : ClassId) (thr : Int32) (sts : Int32) (wgt : Nat → Int32) (rwd : Nat → Int32) (up : Int64) (dn : Int64) (cel : Nat → Int64) (rig : Nat → Int64) (sum : Nat → Int64) (gp : Nat → Int32) (bst : Nat → Int32) (few : Int32) (p1 : Int64) (p2 : Int64) (R0 : Int32) (R_up : Int64) (R_dn : Int64) (hR : some (R0, R_up, R_dn) = f_M_answer p1 p2) : Met l yX7_answer W_M_answer RM_f_M_answer (rwP (dC, dI) vwCl [(tI, .int), (tL, .long), (tII, .array .int), (tLL, .array .long)] (wM ad tI tL tII tLL thr sts wgt rwd up dn cel rig sum gp bst few) ([.ref (ad 0), .long p1, .long p2] : List Value)) (rwQ (dC, dI) vwCl (wM ad tI tL tII tLL thr sts wgt rwd R_up R_dn cel rig sum gp bst few) (some (.int R0)) (rwA (wM ad tI tL tII tLL thr sts wgt rwd up dn cel rig sum gp bst few))) 0 0 (rwA (wM ad tI tL tII tLL thr sts wgt rwd up dn cel rig sum gp bst few)) := by
  refine Met.ofW (cc := cX7_answer) (maxL := 11) (ret := (some .int)) (by decide) rfl ?_
  intro p e s m args below meth c s₁ B hml hv
  obtain ⟨rfl, hP, hK, hN, hD⟩ := hv
  have hx := B.exec
  have hb := B.bytes
  have hr := B.returns
  have hts := atoms_spec (ws := W_M_answer) B.pre
  have ht := fun (w : Cond) (h : w ∈ tblG) => hts w (List.mem_cons_of_mem _ h)
  have hown : s.vm.findClass RX7 = some m.cls := findClass_of_methodNamed B.named
  have hlocks := B.notSynchronized
  have hl := lv_entry ([.ref (ad 0), .long p1, .long p2] : List Value) (n := 11) (Nat.le_of_ble_eq_true rfl)
  rw [lg_entry_eq]
  generalize (lg_sl ([.ref (ad 0), .long p1, .long p2] : List Value) ++ List.replicate (11 - (lg_sl ([.ref (ad 0), .long p1, .long p2] : List Value)).length) Slot.unset).toArray = ls at hl ⊢
  have hl : lv_has ls 11 [(0, .ref (ad 0)), (1, .long p1), (3, .long p2)] := hl
  have hD := hD.own
  have hS : va_S (rwA (wM ad tI tL tII tLL thr sts wgt rwd up dn cel rig sum gp bst few)) s.heap s.heap [] := va_S.rf
  suffices K : ∀ (H : Heap) (locs : List Loc), va_P (dC, dI) vwCl (wM ad tI tL tII tLL thr sts wgt rwd up dn cel rig sum gp bst few) H → va_D (rwA (wM ad tI tL tII tLL thr sts wgt rwd up dn cel rig sum gp bst few)) (wM ad tI tL tII tLL thr sts wgt rwd up dn cel rig sum gp bst few) → va_S (rwA (wM ad tI tL tII tLL thr sts wgt rwd up dn cel rig sum gp bst few)) s.heap H locs → W p l e (headSpec W_M_answer RM_f_M_answer).room s m ([.ref (ad 0), .long p1, .long p2] : List Value).toArray below meth c H locs 0 0 (MQ below (rwQ (dC, dI) vwCl (wM ad tI tL tII tLL thr sts wgt rwd R_up R_dn cel rig sum gp bst few) (some (.int R0)) (rwA (wM ad tI tL tII tLL thr sts wgt rwd up dn cel rig sum gp bst few))) ([.ref (ad 0), .long p1, .long p2] : List Value).toArray s 0 0 (rwA (wM ad tI tL tII tLL thr sts wgt rwd up dn cel rig sum gp bst few))) (F0 m 0 ls []) from K s.heap [] hP hD hS
  clear hP hD hS
  intro H locs hP hD hS
  rw [f_M_answer] at hR
  refine lv_lload_n hx hb dX7_answer_0 rfl (lv_at hl 1 rfl) ?_
  refine lv_lconst (v := 0) hx hb dX7_answer_1 (by decide) ?_
  refine W.lcmp hx hb dX7_answer_2 ?_
  obtain ⟨j1, hJ, hR⟩ := ob hR
  try dsimp only at hR
  suffices hk2 : ∀ (H : Heap) (locs : List Loc), va_P (dC, dI) vwCl (wM ad tI tL tII tLL thr sts wgt rwd up dn cel rig sum gp bst few) H → va_D (rwA (wM ad tI tL tII tLL thr sts wgt rwd up dn cel rig sum gp bst few)) (wM ad tI tL tII tLL thr sts wgt rwd up dn cel rig sum gp bst few) → va_S (rwA (wM ad tI tL tII tLL thr sts wgt rwd up dn cel rig sum gp bst few)) s.heap H locs → ∀ ls : Array Slot, lv_has ls 11 [(0, .ref (ad 0)), (1, .long p1), (3, .long p2)] → W p l e (headSpec W_M_answer RM_f_M_answer).room s m ([.ref (ad 0), .long p1, .long p2] : List Value).toArray below meth c H locs 0 0 (MQ below (rwQ (dC, dI) vwCl (wM ad tI tL tII tLL thr sts wgt rwd R_up R_dn cel rig sum gp bst few) (some (.int R0)) (rwA (wM ad tI tL tII tLL thr sts wgt rwd up dn cel rig sum gp bst few))) ([.ref (ad 0), .long p1, .long p2] : List Value).toArray s 0 0 (rwA (wM ad tI tL tII tLL thr sts wgt rwd up dn cel rig sum gp bst few))) (F0 m 12 ls [.long j1]) by
    have hR := hJ.symm
    refine lv_if_ge (tgt := 11) hx hb dX7_answer_3 (by decide) (fun c3 => ?_) (fun c3 => ?_)
    · replace hR := it_p c3 hR
      refine lv_lload_n hx hb dX7_answer_11 rfl (lv_at hl 1 rfl) ?_
      cases hR
      exact hk2 H locs hP hD hS ls (lv_sub hl [0, 1, 2] rfl)
    · replace hR := it_n c3 hR
      refine lv_lload_n hx hb dX7_answer_6 rfl (lv_at hl 1 rfl) ?_
      refine lv_lneg hx hb dX7_answer_7 ?_
      refine lv_goto (tgt := 12) hx hb dX7_answer_8 (by decide) ?_
      cases hR
      exact hk2 H locs hP hD hS ls (lv_sub hl [0, 1, 2] rfl)
  intro H locs hP hD hS ls hl
  refine lv_lstore (lv' := [(5, .long j1), (0, .ref (ad 0)), (1, .long p1), (3, .long p2)]) hx hb dX7_answer_12 hl (by decide) rfl (fun ls hl => ?_)
  refine lv_lload_n hx hb dX7_answer_14 rfl (lv_at hl 3 rfl) ?_
  refine lv_lconst (v := 0) hx hb dX7_answer_15 (by decide) ?_
  refine W.lcmp hx hb dX7_answer_16 ?_
  obtain ⟨j4, hJ, hR⟩ := ob hR
  try dsimp only at hR
  suffices hk5 : ∀ (H : Heap) (locs : List Loc), va_P (dC, dI) vwCl (wM ad tI tL tII tLL thr sts wgt rwd up dn cel rig sum gp bst few) H → va_D (rwA (wM ad tI tL tII tLL thr sts wgt rwd up dn cel rig sum gp bst few)) (wM ad tI tL tII tLL thr sts wgt rwd up dn cel rig sum gp bst few) → va_S (rwA (wM ad tI tL tII tLL thr sts wgt rwd up dn cel rig sum gp bst few)) s.heap H locs → ∀ ls : Array Slot, lv_has ls 11 [(5, .long j1), (0, .ref (ad 0)), (1, .long p1), (3, .long p2)] → W p l e (headSpec W_M_answer RM_f_M_answer).room s m ([.ref (ad 0), .long p1, .long p2] : List Value).toArray below meth c H locs 0 0 (MQ below (rwQ (dC, dI) vwCl (wM ad tI tL tII tLL thr sts wgt rwd R_up R_dn cel rig sum gp bst few) (some (.int R0)) (rwA (wM ad tI tL tII tLL thr sts wgt rwd up dn cel rig sum gp bst few))) ([.ref (ad 0), .long p1, .long p2] : List Value).toArray s 0 0 (rwA (wM ad tI tL tII tLL thr sts wgt rwd up dn cel rig sum gp bst few))) (F0 m 26 ls [.long j4]) by
    have hR := hJ.symm
    refine lv_if_ge (tgt := 25) hx hb dX7_answer_17 (by decide) (fun c6 => ?_) (fun c6 => ?_)
    · replace hR := it_p c6 hR
      refine lv_lload_n hx hb dX7_answer_25 rfl (lv_at hl 3 rfl) ?_
      cases hR
      exact hk5 H locs hP hD hS ls (lv_sub hl [0, 1, 2, 3] rfl)
    · replace hR := it_n c6 hR
      refine lv_lload_n hx hb dX7_answer_20 rfl (lv_at hl 3 rfl) ?_
      refine lv_lneg hx hb dX7_answer_21 ?_
      refine lv_goto (tgt := 26) hx hb dX7_answer_22 (by decide) ?_
      cases hR
      exact hk5 H locs hP hD hS ls (lv_sub hl [0, 1, 2, 3] rfl)
  intro H locs hP hD hS ls hl
  refine lv_lstore (lv' := [(7, .long j4), (5, .long j1), (0, .ref (ad 0)), (1, .long p1), (3, .long p2)]) hx hb dX7_answer_26 hl (by decide) rfl (fun ls hl => ?_)
  have L28_11 : ∀ (n : Nat) (x5_7 : Int64) (x7_8 : Int64), ∀ (o_x5_7 : Int64) (o_x7_8 : Int64), some (o_x5_7, o_x7_8) = f_M_answer_L28 n x5_7 x7_8 → (∀ (H : Heap) (locs : List Loc), va_P (dC, dI) vwCl (wM ad tI tL tII tLL thr sts wgt rwd up dn cel rig sum gp bst few) H → va_D (rwA (wM ad tI tL tII tLL thr sts wgt rwd up dn cel rig sum gp bst few)) (wM ad tI tL tII tLL thr sts wgt rwd up dn cel rig sum gp bst few) → va_S (rwA (wM ad tI tL tII tLL thr sts wgt rwd up dn cel rig sum gp bst few)) s.heap H locs → ∀ ls : Array Slot, lv_has ls 11 [(0, .ref (ad 0)), (1, .long p1), (3, .long p2), (5, .long o_x5_7), (7, .long o_x7_8)] → W p l e (headSpec W_M_answer RM_f_M_answer).room s m ([.ref (ad 0), .long p1, .long p2] : List Value).toArray below meth c H locs 0 0 (MQ below (rwQ (dC, dI) vwCl (wM ad tI tL tII tLL thr sts wgt rwd R_up R_dn cel rig sum gp bst few) (some (.int R0)) (rwA (wM ad tI tL tII tLL thr sts wgt rwd up dn cel rig sum gp bst few))) ([.ref (ad 0), .long p1, .long p2] : List Value).toArray s 0 0 (rwA (wM ad tI tL tII tLL thr sts wgt rwd up dn cel rig sum gp bst few))) (F0 m 53 ls [])) → ∀ (H : Heap) (locs : List Loc), va_P (dC, dI) vwCl (wM ad tI tL tII tLL thr sts wgt rwd up dn cel rig sum gp bst few) H → va_D (rwA (wM ad tI tL tII tLL thr sts wgt rwd up dn cel rig sum gp bst few)) (wM ad tI tL tII tLL thr sts wgt rwd up dn cel rig sum gp bst few) → va_S (rwA (wM ad tI tL tII tLL thr sts wgt rwd up dn cel rig sum gp bst few)) s.heap H locs → ∀ ls : Array Slot, lv_has ls 11 [(0, .ref (ad 0)), (1, .long p1), (3, .long p2), (5, .long x5_7), (7, .long x7_8)] → W p l e (headSpec W_M_answer RM_f_M_answer).room s m ([.ref (ad 0), .long p1, .long p2] : List Value).toArray below meth c H locs 0 0 (MQ below (rwQ (dC, dI) vwCl (wM ad tI tL tII tLL thr sts wgt rwd R_up R_dn cel rig sum gp bst few) (some (.int R0)) (rwA (wM ad tI tL tII tLL thr sts wgt rwd up dn cel rig sum gp bst few))) ([.ref (ad 0), .long p1, .long p2] : List Value).toArray s 0 0 (rwA (wM ad tI tL tII tLL thr sts wgt rwd up dn cel rig sum gp bst few))) (F0 m 28 ls []) := by
    intro n
    induction n with
    | zero =>
      intro x5_7 x7_8 o_x5_7 o_x7_8 hR
      cases (show some _ = none from hR)
    | succ n ih =>
      intro x5_7 x7_8 o_x5_7 o_x7_8 hR hk H locs hP hD hS ls hl
      rw [f_M_answer_L28_s] at hR
      obtain ⟨y, hR, hQ⟩ := ob hR
      replace hR := hR.symm
      rw [f_M_answer_B28] at hR
      refine lv_lload hx hb dX7_answer_28 (lv_at hl 4 rfl) ?_
      refine lv_lconst (v := 0) hx hb dX7_answer_30 (by decide) ?_
      refine W.lcmp hx hb dX7_answer_31 ?_
      refine lv_if_eq (tgt := 53) hx hb dX7_answer_32 (by decide) (fun c9 => ?_) (fun c9 => ?_)
      · replace hR := it_p c9 hR
        cases hR
        cases (show some _ = some _ from hQ)
        exact hk H locs hP hD hS ls (lv_sub hl [0, 1, 2, 3, 4] rfl)
      · replace hR := it_n c9 hR
        refine lv_lload hx hb dX7_answer_35 (lv_at hl 3 rfl) ?_
        refine lv_lload hx hb dX7_answer_37 (lv_at hl 4 rfl) ?_
        obtain ⟨z10, hR⟩ := og hR
        refine lv_lrem hx hb dX7_answer_39 z10 ?_
        refine lv_lstore (lv' := [(9, .long (x5_7 - x5_7 / x7_8 * x7_8)), (0, .ref (ad 0)), (1, .long p1), (3, .long p2), (5, .long x5_7), (7, .long x7_8)]) hx hb dX7_answer_40 hl (by decide) rfl (fun ls hl => ?_)
        refine lv_lload hx hb dX7_answer_42 (lv_at hl 5 rfl) ?_
        refine lv_lstore (lv' := [(5, .long x7_8), (9, .long (x5_7 - x5_7 / x7_8 * x7_8)), (0, .ref (ad 0)), (1, .long p1), (3, .long p2), (7, .long x7_8)]) hx hb dX7_answer_44 hl (by decide) rfl (fun ls hl => ?_)
        refine lv_lload hx hb dX7_answer_46 (lv_at hl 1 rfl) ?_
        refine lv_lstore (lv' := [(7, .long (x5_7 - x5_7 / x7_8 * x7_8)), (5, .long x7_8), (9, .long (x5_7 - x5_7 / x7_8 * x7_8)), (0, .ref (ad 0)), (1, .long p1), (3, .long p2)]) hx hb dX7_answer_48 hl (by decide) rfl (fun ls hl => ?_)
        refine lv_goto (tgt := 28) hx hb dX7_answer_50 (by decide) ?_
        cases hR
        exact ih x7_8 (x5_7 - x5_7 / x7_8 * x7_8) o_x5_7 o_x7_8 hQ hk H locs hP hD hS ls (lv_sub hl [3, 4, 5, 1, 0] rfl)
  obtain ⟨⟨u12, u13⟩, hL, hR⟩ := ob hR
  try dsimp only at hR
  refine L28_11 300 j1 j4 u12 u13 hL.symm (fun H locs hP hD hS ls hl => ?_) H locs hP hD hS ls (lv_sub hl [2, 3, 4, 1, 0] rfl)
  refine lv_aload_n hx hb dX7_answer_53 rfl (lv_at hl 0 rfl) ?_
  refine lv_lload_n hx hb dX7_answer_54 rfl (lv_at hl 2 rfl) ?_
  refine lv_lconst (v := 0) hx hb dX7_answer_55 (by decide) ?_
  refine W.lcmp hx hb dX7_answer_56 ?_
  obtain ⟨j14, hJ, hR⟩ := ob hR
  try dsimp only at hR
  suffices hk15 : ∀ (H : Heap) (locs : List Loc), va_P (dC, dI) vwCl (wM ad tI tL tII tLL thr sts wgt rwd up dn cel rig sum gp bst few) H → va_D (rwA (wM ad tI tL tII tLL thr sts wgt rwd up dn cel rig sum gp bst few)) (wM ad tI tL tII tLL thr sts wgt rwd up dn cel rig sum gp bst few) → va_S (rwA (wM ad tI tL tII tLL thr sts wgt rwd up dn cel rig sum gp bst few)) s.heap H locs → ∀ ls : Array Slot, lv_has ls 11 [(0, .ref (ad 0)), (3, .long p2), (5, .long u12)] → W p l e (headSpec W_M_answer RM_f_M_answer).room s m ([.ref (ad 0), .long p1, .long p2] : List Value).toArray below meth c H locs 0 0 (MQ below (rwQ (dC, dI) vwCl (wM ad tI tL tII tLL thr sts wgt rwd R_up R_dn cel rig sum gp bst few) (some (.int R0)) (rwA (wM ad tI tL tII tLL thr sts wgt rwd up dn cel rig sum gp bst few))) ([.ref (ad 0), .long p1, .long p2] : List Value).toArray s 0 0 (rwA (wM ad tI tL tII tLL thr sts wgt rwd up dn cel rig sum gp bst few))) (F0 m 72 ls [.long j14, .ref (ad 0)]) by
    have hR := hJ.symm
    refine lv_if_ge (tgt := 68) hx hb dX7_answer_57 (by decide) (fun c16 => ?_) (fun c16 => ?_)
    · replace hR := it_p c16 hR
      refine lv_lload_n hx hb dX7_answer_68 rfl (lv_at hl 1 rfl) ?_
      refine lv_lload hx hb dX7_answer_69 (lv_at hl 3 rfl) ?_
      obtain ⟨z17, hR⟩ := og hR
      refine lv_ldiv hx hb dX7_answer_71 z17 ?_
      cases hR
      exact hk15 H locs hP hD hS ls (lv_sub hl [0, 2, 3] rfl)
    · replace hR := it_n c16 hR
      refine lv_lload_n hx hb dX7_answer_60 rfl (lv_at hl 1 rfl) ?_
      refine lv_lneg hx hb dX7_answer_61 ?_
      refine lv_lload hx hb dX7_answer_62 (lv_at hl 3 rfl) ?_
      obtain ⟨z18, hR⟩ := og hR
      refine lv_ldiv hx hb dX7_answer_64 z18 ?_
      refine lv_goto (tgt := 72) hx hb dX7_answer_65 (by decide) ?_
      cases hR
      exact hk15 H locs hP hD hS ls (lv_sub hl [0, 2, 3] rfl)
  intro H locs hP hD hS ls hl
  refine va_put (D := (dC, dI)) (ci := 7) (v := .long j14) (ty := .long) (C := RX7) (T := TX7) (N := 12) hx hb ht hinX7 tyX7 tyX7_ok nmX7 hown hK hP hD hS 0 rfl rfl 4 (by decide) (ht _ k_218) (fun _ h9 => h9) rfl (by decide +kernel) rfl rfl (Nat.le_of_ble_eq_true rfl) dX7_answer_72 (fun H locs hP hD hS => ?_)
  have hP : va_P (dC, dI) vwCl (wM ad tI tL tII tLL thr sts wgt rwd j14 dn cel rig sum gp bst few) H := hP
  have hD : va_D (rwA (wM ad tI tL tII tLL thr sts wgt rwd up dn cel rig sum gp bst few)) (wM ad tI tL tII tLL thr sts wgt rwd j14 dn cel rig sum gp bst few) := hD
  refine lv_aload_n hx hb dX7_answer_75 rfl (lv_at hl 0 rfl) ?_
  refine lv_lload_n hx hb dX7_answer_76 rfl (lv_at hl 1 rfl) ?_
  refine lv_lconst (v := 0) hx hb dX7_answer_77 (by decide) ?_
  refine W.lcmp hx hb dX7_answer_78 ?_
  refine lv_if_ge (tgt := 90) hx hb dX7_answer_79 (by decide) (fun c19 => ?_) (fun c19 => ?_)
  · replace hR := it_p c19 hR
    refine lv_lload_n hx hb dX7_answer_90 rfl (lv_at hl 1 rfl) ?_
    refine lv_lload hx hb dX7_answer_91 (lv_at hl 2 rfl) ?_
    obtain ⟨z20, hR⟩ := og hR
    refine lv_ldiv hx hb dX7_answer_93 z20 ?_
    refine va_put (D := (dC, dI)) (ci := 7) (v := .long (p2 / u12)) (ty := .long) (C := RX7) (T := TX7) (N := 12) hx hb ht hinX7 tyX7 tyX7_ok nmX7 hown hK hP hD hS 0 rfl rfl 5 (by decide) (ht _ k_219) (fun _ h9 => h9) rfl (by decide +kernel) rfl rfl (Nat.le_of_ble_eq_true rfl) dX7_answer_94 (fun H locs hP hD hS => ?_)
    have hP : va_P (dC, dI) vwCl (wM ad tI tL tII tLL thr sts wgt rwd j14 (p2 / u12) cel rig sum gp bst few) H := hP
    have hD : va_D (rwA (wM ad tI tL tII tLL thr sts wgt rwd up dn cel rig sum gp bst few)) (wM ad tI tL tII tLL thr sts wgt rwd j14 (p2 / u12) cel rig sum gp bst few) := hD
    refine lv_iconst (v := 1) hx hb dX7_answer_97 (by decide) ?_
    cases hR
    exact W.iret hx hb hr (fun t ht _ => ⟨rfl, by rw [ht]; exact hP, hS.F ht⟩) hS.2.2 dX7_answer_98
  · replace hR := it_n c19 hR
    refine lv_lload_n hx hb dX7_answer_82 rfl (lv_at hl 1 rfl) ?_
    refine lv_lneg hx hb dX7_answer_83 ?_
    refine lv_lload hx hb dX7_answer_84 (lv_at hl 2 rfl) ?_
    obtain ⟨z21, hR⟩ := og hR
    refine lv_ldiv hx hb dX7_answer_86 z21 ?_
    refine lv_goto (tgt := 94) hx hb dX7_answer_87 (by decide) ?_
    refine va_put (D := (dC, dI)) (ci := 7) (v := .long ((-p2) / u12)) (ty := .long) (C := RX7) (T := TX7) (N := 12) hx hb ht hinX7 tyX7 tyX7_ok nmX7 hown hK hP hD hS 0 rfl rfl 5 (by decide) (ht _ k_219) (fun _ h9 => h9) rfl (by decide +kernel) rfl rfl (Nat.le_of_ble_eq_true rfl) dX7_answer_94 (fun H locs hP hD hS => ?_)
    have hP : va_P (dC, dI) vwCl (wM ad tI tL tII tLL thr sts wgt rwd j14 ((-p2) / u12) cel rig sum gp bst few) H := hP
    have hD : va_D (rwA (wM ad tI tL tII tLL thr sts wgt rwd up dn cel rig sum gp bst few)) (wM ad tI tL tII tLL thr sts wgt rwd j14 ((-p2) / u12) cel rig sum gp bst few) := hD
    refine lv_iconst (v := 1) hx hb dX7_answer_97 (by decide) ?_
    cases hR
    exact W.iret hx hb hr (fun t ht _ => ⟨rfl, by rw [ht]; exact hP, hS.F ht⟩) hS.2.2 dX7_answer_98
abbrev RM_f_M_clear : Room := { frames := 0, cells := 0, slots := 0, locals := 0 }
abbrev W_M_clear : List Cond := .code yX7_clear cX7_clear 2 none :: tblG
set_option maxHeartbeats 4000000 in
set_option maxRecDepth 100000 in
theorem c_M_clear (l : Launch) (dC : Nat → ClassId) (dI : Nat → Nat → Nat) (ad : Nat → Nat) (tI tL tII tLL : ClassId) (thr : Int32) (sts : Int32) (wgt : Nat → Int32) (rwd : Nat → Int32) (up : Int64) (dn : Int64) (cel : Nat → Int64) (rig : Nat → Int64) (sum : Nat → Int64) (gp : Nat → Int32) (bst : Nat → Int32) (few : Int32)  (R_thr : Int32) (R_sts : Int32) (R_wgt : Nat → Int32) (R_rwd : Nat → Int32) (R_up : Int64) (R_dn : Int64) (hR : some (R_thr, R_sts, R_wgt, R_rwd, R_up, R_dn) = f_M_clear wgt rwd) : Met l yX7_clear W_M_clear RM_f_M_clear (rwP (dC, dI) vwCl [(tI, .int), (tL, .long), (tII, .array .int), (tLL, .array .long)] (wM ad tI tL tII tLL thr sts wgt rwd up dn cel rig sum gp bst few) ([.ref (ad 0)] : List Value)) (rwQ (dC, dI) vwCl (wM ad tI tL tII tLL R_thr R_sts R_wgt R_rwd R_up R_dn cel rig sum gp bst few) none (rwA (wM ad tI tL tII tLL thr sts wgt rwd up dn cel rig sum gp bst few))) 0 0 (rwA (wM ad tI tL tII tLL thr sts wgt rwd up dn cel rig sum gp bst few)) := by
  refine Met.ofW (cc := cX7_clear) (maxL := 2) (ret := none) (by decide) rfl ?_
  intro p e s m args below meth c s₁ B hml hv
  obtain ⟨rfl, hP, hK, hN, hD⟩ := hv
  have hx := B.exec
  have hb := B.bytes
  have hr := B.returns
  have hts := atoms_spec (ws := W_M_clear) B.pre
  have ht := fun (w : Cond) (h : w ∈ tblG) => hts w (List.mem_cons_of_mem _ h)
  have hown : s.vm.findClass RX7 = some m.cls := findClass_of_methodNamed B.named
  have hlocks := B.notSynchronized
  have hl := lv_entry ([.ref (ad 0)] : List Value) (n := 2) (Nat.le_of_ble_eq_true rfl)
  rw [lg_entry_eq]
  generalize (lg_sl ([.ref (ad 0)] : List Value) ++ List.replicate (2 - (lg_sl ([.ref (ad 0)] : List Value)).length) Slot.unset).toArray = ls at hl ⊢
  have hl : lv_has ls 2 [(0, .ref (ad 0))] := hl
  have hD := hD.own
  have hS : va_S (rwA (wM ad tI tL tII tLL thr sts wgt rwd up dn cel rig sum gp bst few)) s.heap s.heap [] := va_S.rf
  suffices K : ∀ (H : Heap) (locs : List Loc), va_P (dC, dI) vwCl (wM ad tI tL tII tLL thr sts wgt rwd up dn cel rig sum gp bst few) H → va_D (rwA (wM ad tI tL tII tLL thr sts wgt rwd up dn cel rig sum gp bst few)) (wM ad tI tL tII tLL thr sts wgt rwd up dn cel rig sum gp bst few) → va_S (rwA (wM ad tI tL tII tLL thr sts wgt rwd up dn cel rig sum gp bst few)) s.heap H locs → W p l e (headSpec W_M_clear RM_f_M_clear).room s m ([.ref (ad 0)] : List Value).toArray below meth c H locs 0 0 (MQ below (rwQ (dC, dI) vwCl (wM ad tI tL tII tLL R_thr R_sts R_wgt R_rwd R_up R_dn cel rig sum gp bst few) none (rwA (wM ad tI tL tII tLL thr sts wgt rwd up dn cel rig sum gp bst few))) ([.ref (ad 0)] : List Value).toArray s 0 0 (rwA (wM ad tI tL tII tLL thr sts wgt rwd up dn cel rig sum gp bst few))) (F0 m 0 ls []) from K s.heap [] hP hD hS
  clear hP hD hS
  intro H locs hP hD hS
  rw [f_M_clear] at hR
  refine lv_aload_n hx hb dX7_clear_0 rfl (lv_at hl 0 rfl) ?_
  refine lv_iconst (v := 0) hx hb dX7_clear_1 (by decide) ?_
  refine va_put (D := (dC, dI)) (ci := 7) (v := .int (0 : Int32)) (ty := .int) (C := RX7) (T := TX7) (N := 12) hx hb ht hinX7 tyX7 tyX7_ok nmX7 hown hK hP hD hS 0 rfl rfl 0 (by decide) (ht _ k_220) (fun _ h9 => h9) rfl (by decide +kernel) rfl rfl (Nat.le_of_ble_eq_true rfl) dX7_clear_2 (fun H locs hP hD hS => ?_)
  have hP : va_P (dC, dI) vwCl (wM ad tI tL tII tLL (0 : Int32) sts wgt rwd up dn cel rig sum gp bst few) H := hP
  have hD : va_D (rwA (wM ad tI tL tII tLL thr sts wgt rwd up dn cel rig sum gp bst few)) (wM ad tI tL tII tLL (0 : Int32) sts wgt rwd up dn cel rig sum gp bst few) := hD
  refine lv_aload_n hx hb dX7_clear_5 rfl (lv_at hl 0 rfl) ?_
  refine lv_iconst (v := 0) hx hb dX7_clear_6 (by decide) ?_
  refine va_put (D := (dC, dI)) (ci := 7) (v := .int (0 : Int32)) (ty := .int) (C := RX7) (T := TX7) (N := 12) hx hb ht hinX7 tyX7 tyX7_ok nmX7 hown hK hP hD hS 0 rfl rfl 1 (by decide) (ht _ k_205) (fun _ h9 => h9) rfl (by decide +kernel) rfl rfl (Nat.le_of_ble_eq_true rfl) dX7_clear_7 (fun H locs hP hD hS => ?_)
  have hP : va_P (dC, dI) vwCl (wM ad tI tL tII tLL (0 : Int32) (0 : Int32) wgt rwd up dn cel rig sum gp bst few) H := hP
  have hD : va_D (rwA (wM ad tI tL tII tLL thr sts wgt rwd up dn cel rig sum gp bst few)) (wM ad tI tL tII tLL (0 : Int32) (0 : Int32) wgt rwd up dn cel rig sum gp bst few) := hD
  refine lv_aload_n hx hb dX7_clear_10 rfl (lv_at hl 0 rfl) ?_
  refine lv_lconst (v := 0) hx hb dX7_clear_11 (by decide) ?_
  refine va_put (D := (dC, dI)) (ci := 7) (v := .long (0 : Int64)) (ty := .long) (C := RX7) (T := TX7) (N := 12) hx hb ht hinX7 tyX7 tyX7_ok nmX7 hown hK hP hD hS 0 rfl rfl 4 (by decide) (ht _ k_218) (fun _ h9 => h9) rfl (by decide +kernel) rfl rfl (Nat.le_of_ble_eq_true rfl) dX7_clear_12 (fun H locs hP hD hS => ?_)
  have hP : va_P (dC, dI) vwCl (wM ad tI tL tII tLL (0 : Int32) (0 : Int32) wgt rwd (0 : Int64) dn cel rig sum gp bst few) H := hP
  have hD : va_D (rwA (wM ad tI tL tII tLL thr sts wgt rwd up dn cel rig sum gp bst few)) (wM ad tI tL tII tLL (0 : Int32) (0 : Int32) wgt rwd (0 : Int64) dn cel rig sum gp bst few) := hD
  refine lv_aload_n hx hb dX7_clear_15 rfl (lv_at hl 0 rfl) ?_
  refine lv_lconst (v := 1) hx hb dX7_clear_16 (by decide) ?_
  refine va_put (D := (dC, dI)) (ci := 7) (v := .long (1 : Int64)) (ty := .long) (C := RX7) (T := TX7) (N := 12) hx hb ht hinX7 tyX7 tyX7_ok nmX7 hown hK hP hD hS 0 rfl rfl 5 (by decide) (ht _ k_219) (fun _ h9 => h9) rfl (by decide +kernel) rfl rfl (Nat.le_of_ble_eq_true rfl) dX7_clear_17 (fun H locs hP hD hS => ?_)
  have hP : va_P (dC, dI) vwCl (wM ad tI tL tII tLL (0 : Int32) (0 : Int32) wgt rwd (0 : Int64) (1 : Int64) cel rig sum gp bst few) H := hP
  have hD : va_D (rwA (wM ad tI tL tII tLL thr sts wgt rwd up dn cel rig sum gp bst few)) (wM ad tI tL tII tLL (0 : Int32) (0 : Int32) wgt rwd (0 : Int64) (1 : Int64) cel rig sum gp bst few) := hD
  refine lv_iconst (v := 0) hx hb dX7_clear_20 (by decide) ?_
  refine lv_istore_n (lv' := [(1, .int (0 : Int32)), (0, .ref (ad 0))]) hx hb dX7_clear_21 rfl hl (by decide) rfl (fun ls hl => ?_)
  have L22_9 : ∀ (thr_2 : Int32) (sts_3 : Int32) (up_5 : Int64) (dn_6 : Int64), ∀ (n : Nat) (x1_1 : Int32) (wgt_4 : Nat → Int32), ∀ (o_x1_1 : Int32) (o_wgt_4 : Nat → Int32), some (o_x1_1, o_wgt_4) = f_M_clear_L22 n x1_1 wgt_4 → (∀ (H : Heap) (locs : List Loc), va_P (dC, dI) vwCl (wM ad tI tL tII tLL thr_2 sts_3 o_wgt_4 rwd up_5 dn_6 cel rig sum gp bst few) H → va_D (rwA (wM ad tI tL tII tLL thr sts wgt rwd up dn cel rig sum gp bst few)) (wM ad tI tL tII tLL thr_2 sts_3 o_wgt_4 rwd up_5 dn_6 cel rig sum gp bst few) → va_S (rwA (wM ad tI tL tII tLL thr sts wgt rwd up dn cel rig sum gp bst few)) s.heap H locs → ∀ ls : Array Slot, lv_has ls 2 [(0, .ref (ad 0)), (1, .int o_x1_1)] → W p l e (headSpec W_M_clear RM_f_M_clear).room s m ([.ref (ad 0)] : List Value).toArray below meth c H locs 0 0 (MQ below (rwQ (dC, dI) vwCl (wM ad tI tL tII tLL R_thr R_sts R_wgt R_rwd R_up R_dn cel rig sum gp bst few) none (rwA (wM ad tI tL tII tLL thr sts wgt rwd up dn cel rig sum gp bst few))) ([.ref (ad 0)] : List Value).toArray s 0 0 (rwA (wM ad tI tL tII tLL thr sts wgt rwd up dn cel rig sum gp bst few))) (F0 m 41 ls [])) → ∀ (H : Heap) (locs : List Loc), va_P (dC, dI) vwCl (wM ad tI tL tII tLL thr_2 sts_3 wgt_4 rwd up_5 dn_6 cel rig sum gp bst few) H → va_D (rwA (wM ad tI tL tII tLL thr sts wgt rwd up dn cel rig sum gp bst few)) (wM ad tI tL tII tLL thr_2 sts_3 wgt_4 rwd up_5 dn_6 cel rig sum gp bst few) → va_S (rwA (wM ad tI tL tII tLL thr sts wgt rwd up dn cel rig sum gp bst few)) s.heap H locs → ∀ ls : Array Slot, lv_has ls 2 [(0, .ref (ad 0)), (1, .int x1_1)] → W p l e (headSpec W_M_clear RM_f_M_clear).room s m ([.ref (ad 0)] : List Value).toArray below meth c H locs 0 0 (MQ below (rwQ (dC, dI) vwCl (wM ad tI tL tII tLL R_thr R_sts R_wgt R_rwd R_up R_dn cel rig sum gp bst few) none (rwA (wM ad tI tL tII tLL thr sts wgt rwd up dn cel rig sum gp bst few))) ([.ref (ad 0)] : List Value).toArray s 0 0 (rwA (wM ad tI tL tII tLL thr sts wgt rwd up dn cel rig sum gp bst few))) (F0 m 22 ls []) := by
    intro thr_2 sts_3 up_5 dn_6
    intro n
    induction n with
    | zero =>
      intro x1_1 wgt_4 o_x1_1 o_wgt_4 hR
      cases (show some _ = none from hR)
    | succ n ih =>
      intro x1_1 wgt_4 o_x1_1 o_wgt_4 hR hk H locs hP hD hS ls hl
      rw [f_M_clear_L22_s] at hR
      obtain ⟨y, hR, hQ⟩ := ob hR
      replace hR := hR.symm
      rw [f_M_clear_B22] at hR
      refine lv_iload_n hx hb dX7_clear_22 rfl (lv_at hl 1 rfl) ?_
      refine lv_bipush (v := 49) hx hb dX7_clear_23 (by decide) ?_
      refine lv_icmp_ge (tgt := 41) hx hb dX7_clear_25 (by decide) (fun c7 => ?_) (fun c7 => ?_)
      · replace hR := it_p c7 hR
        cases hR
        cases (show some _ = some _ from hQ)
        exact hk H locs hP hD hS ls (lv_sub hl [0, 1] rfl)
      · replace hR := it_n c7 hR
        refine lv_aload_n hx hb dX7_clear_28 rfl (lv_at hl 0 rfl) ?_
        refine va_get (D := (dC, dI)) (ci := 7) (v := .ref (ad 1)) (C := RX7) (T := TX7) (N := 12) hx hb ht hinX7 hown hK hP 0 rfl rfl 2 (by decide) (ht _ k_209) (fun _ h9 => h9) rfl dX7_clear_29 ?_
        refine lv_iload_n hx hb dX7_clear_32 rfl (lv_at hl 1 rfl) ?_
        refine lv_iconst (v := 0) hx hb dX7_clear_33 (by decide) ?_
        obtain ⟨z8, hR⟩ := og hR
        refine va_iast hx hb hK hP hD hS 1 0 rfl rfl (ix_in z8) dX7_clear_34 (fun H locs hP hD hS => ?_)
        have hP : va_P (dC, dI) vwCl (wM ad tI tL tII tLL thr_2 sts_3 (upd wgt_4 x1_1.toNatClampNeg (0 : Int32)) rwd up_5 dn_6 cel rig sum gp bst few) H := hP
        have hD : va_D (rwA (wM ad tI tL tII tLL thr sts wgt rwd up dn cel rig sum gp bst few)) (wM ad tI tL tII tLL thr_2 sts_3 (upd wgt_4 x1_1.toNatClampNeg (0 : Int32)) rwd up_5 dn_6 cel rig sum gp bst few) := hD
        refine lv_iinc (v := (x1_1 + 1)) (lv' := [(1, .int (x1_1 + 1)), (0, .ref (ad 0))]) hx hb dX7_clear_35 hl (k := 1) rfl rfl (by decide) rfl (fun ls hl => ?_)
        refine lv_goto (tgt := 22) hx hb dX7_clear_38 (by decide) ?_
        cases hR
        exact ih (x1_1 + 1) (upd wgt_4 x1_1.toNatClampNeg (0 : Int32)) o_x1_1 o_wgt_4 hQ hk H locs hP hD hS ls (lv_sub hl [1, 0] rfl)
  obtain ⟨⟨u10, u11⟩, hL, hR⟩ := ob hR
  try dsimp only at hR
  refine L22_9 (0 : Int32) (0 : Int32) (0 : Int64) (1 : Int64) 300 (0 : Int32) wgt u10 u11 hL.symm (fun H locs hP hD hS ls hl => ?_) H locs hP hD hS ls (lv_sub hl [1, 0] rfl)
  refine lv_iconst (v := 0) hx hb dX7_clear_41 (by decide) ?_
  refine lv_istore_n (lv' := [(1, .int (0 : Int32)), (0, .ref (ad 0))]) hx hb dX7_clear_42 rfl hl (by decide) rfl (fun ls hl => ?_)
  have L43_20 : ∀ (thr_13 : Int32) (sts_14 : Int32) (up_16 : Int64) (dn_17 : Int64), ∀ (n : Nat) (x1_12 : Int32) (rwd_15 : Nat → Int32), ∀ (o_x1_12 : Int32) (o_rwd_15 : Nat → Int32), some (o_x1_12, o_rwd_15) = f_M_clear_L43 n x1_12 rwd_15 → (∀ (H : Heap) (locs : List Loc), va_P (dC, dI) vwCl (wM ad tI tL tII tLL thr_13 sts_14 u11 o_rwd_15 up_16 dn_17 cel rig sum gp bst few) H → va_D (rwA (wM ad tI tL tII tLL thr sts wgt rwd up dn cel rig sum gp bst few)) (wM ad tI tL tII tLL thr_13 sts_14 u11 o_rwd_15 up_16 dn_17 cel rig sum gp bst few) → va_S (rwA (wM ad tI tL tII tLL thr sts wgt rwd up dn cel rig sum gp bst few)) s.heap H locs → ∀ ls : Array Slot, lv_has ls 2 [(0, .ref (ad 0)), (1, .int o_x1_12)] → W p l e (headSpec W_M_clear RM_f_M_clear).room s m ([.ref (ad 0)] : List Value).toArray below meth c H locs 0 0 (MQ below (rwQ (dC, dI) vwCl (wM ad tI tL tII tLL R_thr R_sts R_wgt R_rwd R_up R_dn cel rig sum gp bst few) none (rwA (wM ad tI tL tII tLL thr sts wgt rwd up dn cel rig sum gp bst few))) ([.ref (ad 0)] : List Value).toArray s 0 0 (rwA (wM ad tI tL tII tLL thr sts wgt rwd up dn cel rig sum gp bst few))) (F0 m 62 ls [])) → ∀ (H : Heap) (locs : List Loc), va_P (dC, dI) vwCl (wM ad tI tL tII tLL thr_13 sts_14 u11 rwd_15 up_16 dn_17 cel rig sum gp bst few) H → va_D (rwA (wM ad tI tL tII tLL thr sts wgt rwd up dn cel rig sum gp bst few)) (wM ad tI tL tII tLL thr_13 sts_14 u11 rwd_15 up_16 dn_17 cel rig sum gp bst few) → va_S (rwA (wM ad tI tL tII tLL thr sts wgt rwd up dn cel rig sum gp bst few)) s.heap H locs → ∀ ls : Array Slot, lv_has ls 2 [(0, .ref (ad 0)), (1, .int x1_12)] → W p l e (headSpec W_M_clear RM_f_M_clear).room s m ([.ref (ad 0)] : List Value).toArray below meth c H locs 0 0 (MQ below (rwQ (dC, dI) vwCl (wM ad tI tL tII tLL R_thr R_sts R_wgt R_rwd R_up R_dn cel rig sum gp bst few) none (rwA (wM ad tI tL tII tLL thr sts wgt rwd up dn cel rig sum gp bst few))) ([.ref (ad 0)] : List Value).toArray s 0 0 (rwA (wM ad tI tL tII tLL thr sts wgt rwd up dn cel rig sum gp bst few))) (F0 m 43 ls []) := by
    intro thr_13 sts_14 up_16 dn_17
    intro n
    induction n with
    | zero =>
      intro x1_12 rwd_15 o_x1_12 o_rwd_15 hR
      cases (show some _ = none from hR)
    | succ n ih =>
      intro x1_12 rwd_15 o_x1_12 o_rwd_15 hR hk H locs hP hD hS ls hl
      rw [f_M_clear_L43_s] at hR
      obtain ⟨y, hR, hQ⟩ := ob hR
      replace hR := hR.symm
      rw [f_M_clear_B43] at hR
      refine lv_iload_n hx hb dX7_clear_43 rfl (lv_at hl 1 rfl) ?_
      refine lv_bipush (v := 7) hx hb dX7_clear_44 (by decide) ?_
      refine lv_icmp_ge (tgt := 62) hx hb dX7_clear_46 (by decide) (fun c18 => ?_) (fun c18 => ?_)
      · replace hR := it_p c18 hR
        cases hR
        cases (show some _ = some _ from hQ)
        exact hk H locs hP hD hS ls (lv_sub hl [0, 1] rfl)
      · replace hR := it_n c18 hR
        refine lv_aload_n hx hb dX7_clear_49 rfl (lv_at hl 0 rfl) ?_
        refine va_get (D := (dC, dI)) (ci := 7) (v := .ref (ad 2)) (C := RX7) (T := TX7) (N := 12) hx hb ht hinX7 hown hK hP 0 rfl rfl 3 (by decide) (ht _ k_221) (fun _ h9 => h9) rfl dX7_clear_50 ?_
        refine lv_iload_n hx hb dX7_clear_53 rfl (lv_at hl 1 rfl) ?_
        refine lv_iconst (v := 0) hx hb dX7_clear_54 (by decide) ?_
        obtain ⟨z19, hR⟩ := og hR
        refine va_iast hx hb hK hP hD hS 2 0 rfl rfl (ix_in z19) dX7_clear_55 (fun H locs hP hD hS => ?_)
        have hP : va_P (dC, dI) vwCl (wM ad tI tL tII tLL thr_13 sts_14 u11 (upd rwd_15 x1_12.toNatClampNeg (0 : Int32)) up_16 dn_17 cel rig sum gp bst few) H := hP
        have hD : va_D (rwA (wM ad tI tL tII tLL thr sts wgt rwd up dn cel rig sum gp bst few)) (wM ad tI tL tII tLL thr_13 sts_14 u11 (upd rwd_15 x1_12.toNatClampNeg (0 : Int32)) up_16 dn_17 cel rig sum gp bst few) := hD
        refine lv_iinc (v := (x1_12 + 1)) (lv' := [(1, .int (x1_12 + 1)), (0, .ref (ad 0))]) hx hb dX7_clear_56 hl (k := 1) rfl rfl (by decide) rfl (fun ls hl => ?_)
        refine lv_goto (tgt := 43) hx hb dX7_clear_59 (by decide) ?_
        cases hR
        exact ih (x1_12 + 1) (upd rwd_15 x1_12.toNatClampNeg (0 : Int32)) o_x1_12 o_rwd_15 hQ hk H locs hP hD hS ls (lv_sub hl [1, 0] rfl)
  obtain ⟨⟨u21, u22⟩, hL, hR⟩ := ob hR
  try dsimp only at hR
  refine L43_20 (0 : Int32) (0 : Int32) (0 : Int64) (1 : Int64) 300 (0 : Int32) rwd u21 u22 hL.symm (fun H locs hP hD hS ls hl => ?_) H locs hP hD hS ls (lv_sub hl [1, 0] rfl)
  cases hR
  exact W.vret hx hb hr (fun t ht _ => ⟨rfl, by rw [ht]; exact hP, hS.F ht⟩) hS.2.2 dX7_clear_62
abbrev RM_f_M_state : Room := { frames := 0, cells := 0, slots := 0, locals := 0 }
abbrev W_M_state : List Cond := .code yX7_state cX7_state 1 (some .int) :: tblG
set_option maxHeartbeats 4000000 in
set_option maxRecDepth 100000 in
theorem c_M_state (l : Launch) (dC : Nat → ClassId) (dI : Nat → Nat → Nat) (ad : Nat → Nat) (tI tL tII tLL : ClassId) (thr : Int32) (sts : Int32) (wgt : Nat → Int32) (rwd : Nat → Int32) (up : Int64) (dn : Int64) (cel : Nat → Int64) (rig : Nat → Int64) (sum : Nat → Int64) (gp : Nat → Int32) (bst : Nat → Int32) (few : Int32)  (R0 : Int32) (R_thr : Int32) (R_sts : Int32) (hR : some (R0, R_thr, R_sts) = f_M_state sts) : Met l yX7_state W_M_state RM_f_M_state (rwP (dC, dI) vwCl [(tI, .int), (tL, .long), (tII, .array .int), (tLL, .array .long)] (wM ad tI tL tII tLL thr sts wgt rwd up dn cel rig sum gp bst few) ([.ref (ad 0)] : List Value)) (rwQ (dC, dI) vwCl (wM ad tI tL tII tLL R_thr R_sts wgt rwd up dn cel rig sum gp bst few) (some (.int R0)) (rwA (wM ad tI tL tII tLL thr sts wgt rwd up dn cel rig sum gp bst few))) 0 0 (rwA (wM ad tI tL tII tLL thr sts wgt rwd up dn cel rig sum gp bst few)) := by
  refine Met.ofW (cc := cX7_state) (maxL := 1) (ret := (some .int)) (by decide) rfl ?_
  intro p e s m args below meth c s₁ B hml hv
  obtain ⟨rfl, hP, hK, hN, hD⟩ := hv
  have hx := B.exec
  have hb := B.bytes
  have hr := B.returns
  have hts := atoms_spec (ws := W_M_state) B.pre
  have ht := fun (w : Cond) (h : w ∈ tblG) => hts w (List.mem_cons_of_mem _ h)
  have hown : s.vm.findClass RX7 = some m.cls := findClass_of_methodNamed B.named
  have hlocks := B.notSynchronized
  have hl := lv_entry ([.ref (ad 0)] : List Value) (n := 1) (Nat.le_of_ble_eq_true rfl)
  rw [lg_entry_eq]
  generalize (lg_sl ([.ref (ad 0)] : List Value) ++ List.replicate (1 - (lg_sl ([.ref (ad 0)] : List Value)).length) Slot.unset).toArray = ls at hl ⊢
  have hl : lv_has ls 1 [(0, .ref (ad 0))] := hl
  have hD := hD.own
  have hS : va_S (rwA (wM ad tI tL tII tLL thr sts wgt rwd up dn cel rig sum gp bst few)) s.heap s.heap [] := va_S.rf
  suffices K : ∀ (H : Heap) (locs : List Loc), va_P (dC, dI) vwCl (wM ad tI tL tII tLL thr sts wgt rwd up dn cel rig sum gp bst few) H → va_D (rwA (wM ad tI tL tII tLL thr sts wgt rwd up dn cel rig sum gp bst few)) (wM ad tI tL tII tLL thr sts wgt rwd up dn cel rig sum gp bst few) → va_S (rwA (wM ad tI tL tII tLL thr sts wgt rwd up dn cel rig sum gp bst few)) s.heap H locs → W p l e (headSpec W_M_state RM_f_M_state).room s m ([.ref (ad 0)] : List Value).toArray below meth c H locs 0 0 (MQ below (rwQ (dC, dI) vwCl (wM ad tI tL tII tLL R_thr R_sts wgt rwd up dn cel rig sum gp bst few) (some (.int R0)) (rwA (wM ad tI tL tII tLL thr sts wgt rwd up dn cel rig sum gp bst few))) ([.ref (ad 0)] : List Value).toArray s 0 0 (rwA (wM ad tI tL tII tLL thr sts wgt rwd up dn cel rig sum gp bst few))) (F0 m 0 ls []) from K s.heap [] hP hD hS
  clear hP hD hS
  intro H locs hP hD hS
  rw [f_M_state] at hR
  refine lv_aload_n hx hb dX7_state_0 rfl (lv_at hl 0 rfl) ?_
  refine lv_iconst (v := 0) hx hb dX7_state_1 (by decide) ?_
  refine va_put (D := (dC, dI)) (ci := 7) (v := .int (0 : Int32)) (ty := .int) (C := RX7) (T := TX7) (N := 12) hx hb ht hinX7 tyX7 tyX7_ok nmX7 hown hK hP hD hS 0 rfl rfl 0 (by decide) (ht _ k_220) (fun _ h9 => h9) rfl (by decide +kernel) rfl rfl (Nat.le_of_ble_eq_true rfl) dX7_state_2 (fun H locs hP hD hS => ?_)
  have hP : va_P (dC, dI) vwCl (wM ad tI tL tII tLL (0 : Int32) sts wgt rwd up dn cel rig sum gp bst few) H := hP
  have hD : va_D (rwA (wM ad tI tL tII tLL thr sts wgt rwd up dn cel rig sum gp bst few)) (wM ad tI tL tII tLL (0 : Int32) sts wgt rwd up dn cel rig sum gp bst few) := hD
  refine lv_aload_n hx hb dX7_state_5 rfl (lv_at hl 0 rfl) ?_
  refine va_get (D := (dC, dI)) (ci := 7) (v := .int sts) (C := RX7) (T := TX7) (N := 12) hx hb ht hinX7 hown hK hP 0 rfl rfl 1 (by decide) (ht _ k_205) (fun _ h9 => h9) rfl dX7_state_6 ?_
  refine lv_bipush (v := 7) hx hb dX7_state_9 (by decide) ?_
  refine lv_icmp_ne (tgt := 17) hx hb dX7_state_11 (by decide) (fun c1 => ?_) (fun c1 => ?_)
  · replace hR := it_n c1 hR
    refine lv_aload_n hx hb dX7_state_17 rfl (lv_at hl 0 rfl) ?_
    refine lv_dup hx hb dX7_state_18 rfl ?_
    refine va_get (D := (dC, dI)) (ci := 7) (v := .int sts) (C := RX7) (T := TX7) (N := 12) hx hb ht hinX7 hown hK hP 0 rfl rfl 1 (by decide) (ht _ k_205) (fun _ h9 => h9) rfl dX7_state_19 ?_
    refine lv_iconst (v := 1) hx hb dX7_state_22 (by decide) ?_
    refine lv_iadd hx hb dX7_state_23 ?_
    refine va_put (D := (dC, dI)) (ci := 7) (v := .int (sts + (1 : Int32))) (ty := .int) (C := RX7) (T := TX7) (N := 12) hx hb ht hinX7 tyX7 tyX7_ok nmX7 hown hK hP hD hS 0 rfl rfl 1 (by decide) (ht _ k_205) (fun _ h9 => h9) rfl (by decide +kernel) rfl rfl (Nat.le_of_ble_eq_true rfl) dX7_state_24 (fun H locs hP hD hS => ?_)
    have hP : va_P (dC, dI) vwCl (wM ad tI tL tII tLL (0 : Int32) (sts + (1 : Int32)) wgt rwd up dn cel rig sum gp bst few) H := hP
    have hD : va_D (rwA (wM ad tI tL tII tLL thr sts wgt rwd up dn cel rig sum gp bst few)) (wM ad tI tL tII tLL (0 : Int32) (sts + (1 : Int32)) wgt rwd up dn cel rig sum gp bst few) := hD
    refine lv_aload_n hx hb dX7_state_27 rfl (lv_at hl 0 rfl) ?_
    refine va_get (D := (dC, dI)) (ci := 7) (v := .int (sts + (1 : Int32))) (C := RX7) (T := TX7) (N := 12) hx hb ht hinX7 hown hK hP 0 rfl rfl 1 (by decide) (ht _ k_205) (fun _ h9 => h9) rfl dX7_state_28 ?_
    refine lv_iconst (v := 1) hx hb dX7_state_31 (by decide) ?_
    refine lv_isub hx hb dX7_state_32 ?_
    cases hR
    exact W.iret hx hb hr (fun t ht _ => ⟨rfl, by rw [ht]; exact hP, hS.F ht⟩) hS.2.2 dX7_state_33
  · replace hR := it_p c1 hR
    refine lv_bipush (v := (-4)) hx hb dX7_state_14 (by decide) ?_
    cases hR
    exact W.iret hx hb hr (fun t ht _ => ⟨rfl, by rw [ht]; exact hP, hS.F ht⟩) hS.2.2 dX7_state_16
abbrev RM_f_M_arc : Room := { frames := 2, cells := 0, slots := 0, locals := 45 }
abbrev W_M_arc : List Cond := .code yX7_arc cX7_arc 5 (some .int) :: tblG
set_option maxHeartbeats 4000000 in
set_option maxRecDepth 100000 in
theorem c_M_arc (l : Launch) (dC : Nat → ClassId) (dI : Nat → Nat → Nat) (ad : Nat → Nat) (tI tL tII tLL : ClassId) (thr : Int32) (sts : Int32) (wgt : Nat → Int32) (rwd : Nat → Int32) (up : Int64) (dn : Int64) (cel : Nat → Int64) (rig : Nat → Int64) (sum : Nat → Int64) (gp : Nat → Int32) (bst : Nat → Int32) (few : Int32) (p1 : Int32) (p2 : Int32) (p3 : Int32) (R0 : Int32) (R_thr : Int32) (R_wgt : Nat → Int32) (hR : some (R0, R_thr, R_wgt) = f_M_arc sts wgt p1 p2 p3) : Met l yX7_arc W_M_arc RM_f_M_arc (rwP (dC, dI) vwCl [(tI, .int), (tL, .long), (tII, .array .int), (tLL, .array .long)] (wM ad tI tL tII tLL thr sts wgt rwd up dn cel rig sum gp bst few) ([.ref (ad 0), .int p1, .int p2, .int p3] : List Value)) (rwQ (dC, dI) vwCl (wM ad tI tL tII tLL R_thr sts R_wgt rwd up dn cel rig sum gp bst few) (some (.int R0)) (rwA (wM ad tI tL tII tLL thr sts wgt rwd up dn cel rig sum gp bst few))) 0 0 (rwA (wM ad tI tL tII tLL thr sts wgt rwd up dn cel rig sum gp bst few)) := by
  refine Met.ofW (cc := cX7_arc) (maxL := 5) (ret := (some .int)) (by decide) rfl ?_
  intro p e s m args below meth c s₁ B hml hv
  obtain ⟨rfl, hP, hK, hN, hD⟩ := hv
  have hx := B.exec
  have hb := B.bytes
  have hr := B.returns
  have hts := atoms_spec (ws := W_M_arc) B.pre
  have ht := fun (w : Cond) (h : w ∈ tblG) => hts w (List.mem_cons_of_mem _ h)
  have hown : s.vm.findClass RX7 = some m.cls := findClass_of_methodNamed B.named
  have hlocks := B.notSynchronized
  have hl := lv_entry ([.ref (ad 0), .int p1, .int p2, .int p3] : List Value) (n := 5) (Nat.le_of_ble_eq_true rfl)
  rw [lg_entry_eq]
  generalize (lg_sl ([.ref (ad 0), .int p1, .int p2, .int p3] : List Value) ++ List.replicate (5 - (lg_sl ([.ref (ad 0), .int p1, .int p2, .int p3] : List Value)).length) Slot.unset).toArray = ls at hl ⊢
  have hl : lv_has ls 5 [(0, .ref (ad 0)), (1, .int p1), (2, .int p2), (3, .int p3)] := hl
  have hD := hD.own
  have hS : va_S (rwA (wM ad tI tL tII tLL thr sts wgt rwd up dn cel rig sum gp bst few)) s.heap s.heap [] := va_S.rf
  suffices K : ∀ (H : Heap) (locs : List Loc), va_P (dC, dI) vwCl (wM ad tI tL tII tLL thr sts wgt rwd up dn cel rig sum gp bst few) H → va_D (rwA (wM ad tI tL tII tLL thr sts wgt rwd up dn cel rig sum gp bst few)) (wM ad tI tL tII tLL thr sts wgt rwd up dn cel rig sum gp bst few) → va_S (rwA (wM ad tI tL tII tLL thr sts wgt rwd up dn cel rig sum gp bst few)) s.heap H locs → W p l e (headSpec W_M_arc RM_f_M_arc).room s m ([.ref (ad 0), .int p1, .int p2, .int p3] : List Value).toArray below meth c H locs 0 0 (MQ below (rwQ (dC, dI) vwCl (wM ad tI tL tII tLL R_thr sts R_wgt rwd up dn cel rig sum gp bst few) (some (.int R0)) (rwA (wM ad tI tL tII tLL thr sts wgt rwd up dn cel rig sum gp bst few))) ([.ref (ad 0), .int p1, .int p2, .int p3] : List Value).toArray s 0 0 (rwA (wM ad tI tL tII tLL thr sts wgt rwd up dn cel rig sum gp bst few))) (F0 m 0 ls []) from K s.heap [] hP hD hS
  clear hP hD hS
  intro H locs hP hD hS
  rw [f_M_arc] at hR
  refine lv_aload_n hx hb dX7_arc_0 rfl (lv_at hl 0 rfl) ?_
  refine lv_iconst (v := 0) hx hb dX7_arc_1 (by decide) ?_
  refine va_put (D := (dC, dI)) (ci := 7) (v := .int (0 : Int32)) (ty := .int) (C := RX7) (T := TX7) (N := 12) hx hb ht hinX7 tyX7 tyX7_ok nmX7 hown hK hP hD hS 0 rfl rfl 0 (by decide) (ht _ k_220) (fun _ h9 => h9) rfl (by decide +kernel) rfl rfl (Nat.le_of_ble_eq_true rfl) dX7_arc_2 (fun H locs hP hD hS => ?_)
  have hP : va_P (dC, dI) vwCl (wM ad tI tL tII tLL (0 : Int32) sts wgt rwd up dn cel rig sum gp bst few) H := hP
  have hD : va_D (rwA (wM ad tI tL tII tLL thr sts wgt rwd up dn cel rig sum gp bst few)) (wM ad tI tL tII tLL (0 : Int32) sts wgt rwd up dn cel rig sum gp bst few) := hD
  refine lv_aload_n hx hb dX7_arc_5 rfl (lv_at hl 0 rfl) ?_
  refine lv_iload_n hx hb dX7_arc_6 rfl (lv_at hl 1 rfl) ?_
  obtain ⟨r1, hC, hR⟩ := ob hR
  try dsimp only at hR
  refine ro_calli (va_runV (As := [.int p1]) (rest := []) ⟨hx, hb, hml, hown, ht⟩ (c_M_isState l dC dI ad tI tL tII tLL (0 : Int32) sts wgt rwd up dn cel rig sum gp bst few p1 r1 hC.symm) ⟨callB_of 1 ht (goodG k_222) rfl rfl rfl (ht _ k_202) (ht _ k_223) (by decide +kernel) ⟨Nat.le_of_ble_eq_true rfl, Nat.le_of_ble_eq_true rfl⟩, (ht _ k_225), (ht _ k_224)⟩ (pre_v hK hN hP (q0 := 0) (ci := 7) rfl rfl) rfl rfl hl.1 rfl (lv_room (Nat.le_of_ble_eq_true rfl)) dX7_arc_7 ⟨Nat.zero_le _, Nat.zero_le _⟩) ?_
  refine lv_if_eq (tgt := 21) hx hb dX7_arc_10 (by decide) (fun c2 => ?_) (fun c2 => ?_)
  · replace hR := it_p c2 hR
    refine lv_iconst (v := (-1)) hx hb dX7_arc_21 (by decide) ?_
    cases hR
    exact W.iret hx hb hr (fun t ht _ => ⟨rfl, by rw [ht]; exact hP, hS.F ht⟩) hS.2.2 dX7_arc_22
  · replace hR := it_n c2 hR
    refine lv_aload_n hx hb dX7_arc_13 rfl (lv_at hl 0 rfl) ?_
    refine lv_iload_n hx hb dX7_arc_14 rfl (lv_at hl 2 rfl) ?_
    obtain ⟨r3, hC, hR⟩ := ob hR
    try dsimp only at hR
    refine ro_calli (va_runV (As := [.int p2]) (rest := []) ⟨hx, hb, hml, hown, ht⟩ (c_M_isState l dC dI ad tI tL tII tLL (0 : Int32) sts wgt rwd up dn cel rig sum gp bst few p2 r3 hC.symm) ⟨callB_of 1 ht (goodG k_222) rfl rfl rfl (ht _ k_202) (ht _ k_223) (by decide +kernel) ⟨Nat.le_of_ble_eq_true rfl, Nat.le_of_ble_eq_true rfl⟩, (ht _ k_225), (ht _ k_224)⟩ (pre_v hK hN hP (q0 := 0) (ci := 7) rfl rfl) rfl rfl hl.1 rfl (lv_room (Nat.le_of_ble_eq_true rfl)) dX7_arc_15 ⟨Nat.zero_le _, Nat.zero_le _⟩) ?_
    refine lv_if_ne (tgt := 23) hx hb dX7_arc_18 (by decide) (fun c4 => ?_) (fun c4 => ?_)
    · replace hR := it_n c4 hR
      refine lv_aload_n hx hb dX7_arc_23 rfl (lv_at hl 0 rfl) ?_
      refine lv_iload_n hx hb dX7_arc_24 rfl (lv_at hl 1 rfl) ?_
      refine lv_iload_n hx hb dX7_arc_25 rfl (lv_at hl 2 rfl) ?_
      obtain ⟨r5, hC, hR⟩ := ob hR
      try dsimp only at hR
      refine ro_calli (va_runV (As := [.int p1, .int p2]) (rest := []) ⟨hx, hb, hml, hown, ht⟩ (c_M_w l dC dI ad tI tL tII tLL (0 : Int32) sts wgt rwd up dn cel rig sum gp bst few p1 p2 r5 hC.symm) ⟨callB_of 2 ht (goodG k_210) rfl rfl rfl (ht _ k_202) (ht _ k_211) (by decide +kernel) ⟨Nat.le_of_ble_eq_true rfl, Nat.le_of_ble_eq_true rfl⟩, (ht _ k_213), (ht _ k_212)⟩ (pre_v hK hN hP (q0 := 0) (ci := 7) rfl rfl) rfl rfl hl.1 rfl (lv_room (Nat.le_of_ble_eq_true rfl)) dX7_arc_26 ⟨Nat.zero_le _, Nat.zero_le _⟩) ?_
      refine lv_istore (lv' := [(4, .int r5), (0, .ref (ad 0)), (1, .int p1), (2, .int p2), (3, .int p3)]) hx hb dX7_arc_29 hl (by decide) rfl (fun ls hl => ?_)
      refine lv_iload_n hx hb dX7_arc_31 rfl (lv_at hl 4 rfl) ?_
      refine lv_iconst (v := 0) hx hb dX7_arc_32 (by decide) ?_
      refine lv_bipush (v := 9) hx hb dX7_arc_33 (by decide) ?_
      obtain ⟨r6, hC, hR⟩ := ob hR
      try dsimp only at hR
      refine ro_calli (va_runS (As := [.int p3, .int (0 : Int32), .int (9 : Int32)]) (rest := []) ⟨hx, hb, hml, hown, ht⟩ (c_M_within l dC dI ad tI tL tII tLL  p3 (0 : Int32) (9 : Int32) r6 hC.symm) ⟨callB_of 3 ht (goodG k_206) rfl rfl rfl (ht _ k_202) (ht _ k_207) (by decide +kernel) ⟨Nat.le_of_ble_eq_true rfl, Nat.le_of_ble_eq_true rfl⟩, (ht _ k_208)⟩ (pre_s hK hN (hP.sub (ws' := []) [] rfl)) rfl rfl hl.1 rfl (lv_room (Nat.le_of_ble_eq_true rfl)) dX7_arc_35 ⟨Nat.zero_le _, Nat.zero_le _⟩) ?_
      refine lv_if_eq (tgt := 56) hx hb dX7_arc_38 (by decide) (fun c7 => ?_) (fun c7 => ?_)
      · replace hR := it_p c7 hR
        refine lv_bipush (v := (-2)) hx hb dX7_arc_56 (by decide) ?_
        cases hR
        exact W.iret hx hb hr (fun t ht _ => ⟨rfl, by rw [ht]; exact hP, hS.F ht⟩) hS.2.2 dX7_arc_58
      · replace hR := it_n c7 hR
        refine lv_aload_n hx hb dX7_arc_41 rfl (lv_at hl 1 rfl) ?_
        refine lv_iload_n hx hb dX7_arc_42 rfl (lv_at hl 2 rfl) ?_
        obtain ⟨r8, hC, hR⟩ := ob hR
        try dsimp only at hR
        refine ro_calli (va_runV (As := [.int p1]) (rest := []) ⟨hx, hb, hml, hown, ht⟩ (c_M_total l dC dI ad tI tL tII tLL (0 : Int32) sts wgt rwd up dn cel rig sum gp bst few p1 r8 hC.symm) ⟨callB_of 1 ht (goodG k_214) rfl rfl rfl (ht _ k_202) (ht _ k_215) (by decide +kernel) ⟨Nat.le_of_ble_eq_true rfl, Nat.le_of_ble_eq_true rfl⟩, (ht _ k_217), (ht _ k_216)⟩ (pre_v hK hN hP (q0 := 0) (ci := 7) rfl rfl) rfl rfl hl.1 rfl (lv_room (Nat.le_of_ble_eq_true rfl)) dX7_arc_43 ⟨Nat.zero_le _, Nat.zero_le _⟩) ?_
        refine lv_iload hx hb dX7_arc_46 (lv_at hl 0 rfl) ?_
        refine lv_isub hx hb dX7_arc_48 ?_
        refine lv_iload_n hx hb dX7_arc_49 rfl (lv_at hl 4 rfl) ?_
        refine lv_iadd hx hb dX7_arc_50 ?_
        refine lv_bipush (v := 12) hx hb dX7_arc_51 (by decide) ?_
        refine lv_icmp_le (tgt := 59) hx hb dX7_arc_53 (by decide) (fun c9 => ?_) (fun c9 => ?_)
        · replace hR := it_p c9 hR
          refine lv_aload_n hx hb dX7_arc_59 rfl (lv_at hl 1 rfl) ?_
          refine va_get (D := (dC, dI)) (ci := 7) (v := .ref (ad 1)) (C := RX7) (T := TX7) (N := 12) hx hb ht hinX7 hown hK hP 0 rfl rfl 2 (by decide) (ht _ k_209) (fun _ h9 => h9) rfl dX7_arc_60 ?_
          refine lv_bipush (v := 7) hx hb dX7_arc_63 (by decide) ?_
          refine lv_iload_n hx hb dX7_arc_65 rfl (lv_at hl 2 rfl) ?_
          refine lv_imul hx hb dX7_arc_66 ?_
          refine lv_iload_n hx hb dX7_arc_67 rfl (lv_at hl 3 rfl) ?_
          refine lv_iadd hx hb dX7_arc_68 ?_
          refine lv_iload_n hx hb dX7_arc_69 rfl (lv_at hl 4 rfl) ?_
          obtain ⟨z10, hR⟩ := og hR
          refine va_iast hx hb hK hP hD hS 1 0 rfl rfl (ix_in z10) dX7_arc_70 (fun H locs hP hD hS => ?_)
          have hP : va_P (dC, dI) vwCl (wM ad tI tL tII tLL (0 : Int32) sts (upd wgt (((7 : Int32) * p1) + p2).toNatClampNeg p3) rwd up dn cel rig sum gp bst few) H := hP
          have hD : va_D (rwA (wM ad tI tL tII tLL thr sts wgt rwd up dn cel rig sum gp bst few)) (wM ad tI tL tII tLL (0 : Int32) sts (upd wgt (((7 : Int32) * p1) + p2).toNatClampNeg p3) rwd up dn cel rig sum gp bst few) := hD
          refine lv_iload hx hb dX7_arc_71 (lv_at hl 0 rfl) ?_
          cases hR
          exact W.iret hx hb hr (fun t ht _ => ⟨rfl, by rw [ht]; exact hP, hS.F ht⟩) hS.2.2 dX7_arc_73
        · replace hR := it_n c9 hR
          refine lv_bipush (v := (-2)) hx hb dX7_arc_56 (by decide) ?_
          cases hR
          exact W.iret hx hb hr (fun t ht _ => ⟨rfl, by rw [ht]; exact hP, hS.F ht⟩) hS.2.2 dX7_arc_58
    · replace hR := it_p c4 hR
      refine lv_iconst (v := (-1)) hx hb dX7_arc_21 (by decide) ?_
      cases hR
      exact W.iret hx hb hr (fun t ht _ => ⟨rfl, by rw [ht]; exact hP, hS.F ht⟩) hS.2.2 dX7_arc_22
abbrev RM_f_M_reward : Room := { frames := 2, cells := 0, slots := 0, locals := 43 }
abbrev W_M_reward : List Cond := .code yX7_reward cX7_reward 4 (some .int) :: tblG
set_option maxHeartbeats 4000000 in
set_option maxRecDepth 100000 in
theorem c_M_reward (l : Launch) (dC : Nat → ClassId) (dI : Nat → Nat → Nat) (ad : Nat → Nat) (tI tL tII tLL : ClassId) (thr : Int32) (sts : Int32) (wgt : Nat → Int32) (rwd : Nat → Int32) (up : Int64) (dn : Int64) (cel : Nat → Int64) (rig : Nat → Int64) (sum : Nat → Int64) (gp : Nat → Int32) (bst : Nat → Int32) (few : Int32) (p1 : Int32) (p2 : Int32) (R0 : Int32) (R_thr : Int32) (R_rwd : Nat → Int32) (hR : some (R0, R_thr, R_rwd) = f_M_reward sts rwd p1 p2) : Met l yX7_reward W_M_reward RM_f_M_reward (rwP (dC, dI) vwCl [(tI, .int), (tL, .long), (tII, .array .int), (tLL, .array .long)] (wM ad tI tL tII tLL thr sts wgt rwd up dn cel rig sum gp bst few) ([.ref (ad 0), .int p1, .int p2] : List Value)) (rwQ (dC, dI) vwCl (wM ad tI tL tII tLL R_thr sts wgt R_rwd up dn cel rig sum gp bst few) (some (.int R0)) (rwA (wM ad tI tL tII tLL thr sts wgt rwd up dn cel rig sum gp bst few))) 0 0 (rwA (wM ad tI tL tII tLL thr sts wgt rwd up dn cel rig sum gp bst few)) := by
  refine Met.ofW (cc := cX7_reward) (maxL := 4) (ret := (some .int)) (by decide) rfl ?_
  intro p e s m args below meth c s₁ B hml hv
  obtain ⟨rfl, hP, hK, hN, hD⟩ := hv
  have hx := B.exec
  have hb := B.bytes
  have hr := B.returns
  have hts := atoms_spec (ws := W_M_reward) B.pre
  have ht := fun (w : Cond) (h : w ∈ tblG) => hts w (List.mem_cons_of_mem _ h)
  have hown : s.vm.findClass RX7 = some m.cls := findClass_of_methodNamed B.named
  have hlocks := B.notSynchronized
  have hl := lv_entry ([.ref (ad 0), .int p1, .int p2] : List Value) (n := 4) (Nat.le_of_ble_eq_true rfl)
  rw [lg_entry_eq]
  generalize (lg_sl ([.ref (ad 0), .int p1, .int p2] : List Value) ++ List.replicate (4 - (lg_sl ([.ref (ad 0), .int p1, .int p2] : List Value)).length) Slot.unset).toArray = ls at hl ⊢
  have hl : lv_has ls 4 [(0, .ref (ad 0)), (1, .int p1), (2, .int p2)] := hl
  have hD := hD.own
  have hS : va_S (rwA (wM ad tI tL tII tLL thr sts wgt rwd up dn cel rig sum gp bst few)) s.heap s.heap [] := va_S.rf
  suffices K : ∀ (H : Heap) (locs : List Loc), va_P (dC, dI) vwCl (wM ad tI tL tII tLL thr sts wgt rwd up dn cel rig sum gp bst few) H → va_D (rwA (wM ad tI tL tII tLL thr sts wgt rwd up dn cel rig sum gp bst few)) (wM ad tI tL tII tLL thr sts wgt rwd up dn cel rig sum gp bst few) → va_S (rwA (wM ad tI tL tII tLL thr sts wgt rwd up dn cel rig sum gp bst few)) s.heap H locs → W p l e (headSpec W_M_reward RM_f_M_reward).room s m ([.ref (ad 0), .int p1, .int p2] : List Value).toArray below meth c H locs 0 0 (MQ below (rwQ (dC, dI) vwCl (wM ad tI tL tII tLL R_thr sts wgt R_rwd up dn cel rig sum gp bst few) (some (.int R0)) (rwA (wM ad tI tL tII tLL thr sts wgt rwd up dn cel rig sum gp bst few))) ([.ref (ad 0), .int p1, .int p2] : List Value).toArray s 0 0 (rwA (wM ad tI tL tII tLL thr sts wgt rwd up dn cel rig sum gp bst few))) (F0 m 0 ls []) from K s.heap [] hP hD hS
  clear hP hD hS
  intro H locs hP hD hS
  rw [f_M_reward] at hR
  refine lv_aload_n hx hb dX7_reward_0 rfl (lv_at hl 0 rfl) ?_
  refine lv_iconst (v := 0) hx hb dX7_reward_1 (by decide) ?_
  refine va_put (D := (dC, dI)) (ci := 7) (v := .int (0 : Int32)) (ty := .int) (C := RX7) (T := TX7) (N := 12) hx hb ht hinX7 tyX7 tyX7_ok nmX7 hown hK hP hD hS 0 rfl rfl 0 (by decide) (ht _ k_220) (fun _ h9 => h9) rfl (by decide +kernel) rfl rfl (Nat.le_of_ble_eq_true rfl) dX7_reward_2 (fun H locs hP hD hS => ?_)
  have hP : va_P (dC, dI) vwCl (wM ad tI tL tII tLL (0 : Int32) sts wgt rwd up dn cel rig sum gp bst few) H := hP
  have hD : va_D (rwA (wM ad tI tL tII tLL thr sts wgt rwd up dn cel rig sum gp bst few)) (wM ad tI tL tII tLL (0 : Int32) sts wgt rwd up dn cel rig sum gp bst few) := hD
  refine lv_aload_n hx hb dX7_reward_5 rfl (lv_at hl 0 rfl) ?_
  refine lv_iload_n hx hb dX7_reward_6 rfl (lv_at hl 1 rfl) ?_
  obtain ⟨r1, hC, hR⟩ := ob hR
  try dsimp only at hR
  refine ro_calli (va_runV (As := [.int p1]) (rest := []) ⟨hx, hb, hml, hown, ht⟩ (c_M_isState l dC dI ad tI tL tII tLL (0 : Int32) sts wgt rwd up dn cel rig sum gp bst few p1 r1 hC.symm) ⟨callB_of 1 ht (goodG k_222) rfl rfl rfl (ht _ k_202) (ht _ k_223) (by decide +kernel) ⟨Nat.le_of_ble_eq_true rfl, Nat.le_of_ble_eq_true rfl⟩, (ht _ k_225), (ht _ k_224)⟩ (pre_v hK hN hP (q0 := 0) (ci := 7) rfl rfl) rfl rfl hl.1 rfl (lv_room (Nat.le_of_ble_eq_true rfl)) dX7_reward_7 ⟨Nat.zero_le _, Nat.zero_le _⟩) ?_
  refine lv_if_ne (tgt := 15) hx hb dX7_reward_10 (by decide) (fun c2 => ?_) (fun c2 => ?_)
  · replace hR := it_n c2 hR
    refine lv_iload_n hx hb dX7_reward_15 rfl (lv_at hl 2 rfl) ?_
    refine lv_bipush (v := (-100)) hx hb dX7_reward_16 (by decide) ?_
    refine lv_bipush (v := 100) hx hb dX7_reward_18 (by decide) ?_
    obtain ⟨r3, hC, hR⟩ := ob hR
    try dsimp only at hR
    refine ro_calli (va_runS (As := [.int p2, .int (-100 : Int32), .int (100 : Int32)]) (rest := []) ⟨hx, hb, hml, hown, ht⟩ (c_M_within l dC dI ad tI tL tII tLL  p2 (-100 : Int32) (100 : Int32) r3 hC.symm) ⟨callB_of 3 ht (goodG k_206) rfl rfl rfl (ht _ k_202) (ht _ k_207) (by decide +kernel) ⟨Nat.le_of_ble_eq_true rfl, Nat.le_of_ble_eq_true rfl⟩, (ht _ k_208)⟩ (pre_s hK hN (hP.sub (ws' := []) [] rfl)) rfl rfl hl.1 rfl (lv_room (Nat.le_of_ble_eq_true rfl)) dX7_reward_20 ⟨Nat.zero_le _, Nat.zero_le _⟩) ?_
    refine lv_if_ne (tgt := 29) hx hb dX7_reward_23 (by decide) (fun c4 => ?_) (fun c4 => ?_)
    · replace hR := it_n c4 hR
      refine lv_aload_n hx hb dX7_reward_29 rfl (lv_at hl 0 rfl) ?_
      refine va_get (D := (dC, dI)) (ci := 7) (v := .ref (ad 2)) (C := RX7) (T := TX7) (N := 12) hx hb ht hinX7 hown hK hP 0 rfl rfl 3 (by decide) (ht _ k_221) (fun _ h9 => h9) rfl dX7_reward_30 ?_
      refine lv_iload_n hx hb dX7_reward_33 rfl (lv_at hl 1 rfl) ?_
      obtain ⟨z5, hR⟩ := og hR
      refine va_iald hx hb hK hP 2 0 rfl rfl (ix_in z5) dX7_reward_34 ?_
      refine lv_istore_n (lv' := [(3, .int (rwd p1.toNatClampNeg)), (0, .ref (ad 0)), (1, .int p1), (2, .int p2)]) hx hb dX7_reward_35 rfl hl (by decide) rfl (fun ls hl => ?_)
      refine lv_aload_n hx hb dX7_reward_36 rfl (lv_at hl 1 rfl) ?_
      refine va_get (D := (dC, dI)) (ci := 7) (v := .ref (ad 2)) (C := RX7) (T := TX7) (N := 12) hx hb ht hinX7 hown hK hP 0 rfl rfl 3 (by decide) (ht _ k_221) (fun _ h9 => h9) rfl dX7_reward_37 ?_
      refine lv_iload_n hx hb dX7_reward_40 rfl (lv_at hl 2 rfl) ?_
      refine lv_iload_n hx hb dX7_reward_41 rfl (lv_at hl 3 rfl) ?_
      obtain ⟨z6, hR⟩ := og hR
      refine va_iast hx hb hK hP hD hS 2 0 rfl rfl (ix_in z6) dX7_reward_42 (fun H locs hP hD hS => ?_)
      have hP : va_P (dC, dI) vwCl (wM ad tI tL tII tLL (0 : Int32) sts wgt (upd rwd p1.toNatClampNeg p2) up dn cel rig sum gp bst few) H := hP
      have hD : va_D (rwA (wM ad tI tL tII tLL thr sts wgt rwd up dn cel rig sum gp bst few)) (wM ad tI tL tII tLL (0 : Int32) sts wgt (upd rwd p1.toNatClampNeg p2) up dn cel rig sum gp bst few) := hD
      refine lv_iload_n hx hb dX7_reward_43 rfl (lv_at hl 0 rfl) ?_
      refine lv_bipush (v := 100) hx hb dX7_reward_44 (by decide) ?_
      refine lv_iadd hx hb dX7_reward_46 ?_
      cases hR
      exact W.iret hx hb hr (fun t ht _ => ⟨rfl, by rw [ht]; exact hP, hS.F ht⟩) hS.2.2 dX7_reward_47
    · replace hR := it_p c4 hR
      refine lv_bipush (v := (-2)) hx hb dX7_reward_26 (by decide) ?_
      cases hR
      exact W.iret hx hb hr (fun t ht _ => ⟨rfl, by rw [ht]; exact hP, hS.F ht⟩) hS.2.2 dX7_reward_28
  · replace hR := it_p c2 hR
    refine lv_iconst (v := (-1)) hx hb dX7_reward_13 (by decide) ?_
    cases hR
    exact W.iret hx hb hr (fun t ht _ => ⟨rfl, by rw [ht]; exact hP, hS.F ht⟩) hS.2.2 dX7_reward_14
