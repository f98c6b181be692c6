/-! CT0: new arrays of known classes; contracts of constructors -/
abbrev tysA (tI tL tII tLL : ClassId) : List (ClassId × FieldType) := [(tI, .int), (tL, .long), (tII, .array .int), (tLL, .array .long)]
def inP (D : va_G) (cl : List vw_C) (tys : List (ClassId × FieldType)) (ws : va_W) (av : List Value) (sz : Nat) : Array Value → State → Prop := va_Pc av (fun U => U.heap.size = sz ∧ va_P D cl ws U.heap ∧ va_K D cl tys U ∧ NW U ∧ va_AOA .int U ∧ va_AOA .long U ∧ va_D (fun _ => True) ws)
abbrev inQ (D : va_G) (cl : List vw_C) (Wf : (Nat → Nat) → (Nat → Nat) → va_W) (A : Nat → Prop) : Array Value → State → Outcome → State → Prop := va_Qv (fun _ : (Nat → Nat) × (Nat → Nat) => True) (fun u t => va_P D cl (Wf u.1 u.2) t.heap ∧ va_D A (Wf u.1 u.2)) A
def lAt (l : List Nat) (i : Nat) : Nat := l.getD i 0
theorem in_blind {D : va_G} {cl : List vw_C} {tys : List (ClassId × FieldType)} {ws : va_W} {av : List Value} {sz : Nat} : FrameBlind (inP D cl tys ws av sz) := fun a U g mk q => by
  obtain ⟨q0, q1, qP, qK, qN, qa, qb, qD⟩ := q
  exact ⟨q0, q1, qP, va_K.moved (u := U) (U := U.calling g mk a) (Vm.Alike.refl U.vm) qK, qN.same rfl, va_AOA.moved (u := U) (U := U.calling g mk a) (Vm.Alike.refl U.vm) qa, va_AOA.moved (u := U) (U := U.calling g mk a) (Vm.Alike.refl U.vm) qb, qD⟩
theorem pre_in {D : va_G} {cl : List vw_C} {tys : List (ClassId × FieldType)} {ws : va_W} {s : State} {H : Heap} {As : List Value} {A : Nat → Prop} (hK : va_K D cl tys s) (hN : NW s) (ha : va_AOA .int s) (hb : va_AOA .long s) (hP : va_P D cl ws H) (hD : va_D A ws) : PreS s H (inP D cl tys ws As H.size) As :=
  ⟨in_blind, fun U hU hW => ⟨rfl, by rw [hU], by rw [hU]; exact hP, va_K.moved hW.alike hK, NW.warm hW hN, va_AOA.moved hW.alike ha, va_AOA.moved hW.alike hb, hD.weaken (fun _ _ _ _ => trivial)⟩⟩
section CT
variable {p : Program} {l : Launch} {e : Env} {R : Room} {s : State} {m : MethodId} {args : Array Value} {below : List Frame} {meth : Method} {c : Code} {H : Heap} {locs : List Loc} {cells slots : Nat} {Q : State → Prop}
variable {cc : ByteArray} {pc : Nat} {ls : Array Slot} {rest : List Value} {D : va_G} {cl : List vw_C} {A : Nat → Prop} {tys : List (ClassId × FieldType)} {ws : va_W} {H0 : Heap}
theorem ct_RA {U : State} {c1 c2 : ClassId} {f : String} (h1 : U.vm.findClass f = some c1) (h2 : U.vm.findClass f = some c2) : c1 = c2 := Option.some.inj (h1.symm.trans h2)
theorem va_newT (hexec : p.tables.exec = Jvm.exec) (hb : c.code = cc) {atype : ArrayType} (harr : (Cond.arrayClass (newarray.typeOf atype)).before args s = true) {ty : FieldType} (hty : newarray.typeOf atype = ty) (hra : ∀ (U : State) (c : ClassId), va_RA U c ty → U.vm.findClass ("[" ++ ty.toString) = some c) {tA : ClassId} (t0 : Nat) (ht : tys[t0]? = some (tA, ty)) (hK : va_K D cl tys s) (hP : va_P D cl ws H) (hD : va_D A ws) (hS : va_S A H0 H locs) (hA : ∀ q, H0.size ≤ q → A q)
    {n : Int32} {N' : Nat} {a0 : vp_A} (ha : ∀ cA : ClassId, vp_cell cA a0 = arrV cA N' (fun _ => defaultValue ty)) (hn : ¬ n < 0) (hN : n.toNatClampNeg = N') (hbytes : N' * componentBytes ty ≤ 536870912) (hcells : cells + 1 ≤ R.cells) (hslots : slots + N' ≤ R.slots) (hdg : decode cc pc = .ok (.newarray atype, 2))
    (kk : ∀ (q : Nat) (H1 : Heap), va_P D cl (ws ++ [(q, .inl (tA, a0))]) H1 → va_D A (ws ++ [(q, .inl (tA, a0))]) → va_S A H0 H1 locs →
      W p l e R s m args below meth c H1 locs (cells + 1) (slots + N') Q (F0 m (pc + 2) ls (.ref q :: rest))) : W p l e R s m args below meth c H locs cells slots Q (F0 m pc ls (.int n :: rest)) := by
  refine va_newa hexec hb harr hty hK hP hD hS hA ha hn hN hbytes hcells hslots hdg (fun q cA H1 hK1 hP1 hD1 hS1 => ?_)
  have h1 := hra _ _ (hK1.2 tys.length (cA, ty) (by rw [List.getElem?_append_right (Nat.le_refl _), Nat.sub_self]; rfl)).2
  have h2 := hra _ _ (hK.2 t0 _ ht).2
  have e := ct_RA h1 h2
  subst e
  exact kk q H1 hP1 hD1 hS1
theorem va_mnT (hexec : p.tables.exec = Jvm.exec) (hb : c.code = cc) {own : String} {index : Nat} {ty : FieldType} {cy tA : ClassId} (hown : s.vm.findClass own = some m.cls) (hclink : (Cond.classLink own index ("[" ++ (FieldType.array ty).toString)).before args s = true) (hover : va_AOA ty s) (harr : (Cond.arrayClass ty).before args s = true) (hra : ∀ (U : State) (c : ClassId), va_RA U c ty → U.vm.findClass ("[" ++ ty.toString) = some c) (t1 t2 : Nat) (ht1 : tys[t1]? = some (cy, ty)) (ht2 : tys[t2]? = some (tA, .array ty))
    (hK : va_K D cl tys s) (hP : va_P D cl ws H) (hD : va_D A ws) (hS : va_S A H0 H locs) (hA : ∀ q, H0.size ≤ q → A q) {n k : Int32} {N' K' : Nat} {z : vp_A} (hn : ¬ n < 0) (hk : ¬ k < 0) (hN : n.toNatClampNeg = N') (hM : k.toNatClampNeg = K')
    (hb1 : N' * 4 ≤ 536870912) (hb2 : K' * componentBytes ty ≤ 536870912) (hb3 : K' ≤ 536870912) (hdf : fits ty (defaultValue ty) = true) (hdd : (defaultValue ty).isDefault = true) (hcells : cells + (1 + N') ≤ R.cells) (hslots : slots + (N' + N' * K') ≤ R.slots) (hz : ∀ c : ClassId, Jvm.Free.Multi.innerC c K' (defaultValue ty) = vp_cell c z) (hdg : decode cc pc = .ok (.multianewarray index 2, 4))
    (kk : ∀ (q : Nat) (r : Nat → Nat) (H1 : Heap), va_P D cl (ws ++ ((q, .inl (tA, N', .inr (.inr (.inr (.inr (fun i => some (r i))))))) :: (List.range N').map (fun i => (r i, .inl (cy, z))))) H1 → va_D A (ws ++ ((q, .inl (tA, N', .inr (.inr (.inr (.inr (fun i => some (r i))))))) :: (List.range N').map (fun i => (r i, .inl (cy, z))))) → va_S A H0 H1 locs →
      W p l e R s m args below meth c H1 locs (cells + 1 + N') (slots + N' + N' * K') Q (F0 m (pc + 4) ls (.ref q :: rest))) : W p l e R s m args below meth c H locs cells slots Q (F0 m pc ls (.int k :: .int n :: rest)) := by
  have hP' : va_P D cl (ws ++ va_pl [] (fun _ => .inl (cy, z))) H := by rw [show va_pl [] (fun _ => (.inl (cy, z) : va_E)) = [] from rfl, List.append_nil]; exact hP
  have hD' : va_D A (ws ++ va_pl [] (fun _ => .inl (cy, z))) := by rw [show va_pl [] (fun _ => (.inl (cy, z) : va_E)) = [] from rfl, List.append_nil]; exact hD
  refine va_mna hexec hb hown hclink hover harr (hra _ _ (hK.2 t1 _ ht1).2) hK hP' hD' hS hA hn hk hN hM hb1 hb2 hb3 hdf hdd hcells hslots hz hdg (fun q r cA H1 hr1 hr2 hK1 hP1 hD1 hS1 => ?_)
  have h1 : s.vm.findClass ("[" ++ (FieldType.array ty).toString) = some cA := (hK1.2 tys.length (cA, .array ty) (by rw [List.getElem?_append_right (Nat.le_refl _), Nat.sub_self]; rfl)).2
  have h2 : s.vm.findClass ("[" ++ (FieldType.array ty).toString) = some tA := (hK.2 t2 _ ht2).2
  have e := ct_RA h1 h2
  subst e
  rw [← vr_rows (fun a _ => List.not_mem_nil), show va_pl [] (fun _ => (.inl (cy, z) : va_E)) = [] from rfl, List.nil_append, List.map_map, List.append_assoc] at hP1 hD1
  have hcell : vp_cell cA (N', .inr (.inr (.inr (.inr (fun i => if i < N' then some (r i) else none))))) = vp_cell cA (N', .inr (.inr (.inr (.inr (fun i => some (r i)))))) := by
    rw [vp_cell_q, vp_cell_q]
    unfold arrV
    congr 1
    congr 1
    funext j
    dsimp only
    rw [if_pos j.isLt]
  refine kk q r H1 (fun j x hj => ?_) (hD1.same (by simp)) hS1
  by_cases hl : j < ws.length
  · rw [List.getElem?_append_left hl] at hj
    exact hP1 j x (by rw [List.getElem?_append_left hl]; exact hj)
  · rw [List.getElem?_append_right (by omega)] at hj
    have h9 := hP1 j
    rw [List.getElem?_append_right (by omega)] at h9
    generalize j - ws.length = i at hj h9
    cases i with
    | zero =>
      have h10 := h9 _ rfl
      simp only [List.getElem?_cons_zero, Option.some.injEq] at hj
      subst hj
      show H1[q]? = some (vp_cell cA (N', .inr (.inr (.inr (.inr (fun i => some (r i)))))))
      rw [← hcell]
      exact h10
    | succ i =>
      rw [List.getElem?_cons_succ] at hj
      exact h9 x (by rw [List.singleton_append, List.getElem?_cons_succ]; exact hj)
end CT
theorem va_P.rows {D : va_G} {cl : List vw_C} {ws : va_W} {H : Heap} {q N : Nat} {tA : ClassId} {r r' : Nat → Nat} (hP : va_P D cl ws H) (k : Nat) (hk : ws[k]? = some (q, .inl (tA, N, .inr (.inr (.inr (.inr (fun i => some (r i)))))))) (hr : ∀ i, i < N → r i = r' i) : va_P D cl (ws.set k (q, .inl (tA, N, .inr (.inr (.inr (.inr (fun i => some (r' i)))))))) H := by
  have hlt := (List.getElem?_eq_some_iff.mp hk).1
  intro j x hj
  by_cases hjk : k = j
  · subst hjk
    rw [List.getElem?_set_self hlt] at hj
    rw [← Option.some.inj hj]
    have h1 : H[q]? = some (vp_cell tA (N, .inr (.inr (.inr (.inr (fun i => some (r i))))))) := hP k _ hk
    show H[q]? = some (vp_cell tA (N, .inr (.inr (.inr (.inr (fun i => some (r' i)))))))
    rw [h1, vp_cell_q, vp_cell_q]
    congr 1
    unfold arrV
    congr 1
    congr 1
    funext i
    dsimp only
    rw [hr i.val i.isLt]
  · rw [List.getElem?_set_ne hjk] at hj
    exact hP j x hj
