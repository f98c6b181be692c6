/-! BASE: calls by contracts of two kinds: ro (the heap is the same), rw (a picture in, a picture out) -/
def gR (ad : Nat → Nat) (b i : Nat) : Nat := ad (b + i)
abbrev noF : Nat → Prop := fun _ => False
def roP (D : va_G) (cl : List vw_C) (tys : List (ClassId × FieldType)) (ws : va_W) (av : List Value) : Array Value → State → Prop := va_Pc av (fun U => va_P D cl ws U.heap ∧ va_K D cl tys U ∧ NW U)
def roQ (R : Option Value) : Array Value → State → Outcome → State → Prop := fun _ st oc t => oc = .returned R ∧ t.heap = st.heap
def rwA (ws : va_W) : Nat → Prop := fun q => ∃ (k : Nat) (e : va_E), ws[k]? = some (q, e)
def rwP (D : va_G) (cl : List vw_C) (tys : List (ClassId × FieldType)) (ws : va_W) (av : List Value) : Array Value → State → Prop := va_Pc av (fun U => va_P D cl ws U.heap ∧ va_K D cl tys U ∧ NW U ∧ va_D (fun _ => True) ws)
def rwQ (D : va_G) (cl : List vw_C) (ws' : va_W) (R : Option Value) (A : Nat → Prop) : Array Value → State → Outcome → State → Prop := fun _ st oc t => oc = .returned R ∧ va_P D cl ws' t.heap ∧ va_F A st t
theorem ro_blind {D : va_G} {cl : List vw_C} {tys : List (ClassId × FieldType)} {ws : va_W} {av : List Value} : FrameBlind (roP D cl tys ws av) := fun a U g mk q => by
  obtain ⟨q0, qP, qK, qN⟩ := q
  exact ⟨q0, qP, va_K.moved (u := U) (U := U.calling g mk a) (Vm.Alike.refl U.vm) qK, qN.same rfl⟩
theorem rw_blind {D : va_G} {cl : List vw_C} {tys : List (ClassId × FieldType)} {ws : va_W} {av : List Value} : FrameBlind (rwP D cl tys ws av) := fun a U g mk q => by
  obtain ⟨q0, qP, qK, qN, qD⟩ := q
  exact ⟨q0, qP, va_K.moved (u := U) (U := U.calling g mk a) (Vm.Alike.refl U.vm) qK, qN.same rfl, qD⟩
theorem pre_s {D : va_G} {cl : List vw_C} {tys : List (ClassId × FieldType)} {ws : va_W} {s : State} {H : Heap} {As : List Value} (hK : va_K D cl tys s) (hN : NW s) (hP : va_P D cl ws H) : PreS s H (roP D cl tys ws As) As :=
  ⟨ro_blind, fun U hU hW => ⟨rfl, by rw [hU]; exact hP, va_K.moved hW.alike hK, NW.warm hW hN⟩⟩
theorem pre_sw {D : va_G} {cl : List vw_C} {tys : List (ClassId × FieldType)} {ws : va_W} {s : State} {H : Heap} {As : List Value} {A : Nat → Prop} (hK : va_K D cl tys s) (hN : NW s) (hP : va_P D cl ws H) (hD : va_D A ws) : PreS s H (rwP D cl tys ws As) As :=
  ⟨rw_blind, fun U hU hW => ⟨rfl, by rw [hU]; exact hP, va_K.moved hW.alike hK, NW.warm hW hN, hD.weaken (fun _ _ _ _ => trivial)⟩⟩
theorem pre_v {D : va_G} {cl : List vw_C} {tys : List (ClassId × FieldType)} {ws : va_W} {s : State} {H : Heap} {As : List Value} {b ci q0 N : Nat} {C : String} {T : u_T} {fs : List Value} (hK : va_K D cl tys s) (hN : NW s) (hP : va_P D cl ws H) (he : ws[q0]? = some (b, .inr (ci, fs))) (hc : cl[ci]? = some (C, T, N)) : PreV s H C b (roP D cl tys ws (.ref b :: As)) As :=
  ⟨ro_blind, va_recv hK hP hc he, fun U hU hW => ⟨rfl, by rw [hU]; exact hP, va_K.moved hW.alike hK, NW.warm hW hN⟩⟩
theorem pre_vw {D : va_G} {cl : List vw_C} {tys : List (ClassId × FieldType)} {ws : va_W} {s : State} {H : Heap} {As : List Value} {b ci q0 N : Nat} {C : String} {T : u_T} {fs : List Value} {A : Nat → Prop} (hK : va_K D cl tys s) (hN : NW s) (hP : va_P D cl ws H) (hD : va_D A ws) (he : ws[q0]? = some (b, .inr (ci, fs))) (hc : cl[ci]? = some (C, T, N)) : PreV s H C b (rwP D cl tys ws (.ref b :: As)) As :=
  ⟨rw_blind, va_recv hK hP hc he, fun U hU hW => ⟨rfl, by rw [hU]; exact hP, va_K.moved hW.alike hK, NW.warm hW hN, hD.weaken (fun _ _ _ _ => trivial)⟩⟩
theorem va_D.same {A : Nat → Prop} {ws ws' : va_W} (hD : va_D A ws) (ha : ws'.map Prod.fst = ws.map Prod.fst) : va_D A ws' := by
  have key : ∀ (k : Nat) (q : Nat × va_E), ws'[k]? = some q → ∃ e, ws[k]? = some (q.1, e) := by
    intro k q hk
    have h1 : (ws'.map Prod.fst)[k]? = some q.1 := by rw [List.getElem?_map, hk]; rfl
    rw [ha, List.getElem?_map] at h1
    cases h2 : ws[k]? with
    | none => rw [h2] at h1; cases h1
    | some r =>
      rw [h2] at h1
      obtain ⟨a, b⟩ := r
      have h3 : a = q.1 := Option.some.inj h1
      exact ⟨b, by rw [h3]⟩
  refine ⟨fun i j p q hi hj hpq => ?_, fun k q hk => ?_⟩
  · obtain ⟨e1, h1⟩ := key i p hi
    obtain ⟨e2, h2⟩ := key j q hj
    exact hD.1 i j _ _ h1 h2 hpq
  · obtain ⟨e1, h1⟩ := key k q hk
    exact hD.2 k (q.1, e1) h1
theorem va_D.own {A : Nat → Prop} {ws : va_W} (hD : va_D A ws) : va_D (rwA ws) ws := ⟨hD.1, fun k q hk => ⟨k, q.2, hk⟩⟩
theorem rw_S {A0 A1 : Nat → Prop} {H0 H : Heap} {st t : State} {locs L : List Loc} (hS : va_S A0 H0 H locs) (h0 : st.heap = H) (hF : va_F A1 st t) (hA : ∀ q, A1 q → A0 q) (hL : ∀ q ∈ L, A1 q.base) : va_S A0 H0 t.heap (locs ++ L) := by
  obtain ⟨hz, hk⟩ := hF
  rw [h0] at hz hk
  refine ⟨Nat.le_trans hS.1 hz, fun q h1 h2 => ?_, fun q hq => ?_⟩
  · rw [hk q (Nat.lt_of_lt_of_le h1 hS.1) (fun z => h2 (hA q z))]
    exact hS.2.1 q h1 h2
  · rcases List.mem_append.mp hq with h | h
    · exact hS.2.2 q h
    · exact hA _ (hL q h)
section CS
variable {p : Program} {l : Launch} {e : Env} {R : Room} {s : State} {m : MethodId} {args : Array Value} {below : List Frame} {meth : Method} {c : Code} {H : Heap} {locs : List Loc} {cells slots : Nat} {Q : State → Prop}
variable {pc : Nat} {ls : Array Slot} {rest st0 : List Value} {a : Array Value} {A0 : Nat → Prop} {H0 : Heap} {D : va_G} {cl : List vw_C} {ws ws' : va_W}
theorem ro_call {v : Option Value} (hr : va_Run p l e R s m args below meth c H locs cells slots 0 0 (F0 m pc ls st0) rest (roQ v a) (fun _ => False)) (kk : W p l e R s m args below meth c H locs cells slots Q (F0 m (pc + 3) ls (v.toList ++ rest))) : W p l e R s m args below meth c H locs cells slots Q (F0 m pc ls st0) := by
  intro T hT X
  obtain ⟨w, st₀, t, T', L, h0, X', hL, e1, e2, ⟨hv, hh⟩, st⟩ := hr T hT X
  cases hv
  have hLn : L = [] := by
    cases L with
    | nil => rfl
    | cons q L => exact absurd (hL q List.mem_cons_self) id
  subst hLn
  rw [List.append_nil] at X'
  obtain ⟨t2, a1, b1⟩ := kk T' (by rw [e1, hh, h0]) X'
  exact ⟨t2, st t2 a1, b1⟩
theorem ro_calli {v : Int32} (hr : va_Run p l e R s m args below meth c H locs cells slots 0 0 (F0 m pc ls st0) rest (roQ (some (.int v)) a) (fun _ => False)) (kk : W p l e R s m args below meth c H locs cells slots Q (F0 m (pc + 3) ls (.int v :: rest))) : W p l e R s m args below meth c H locs cells slots Q (F0 m pc ls st0) := ro_call hr kk
theorem ro_calll {v : Int64} (hr : va_Run p l e R s m args below meth c H locs cells slots 0 0 (F0 m pc ls st0) rest (roQ (some (.long v)) a) (fun _ => False)) (kk : W p l e R s m args below meth c H locs cells slots Q (F0 m (pc + 3) ls (.long v :: rest))) : W p l e R s m args below meth c H locs cells slots Q (F0 m pc ls st0) := ro_call hr kk
theorem rw_call {v : Option Value} (hr : va_Run p l e R s m args below meth c H locs cells slots 0 0 (F0 m pc ls st0) rest (rwQ D cl ws' v (rwA ws) a) (rwA ws)) (hD : va_D A0 ws) (hS : va_S A0 H0 H locs) (ha : ws'.map Prod.fst = ws.map Prod.fst) (kk : ∀ (H1 : Heap) (locs1 : List Loc), va_P D cl ws' H1 → va_D A0 ws' → va_S A0 H0 H1 locs1 → W p l e R s m args below meth c H1 locs1 cells slots Q (F0 m (pc + 3) ls (v.toList ++ rest))) : W p l e R s m args below meth c H locs cells slots Q (F0 m pc ls st0) := by
  intro T hT X
  obtain ⟨w, st₀, t, T', L, h0, X', hL, e1, e2, ⟨hv, hP, hF⟩, st⟩ := hr T hT X
  cases hv
  have hAA : ∀ q, rwA ws q → A0 q := fun q ⟨k, e, h⟩ => hD.2 k _ h
  obtain ⟨t2, a1, b1⟩ := kk T'.heap (locs ++ L) (by rw [e1]; exact hP) (hD.same ha) (by rw [e1]; exact rw_S hS h0 hF hAA hL) T' rfl X'
  exact ⟨t2, st t2 a1, b1⟩
theorem rw_calli {v : Int32} (hr : va_Run p l e R s m args below meth c H locs cells slots 0 0 (F0 m pc ls st0) rest (rwQ D cl ws' (some (.int v)) (rwA ws) a) (rwA ws)) (hD : va_D A0 ws) (hS : va_S A0 H0 H locs) (ha : ws'.map Prod.fst = ws.map Prod.fst) (kk : ∀ (H1 : Heap) (locs1 : List Loc), va_P D cl ws' H1 → va_D A0 ws' → va_S A0 H0 H1 locs1 → W p l e R s m args below meth c H1 locs1 cells slots Q (F0 m (pc + 3) ls (.int v :: rest))) : W p l e R s m args below meth c H locs cells slots Q (F0 m pc ls st0) := rw_call hr hD hS ha kk
theorem rw_calll {v : Int64} (hr : va_Run p l e R s m args below meth c H locs cells slots 0 0 (F0 m pc ls st0) rest (rwQ D cl ws' (some (.long v)) (rwA ws) a) (rwA ws)) (hD : va_D A0 ws) (hS : va_S A0 H0 H locs) (ha : ws'.map Prod.fst = ws.map Prod.fst) (kk : ∀ (H1 : Heap) (locs1 : List Loc), va_P D cl ws' H1 → va_D A0 ws' → va_S A0 H0 H1 locs1 → W p l e R s m args below meth c H1 locs1 cells slots Q (F0 m (pc + 3) ls (.long v :: rest))) : W p l e R s m args below meth c H locs cells slots Q (F0 m pc ls st0) := rw_call hr hD hS ha kk
theorem rw_callv (hr : va_Run p l e R s m args below meth c H locs cells slots 0 0 (F0 m pc ls st0) rest (rwQ D cl ws' none (rwA ws) a) (rwA ws)) (hD : va_D A0 ws) (hS : va_S A0 H0 H locs) (ha : ws'.map Prod.fst = ws.map Prod.fst) (kk : ∀ (H1 : Heap) (locs1 : List Loc), va_P D cl ws' H1 → va_D A0 ws' → va_S A0 H0 H1 locs1 → W p l e R s m args below meth c H1 locs1 cells slots Q (F0 m (pc + 3) ls rest)) : W p l e R s m args below meth c H locs cells slots Q (F0 m pc ls st0) := rw_call hr hD hS ha kk
/-- a call that has one cell of the world -/
theorem rw_one {v : Option Value} {b k : Nat} {e0 e1 : va_E} (hr : va_Run p l e R s m args below meth c H locs cells slots 0 0 (F0 m pc ls st0) rest (rwQ D cl [(b, e1)] v (rwA [(b, e0)]) a) (rwA [(b, e0)])) (hP : va_P D cl ws H) (hD : va_D A0 ws) (hS : va_S A0 H0 H locs) (k : Nat) (hk : ws[k]? = some (b, e0)) (kk : ∀ (H1 : Heap) (locs1 : List Loc), va_P D cl (ws.set k (b, e1)) H1 → va_D A0 (ws.set k (b, e1)) → va_S A0 H0 H1 locs1 → W p l e R s m args below meth c H1 locs1 cells slots Q (F0 m (pc + 3) ls (v.toList ++ rest))) : W p l e R s m args below meth c H locs cells slots Q (F0 m pc ls st0) := by
  intro T hT X
  obtain ⟨w, st₀, t, T', L, h0, X', hL, e1', e2', ⟨hv, hP1, hF⟩, st⟩ := hr T hT X
  cases hv
  have hb : ∀ q, rwA [(b, e0)] q → q = b := fun q h => by
    obtain ⟨j, e9, hj⟩ := h
    match j, hj with
    | 0, hj => exact (congrArg Prod.fst (Option.some.inj hj)).symm
    | j + 1, hj => simp at hj
  have hAA : ∀ q, rwA [(b, e0)] q → A0 q := fun q h => by rw [hb q h]; exact hD.2 k _ hk
  have hP2 : va_P D cl (ws.set k (b, e1)) T'.heap := by
    intro j q hj
    by_cases hjk : k = j
    · subst hjk
      rw [List.getElem?_set_self (by
        have := (List.getElem?_eq_some_iff.mp hk).1
        exact this)] at hj
      rw [← Option.some.inj hj, e1']
      exact hP1 0 _ rfl
    · rw [List.getElem?_set_ne hjk] at hj
      refine (hP j q hj).kept ?_
      rw [e1']
      have hlt : q.1 < st₀.heap.size := by rw [h0]; exact (hP j q hj).lt
      rw [hF.2 q.1 hlt (fun h => hjk (hD.1 k j _ _ hk hj (hb _ h).symm)), h0]
  obtain ⟨t2, a1, b1⟩ := kk T'.heap (locs ++ L) hP2 (hD.set hk) (by rw [e1']; exact rw_S hS h0 hF hAA hL) T' rfl X'
  exact ⟨t2, st t2 a1, b1⟩
theorem rw_onev {b : Nat} {e0 e1 : va_E} (hr : va_Run p l e R s m args below meth c H locs cells slots 0 0 (F0 m pc ls st0) rest (rwQ D cl [(b, e1)] none (rwA [(b, e0)]) a) (rwA [(b, e0)])) (hP : va_P D cl ws H) (hD : va_D A0 ws) (hS : va_S A0 H0 H locs) (k : Nat) (hk : ws[k]? = some (b, e0)) (kk : ∀ (H1 : Heap) (locs1 : List Loc), va_P D cl (ws.set k (b, e1)) H1 → va_D A0 (ws.set k (b, e1)) → va_S A0 H0 H1 locs1 → W p l e R s m args below meth c H1 locs1 cells slots Q (F0 m (pc + 3) ls rest)) : W p l e R s m args below meth c H locs cells slots Q (F0 m pc ls st0) := rw_one (k := 0) hr hP hD hS k hk kk
/-- aaload of an array of arrays -/
theorem va_aldA {cc : ByteArray} {tys : List (ClassId × FieldType)} {a : Nat} (hexec : p.tables.exec = Jvm.exec) (hb : c.code = cc) (hK : va_K D cl tys s) (hP : va_P D cl ws H) (q0 t0 : Nat) {cA : ClassId} {ty : FieldType} {n : Nat} {r : Nat → Nat} (ha : ws[q0]? = some (a, .inl (cA, n, .inr (.inr (.inr (.inr (fun i => some (r i)))))))) (ht : tys[t0]? = some (cA, ty)) (hty : ty.isReference = true) {i : Int32} (hin : vp_in i n) (hdg : decode cc pc = .ok (.aaload, 1))
    (kk : W p l e R s m args below meth c H locs cells slots Q (F0 m (pc + 1) ls (.ref (r i.toNatClampNeg) :: rest))) : W p l e R s m args below meth c H locs cells slots Q (F0 m pc ls (.int i :: .ref a :: rest)) := by
  have hlt : i.toNatClampNeg < n := Nat.not_le.mp fun q => hin (Or.inr q)
  exact W.aald (v := .ref (r i.toNatClampNeg)) (ty := ty) hexec hb (hP q0 _ ha) ((hK.2 t0 _ ht).1 n (fun j => va_rf (some (r j)))) hty (fun q => by cases q) (by show ¬ (i < 0 ∨ (arrV _ _ _).slots.size ≤ _); rw [arrV_size]; exact hin) (by show (arrV _ _ _).slots[_]? = _; rw [arrV_read _ _ hlt]; rfl) rfl rfl hdg kk
end CS

abbrev wC (ad : Nat → Nat) (tI tL tII tLL : ClassId) (cnt : Int32) (w : Nat → Nat → Int32) (tot : Nat → Int32) (rew : Nat → Int32) (grp : Nat → Int32) (fin : Nat → Int32) (gns : Nat → Int64) (rst : Nat → Int32) (rws : Nat → Nat → Int64) (last : Int32) (now : Nat → Int64) (nxt : Nat → Int64) (whl : Int64) (au : Int64) (al : Int64) (mu : Int64) (ml : Int64) : va_W := [((ad 0), .inr (6, [.ref (ad 1), .ref (ad 12), .ref (ad 13), .ref (ad 16), .ref (ad 28), .ref (ad 31), .ref (ad 32)])),
  ((ad 1), .inr (0, [.ref (ad 2), .ref (ad 10), .ref (ad 11), .int cnt])),
  ((ad 2), .inl (tII, 7, .inr (.inr (.inr (.inr (fun i => some (gR ad 3 i))))))),
  ((gR ad 3 0), .inl (tI, 7, .inl (w 0))),
  ((gR ad 3 1), .inl (tI, 7, .inl (w 1))),
  ((gR ad 3 2), .inl (tI, 7, .inl (w 2))),
  ((gR ad 3 3), .inl (tI, 7, .inl (w 3))),
  ((gR ad 3 4), .inl (tI, 7, .inl (w 4))),
  ((gR ad 3 5), .inl (tI, 7, .inl (w 5))),
  ((gR ad 3 6), .inl (tI, 7, .inl (w 6))),
  ((ad 10), .inl (tI, 7, .inl tot)),
  ((ad 11), .inl (tI, 7, .inl rew)),
  ((ad 12), .inr (5, [.ref (ad 1)])),
  ((ad 13), .inr (3, [.ref (ad 1), .ref (ad 14), .ref (ad 15)])),
  ((ad 14), .inl (tI, 7, .inl grp)),
  ((ad 15), .inl (tI, 7, .inl fin)),
  ((ad 16), .inr (1, [.ref (ad 1), .ref (ad 17), .ref (ad 18), .ref (ad 19), .int last])),
  ((ad 17), .inl (tL, 7, .inr (.inl gns))),
  ((ad 18), .inl (tI, 8, .inl rst)),
  ((ad 19), .inl (tLL, 8, .inr (.inr (.inr (.inr (fun i => some (gR ad 20 i))))))),
  ((gR ad 20 0), .inl (tL, 9, .inr (.inl (rws 0)))),
  ((gR ad 20 1), .inl (tL, 9, .inr (.inl (rws 1)))),
  ((gR ad 20 2), .inl (tL, 9, .inr (.inl (rws 2)))),
  ((gR ad 20 3), .inl (tL, 9, .inr (.inl (rws 3)))),
  ((gR ad 20 4), .inl (tL, 9, .inr (.inl (rws 4)))),
  ((gR ad 20 5), .inl (tL, 9, .inr (.inl (rws 5)))),
  ((gR ad 20 6), .inl (tL, 9, .inr (.inl (rws 6)))),
  ((gR ad 20 7), .inl (tL, 9, .inr (.inl (rws 7)))),
  ((ad 28), .inr (4, [.ref (ad 1), .ref (ad 29), .ref (ad 30), .long whl])),
  ((ad 29), .inl (tL, 7, .inr (.inl now))),
  ((ad 30), .inl (tL, 7, .inr (.inl nxt))),
  ((ad 31), .inr (2, [.long au, .long al])),
  ((ad 32), .inr (2, [.long mu, .long ml]))]
theorem wC_row_we {ad : Nat → Nat} {tI tL tII tLL : ClassId} {cnt : Int32} {w : Nat → Nat → Int32} {tot : Nat → Int32} {rew : Nat → Int32} {grp : Nat → Int32} {fin : Nat → Int32} {gns : Nat → Int64} {rst : Nat → Int32} {rws : Nat → Nat → Int64} {last : Int32} {now : Nat → Int64} {nxt : Nat → Int64} {whl : Int64} {au : Int64} {al : Int64} {mu : Int64} {ml : Int64} : ∀ {k : Nat}, k < 7 → (wC ad tI tL tII tLL cnt w tot rew grp fin gns rst rws last now nxt whl au al mu ml)[2 + 1 + k]? = some (gR ad 3 k, .inl (tI, 7, .inl (w k)))
  | 0, _ => rfl
  | 1, _ => rfl
  | 2, _ => rfl
  | 3, _ => rfl
  | 4, _ => rfl
  | 5, _ => rfl
  | 6, _ => rfl
  | k + 7, h => absurd h (by omega)
theorem wC_set_we {ad : Nat → Nat} {tI tL tII tLL : ClassId} {cnt : Int32} {w : Nat → Nat → Int32} {tot : Nat → Int32} {rew : Nat → Int32} {grp : Nat → Int32} {fin : Nat → Int32} {gns : Nat → Int64} {rst : Nat → Int32} {rws : Nat → Nat → Int64} {last : Int32} {now : Nat → Int64} {nxt : Nat → Int64} {whl : Int64} {au : Int64} {al : Int64} {mu : Int64} {ml : Int64} {f : Nat → Int32} : ∀ {k : Nat}, k < 7 → (wC ad tI tL tII tLL cnt w tot rew grp fin gns rst rws last now nxt whl au al mu ml).set (2 + 1 + k) (gR ad 3 k, .inl (tI, 7, .inl f)) = wC ad tI tL tII tLL cnt (va_up w k f) tot rew grp fin gns rst rws last now nxt whl au al mu ml
  | 0, _ => rfl
  | 1, _ => rfl
  | 2, _ => rfl
  | 3, _ => rfl
  | 4, _ => rfl
  | 5, _ => rfl
  | 6, _ => rfl
  | k + 7, h => absurd h (by omega)
theorem wC_row_ro {ad : Nat → Nat} {tI tL tII tLL : ClassId} {cnt : Int32} {w : Nat → Nat → Int32} {tot : Nat → Int32} {rew : Nat → Int32} {grp : Nat → Int32} {fin : Nat → Int32} {gns : Nat → Int64} {rst : Nat → Int32} {rws : Nat → Nat → Int64} {last : Int32} {now : Nat → Int64} {nxt : Nat → Int64} {whl : Int64} {au : Int64} {al : Int64} {mu : Int64} {ml : Int64} : ∀ {k : Nat}, k < 8 → (wC ad tI tL tII tLL cnt w tot rew grp fin gns rst rws last now nxt whl au al mu ml)[19 + 1 + k]? = some (gR ad 20 k, .inl (tL, 9, .inr (.inl (rws k))))
  | 0, _ => rfl
  | 1, _ => rfl
  | 2, _ => rfl
  | 3, _ => rfl
  | 4, _ => rfl
  | 5, _ => rfl
  | 6, _ => rfl
  | 7, _ => rfl
  | k + 8, h => absurd h (by omega)
theorem wC_set_ro {ad : Nat → Nat} {tI tL tII tLL : ClassId} {cnt : Int32} {w : Nat → Nat → Int32} {tot : Nat → Int32} {rew : Nat → Int32} {grp : Nat → Int32} {fin : Nat → Int32} {gns : Nat → Int64} {rst : Nat → Int32} {rws : Nat → Nat → Int64} {last : Int32} {now : Nat → Int64} {nxt : Nat → Int64} {whl : Int64} {au : Int64} {al : Int64} {mu : Int64} {ml : Int64} {f : Nat → Int64} : ∀ {k : Nat}, k < 8 → (wC ad tI tL tII tLL cnt w tot rew grp fin gns rst rws last now nxt whl au al mu ml).set (19 + 1 + k) (gR ad 20 k, .inl (tL, 9, .inr (.inl f))) = wC ad tI tL tII tLL cnt w tot rew grp fin gns rst (va_up rws k f) last now nxt whl au al mu ml
  | 0, _ => rfl
  | 1, _ => rfl
  | 2, _ => rfl
  | 3, _ => rfl
  | 4, _ => rfl
  | 5, _ => rfl
  | 6, _ => rfl
  | 7, _ => rfl
  | k + 8, h => absurd h (by omega)
abbrev wF (a : Nat) (u : Int64) (lo : Int64) : va_W := [(a, .inr (2, [.long u, .long lo]))]
abbrev wM (ad : Nat → Nat) (tI tL tII tLL : ClassId) (thr : Int32) (sts : Int32) (wgt : Nat → Int32) (rwd : Nat → Int32) (up : Int64) (dn : Int64) (cel : Nat → Int64) (rig : Nat → Int64) (sum : Nat → Int64) (gp : Nat → Int32) (bst : Nat → Int32) (few : Int32) : va_W := [((ad 0), .inr (7, [.int thr, .int sts, .ref (ad 1), .ref (ad 2), .long up, .long dn, .ref (ad 3), .ref (ad 4), .ref (ad 5), .ref (ad 6), .ref (ad 7), .int few])),
  ((ad 1), .inl (tI, 49, .inl wgt)),
  ((ad 2), .inl (tI, 7, .inl rwd)),
  ((ad 3), .inl (tL, 49, .inr (.inl cel))),
  ((ad 4), .inl (tL, 7, .inr (.inl rig))),
  ((ad 5), .inl (tL, 128, .inr (.inl sum))),
  ((ad 6), .inl (tI, 7, .inl gp)),
  ((ad 7), .inl (tI, 7, .inl bst))]
