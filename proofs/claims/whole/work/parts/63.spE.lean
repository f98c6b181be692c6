/-! SPE: the reference's rows: fix, lay -/
def md_B (n : Nat) (W : Nat → Nat → Nat) (o : Nat → Bool) (s t : Nat) : Int := if o s = true then (if t = s then (ch_T W s n : Int) else 0) - (W s t : Int) else (if t = s then 1 else 0)
theorem i7 {s t : Nat} : (7 : Int32) * nI s + nI t = nI (7 * s + t) := by
  have e7 : (7 : Int32) = nI 7 := by decide
  rw [e7, pk_mul, nI_add]
theorem nI_subL {p q : Nat} (hp : p < 1000) (hq : q < 1000) : (nI p - nI q).toInt64 = lI ((p : Int) - q) := by
  rw [← Int64.ofInt_int32ToInt, pk_sub_toInt (by omega) (by omega)]
  rfl
/-- row s is laid, the others are as they were -/
def md_row (n s : Nat) (f : Nat → Int) (v : Int64) (cel rig cel' rig' : Nat → Int64) : Prop := (∀ t, t < n → cel' (7 * s + t) = lI (f t)) ∧ rig' s = v ∧ (∀ s' t, s' ≠ s → s' < 7 → t < 7 → cel' (7 * s' + t) = cel (7 * s' + t)) ∧ ∀ s', s' ≠ s → rig' s' = rig s'
theorem s_fix {n : Nat} (hn : n ≤ 7) (cel rig : Nat → Int64) {s : Nat} (hs : s < n) (v : Int64) : ∃ cel' rig', f_M_fix (nI n) cel rig (nI s) v = some (cel', rig') ∧ md_row n s (fun t => if t = s then 1 else 0) v cel rig cel' rig' := by
  unfold f_M_fix
  have hL : ∃ t, f_M_fix_L3 (nI n) (nI s) 300 (0 : Int32) cel = some t ∧ (∀ u, u < n → t.2 (7 * s + u) = lI (if u = s then 1 else 0)) ∧ (∀ s' t', s' ≠ s → s' < 7 → t' < 7 → t.2 (7 * s' + t') = cel (7 * s' + t')) := by
    unfold f_M_fix_L3
    refine lp_run0 (fun q => f_M_fix_B3 (nI n) (nI s) q.1 q.2) (fun k q => q.1 = nI k ∧ (∀ u, u < k → q.2 (7 * s + u) = lI (if u = s then 1 else 0)) ∧ (∀ s' t', s' ≠ s → s' < 7 → t' < 7 → q.2 (7 * s' + t') = cel (7 * s' + t'))) _ n 300 (0, cel) (by omega) ⟨rfl, fun u hu => by omega, fun _ _ _ _ _ => rfl⟩
      (fun k q hk hq => by
        obtain ⟨q1, q2⟩ := q
        obtain ⟨e1, e2, e3⟩ := hq
        dsimp only at e1 e2 e3
        subst e1
        simp only [f_M_fix_B3, i7]
        rw [if_neg (nI_ge hk (by omega)), if_pos (ix_nI (by omega) (by omega)), if_pos (ix_nI (by omega) (by omega)), nI_clamp (by omega)]
        have fin : ∀ v : Int64, v = lI (if k = s then 1 else 0) → (∀ u, u < k + 1 → vp_updL q2 (7 * s + k) v (7 * s + u) = lI (if u = s then 1 else 0)) ∧ (∀ s' t', s' ≠ s → s' < 7 → t' < 7 → vp_updL q2 (7 * s + k) v (7 * s' + t') = cel (7 * s' + t')) := fun v hv => by
          refine ⟨fun u hu => ?_, fun s' t' h1 h2 h3 => ?_⟩
          · by_cases e : u = k
            · subst e; rw [pk_uLs, hv]
            · rw [pk_uLn (by omega)]; exact e2 u (by omega)
          · rw [pk_uLn (by omega)]; exact e3 s' t' h1 h2 h3
        by_cases hks : k = s
        · rw [if_pos (by rw [hks])]
          exact ⟨_, rfl, nI_1 k, fin _ (by rw [if_pos hks]; rfl)⟩
        · rw [if_neg (fun z => hks ((nI_eq (by omega) (by omega)).mp z))]
          exact ⟨_, rfl, nI_1 k, fin _ (by rw [if_neg hks]; rfl)⟩)
      (fun q hq => by
        obtain ⟨q1, q2⟩ := q
        obtain ⟨e1, e2, e3⟩ := hq
        dsimp only at e1 e2 e3
        subst e1
        simp only [f_M_fix_B3]
        rw [if_pos (nI_le (Nat.le_refl n) (by omega))]
        exact ⟨_, rfl, e2, e3⟩)
  obtain ⟨⟨t1, t2⟩, e, h1, h2⟩ := hL
  dsimp only at h1 h2
  rw [e]
  simp only [Option.bind_some]
  rw [if_pos (ix_nI (by omega) (by omega)), nI_clamp (by omega)]
  exact ⟨_, _, rfl, h1, pk_uLs, h2, fun s' hs' => pk_uLn hs'⟩
theorem s_lay {n : Nat} {W : Nat → Nat → Nat} {sts : Int32} {wgt : Nat → Int32} (h : repM n W sts wgt) (cel rig : Nat → Int64) {s : Nat} (hs : s < n) (v : Int64) : ∃ cel' rig', f_M_lay sts wgt cel rig (nI s) v = some (cel', rig') ∧ md_row n s (fun t => (if t = s then (ch_T W s n : Int) else 0) - (W s t : Int)) v cel rig cel' rig' := by
  have hw := fun j (hj : j < 7) => s_Mw h (i := s) (by have := h.1.1; omega) hj
  have ht := s_Mtotal h (i := s) (by have := h.1.1; omega)
  obtain ⟨⟨h7, h9, h12, hz⟩, hc, -⟩ := h
  unfold f_M_lay
  have hL : ∃ t, f_M_lay_L3 sts wgt (nI s) 300 (0 : Int32) cel = some t ∧ (∀ u, u < n → t.2 (7 * s + u) = lI ((if u = s then (ch_T W s n : Int) else 0) - (W s u : Int))) ∧ (∀ s' t', s' ≠ s → s' < 7 → t' < 7 → t.2 (7 * s' + t') = cel (7 * s' + t')) := by
    unfold f_M_lay_L3
    refine lp_run0 (fun q => f_M_lay_B3 sts wgt (nI s) q.1 q.2) (fun k q => q.1 = nI k ∧ (∀ u, u < k → q.2 (7 * s + u) = lI ((if u = s then (ch_T W s n : Int) else 0) - (W s u : Int))) ∧ (∀ s' t', s' ≠ s → s' < 7 → t' < 7 → q.2 (7 * s' + t') = cel (7 * s' + t'))) _ n 300 (0, cel) (by omega) ⟨rfl, fun u hu => by omega, fun _ _ _ _ _ => rfl⟩
      (fun k q hk hq => by
        obtain ⟨q1, q2⟩ := q
        obtain ⟨e1, e2, e3⟩ := hq
        dsimp only at e1 e2 e3
        subst e1
        simp only [f_M_lay_B3, i7]
        rw [ht, hw k (by omega)]
        simp only [hc]
        rw [if_neg (nI_ge hk (by omega))]
        have hj : (if nI k = nI s then Option.bind (some (nI (ch_T W s n))) (fun r7 => some r7) else some (0 : Int32)) = some (nI (if k = s then ch_T W s n else 0)) := by
          by_cases hks : k = s
          · rw [if_pos (by rw [hks]), if_pos hks]; rfl
          · rw [if_neg (fun z => hks ((nI_eq (by omega) (by omega)).mp z)), if_neg hks]; rfl
        rw [hj]
        simp only [Option.bind_some]
        rw [if_pos (ix_nI (by omega) (by omega)), nI_clamp (by omega), nI_subL (by have := h12 s; split <;> omega) (by have := h9 s k; omega)]
        refine ⟨_, rfl, nI_1 k, fun u hu => ?_, fun s' t' a1 a2 a3 => ?_⟩
        · dsimp only
          by_cases e : u = k
          · subst e
            rw [pk_uLs]
            refine congrArg lI ?_
            split <;> rfl
          · rw [pk_uLn (by omega)]; exact e2 u (by omega)
        · dsimp only
          rw [pk_uLn (by omega)]; exact e3 s' t' a1 a2 a3)
      (fun q hq => by
        obtain ⟨q1, q2⟩ := q
        obtain ⟨e1, e2, e3⟩ := hq
        dsimp only at e1 e2 e3
        subst e1
        simp only [f_M_lay_B3, hc]
        rw [if_pos (nI_le (Nat.le_refl n) (by omega))]
        exact ⟨_, rfl, e2, e3⟩)
  obtain ⟨⟨t1, t2⟩, e, h1, h2⟩ := hL
  dsimp only at h1 h2
  rw [e]
  simp only [Option.bind_some]
  rw [if_pos (ix_nI (by omega) (by omega)), nI_clamp (by omega)]
  exact ⟨_, _, rfl, h1, pk_uLs, h2, fun s' hs' => pk_uLn hs'⟩
/-- the rows below k are laid: o says which by their arcs, v the right numbers -/
def md_ok (n : Nat) (W : Nat → Nat → Nat) (o : Nat → Bool) (v : Nat → Int) (k : Nat) (cel rig : Nat → Int64) : Prop := ∀ s, s < k → (∀ t, t < n → cel (7 * s + t) = lI (md_B n W o s t)) ∧ rig s = lI (v s)
theorem md_step {n : Nat} {W : Nat → Nat → Nat} {o : Nat → Bool} {v : Nat → Int} {k : Nat} {cel rig cel' rig' : Nat → Int64} (hn : n ≤ 7) (hk : k < n) (h : md_ok n W o v k cel rig) {f : Nat → Int} {w : Int64} (hr : md_row n k f w cel rig cel' rig') (hf : ∀ t, t < n → f t = md_B n W o k t) (hw : w = lI (v k)) : md_ok n W o v (k + 1) cel' rig' := by
  intro s hs
  obtain ⟨r1, r2, r3, r4⟩ := hr
  by_cases e : s = k
  · subst e
    exact ⟨fun t ht => by rw [r1 t ht, hf t ht], by rw [r2, hw]⟩
  · have h0 := h s (by omega)
    exact ⟨fun t ht => by rw [r3 s t e (by omega) (by omega)]; exact h0.1 t ht, by rw [r4 s e]; exact h0.2⟩
theorem md_fixed {n : Nat} {W : Nat → Nat → Nat} {o : Nat → Bool} {k : Nat} (h : ¬ o k = true) (t : Nat) : (fun t => if t = k then (1 : Int) else 0) t = md_B n W o k t := by unfold md_B; rw [if_neg h]
theorem md_laid {n : Nat} {W : Nat → Nat → Nat} {o : Nat → Bool} {k : Nat} (h : o k = true) (t : Nat) : (fun t => (if t = k then (ch_T W k n : Int) else 0) - (W k t : Int)) t = md_B n W o k t := by unfold md_B; rw [if_pos h]
