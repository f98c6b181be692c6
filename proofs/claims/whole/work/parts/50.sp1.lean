/-! SP1: what the class's small methods answer, in numbers of the chain -/
def okW (n : Nat) (W : Nat → Nat → Nat) : Prop := n ≤ 7 ∧ (∀ i j, W i j ≤ 9) ∧ (∀ i, ch_T W i n ≤ 12) ∧ (∀ i j, n ≤ i ∨ n ≤ j → W i j = 0)
def repC (n : Nat) (W : Nat → Nat → Nat) (cnt : Int32) (w : Nat → Nat → Int32) (tot : Nat → Int32) : Prop := okW n W ∧ cnt = nI n ∧ (∀ i j, i < 7 → j < 7 → w i j = nI (W i j)) ∧ (∀ i, i < 7 → tot i = nI (ch_T W i n))
/-- the upper and the lower number of a step's odds -/
def ch_p (n : Nat) (W : Nat → Nat → Nat) (i j : Nat) : Nat := if ch_T W i n = 0 then (if i = j then 1 else 0) else W i j
def ch_t (n : Nat) (W : Nat → Nat → Nat) (i : Nat) : Nat := if ch_T W i n = 0 then 1 else ch_T W i n
theorem s_holds (x : Int32) {k : Nat} (hk : k < 32) : f_holds x (nI k) = some (if bt x k = true then 1 else 0) := by
  unfold f_holds
  rw [b_bit x k hk]
  cases bt x k <;> decide
theorem s_has {n : Nat} (hn : n ≤ 7) {cnt : Int32} (hc : cnt = nI n) (x : Int32) : (∃ k, k < n ∧ x = nI k ∧ f_Chain_has cnt x = some 1) ∨ (f_Chain_has cnt x = some 0 ∧ ∀ k, k < n → x ≠ nI k) := by
  unfold f_Chain_has
  subst hc
  by_cases h1 : x < 0
  · rw [if_pos h1]
    refine Or.inr ⟨rfl, fun k hk e => ?_⟩
    subst e
    exact nI_pos (by omega) h1
  · obtain ⟨j, hj, rfl⟩ := nI_of h1
    rw [if_neg h1]
    by_cases h2 : nI n ≤ nI j
    · rw [if_pos h2]
      refine Or.inr ⟨rfl, fun k hk e => ?_⟩
      have := (nI_leI (by omega) hj).mp h2
      have := (nI_eq hj (by omega)).mp e
      omega
    · rw [if_neg h2]
      refine Or.inl ⟨j, ?_, rfl, rfl⟩
      refine Nat.not_le.mp (fun h3 => h2 ?_)
      exact (nI_leI (by omega) hj).mpr h3
section
variable {n : Nat} {W : Nat → Nat → Nat} {cnt : Int32} {w : Nat → Nat → Int32} {tot : Nat → Int32}
theorem s_isEnd (h : repC n W cnt w tot) {i : Nat} (hi : i < 7) : f_Chain_isEnd tot (nI i) = some (if ch_T W i n = 0 then 1 else 0) := by
  obtain ⟨⟨h7, h9, h12, hz⟩, hc, hw, ht⟩ := h
  unfold f_Chain_isEnd
  rw [if_pos (ix_nI hi (by omega)), nI_clamp (by omega), ht i hi]
  by_cases e : ch_T W i n = 0
  · rw [if_pos e, e, if_pos nI_0]
  · rw [if_neg e, if_neg (nI_ne0 (by omega) (by have := h12 i; omega))]
theorem s_pull (h : repC n W cnt w tot) {i j : Nat} (hi : i < 7) (hj : j < 7) : f_Chain_pull w tot (nI i) (nI j) = some (nI (ch_p n W i j)) := by
  have he := s_isEnd h hi
  obtain ⟨⟨h7, h9, h12, hz⟩, hc, hw, ht⟩ := h
  unfold f_Chain_pull ch_p
  rw [he]
  by_cases e : ch_T W i n = 0
  · simp only [if_pos e, Option.bind_some]
    rw [if_neg (by decide)]
    by_cases e2 : i = j
    · subst e2; rw [if_pos rfl, if_pos rfl]; rfl
    · rw [if_neg (fun z => e2 ((nI_eq (by omega) (by omega)).mp z)), if_neg e2]; rfl
  · simp only [if_neg e, Option.bind_some]
    rw [if_pos trivial, if_pos (ix_nI hi (by omega)), if_pos (ix_nI hj (by omega)), nI_clamp (by omega), nI_clamp (by omega), hw i j hi hj]
theorem s_pullOfAll (h : repC n W cnt w tot) {i : Nat} (hi : i < 7) : f_Chain_pullOfAll tot (nI i) = some (nI (ch_t n W i)) := by
  have he := s_isEnd h hi
  obtain ⟨⟨h7, h9, h12, hz⟩, hc, hw, ht⟩ := h
  unfold f_Chain_pullOfAll ch_t
  rw [he]
  by_cases e : ch_T W i n = 0
  · simp only [if_pos e, Option.bind_some]
    rw [if_neg (by decide)]; rfl
  · simp only [if_neg e, Option.bind_some]
    rw [if_pos trivial, if_pos (ix_nI hi (by omega)), nI_clamp (by omega), ht i hi]
/-- the sum of f over the states of x below m -/
def ch_sm (x : Int32) (f : Nat → Nat) : Nat → Nat
  | 0 => 0
  | m + 1 => ch_sm x f m + (if bt x m = true then f m else 0)
theorem s_pullInto (h : repC n W cnt w tot) {i : Nat} (hi : i < 7) (x : Int32) : f_Chain_pullInto cnt w tot (nI i) x = some (nI (ch_sm x (ch_p n W i) n)) := by
  have hp := fun j (hj : j < 7) => s_pull h hi hj
  obtain ⟨⟨h7, h9, h12, hz⟩, hc, hw, ht⟩ := h
  unfold f_Chain_pullInto f_Chain_pullInto_L5
  obtain ⟨t, e, hQ⟩ := lp_run0 (fun s => f_Chain_pullInto_B5 cnt w tot (nI i) x s.1 s.2) (fun k s => s = (nI (ch_sm x (ch_p n W i) k), nI k)) (fun t => t.1 = nI (ch_sm x (ch_p n W i) n)) n 300 (0, 0) (by omega) rfl
    (fun k s hk hs => by
      subst hs
      simp only [f_Chain_pullInto_B5, hc]
      rw [if_neg (nI_ge hk (by omega)), s_holds x (by omega), Option.bind_some]
      cases hb : bt x k
      · refine ⟨_, rfl, ?_⟩
        simp only [ch_sm, hb, nI_1]
        rfl
      · rw [hp k (by omega)]
        refine ⟨_, rfl, ?_⟩
        simp only [ch_sm, hb, nI_1, nI_add, if_true])
    (fun s hs => by
      subst hs
      simp only [f_Chain_pullInto_B5, hc]
      rw [if_pos (nI_le (Nat.le_refl n) (by omega))]
      exact ⟨_, rfl, rfl⟩)
  rw [e]
  obtain ⟨t1, t2⟩ := t
  simp only [Option.bind_some]
  rw [show t1 = _ from hQ]
theorem s_nextOnes (h : repC n W cnt w tot) {i : Nat} (hi : i < 7) : ∃ x, f_Chain_nextOnes cnt w tot (nI i) = some x ∧ isS x n (fun j => 0 < ch_p n W i j) := by
  have hp := fun j (hj : j < 7) => s_pull h hi hj
  obtain ⟨⟨h7, h9, h12, hz⟩, hc, hw, ht⟩ := h
  unfold f_Chain_nextOnes f_Chain_nextOnes_L4
  have hle : ∀ j, ch_p n W i j < 2 ^ 31 := fun j => by
    unfold ch_p
    have := h9 i j
    split
    · split <;> omega
    · omega
  obtain ⟨t, e, hQ⟩ := lp_run0 (fun s => f_Chain_nextOnes_B4 cnt w tot (nI i) s.1 s.2) (fun k s => s.2 = nI k ∧ isS s.1 n (fun j => j < k ∧ 0 < ch_p n W i j)) (fun t => isS t.1 n (fun j => 0 < ch_p n W i j)) n 300 (0, 0) (by omega) ⟨rfl, isS_congr isS_0 (fun j _ => ⟨fun z => z.elim, fun z => by omega⟩)⟩
    (fun k s hk hs => by
      obtain ⟨s1, s2⟩ := s
      obtain ⟨e1, e2⟩ := hs
      dsimp only at e1 e2
      subst e1
      simp only [f_Chain_nextOnes_B4, hc]
      rw [if_neg (nI_ge hk (by omega)), hp k (by omega), Option.bind_some]
      by_cases hb : ch_p n W i k = 0
      · rw [hb, if_pos nI_0]
        refine ⟨_, rfl, nI_1 k, isS_congr e2 (fun j _ => ⟨fun z => ⟨by omega, z.2⟩, fun z => ⟨?_, z.2⟩⟩)⟩
        rcases Nat.lt_or_ge j k with q | q
        · exact q
        · have : j = k := by omega
          subst this; omega
      · rw [if_neg (nI_ne0 (by omega) (hle k))]
        refine ⟨_, rfl, nI_1 k, isS_congr (isS_or e2 (isS_one hk h7)) (fun j _ => ⟨?_, ?_⟩)⟩
        · rintro (z | z)
          · exact ⟨by omega, z.2⟩
          · subst z; exact ⟨by omega, by omega⟩
        · rintro ⟨z1, z2⟩
          rcases Nat.lt_or_ge j k with q | q
          · exact Or.inl ⟨q, z2⟩
          · exact Or.inr (by omega))
    (fun s hs => by
      obtain ⟨s1, s2⟩ := s
      obtain ⟨e1, e2⟩ := hs
      dsimp only at e1 e2
      subst e1
      simp only [f_Chain_nextOnes_B4, hc]
      rw [if_pos (nI_le (Nat.le_refl n) (by omega))]
      exact ⟨_, rfl, isS_congr e2 (fun j hj => ⟨fun z => z.2, fun z => ⟨hj, z⟩⟩)⟩)
  obtain ⟨t1, t2⟩ := t
  exact ⟨t1, by rw [e]; rfl, hQ⟩
end
