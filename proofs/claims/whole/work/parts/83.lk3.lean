/-! LK3: the class's search for groups -/
theorem lk_i32 {a b : Int} (ha : a.natAbs ≤ 100) (hb : b.natAbs ≤ 100) : Int32.ofInt a = Int32.ofInt b ↔ a = b := by
  refine ⟨fun e => ?_, fun e => by rw [e]⟩
  have h1 : (Int32.ofInt a).toInt = a := Int32.toInt_ofInt_of_le (by omega) (by omega)
  have h2 : (Int32.ofInt b).toInt = b := Int32.toInt_ofInt_of_le (by omega) (by omega)
  rw [← h1, ← h2, e]
theorem lk_S_one (g : Nat → Nat) (a c : Nat) : ∀ m, lk_S g (fun j => if a = j then 1 else 0) c m = if a < m ∧ g a = c then 1 else 0 := by
  intro m
  induction m with
  | zero => rw [if_neg (by omega)]; rfl
  | succ m ih =>
    simp only [lk_S, ih]
    by_cases e : a = m
    · subst e
      by_cases q : g a = c
      · simp [q]
      · simp [q]
    · have z : (a < m + 1 ∧ g a = c) ↔ (a < m ∧ g a = c) := by omega
      rw [if_neg e, ite_self, Nat.add_zero]
      simp only [z]
section
variable {n : Nat} {W : Nat → Nat → Nat} {R : Nat → Int} {cnt : Int32} {w : Nat → Nat → Int32} {tot rew : Nat → Int32}
theorem lk_Sp {g : Nat → Nat} {a b : Nat} (ha : a < n) (hb : b < n) (he : ch_T W a n = 0 ↔ ch_T W b n = 0) (hg : g a = g b) (c : Nat) : lk_S g (ch_p n W a) c n * ch_t n W b = lk_S g (ch_p n W b) c n * ch_t n W a ↔ lk_S g (W a) c n * ch_T W b n = lk_S g (W b) c n * ch_T W a n := by
  by_cases e : ch_T W a n = 0
  · have e' := he.mp e
    have p1 : ch_p n W a = fun j => if a = j then 1 else 0 := by funext j; unfold ch_p; rw [if_pos e]
    have p2 : ch_p n W b = fun j => if b = j then 1 else 0 := by funext j; unfold ch_p; rw [if_pos e']
    rw [p1, p2, lk_S_one, lk_S_one]
    unfold ch_t
    rw [if_pos e, if_pos e', e, e', hg]
    simp [ha, hb]
  · have e' : ¬ ch_T W b n = 0 := fun q => e (he.mpr q)
    have p1 : ch_p n W a = W a := by funext j; unfold ch_p; rw [if_neg e]
    have p2 : ch_p n W b = W b := by funext j; unfold ch_p; rw [if_neg e']
    rw [p1, p2]
    unfold ch_t
    rw [if_neg e, if_neg e']
theorem lk_Sp_le (hW : okW n W) (g : Nat → Nat) (a c : Nat) : lk_S g (ch_p n W a) c n ≤ 12 ∧ ch_t n W a ≤ 12 := by
  by_cases e : ch_T W a n = 0
  · have p1 : ch_p n W a = fun j => if a = j then 1 else 0 := by funext j; unfold ch_p; rw [if_pos e]
    rw [p1, lk_S_one]
    unfold ch_t
    rw [if_pos e]
    constructor
    · split <;> omega
    · omega
  · have p1 : ch_p n W a = W a := by funext j; unfold ch_p; rw [if_neg e]
    rw [p1]
    unfold ch_t
    rw [if_neg e]
    have := lk_S_le g W a c n
    have := hW.2.2.1 a
    omega
theorem nI_mul (a b : Nat) : nI a * nI b = nI (a * b) := (Int32.ofNat_mul a b).symm
theorem s_membersOf (h7 : n ≤ 7) (hc : cnt = nI n) {grp : Nat → Int32} {g : Nat → Nat} (hg : ∀ i, i < n → grp i = nI (g i) ∧ g i < n) {c : Nat} (hcn : c < n) : ∃ x, f_Likeness_membersOf cnt grp (nI c) = some x ∧ isS x n (fun i => g i = c) := by
  unfold f_Likeness_membersOf f_Likeness_membersOf_L4
  obtain ⟨t, e, hQ⟩ := lp_run0 (fun s => f_Likeness_membersOf_B4 cnt grp (nI c) s.1 s.2) (fun k s => s.2 = nI k ∧ isS s.1 n (fun i => i < k ∧ g i = c)) (fun t => isS t.1 n (fun i => g i = c)) n 300 ((0 : Int32), (0 : Int32)) (by omega) ⟨rfl, isS_congr isS_0 (fun i _ => ⟨fun q => q.elim, fun q => by omega⟩)⟩
    (fun k s hk hs => by
      obtain ⟨s1, s2⟩ := s
      obtain ⟨rfl, h2⟩ := hs
      dsimp only at h2
      simp only [f_Likeness_membersOf_B4, hc]
      rw [if_neg (nI_ge hk (by omega)), if_pos (ix_nI (by omega) (by omega)), nI_clamp (by omega), (hg k hk).1]
      have hb := (hg k hk).2
      by_cases q : g k = c
      · rw [if_pos (by rw [q])]
        refine ⟨_, rfl, nI_1 k, isS_congr (isS_or h2 (isS_one hk h7)) (fun i hi => ?_)⟩
        constructor
        · rintro (z | z)
          · exact ⟨by omega, z.2⟩
          · exact ⟨by omega, by rw [z]; exact q⟩
        · rintro ⟨z1, z2⟩
          by_cases e : i = k
          · exact Or.inr e
          · exact Or.inl ⟨by omega, z2⟩
      · rw [if_neg (fun z => q ((nI_eq (by omega) (by omega)).mp z))]
        refine ⟨_, rfl, nI_1 k, isS_congr h2 (fun i hi => ?_)⟩
        constructor
        · rintro z
          exact ⟨by omega, z.2⟩
        · rintro ⟨z1, z2⟩
          refine ⟨?_, z2⟩
          by_cases e : i = k
          · subst e; exact absurd z2 q
          · omega)
    (fun s hs => by
      obtain ⟨s1, s2⟩ := s
      obtain ⟨rfl, h2⟩ := hs
      simp only [f_Likeness_membersOf_B4, hc]
      rw [if_pos (nI_le (Nat.le_refl n) (by omega))]
      exact ⟨_, rfl, isS_congr h2 (fun i hi => ⟨fun z => z.2, fun z => ⟨hi, z⟩⟩)⟩)
  rw [e]
  obtain ⟨t1, t2⟩ := t
  exact ⟨t1, rfl, hQ⟩
theorem ch_sm_S {x : Int32} {g : Nat → Nat} {c : Nat} (h7 : n ≤ 7) (hx : isS x n (fun i => g i = c)) (f : Nat → Nat) : ∀ m, m ≤ n → ch_sm x f m = lk_S g f c m := by
  intro m
  induction m with
  | zero => intro _; rfl
  | succ m ih =>
    intro hm
    simp only [ch_sm, lk_S, ih (by omega)]
    by_cases q : g m = c
    · rw [if_pos q, if_pos ((isS_in hx (by omega) h7).mpr q)]
    · rw [if_neg q, if_neg (fun z => q ((isS_in hx (by omega) h7).mp z))]
theorem s_looksLike (h : repC n W cnt w tot) (hR : ∀ i, i < 7 → rew i = Int32.ofInt (R i) ∧ (R i).natAbs ≤ 100) {grp : Nat → Int32} {g : Nat → Nat} (hg : ∀ i, i < n → grp i = nI (g i) ∧ g i < n) {a b : Nat} (ha : a < n) (hb : b < n) (hab : g a = g b) : (f_Likeness_looksLike cnt w tot rew grp (nI a) (nI b) = some 1 ∧ lk_f n W R g n a b) ∨ (f_Likeness_looksLike cnt w tot rew grp (nI a) (nI b) = some 0 ∧ ¬ lk_f n W R g n a b) := by
  have hW := h.1
  have h7 := hW.1
  have hc := h.2.1
  unfold f_Likeness_looksLike
  rw [s_isEnd h (show a < 7 by omega), s_isEnd h (show b < 7 by omega)]
  simp only [Option.bind_some]
  by_cases he : ch_T W a n = 0 ↔ ch_T W b n = 0
  · rw [if_pos (show (if ch_T W a n = 0 then (1 : Int32) else 0) = (if ch_T W b n = 0 then (1 : Int32) else 0) by
      by_cases q : ch_T W a n = 0
      · rw [if_pos q, if_pos (he.mp q)]
      · rw [if_neg q, if_neg (fun z => q (he.mpr z))])]
    rw [if_pos (ix_nI (by omega) (by omega)), if_pos (ix_nI (by omega) (by omega)), nI_clamp (by omega), nI_clamp (by omega), (hR a (by omega)).1, (hR b (by omega)).1]
    by_cases hr : R a = R b
    · rw [if_pos (by rw [hr])]
      unfold f_Likeness_looksLike_L44
      obtain ⟨t, e, hQ⟩ := lp_run0 (fun s => f_Likeness_looksLike_B44 cnt w tot grp (nI a) (nI b) s) (fun k s => s = nI k ∧ ∀ c, c < k → lk_S g (W a) c n * ch_T W b n = lk_S g (W b) c n * ch_T W a n) (fun t => (∃ u, t = .inl u ∧ lk_f n W R g n a b) ∨ (t = .inr 0 ∧ ¬ lk_f n W R g n a b)) n 300 (0 : Int32) (by omega) ⟨rfl, fun c hc => by omega⟩
        (fun k s hk hs => by
          obtain ⟨rfl, h2⟩ := hs
          obtain ⟨x, ex, hx⟩ := s_membersOf (cnt := cnt) h7 hc hg hk
          simp only [f_Likeness_looksLike_B44]
          rw [if_neg (by rw [hc]; exact nI_ge hk (by omega)), ex, Option.bind_some, s_pullInto h (by omega), s_pullInto h (by omega), s_pullOfAll h (by omega), s_pullOfAll h (by omega)]
          simp only [Option.bind_some]
          rw [ch_sm_S h7 hx _ n (Nat.le_refl n), ch_sm_S h7 hx _ n (Nat.le_refl n), nI_mul, nI_mul]
          obtain ⟨b1, b2⟩ := lk_Sp_le hW g a k
          obtain ⟨b3, b4⟩ := lk_Sp_le hW g b k
          have m1 := Nat.mul_le_mul b1 b4
          have m2 := Nat.mul_le_mul b3 b2
          by_cases q : lk_S g (W a) k n * ch_T W b n = lk_S g (W b) k n * ch_T W a n
          · rw [if_pos ((nI_eq (by omega) (by omega)).mpr ((lk_Sp ha hb he hab k).mpr q))]
            refine ⟨_, rfl, nI_1 k, fun c hc => ?_⟩
            by_cases z : c = k
            · subst z; exact q
            · exact h2 c (by omega)
          · rw [if_neg (fun z => q ((lk_Sp ha hb he hab k).mp ((nI_eq (by omega) (by omega)).mp z)))]
            exact ⟨_, rfl, Or.inr ⟨rfl, fun z => q (z.2.2 k hk)⟩⟩)
        (fun s hs => by
          obtain ⟨rfl, h2⟩ := hs
          simp only [f_Likeness_looksLike_B44]
          rw [if_pos (by rw [hc]; exact nI_le (Nat.le_refl n) (by omega))]
          exact ⟨_, rfl, Or.inl ⟨_, rfl, he, hr, h2⟩⟩)
      rw [e]
      rcases hQ with ⟨u, rfl, q⟩ | ⟨rfl, q⟩
      · exact Or.inl ⟨rfl, q⟩
      · exact Or.inr ⟨rfl, q⟩
    · rw [if_neg (fun z => hr ((lk_i32 (hR a (by omega)).2 (hR b (by omega)).2).mp z))]
      exact Or.inr ⟨rfl, fun z => hr z.2.1⟩
  · rw [if_neg (show ¬ (if ch_T W a n = 0 then (1 : Int32) else 0) = (if ch_T W b n = 0 then (1 : Int32) else 0) by
      intro z
      apply he
      by_cases q : ch_T W a n = 0
      · by_cases q' : ch_T W b n = 0
        · simp [q, q']
        · rw [if_pos q, if_neg q'] at z; exact absurd z (by decide)
      · by_cases q' : ch_T W b n = 0
        · rw [if_neg q, if_pos q'] at z; exact absurd z (by decide)
        · simp [q, q'])]
    exact Or.inr ⟨rfl, fun z => he z.1⟩
theorem s_leastMate (h : repC n W cnt w tot) (hR : ∀ i, i < 7 → rew i = Int32.ofInt (R i) ∧ (R i).natAbs ≤ 100) {grp : Nat → Int32} {g : Nat → Nat} (hg : ∀ i, i < n → grp i = nI (g i) ∧ g i < n) {i : Nat} (hi : i < n) : ∃ j, f_Likeness_leastMate cnt w tot rew grp (nI i) = some (nI j) ∧ j ≤ i ∧ g j = g i ∧ lk_f n W R g n j i ∧ ∀ l, l < j → ¬ (g l = g i ∧ lk_f n W R g n l i) := by
  have h7 := h.1.1
  unfold f_Likeness_leastMate f_Likeness_leastMate_L2
  obtain ⟨t, e, hQ⟩ := lp_run0 (fun s => f_Likeness_leastMate_B2 cnt w tot rew grp (nI i) s) (fun k s => s = nI k ∧ ∀ l, l < k → ¬ (g l = g i ∧ lk_f n W R g n l i)) (fun t => (∃ u, t = .inl u ∧ ∀ l, l < i → ¬ (g l = g i ∧ lk_f n W R g n l i)) ∨ (∃ j, t = .inr (nI j) ∧ j < i ∧ g j = g i ∧ lk_f n W R g n j i ∧ ∀ l, l < j → ¬ (g l = g i ∧ lk_f n W R g n l i))) i 300 (0 : Int32) (by omega) ⟨rfl, fun c hc => by omega⟩
    (fun k s hk hs => by
      obtain ⟨rfl, h2⟩ := hs
      simp only [f_Likeness_leastMate_B2]
      rw [if_neg (nI_ge hk (by omega)), if_pos (ix_nI (by omega) (by omega)), if_pos (ix_nI (by omega) (by omega)), nI_clamp (by omega), nI_clamp (by omega), (hg k (by omega)).1, (hg i hi).1]
      have b1 := (hg k (by omega)).2
      have b2 := (hg i hi).2
      have ext : ¬ (g k = g i ∧ lk_f n W R g n k i) → ∀ l, l < k + 1 → ¬ (g l = g i ∧ lk_f n W R g n l i) := by
        intro q l hl
        by_cases z : l = k
        · subst z; exact q
        · exact h2 l (by omega)
      by_cases q : g k = g i
      · rw [if_pos (by rw [q])]
        rcases s_looksLike h hR hg (show k < n by omega) hi q with ⟨e1, e2⟩ | ⟨e1, e2⟩
        · rw [e1, Option.bind_some, if_neg c10]
          exact ⟨_, rfl, Or.inr ⟨k, rfl, hk, q, e2, h2⟩⟩
        · rw [e1, Option.bind_some, if_pos rfl]
          exact ⟨_, rfl, nI_1 k, ext (fun z => e2 z.2)⟩
      · rw [if_neg (fun z => q ((nI_eq (by omega) (by omega)).mp z))]
        exact ⟨_, rfl, nI_1 k, ext (fun z => q z.1)⟩)
    (fun s hs => by
      obtain ⟨rfl, h2⟩ := hs
      simp only [f_Likeness_leastMate_B2]
      rw [if_pos (nI_le (Nat.le_refl i) (by omega))]
      exact ⟨_, rfl, Or.inl ⟨_, rfl, h2⟩⟩)
  rw [e]
  rcases hQ with ⟨u, rfl, q⟩ | ⟨j, rfl, q1, q2, q3, q4⟩
  · exact ⟨i, rfl, Nat.le_refl i, rfl, lk_f_refl _ _ _ _ _ _, q⟩
  · exact ⟨j, rfl, by omega, q2, q3, q4⟩
end
