/-! LK5: the reference's partings, one by one -/
section
variable {n : Nat} {W : Nat → Nat → Nat} {R : Nat → Int} {sts : Int32} {wgt rwd : Nat → Int32}
theorem s_weightTo (hM : repM n W sts wgt) {gp : Nat → Int32} {h : Nat → Nat} (hg : ∀ i, i < n → gp i = nI (h i) ∧ h i ≤ 7) {a c : Nat} (ha : a < n) (hc : c ≤ 7) : f_M_weightTo sts wgt gp (nI a) (nI c) = some (nI (lk_S h (W a) c n)) := by
  have h7 := hM.1.1
  have hs := hM.2.1
  unfold f_M_weightTo f_M_weightTo_L5
  obtain ⟨t, e, hQ⟩ := lp_run0 (fun s => f_M_weightTo_B5 sts wgt gp (nI a) (nI c) s.1 s.2) (fun k s => s = (nI (lk_S h (W a) c k), nI k)) (fun t => t.1 = nI (lk_S h (W a) c n)) n 300 ((0 : Int32), (0 : Int32)) (by omega) rfl
    (fun k s hk hs' => by
      subst hs'
      simp only [f_M_weightTo_B5]
      rw [if_neg (by rw [hs]; exact nI_ge hk (by omega)), if_pos (ix_nI (by omega) (by omega)), nI_clamp (by omega), (hg k hk).1]
      have := (hg k hk).2
      by_cases q : h k = c
      · rw [if_pos (by rw [q]), s_Mw hM (by omega) (by omega)]
        refine ⟨_, rfl, ?_⟩
        simp only [lk_S, q, nI_add, nI_1, if_true]
      · rw [if_neg (fun z => q ((nI_eq (by omega) (by omega)).mp z))]
        refine ⟨_, rfl, ?_⟩
        simp only [lk_S, q, nI_1, if_false, Nat.add_zero, Int32.add_zero])
    (fun s hs' => by
      subst hs'
      simp only [f_M_weightTo_B5]
      rw [if_pos (by rw [hs]; exact nI_le (Nat.le_refl n) (by omega))]
      exact ⟨_, rfl, rfl⟩)
  rw [e]
  obtain ⟨t1, t2⟩ := t
  simp only [Option.bind_some]
  rw [show t1 = _ from hQ]
theorem s_fits (hM : repM n W sts wgt) (hR : ∀ i, i < 7 → rwd i = Int32.ofInt (R i) ∧ (R i).natAbs ≤ 100) {gp : Nat → Int32} {h : Nat → Nat} (hg : ∀ i, i < n → gp i = nI (h i) ∧ h i ≤ 7) {a b m : Nat} (ha : a < n) (hb : b < n) (hm : m ≤ 7) : (f_M_fits sts wgt rwd gp (nI a) (nI b) (nI m) = some 1 ∧ lk_f n W R h m a b) ∨ (f_M_fits sts wgt rwd gp (nI a) (nI b) (nI m) = some 0 ∧ ¬ lk_f n W R h m a b) := by
  have hW := hM.1
  have h7 := hW.1
  have hc := hM.2.1
  unfold f_M_fits
  rw [s_MisEnd hM (show a < 7 by omega), s_MisEnd hM (show b < 7 by omega)]
  simp only [Option.bind_some]
  by_cases he : ch_T W a n = 0 ↔ ch_T W b n = 0
  · rw [if_pos (show (if ch_T W a n = 0 then (1 : Int32) else 0) = (if ch_T W b n = 0 then (1 : Int32) else 0) by
      by_cases q : ch_T W a n = 0
      · rw [if_pos q, if_pos (he.mp q)]
      · rw [if_neg q, if_neg (fun z => q (he.mpr z))])]
    rw [if_pos (ix_nI (by omega) (by omega)), if_pos (ix_nI (by omega) (by omega)), nI_clamp (by omega), nI_clamp (by omega), (hR a (by omega)).1, (hR b (by omega)).1]
    by_cases hr : R a = R b
    · rw [if_pos (by rw [hr])]
      unfold f_M_fits_L33
      obtain ⟨t, e, hQ⟩ := lp_run0 (fun s => f_M_fits_B33 sts wgt gp (nI a) (nI b) (nI m) s) (fun k s => s = nI k ∧ ∀ c, c < k → lk_S h (W a) c n * ch_T W b n = lk_S h (W b) c n * ch_T W a n) (fun t => (∃ u, t = .inl u ∧ lk_f n W R h m a b) ∨ (t = .inr 0 ∧ ¬ lk_f n W R h m a b)) m 300 (0 : Int32) (by omega) ⟨rfl, fun c hc => by omega⟩
        (fun k s hk hs => by
          obtain ⟨rfl, h2⟩ := hs
          simp only [f_M_fits_B33]
          rw [if_neg (nI_ge hk (by omega)), s_weightTo hM hg ha (by omega), s_weightTo hM hg hb (by omega), s_Mtotal hM (by omega), s_Mtotal hM (by omega)]
          simp only [Option.bind_some]
          rw [nI_mul, nI_mul]
          have b1 := lk_S_le h W a k n
          have b2 := hW.2.2.1 a
          have b3 := lk_S_le h W b k n
          have b4 := hW.2.2.1 b
          have m1 := Nat.mul_le_mul (Nat.le_trans b1 b2) b4
          have m2 := Nat.mul_le_mul (Nat.le_trans b3 b4) b2
          by_cases q : lk_S h (W a) k n * ch_T W b n = lk_S h (W b) k n * ch_T W a n
          · rw [if_pos (by rw [q])]
            refine ⟨_, rfl, nI_1 k, fun c hc => ?_⟩
            by_cases z : c = k
            · subst z; exact q
            · exact h2 c (by omega)
          · rw [if_neg (fun z => q ((nI_eq (by omega) (by omega)).mp z))]
            exact ⟨_, rfl, Or.inr ⟨rfl, fun z => q (z.2.2 k hk)⟩⟩)
        (fun s hs => by
          obtain ⟨rfl, h2⟩ := hs
          simp only [f_M_fits_B33]
          rw [if_pos (nI_le (Nat.le_refl m) (by omega))]
          exact ⟨_, rfl, Or.inl ⟨_, rfl, he, hr, h2⟩⟩)
      rw [e]
      rcases hQ with ⟨u, rfl, q⟩ | ⟨rfl, q⟩
      · exact Or.inl ⟨rfl, q⟩
      · exact Or.inr ⟨rfl, q⟩
    · rw [if_neg (fun z => hr ((lk_i32 (hR a (by omega)).2 (hR b (by omega)).2).mp z))]
      exact Or.inr ⟨rfl, fun z => hr z.2.1⟩
  · rw [if_neg (show ¬ (if ch_T W a n = 0 then (1 : Int32) else 0) = (if ch_T W b n = 0 then (1 : Int32) else 0) by
      intro z
      apply he
      by_cases q : ch_T W a n = 0
      · by_cases q' : ch_T W b n = 0
        · simp [q, q']
        · rw [if_pos q, if_neg q'] at z; exact absurd z (by decide)
      · by_cases q' : ch_T W b n = 0
        · rw [if_neg q, if_pos q'] at z; exact absurd z (by decide)
        · simp [q, q'])]
    exact Or.inr ⟨rfl, fun z => he z.1⟩
theorem s_isParting12 (hM : repM n W sts wgt) (hR : ∀ i, i < 7 → rwd i = Int32.ofInt (R i) ∧ (R i).natAbs ≤ 100) {gp : Nat → Int32} {h : Nat → Nat} (hg : ∀ i, i < n → gp i = nI (h i) ∧ h i ≤ 7) {a m : Nat} (ha : a < n) (hm : m ≤ 7) : (∃ u, f_M_isParting_L12 sts wgt rwd gp (nI m) (nI a) 300 0 = some (.inl u) ∧ ∀ b, b < a → h a = h b → lk_f n W R h m a b) ∨ (f_M_isParting_L12 sts wgt rwd gp (nI m) (nI a) 300 0 = some (.inr 0) ∧ ¬ lk_sb n W R h m) := by
  have h7 := hM.1.1
  unfold f_M_isParting_L12
  obtain ⟨t, e, hQ⟩ := lp_run0 (fun s => f_M_isParting_B12 sts wgt rwd gp (nI m) (nI a) s) (fun k s => s = nI k ∧ ∀ b, b < k → h a = h b → lk_f n W R h m a b) (fun t => (∃ u, t = .inl u ∧ ∀ b, b < a → h a = h b → lk_f n W R h m a b) ∨ (t = .inr 0 ∧ ¬ lk_sb n W R h m)) a 300 (0 : Int32) (by omega) ⟨rfl, fun c hc => by omega⟩
    (fun k s hk hs => by
      obtain ⟨rfl, h2⟩ := hs
      simp only [f_M_isParting_B12]
      rw [if_neg (nI_ge hk (by omega)), if_pos (ix_nI (by omega) (by omega)), if_pos (ix_nI (by omega) (by omega)), nI_clamp (by omega), nI_clamp (by omega), (hg k (by omega)).1, (hg a ha).1]
      have b1 := (hg k (by omega)).2
      have b2 := (hg a ha).2
      have ext : (h a = h k → lk_f n W R h m a k) → ∀ b, b < k + 1 → h a = h b → lk_f n W R h m a b := by
        intro q l hl
        by_cases z : l = k
        · subst z; exact q
        · exact h2 l (by omega)
      by_cases q : h a = h k
      · rw [if_pos (by rw [q])]
        rcases s_fits hM hR hg ha (show k < n by omega) hm with ⟨e1, e2⟩ | ⟨e1, e2⟩
        · rw [e1, Option.bind_some, if_neg c10]
          exact ⟨_, rfl, nI_1 k, ext (fun _ => e2)⟩
        · rw [e1, Option.bind_some, if_pos rfl]
          exact ⟨_, rfl, Or.inr ⟨rfl, fun z => e2 (z a k ha (by omega) q)⟩⟩
      · rw [if_neg (fun z => q ((nI_eq (by omega) (by omega)).mp z))]
        exact ⟨_, rfl, nI_1 k, ext (fun z => absurd z q)⟩)
    (fun s hs => by
      obtain ⟨rfl, h2⟩ := hs
      simp only [f_M_isParting_B12]
      rw [if_pos (nI_le (Nat.le_refl a) (by omega))]
      exact ⟨_, rfl, Or.inl ⟨_, rfl, h2⟩⟩)
  rcases hQ with ⟨u, rfl, q⟩ | ⟨rfl, q⟩
  · exact Or.inl ⟨u, e, q⟩
  · exact Or.inr ⟨e, q⟩
theorem s_isParting (hM : repM n W sts wgt) (hR : ∀ i, i < 7 → rwd i = Int32.ofInt (R i) ∧ (R i).natAbs ≤ 100) {gp : Nat → Int32} {h : Nat → Nat} (hg : ∀ i, i < n → gp i = nI (h i) ∧ h i ≤ 7) {m : Nat} (hm : m ≤ 7) : (f_M_isParting sts wgt rwd gp (nI m) = some 1 ∧ lk_sb n W R h m) ∨ (f_M_isParting sts wgt rwd gp (nI m) = some 0 ∧ ¬ lk_sb n W R h m) := by
  have h7 := hM.1.1
  have hc := hM.2.1
  unfold f_M_isParting f_M_isParting_L2
  obtain ⟨t, e, hQ⟩ := lp_run0 (fun s => f_M_isParting_B2 sts wgt rwd gp (nI m) s) (fun k s => s = nI k ∧ ∀ a, a < k → ∀ b, b < a → h a = h b → lk_f n W R h m a b) (fun t => (∃ u, t = .inl u ∧ lk_sb n W R h m) ∨ (t = .inr 0 ∧ ¬ lk_sb n W R h m)) n 300 (0 : Int32) (by omega) ⟨rfl, fun c hc => by omega⟩
    (fun k s hk hs => by
      obtain ⟨rfl, h2⟩ := hs
      simp only [f_M_isParting_B2]
      rw [if_neg (by rw [hc]; exact nI_ge hk (by omega))]
      rcases s_isParting12 hM hR hg hk hm with ⟨u, e1, e2⟩ | ⟨e1, e2⟩
      · rw [e1]
        refine ⟨_, rfl, nI_1 k, fun a ha => ?_⟩
        by_cases z : a = k
        · subst z; exact e2
        · exact h2 a (by omega)
      · rw [e1]
        exact ⟨_, rfl, Or.inr ⟨rfl, e2⟩⟩)
    (fun s hs => by
      obtain ⟨rfl, h2⟩ := hs
      simp only [f_M_isParting_B2]
      rw [if_pos (by rw [hc]; exact nI_le (Nat.le_refl n) (by omega))]
      refine ⟨_, rfl, Or.inl ⟨_, rfl, fun a b ha hb q => ?_⟩⟩
      rcases Nat.lt_trichotomy a b with z | z | z
      · exact lk_f_symm (h2 b hb a z q.symm)
      · subst z; exact lk_f_refl _ _ _ _ _ _
      · exact h2 a ha b z q)
  rw [e]
  rcases hQ with ⟨u, rfl, q⟩ | ⟨rfl, q⟩
  · exact Or.inl ⟨rfl, q⟩
  · exact Or.inr ⟨rfl, q⟩
/-- how many groups a word's first k numbers tell -/
theorem s_next15 {gp : Nat → Int32} {h : Nat → Nat} (hg : ∀ i, i < n → gp i = nI (h i) ∧ h i ≤ 7) {k : Nat} (hk : k < n) (h7 : n ≤ 7) : ∃ u, f_M_next_L15 gp (nI k) 300 0 0 = some (nI (rg_m (rg_p h k)), u) ∧ rg_m (rg_p h k) ≤ 8 := by
  have hb : ∀ j, j ≤ n → rg_m (rg_p h j) ≤ 8 := by
    intro j
    induction j with
    | zero => intro _; simp only [rg_p, rg_m]; omega
    | succ j ih =>
      intro hj
      have := ih (by omega)
      have := (hg j (by omega)).2
      simp only [rg_p, rg_m]; split <;> omega
  unfold f_M_next_L15
  obtain ⟨t, e, hQ⟩ := lp_run0 (fun s => f_M_next_B15 gp (nI k) s.1 s.2) (fun j s => s = (nI (rg_m (rg_p h j)), nI j)) (fun t => t.1 = nI (rg_m (rg_p h k))) k 300 ((0 : Int32), (0 : Int32)) (by omega) rfl
    (fun j s hj hs => by
      subst hs
      simp only [f_M_next_B15]
      rw [if_neg (nI_ge hj (by omega)), if_pos (ix_nI (by omega) (by omega)), nI_clamp (by omega), (hg j (by omega)).1]
      have b1 := (hg j (by omega)).2
      have b2 := hb j (by omega)
      by_cases q : h j < rg_m (rg_p h j)
      · rw [if_pos ((nI_ltI (by omega) (by omega)).mpr q)]
        refine ⟨_, rfl, ?_⟩
        simp only [rg_p, rg_m, q, if_true, nI_1]
      · rw [if_neg (fun z => q ((nI_ltI (by omega) (by omega)).mp z)), if_pos (ix_nI (by omega) (by omega))]
        refine ⟨_, rfl, ?_⟩
        simp only [rg_p, rg_m, q, if_false, nI_1])
    (fun s hs => by
      subst hs
      simp only [f_M_next_B15]
      rw [if_pos (nI_le (Nat.le_refl k) (by omega))]
      exact ⟨_, rfl, rfl⟩)
  obtain ⟨t1, t2⟩ := t
  refine ⟨t2, ?_, hb k (by omega)⟩
  rw [e, show t1 = _ from hQ]
theorem s_next68 {gp : Nat → Int32} {h : Nat → Nat} (hg : ∀ i, i < n → gp i = nI (h i) ∧ h i ≤ 7) (hs : sts = nI n) (h7 : n ≤ 7) : ∃ u, f_M_layGroups_L68 sts gp 1000 0 0 = some (nI (rg_m (rg_p h n)), u) := by
  have hb : ∀ j, j ≤ n → rg_m (rg_p h j) ≤ 8 := by
    intro j
    induction j with
    | zero => intro _; simp only [rg_p, rg_m]; omega
    | succ j ih =>
      intro hj
      have := ih (by omega)
      have := (hg j (by omega)).2
      simp only [rg_p, rg_m]; split <;> omega
  unfold f_M_layGroups_L68
  obtain ⟨t, e, hQ⟩ := lp_run0 (fun s => f_M_layGroups_B68 sts gp s.1 s.2) (fun j s => s = (nI (rg_m (rg_p h j)), nI j)) (fun t => t.1 = nI (rg_m (rg_p h n))) n 1000 ((0 : Int32), (0 : Int32)) (by omega) rfl
    (fun j s hj hs' => by
      subst hs'
      simp only [f_M_layGroups_B68]
      rw [if_neg (by rw [hs]; exact nI_ge hj (by omega)), if_pos (ix_nI (by omega) (by omega)), nI_clamp (by omega), (hg j (by omega)).1]
      have b1 := (hg j (by omega)).2
      have b2 := hb j (by omega)
      by_cases q : h j < rg_m (rg_p h j)
      · rw [if_pos ((nI_ltI (by omega) (by omega)).mpr q)]
        refine ⟨_, rfl, ?_⟩
        simp only [rg_p, rg_m, q, if_true, nI_1]
      · rw [if_neg (fun z => q ((nI_ltI (by omega) (by omega)).mp z)), if_pos (ix_nI (by omega) (by omega))]
        refine ⟨_, rfl, ?_⟩
        simp only [rg_p, rg_m, q, if_false, nI_1])
    (fun s hs' => by
      subst hs'
      simp only [f_M_layGroups_B68]
      rw [if_pos (by rw [hs]; exact nI_le (Nat.le_refl n) (by omega))]
      exact ⟨_, rfl, rfl⟩)
  obtain ⟨t1, t2⟩ := t
  refine ⟨t2, ?_⟩
  rw [e, show t1 = _ from hQ]
theorem s_next73 (hs : sts = nI n) (h7 : n ≤ 7) (gp : Nat → Int32) {k : Nat} (hk : k ≤ n) : ∃ u g', f_M_next_L73 sts 300 (nI k) gp = some (u, g') ∧ ∀ i, i < n → g' i = if k ≤ i then nI 0 else gp i := by
  unfold f_M_next_L73
  obtain ⟨t, e, hQ⟩ := lp_run (fun s => f_M_next_B73 sts s.1 s.2) (fun j s => k ≤ j ∧ s.1 = nI j ∧ ∀ i, i < n → s.2 i = if k ≤ i ∧ i < j then nI 0 else gp i) (fun t => ∀ i, i < n → t.2 i = if k ≤ i then nI 0 else gp i) n
    (fun j s hj hs' => by
      obtain ⟨s1, s2⟩ := s
      obtain ⟨hkj, rfl, h2⟩ := hs'
      dsimp only at h2
      simp only [f_M_next_B73]
      rw [if_neg (by rw [hs]; exact nI_ge hj (by omega)), if_pos (ix_nI (by omega) (by omega)), nI_clamp (by omega)]
      refine ⟨_, rfl, by omega, nI_1 j, fun i hi => ?_⟩
      by_cases z : i = j
      · subst z; rw [if_pos (by omega)]; exact upd_at _ _ _
      · refine (upd_off _ _ z).trans ((h2 i hi).trans ?_)
        have : (k ≤ i ∧ i < j) ↔ (k ≤ i ∧ i < j + 1) := by omega
        simp only [this])
    (fun s hs' => by
      obtain ⟨s1, s2⟩ := s
      obtain ⟨hkj, rfl, h2⟩ := hs'
      simp only [f_M_next_B73]
      rw [if_pos (by rw [hs]; exact nI_le (Nat.le_refl n) (by omega))]
      refine ⟨_, rfl, fun i hi => (h2 i hi).trans ?_⟩
      simp only [hi, and_true]) 300 k (nI k, gp) hk (by omega) ⟨Nat.le_refl k, rfl, fun i hi => by rw [if_neg (by omega)]⟩
  obtain ⟨t1, t2⟩ := t
  exact ⟨t1, t2, e, hQ⟩
end
