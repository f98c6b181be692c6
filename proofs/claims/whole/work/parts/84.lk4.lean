/-! LK4: the class's search for groups, its rounds -/
theorem upd_at (f : Nat → Int32) (i : Nat) (v : Int32) : upd f i v i = v := by unfold upd; rw [if_pos rfl]
theorem upd_off (f : Nat → Int32) {i j : Nat} (v : Int32) (h : j ≠ i) : upd f i v j = f j := by unfold upd; rw [if_neg h]
section
variable {n : Nat} {W : Nat → Nat → Nat} {R : Nat → Int} {cnt : Int32} {w : Nat → Nat → Int32} {tot rew : Nat → Int32}
theorem s_find2 (h7 : n ≤ 7) (hc : cnt = nI n) (grp : Nat → Int32) : ∃ u g', f_Likeness_find_L2 cnt 300 0 grp = some (u, g') ∧ ∀ i, i < n → g' i = nI 0 := by
  unfold f_Likeness_find_L2
  obtain ⟨t, e, hQ⟩ := lp_run0 (fun s => f_Likeness_find_B2 cnt s.1 s.2) (fun k s => s.1 = nI k ∧ ∀ i, i < k → s.2 i = nI 0) (fun t => ∀ i, i < n → t.2 i = nI 0) n 300 ((0 : Int32), grp) (by omega) ⟨rfl, fun i hi => by omega⟩
    (fun k s hk hs => by
      obtain ⟨s1, s2⟩ := s
      obtain ⟨rfl, h2⟩ := hs
      dsimp only at h2
      simp only [f_Likeness_find_B2, hc]
      rw [if_neg (nI_ge hk (by omega)), if_pos (ix_nI (by omega) (by omega)), nI_clamp (by omega)]
      refine ⟨_, rfl, nI_1 k, fun i hi => ?_⟩
      by_cases z : i = k
      · subst z; exact upd_at _ _ _
      · exact (upd_off _ _ z).trans (h2 i (by omega)))
    (fun s hs => by
      obtain ⟨s1, s2⟩ := s
      obtain ⟨rfl, h2⟩ := hs
      simp only [f_Likeness_find_B2, hc]
      rw [if_pos (nI_le (Nat.le_refl n) (by omega))]
      exact ⟨_, rfl, h2⟩)
  obtain ⟨t1, t2⟩ := t
  exact ⟨t1, t2, e, hQ⟩
theorem s_find71 (h7 : n ≤ 7) (hc : cnt = nI n) (src grp : Nat → Int32) : ∃ u g', f_Likeness_find_L71 cnt src 300 0 grp = some (u, g') ∧ ∀ i, i < n → g' i = src i := by
  unfold f_Likeness_find_L71
  obtain ⟨t, e, hQ⟩ := lp_run0 (fun s => f_Likeness_find_B71 cnt src s.1 s.2) (fun k s => s.1 = nI k ∧ ∀ i, i < k → s.2 i = src i) (fun t => ∀ i, i < n → t.2 i = src i) n 300 ((0 : Int32), grp) (by omega) ⟨rfl, fun i hi => by omega⟩
    (fun k s hk hs => by
      obtain ⟨s1, s2⟩ := s
      obtain ⟨rfl, h2⟩ := hs
      dsimp only at h2
      simp only [f_Likeness_find_B71, hc]
      rw [if_neg (nI_ge hk (by omega)), if_pos (ix_nI (by omega) (by omega)), if_pos (ix_nI (by omega) (by omega)), nI_clamp (by omega)]
      refine ⟨_, rfl, nI_1 k, fun i hi => ?_⟩
      by_cases z : i = k
      · subst z; exact upd_at _ _ _
      · exact (upd_off _ _ z).trans (h2 i (by omega)))
    (fun s hs => by
      obtain ⟨s1, s2⟩ := s
      obtain ⟨rfl, h2⟩ := hs
      simp only [f_Likeness_find_B71, hc]
      rw [if_pos (nI_le (Nat.le_refl n) (by omega))]
      exact ⟨_, rfl, h2⟩)
  obtain ⟨t1, t2⟩ := t
  exact ⟨t1, t2, e, hQ⟩
theorem s_find41 (h : repC n W cnt w tot) (hR : ∀ i, i < 7 → rew i = Int32.ofInt (R i) ∧ (R i).natAbs ≤ 100) {grp : Nat → Int32} {g : Nat → Nat} (hg : ∀ i, i < n → grp i = nI (g i) ∧ g i < n) (fin : Nat → Int32) : ∃ u f' g', f_Likeness_find_L41 cnt w tot rew grp 300 0 fin = some (u, f') ∧ (∀ i, i < n → f' i = nI (g' i)) ∧ lk_st n W R g g' := by
  classical
  have h7 := h.1.1
  have hc := h.2.1
  have hj := fun i (hi : i < n) => s_leastMate h hR hg hi
  let g' : Nat → Nat := fun i => if hi : i < n then (hj i hi).choose else 0
  have hg' : ∀ i (hi : i < n), f_Likeness_leastMate cnt w tot rew grp (nI i) = some (nI (g' i)) ∧ g' i ≤ i ∧ g (g' i) = g i ∧ lk_f n W R g n (g' i) i ∧ ∀ l, l < g' i → ¬ (g l = g i ∧ lk_f n W R g n l i) := by
    intro i hi
    have := (hj i hi).choose_spec
    have e : g' i = (hj i hi).choose := dif_pos hi
    rw [e]; exact this
  unfold f_Likeness_find_L41
  obtain ⟨t, e, hQ⟩ := lp_run0 (fun s => f_Likeness_find_B41 cnt w tot rew grp s.1 s.2) (fun k s => s.1 = nI k ∧ ∀ i, i < k → s.2 i = nI (g' i)) (fun t => ∀ i, i < n → t.2 i = nI (g' i)) n 300 ((0 : Int32), fin) (by omega) ⟨rfl, fun i hi => by omega⟩
    (fun k s hk hs => by
      obtain ⟨s1, s2⟩ := s
      obtain ⟨rfl, h2⟩ := hs
      dsimp only at h2
      simp only [f_Likeness_find_B41]
      rw [if_neg (by rw [hc]; exact nI_ge hk (by omega)), (hg' k hk).1, Option.bind_some, if_pos (ix_nI (by omega) (by omega)), nI_clamp (by omega)]
      refine ⟨_, rfl, nI_1 k, fun i hi => ?_⟩
      by_cases z : i = k
      · subst z; exact upd_at _ _ _
      · exact (upd_off _ _ z).trans (h2 i (by omega)))
    (fun s hs => by
      obtain ⟨s1, s2⟩ := s
      obtain ⟨rfl, h2⟩ := hs
      simp only [f_Likeness_find_B41]
      rw [if_pos (by rw [hc]; exact nI_le (Nat.le_refl n) (by omega))]
      exact ⟨_, rfl, h2⟩)
  obtain ⟨t1, t2⟩ := t
  exact ⟨t1, t2, g', e, hQ, fun i hi => (hg' i hi).2⟩
/-- the class's groups: the coarsest parting -/
def lk_top (n : Nat) (W : Nat → Nat → Nat) (R : Nat → Int) (g : Nat → Nat) : Prop := lk_ok n g ∧ lk_sb n W R g n ∧ ∀ h m, (∀ i, i < n → h i < m) → lk_sb n W R h m → ∀ a b, a < n → b < n → h a = h b → g a = g b
theorem s_find (h : repC n W cnt w tot) (hR : ∀ i, i < 7 → rew i = Int32.ofInt (R i) ∧ (R i).natAbs ≤ 100) (grp fin : Nat → Int32) : ∃ grp' fin' g, f_Likeness_find cnt w tot rew grp fin = some (grp', fin') ∧ (∀ i, i < n → grp' i = nI (g i)) ∧ lk_top n W R g := by
  have h7 := h.1.1
  have hc := h.2.1
  unfold f_Likeness_find
  obtain ⟨u, g0, e0, h0⟩ := s_find2 h7 hc grp
  rw [e0, Option.bind_some]
  dsimp only
  unfold f_Likeness_find_L28
  obtain ⟨t, e, hQ⟩ := lp_run0 (fun s => f_Likeness_find_B28 cnt w tot rew s.1 s.2.1 s.2.2) (fun k s => s.1 = nI k ∧ ∃ g, (∀ i, i < n → s.2.1 i = nI (g i)) ∧ lk_ok n g ∧ (lk_sb n W R g n ∨ n = 0 ∨ k + 1 ≤ lk_c g n) ∧ ∀ h m, (∀ i, i < n → h i < m) → lk_sb n W R h m → ∀ a b, a < n → b < n → h a = h b → g a = g b) (fun t => ∃ g, (∀ i, i < n → t.2.1 i = nI (g i)) ∧ lk_top n W R g) (n + 1) 300 ((0 : Int32), g0, fin) (by omega)
    ⟨rfl, fun _ => 0, h0, fun i hi => ⟨Nat.zero_le i, rfl⟩, by
      right
      by_cases z : n = 0
      · exact Or.inl z
      · right
        have := lk_c_step (fun _ => 0) 1 n (by omega)
        simpa [lk_c] using this, fun _ _ _ _ _ _ _ _ _ => rfl⟩
    (fun k s hk hs => by
      obtain ⟨s1, s2, s3⟩ := s
      obtain ⟨rfl, g, k1, k2, k3, k4⟩ := hs
      dsimp only at k1
      obtain ⟨u, f', g', e1, e2, e3⟩ := s_find41 h hR (g := g) (grp := s2) (fun i hi => ⟨k1 i hi, by have := (k2 i hi).1; omega⟩) s3
      obtain ⟨v, g2, e4, e5⟩ := s_find71 h7 hc f' s2
      simp only [f_Likeness_find_B28]
      rw [if_neg (by rw [hc]; exact nI_nlt (by omega) (by omega)), e1, Option.bind_some]
      dsimp only
      rw [e4]
      refine ⟨_, rfl, nI_1 k, g', fun i hi => (e5 i hi).trans (e2 i hi), lk_st_ok e3, lk_round k2 e3 k3, fun h m q1 q2 => lk_coarse e3 q1 q2 (k4 h m q1 q2)⟩)
    (fun s hs => by
      obtain ⟨s1, s2, s3⟩ := s
      obtain ⟨rfl, g, k1, k2, k3, k4⟩ := hs
      simp only [f_Likeness_find_B28]
      rw [if_pos (by rw [hc]; exact nI_lt (by omega) (by omega))]
      refine ⟨_, rfl, g, k1, k2, ?_, k4⟩
      rcases k3 with z | z | z
      · exact z
      · intro a b ha; omega
      · have := lk_c_le g n; omega)
  rw [e]
  obtain ⟨t1, t2, t3⟩ := t
  obtain ⟨g, q1, q2⟩ := hQ
  exact ⟨t2, t3, g, rfl, q1, q2⟩
theorem s_countGroups (h7 : n ≤ 7) (hc : cnt = nI n) {grp : Nat → Int32} {g : Nat → Nat} (hg : ∀ i, i < n → grp i = nI (g i)) (ho : lk_ok n g) : f_Likeness_countGroups cnt grp = some (nI (lk_c g n)) := by
  unfold f_Likeness_countGroups f_Likeness_countGroups_L4
  obtain ⟨t, e, hQ⟩ := lp_run0 (fun s => f_Likeness_countGroups_B4 cnt grp s.1 s.2) (fun k s => s = (nI (lk_c g k), nI k)) (fun t => t.1 = nI (lk_c g n)) n 300 ((0 : Int32), (0 : Int32)) (by omega) rfl
    (fun k s hk hs => by
      subst hs
      simp only [f_Likeness_countGroups_B4, hc]
      rw [if_neg (nI_ge hk (by omega)), if_pos (ix_nI (by omega) (by omega)), nI_clamp (by omega), hg k hk]
      have := (ho k hk).1
      by_cases q : g k = k
      · rw [if_pos (by rw [q])]
        refine ⟨_, rfl, ?_⟩
        simp only [lk_c, q, nI_1, if_true]
      · rw [if_neg (fun z => q ((nI_eq (by omega) (by omega)).mp z))]
        refine ⟨_, rfl, ?_⟩
        simp only [lk_c, q, nI_1, if_false, Nat.add_zero])
    (fun s hs => by
      subst hs
      simp only [f_Likeness_countGroups_B4, hc]
      rw [if_pos (nI_le (Nat.le_refl n) (by omega))]
      exact ⟨_, rfl, rfl⟩)
  rw [e]
  obtain ⟨t1, t2⟩ := t
  simp only [Option.bind_some]
  rw [show t1 = _ from hQ]
end
