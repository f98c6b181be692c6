/-! LK7: alike and told: class and reference answer alike -/
section
variable {n : Nat} {W : Nat → Nat → Nat} {R : Nat → Int} {cnt : Int32} {w : Nat → Nat → Int32} {tot rew : Nat → Int32} {sts : Int32} {wgt rwd : Nat → Int32}
theorem e_alike (h : Rel n W R cnt w tot rew sts wgt rwd) (grp fin gp bst : Nat → Int32) (few p1 : Int32) : ∃ r grp' fin' gp' bst' few', f_CS_alike cnt w tot rew grp fin p1 = some (r, grp', fin') ∧ f_M_alike sts wgt rwd gp bst few p1 = some (r, 0, gp', bst', few') := by
  obtain ⟨hC, hM, hR, hR'⟩ := h
  have h7 := hC.1.1
  unfold f_CS_alike f_M_alike
  rcases s_has h7 hC.2.1 p1 with ⟨k, hk, rfl, e1⟩ | ⟨e1, hx⟩
  · rcases s_MisState h7 hM.2.1 (nI k) with ⟨k', _, _, e2⟩ | ⟨_, q⟩
    · rw [e1, e2]
      simp only [Option.bind_some, if_neg c10]
      obtain ⟨grp', fin', g, e3, e4, e5⟩ := s_find hC hR grp fin
      obtain ⟨g', b', h, e6, e7, e8⟩ := s_layGroups hM hR' e5 gp bst
      rw [e3, e6]
      simp only [Option.bind_some]
      rw [s_Malike21 h7 e7 hk, if_pos (ix_nI (by omega) (by omega)), nI_clamp (by omega), e4 k hk, e8 k hk]
      exact ⟨_, _, _, _, _, _, rfl, rfl⟩
    · exact absurd rfl (q k hk)
  · rcases s_MisState h7 hM.2.1 p1 with ⟨k', hk, e, e2⟩ | ⟨e2, _⟩
    · exact absurd e (hx k' hk)
    · rw [e1, e2]
      simp only [Option.bind_some, if_true]
      exact ⟨_, _, _, _, _, _, rfl, rfl⟩
theorem e_told (h : Rel n W R cnt w tot rew sts wgt rwd) (grp fin gp bst : Nat → Int32) (few p1 : Int32) : ∃ r grp' fin' gp' bst' few', f_CS_told cnt w tot rew grp fin p1 = some (r, grp', fin') ∧ f_M_told sts wgt rwd gp bst few p1 = some (r, 0, gp', bst', few') := by
  obtain ⟨hC, hM, hR, hR'⟩ := h
  have h7 := hC.1.1
  unfold f_CS_told f_M_told
  by_cases p0 : p1 = 0
  · rw [if_pos p0, if_pos p0, hC.2.1, hM.2.1]
    exact ⟨_, _, _, _, _, _, rfl, rfl⟩
  rw [if_neg p0, if_neg p0]
  by_cases q1 : p1 = 1
  · rw [if_pos q1, if_pos q1]
    obtain ⟨r, t, e1, e2, e3⟩ := told1_eq hC hM
    rw [e1, e2]
    obtain ⟨t1, t2⟩ := t
    subst e3
    exact ⟨_, _, _, _, _, _, rfl, rfl⟩
  rw [if_neg q1, if_neg q1]
  by_cases q2 : p1 = 2
  · rw [if_pos q2, if_pos q2]
    obtain ⟨x, r, e1, e2, e3, e4⟩ := told2_eq hC hM
    rw [e1, e3, Option.bind_some, Option.bind_some, e2, e4]
    exact ⟨_, _, _, _, _, _, rfl, rfl⟩
  rw [if_neg q2, if_neg q2]
  by_cases q3 : p1 = 3
  · rw [if_pos q3, if_pos q3]
    obtain ⟨r, t, e1, e2, e3⟩ := e_count hC hM 0 p1 (Or.inl ⟨rfl, q3⟩)
    rw [e1, e2]
    obtain ⟨t1, t2⟩ := t
    subst e3
    exact ⟨_, _, _, _, _, _, rfl, rfl⟩
  rw [if_neg q3, if_neg q3]
  by_cases q4 : p1 = 4
  · rw [if_pos q4, if_pos q4]
    obtain ⟨r, t, e1, e2, e3⟩ := e_count hC hM 1 p1 (Or.inr ⟨c10, q3⟩)
    rw [told_b, e1, e2]
    obtain ⟨t1, t2⟩ := t
    subst e3
    exact ⟨_, _, _, _, _, _, rfl, rfl⟩
  rw [if_neg q4, if_neg q4]
  by_cases q5 : p1 = 5
  · rw [if_pos q5, if_pos q5]
    obtain ⟨grp', fin', g, e3, e4, e5⟩ := s_find hC hR grp fin
    obtain ⟨g', b', h, e6, e7, e8⟩ := s_layGroups hM hR' e5 gp bst
    rw [e3, e6]
    simp only [Option.bind_some]
    rw [s_countGroups h7 hC.2.1 e4 e5.1]
    exact ⟨_, _, _, _, _, _, rfl, rfl⟩
  · rw [if_neg q5, if_neg q5]
    exact ⟨_, _, _, _, _, _, rfl, rfl⟩
end
