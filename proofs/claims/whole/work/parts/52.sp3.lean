/-! SP3: the class's sets of ways, backwards: leadingTo; what stands on both -/
section
variable {n : Nat} {W : Nat → Nat → Nat} {cnt : Int32} {w : Nat → Nat → Int32} {tot : Nat → Int32}
theorem s_leadingTo (h : repC n W cnt w tot) (G : Int32) (hG : ∀ i, i < 32 → bt G i = true → i < n) (hs : Int32) : ∃ x, f_Ways_leadingTo cnt w tot G hs = some x ∧ isS x n (fun i => ∃ g, bt G g = true ∧ ch_R (ch_E n W) (bS hs) i g) := by
  have hN := fun i (hi : i < 7) => s_nextOnes h hi
  obtain ⟨⟨h7, h9, h12, hz⟩, hc, hw, ht⟩ := h
  unfold f_Ways_leadingTo f_Ways_leadingTo_L5
  obtain ⟨t, e, hQ⟩ := lp_run0 (fun s => f_Ways_leadingTo_B5 cnt w tot hs s.1 s.2)
    (fun k s => s.2 = nI k ∧ (∀ i, bt G i = true → bt s.1 i = true) ∧ (∀ i, i < 32 → bt s.1 i = true → i < n ∧ ∃ g, bt G g = true ∧ ch_R (ch_E n W) (bS hs) i g) ∧ (ch_cb n W (bS hs) s.1 ∨ k + 1 ≤ ch_cd s.1 n))
    (fun t => isS t.1 n (fun i => ∃ g, bt G g = true ∧ ch_R (ch_E n W) (bS hs) i g)) n 300 (G, 0) (by omega)
    ⟨rfl, fun _ z => z, fun i hi hb => ⟨hG i hi hb, i, hb, ch_R_refl _ _ _⟩, by
      by_cases he : ∃ i, i < n ∧ bt G i = true
      · exact Or.inr (ch_cd_pos n he)
      · refine Or.inl (fun i j hj _ hE => absurd ⟨j, hE.2.1, hj⟩ he)⟩
    (fun k s hk hs0 => by
      obtain ⟨s1, s2⟩ := s
      obtain ⟨e1, ea, e2, e3⟩ := hs0
      dsimp only at e1 ea e2 e3
      subst e1
      simp only [f_Ways_leadingTo_B5, hc]
      rw [if_neg (nI_ge hk (by omega))]
      unfold f_Ways_leadingTo_L20
      obtain ⟨t, e, hQ⟩ := lp_run0 (fun s => f_Ways_leadingTo_B20 (nI n) w tot hs s.1 s.2)
        (fun k s => s.2 = nI k ∧ (∀ i, bt s1 i = true → bt s.1 i = true) ∧ (∀ i, i < 32 → bt s.1 i = true → i < n ∧ ∃ g, bt G g = true ∧ ch_R (ch_E n W) (bS hs) i g) ∧ (∀ i j, i < k → bt s1 j = true → ¬ bS hs i → ch_E n W i j → bt s.1 i = true) ∧ (ch_cb n W (bS hs) s1 → s.1 = s1))
        (fun t => (∀ i, bt s1 i = true → bt t.1 i = true) ∧ (∀ i, i < 32 → bt t.1 i = true → i < n ∧ ∃ g, bt G g = true ∧ ch_R (ch_E n W) (bS hs) i g) ∧ (∀ i j, bt s1 j = true → ¬ bS hs i → ch_E n W i j → bt t.1 i = true) ∧ (ch_cb n W (bS hs) s1 → t.1 = s1)) n 300 (s1, 0) (by omega)
        ⟨rfl, fun _ z => z, e2, fun i j hi => by omega, fun _ => rfl⟩
        (fun m r hm hr => by
          obtain ⟨r1, r2⟩ := r
          obtain ⟨g1, g2, g3, g4, g5⟩ := hr
          dsimp only at g1 g2 g3 g4 g5
          subst g1
          simp only [f_Ways_leadingTo_B20]
          rw [if_neg (nI_ge hm (by omega)), s_holds _ (by omega), Option.bind_some]
          obtain ⟨x, hx, hxs⟩ := hN m (by omega)
          have hxa : (x &&& r1) = 0 ↔ ∀ j, bt r1 j = true → ¬ ch_E n W m j := by
            constructor
            · intro z j hj hE
              have q : bt (x &&& r1) j = true := by
                rw [b_and, hj, (hxs j (by have := hE.2.1; omega)).mpr ⟨hE.2.1, hE.2.2⟩]; rfl
              rw [z, b_0] at q; cases q
            · intro z
              apply b_ext
              intro j hj
              rw [b_and, b_0]
              cases hr1 : bt r1 j
              · simp
              · cases hxj : bt x j
                · rfl
                · have q := (hxs j hj).mp hxj
                  exact absurd ⟨hm, q.1, q.2⟩ (z j hr1)
          by_cases hb : bt hs m = true
          · rw [if_pos hb, if_neg (by decide)]
            refine ⟨_, rfl, nI_1 m, g2, g3, ?_, g5⟩
            intro i j hi hbj hni hE
            rcases Nat.lt_or_ge i m with q | q
            · exact g4 i j q hbj hni hE
            · have : i = m := by omega
              subst this
              exact absurd hb hni
          · rw [if_neg hb, if_pos rfl, ← hc, hx, Option.bind_some]
            by_cases hx0 : (x &&& r1) = 0
            · rw [if_pos hx0]
              refine ⟨_, rfl, nI_1 m, g2, g3, ?_, g5⟩
              intro i j hi hbj hni hE
              rcases Nat.lt_or_ge i m with q | q
              · exact g4 i j q hbj hni hE
              · have : i = m := by omega
                subst this
                exact absurd hE (hxa.mp hx0 j (g2 j hbj))
            · rw [if_neg hx0]
              have hex : ∃ j, bt r1 j = true ∧ ch_E n W m j := by
                refine Classical.byContradiction (fun hno => hx0 (hxa.mpr (fun j hj hE => hno ⟨j, hj, hE⟩)))
              obtain ⟨j0, hj0, hE0⟩ := hex
              have hone : ∀ i, i < 32 → bt ((1 : Int32) <<< (nI m &&& 31)) i = decide (i = m) := fun i hi => b_one m (by omega) hi
              refine ⟨_, rfl, nI_1 m, ?_, ?_, ?_, ?_⟩
              · intro i hi; dsimp only; rw [b_or, g2 i hi]; rfl
              · intro i hi hbi
                dsimp only at hbi
                rw [b_or, hone i hi, Bool.or_eq_true, decide_eq_true_eq] at hbi
                rcases hbi with q | q
                · exact g3 i hi q
                · subst q
                  obtain ⟨-, g, hg1, hg2⟩ := g3 j0 (by have := hE0.2.1; omega) hj0
                  exact ⟨hm, g, hg1, ch_R_left (fun z => hb z) hE0 hg2⟩
              · intro i j hi hbj hni hE
                dsimp only
                rw [b_or, Bool.or_eq_true, hone i (by omega), decide_eq_true_eq]
                rcases Nat.lt_or_ge i m with q | q
                · exact Or.inl (g4 i j q hbj hni hE)
                · exact Or.inr (by omega)
              · intro hcl
                dsimp only
                have q := g5 hcl
                rw [q]
                apply b_ext
                intro i hi
                rw [b_or, hone i hi]
                by_cases him : i = m
                · subst him
                  rw [q] at hj0
                  rw [hcl i j0 hj0 (fun z => hb z) hE0]; rfl
                · simp [him])
        (fun r hr => by
          obtain ⟨r1, r2⟩ := r
          obtain ⟨g1, g2, g3, g4, g5⟩ := hr
          dsimp only at g1 g2 g3 g4 g5
          subst g1
          simp only [f_Ways_leadingTo_B20]
          rw [if_pos (nI_le (Nat.le_refl n) (by omega))]
          exact ⟨_, rfl, g2, g3, fun i j a b c => g4 i j c.1 a b c, g5⟩)
      obtain ⟨t1, t2⟩ := t
      obtain ⟨g2, g3, g4, g5⟩ := hQ
      dsimp only at g2 g3 g4 g5
      rw [e]
      refine ⟨_, rfl, nI_1 k, fun i hi => g2 i (ea i hi), g3, ?_⟩
      dsimp only
      by_cases hcl : ch_cb n W (bS hs) s1
      · left; rw [g5 hcl]; exact hcl
      · right
        have hcd : k + 1 ≤ ch_cd s1 n := e3.resolve_left hcl
        have hex : ∃ i j, bt s1 j = true ∧ ¬ bS hs i ∧ ch_E n W i j ∧ ¬ bt s1 i = true := by
          refine Classical.byContradiction (fun hno => hcl (fun i j p1 p2 p3 => Classical.byContradiction (fun p4 => hno ⟨i, j, p1, p2, p3, p4⟩)))
        obtain ⟨i, j, p1, p2, p3, p4⟩ := hex
        have := ch_cd_lt n (fun i _ => g2 i) ⟨i, p3.1, g4 i j p1 p2 p3, p4⟩
        omega)
    (fun s hs0 => by
      obtain ⟨s1, s2⟩ := s
      obtain ⟨e1, ea, e2, e3⟩ := hs0
      dsimp only at e1 ea e2 e3
      subst e1
      simp only [f_Ways_leadingTo_B5, hc]
      rw [if_pos (nI_le (Nat.le_refl n) (by omega))]
      refine ⟨_, rfl, fun i hi => ⟨fun hb => e2 i hi hb, fun hr => ?_⟩⟩
      have hcl : ch_cb n W (bS hs) s1 := e3.resolve_right (by have := ch_cd_le s1 n; omega)
      obtain ⟨-, g, hg1, hg2⟩ := hr
      exact ch_R_bwd (C := fun i => bt s1 i = true) (fun x y p1 p2 p3 => hcl x y p1 p2 p3) (ea g hg1) hg2)
  obtain ⟨t1, t2⟩ := t
  exact ⟨t1, by rw [e]; rfl, hQ⟩
end
