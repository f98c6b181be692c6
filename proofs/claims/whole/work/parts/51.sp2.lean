/-! SP2: the class's sets of ways: metFrom, leadingTo -/
def ch_E (n : Nat) (W : Nat → Nat → Nat) (i j : Nat) : Prop := i < n ∧ j < n ∧ 0 < ch_p n W i j
def bS (x : Int32) (i : Nat) : Prop := bt x i = true
def ch_cl (n : Nat) (W : Nat → Nat → Nat) (S : Nat → Prop) (x : Int32) : Prop := ∀ i j, bt x i = true → ¬ S i → ch_E n W i j → bt x j = true
def ch_cb (n : Nat) (W : Nat → Nat → Nat) (S : Nat → Prop) (x : Int32) : Prop := ∀ i j, bt x j = true → ¬ S i → ch_E n W i j → bt x i = true
section
variable {n : Nat} {W : Nat → Nat → Nat} {cnt : Int32} {w : Nat → Nat → Int32} {tot : Nat → Int32}
theorem s_metFrom (h : repC n W cnt w tot) {a : Nat} (ha : a < n) (hs : Int32) : ∃ x, f_Ways_metFrom cnt w tot (nI a) hs = some x ∧ isS x n (fun j => ch_R (ch_E n W) (bS hs) a j) := by
  have hN := fun i (hi : i < 7) => s_nextOnes h hi
  obtain ⟨⟨h7, h9, h12, hz⟩, hc, hw, ht⟩ := h
  unfold f_Ways_metFrom f_Ways_metFrom_L7
  obtain ⟨t, e, hQ⟩ := lp_run0 (fun s => f_Ways_metFrom_B7 cnt w tot hs s.1 s.2)
    (fun k s => s.2 = nI k ∧ bt s.1 a = true ∧ (∀ i, i < 32 → bt s.1 i = true → i < n ∧ ch_R (ch_E n W) (bS hs) a i) ∧ (ch_cl n W (bS hs) s.1 ∨ k + 1 ≤ ch_cd s.1 n))
    (fun t => isS t.1 n (fun j => ch_R (ch_E n W) (bS hs) a j)) n 300 ((1 : Int32) <<< (nI a &&& 31), 0) (by omega)
    ⟨rfl, by rw [b_one a (by omega) (by omega)]; simp, fun i hi hb => by
      rw [b_one a (by omega) hi, decide_eq_true_eq] at hb
      subst hb; exact ⟨ha, ch_R_refl _ _ _⟩, Or.inr (ch_cd_pos n ⟨a, ha, by rw [b_one a (by omega) (by omega)]; simp⟩)⟩
    (fun k s hk hs0 => by
      obtain ⟨s1, s2⟩ := s
      obtain ⟨e1, ea, e2, e3⟩ := hs0
      dsimp only at e1 ea e2 e3
      subst e1
      simp only [f_Ways_metFrom_B7, hc]
      rw [if_neg (nI_ge hk (by omega))]
      unfold f_Ways_metFrom_L22
      obtain ⟨t, e, hQ⟩ := lp_run0 (fun s => f_Ways_metFrom_B22 (nI n) w tot hs s.1 s.2)
        (fun k s => s.2 = nI k ∧ (∀ i, bt s1 i = true → bt s.1 i = true) ∧ (∀ i, i < 32 → bt s.1 i = true → i < n ∧ ch_R (ch_E n W) (bS hs) a i) ∧ (∀ i j, i < k → bt s1 i = true → ¬ bS hs i → ch_E n W i j → bt s.1 j = true) ∧ (ch_cl n W (bS hs) s1 → s.1 = s1))
        (fun t => (∀ i, bt s1 i = true → bt t.1 i = true) ∧ (∀ i, i < 32 → bt t.1 i = true → i < n ∧ ch_R (ch_E n W) (bS hs) a i) ∧ (∀ i j, bt s1 i = true → ¬ bS hs i → ch_E n W i j → bt t.1 j = true) ∧ (ch_cl n W (bS hs) s1 → t.1 = s1)) n 300 (s1, 0) (by omega)
        ⟨rfl, fun _ z => z, e2, fun i j hi => by omega, fun _ => rfl⟩
        (fun m r hm hr => by
          obtain ⟨r1, r2⟩ := r
          obtain ⟨g1, g2, g3, g4, g5⟩ := hr
          dsimp only at g1 g2 g3 g4 g5
          subst g1
          simp only [f_Ways_metFrom_B22]
          rw [if_neg (nI_ge hm (by omega)), s_holds _ (by omega), Option.bind_some, b_and, b_not hs (by omega)]
          by_cases hb : (bt r1 m && !bt hs m) = true
          · rw [if_pos hb, if_neg (by decide)]
            obtain ⟨x, hx, hxs⟩ := hN m (by omega)
            rw [← hc, hx, Option.bind_some]
            simp only [Bool.and_eq_true, Bool.not_eq_true'] at hb
            have hmS : ¬ bS hs m := fun z => by rw [show bt hs m = true from z] at hb; exact absurd hb.2 (by decide)
            refine ⟨_, rfl, nI_1 m, ?_, ?_, ?_, ?_⟩
            · intro i hi; dsimp only; rw [b_or, g2 i hi]; rfl
            · intro i hi hbi
              dsimp only at hbi
              rw [b_or, Bool.or_eq_true] at hbi
              rcases hbi with q | q
              · exact g3 i hi q
              · have q2 := (hxs i hi).mp q
                exact ⟨q2.1, ch_R_right (g3 m (by omega) hb.1).2 hmS ⟨hm, q2.1, q2.2⟩⟩
            · intro i j hi hbi hni hE
              dsimp only
              rw [b_or, Bool.or_eq_true]
              rcases Nat.lt_or_ge i m with q | q
              · exact Or.inl (g4 i j q hbi hni hE)
              · have : i = m := by omega
                subst this
                exact Or.inr ((hxs j (by have := hE.2.1; omega)).mpr ⟨hE.2.1, hE.2.2⟩)
            · intro hcl
              dsimp only
              have q := g5 hcl
              rw [q]
              apply b_ext
              intro i hi
              rw [b_or]
              cases hxi : bt x i
              · simp
              · have q2 := (hxs i hi).mp hxi
                rw [q] at hb
                rw [hcl m i hb.1 hmS ⟨hm, q2.1, q2.2⟩]; rfl
          · rw [if_neg hb, if_pos rfl]
            refine ⟨_, rfl, nI_1 m, g2, g3, ?_, g5⟩
            intro i j hi hbi hni hE
            rcases Nat.lt_or_ge i m with q | q
            · exact g4 i j q hbi hni hE
            · have : i = m := by omega
              subst this
              refine absurd ?_ hb
              rw [g2 i hbi]
              have : bt hs i = false := by cases z : bt hs i; rfl; exact absurd z hni
              rw [this]; rfl)
        (fun r hr => by
          obtain ⟨r1, r2⟩ := r
          obtain ⟨g1, g2, g3, g4, g5⟩ := hr
          dsimp only at g1 g2 g3 g4 g5
          subst g1
          simp only [f_Ways_metFrom_B22]
          rw [if_pos (nI_le (Nat.le_refl n) (by omega))]
          exact ⟨_, rfl, g2, g3, fun i j a b c => g4 i j c.1 a b c, g5⟩)
      obtain ⟨t1, t2⟩ := t
      obtain ⟨g2, g3, g4, g5⟩ := hQ
      dsimp only at g2 g3 g4 g5
      rw [e]
      refine ⟨_, rfl, nI_1 k, g2 a ea, g3, ?_⟩
      dsimp only
      by_cases hcl : ch_cl n W (bS hs) s1
      · left; rw [g5 hcl]; exact hcl
      · right
        have hcd : k + 1 ≤ ch_cd s1 n := e3.resolve_left hcl
        have hex : ∃ i j, bt s1 i = true ∧ ¬ bS hs i ∧ ch_E n W i j ∧ ¬ bt s1 j = true := by
          refine Classical.byContradiction (fun hno => hcl (fun i j p1 p2 p3 => Classical.byContradiction (fun p4 => hno ⟨i, j, p1, p2, p3, p4⟩)))
        obtain ⟨i, j, p1, p2, p3, p4⟩ := hex
        have := ch_cd_lt n (fun i _ => g2 i) ⟨j, p3.2.1, g4 i j p1 p2 p3, p4⟩
        omega)
    (fun s hs0 => by
      obtain ⟨s1, s2⟩ := s
      obtain ⟨e1, ea, e2, e3⟩ := hs0
      dsimp only at e1 ea e2 e3
      subst e1
      simp only [f_Ways_metFrom_B7, hc]
      rw [if_pos (nI_le (Nat.le_refl n) (by omega))]
      refine ⟨_, rfl, fun i hi => ⟨fun hb => e2 i hi hb, fun hr => ?_⟩⟩
      have hcl : ch_cl n W (bS hs) s1 := e3.resolve_right (by have := ch_cd_le s1 n; omega)
      exact ch_R_fwd (C := fun i => bt s1 i = true) (fun x y p1 p2 p3 => hcl x y p1 p2 p3) ea hr.2)
  obtain ⟨t1, t2⟩ := t
  exact ⟨t1, by rw [e]; rfl, hQ⟩
end
