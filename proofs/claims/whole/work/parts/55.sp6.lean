/-! SP6: the class's elimination -/
theorem up_s {α : Type} {f : Nat → α} {k : Nat} {x : α} : va_up f k x k = x := by simp [va_up]
theorem up_n {α : Type} {f : Nat → α} {k j : Nat} {x : α} (h : j ≠ k) : va_up f k x j = f j := by simp [va_up, h]
/-- what elimination needs: pivots above 0, numbers within a long -/
def el_ok (A : Nat → Nat → Int) (L : Nat) : Prop := L ≤ 7 ∧ (∀ p, p ≤ L + 1 → 0 < mm_q A p ∧ smL (mm_q A p)) ∧ ∀ p r c, p ≤ L → p ≤ r → r ≤ L → p ≤ c → c ≤ L + 1 → smL (mm_M A p r c) ∧ smL (mm_M A p r c * mm_M A p p p - mm_M A p r p * mm_M A p p c)
theorem s_reduceRow {A : Nat → Nat → Int} {L : Nat} (h : el_ok A L) {p r0 : Nat} (hp : p < r0) (hr : r0 ≤ L) (rws : Nat → Nat → Int64) (h0 : ∀ c, p ≤ c → c ≤ L + 1 → rws r0 c = lI (mm_M A p r0 c)) (h1 : ∀ c, p ≤ c → c ≤ L + 1 → rws p c = lI (mm_M A p p c)) :
    ∃ rws', f_FirstSteps_reduceRow rws (nI L) (nI r0) (nI p) (lI (mm_q A p)) = some rws' ∧ (∀ r c, r ≠ r0 → rws' r c = rws r c) ∧ ∀ c, p < c → c ≤ L + 1 → rws' r0 c = lI (mm_M A (p + 1) r0 c) := by
  obtain ⟨h7, hq, hM⟩ := h
  have hqp := hq p (by omega)
  unfold f_FirstSteps_reduceRow
  rw [if_neg (fun z => by have := (cmp0 hqp.2).mp z; omega), if_pos (ix_nI (by omega) (by omega)), if_pos (ix_nI (by omega) (by omega)), nI_clamp (by omega), nI_clamp (by omega)]
  unfold f_FirstSteps_reduceRow_L22
  obtain ⟨t, e, hQ⟩ := lp_run (fun s => f_FirstSteps_reduceRow_B22 (nI L) (nI r0) (nI p) (lI (mm_q A p)) (rws r0 p) s.1 s.2)
    (fun k s => s.1 = nI k ∧ p < k ∧ (∀ r c, r ≠ r0 → s.2 r c = rws r c) ∧ (∀ c, p < c → c < k → s.2 r0 c = lI (mm_M A (p + 1) r0 c)) ∧ (∀ c, k ≤ c → s.2 r0 c = rws r0 c))
    (fun t => (∀ r c, r ≠ r0 → t.2 r c = rws r c) ∧ ∀ c, p < c → c ≤ L + 1 → t.2 r0 c = lI (mm_M A (p + 1) r0 c)) (L + 2)
    (fun k s hk hs => by
      obtain ⟨s1, s2⟩ := s
      obtain ⟨e1, hpk, e2, e3, e4⟩ := hs
      dsimp only at e1 e2 e3 e4
      subst e1
      by_cases hkp : k ≤ p
      · omega
      · have hN := hM p r0 k (by omega) (by omega) hr (by omega) (by omega)
        simp only [f_FirstSteps_reduceRow_B22]
        rw [nI_1, if_neg (nI_nlt (by omega) (by omega)), if_pos (ix_nI (by omega) (by omega)), if_pos (ix_nI (by omega) (by omega)), if_pos (ix_nI (by omega) (by omega)), if_pos (ix_nI (by omega) (by omega)), if_pos (ix_nI (by omega) (by omega)), if_pos (ix_nI (by omega) (by omega)), if_pos (ix_nI (by omega) (by omega)), if_pos (lI_ne0 hqp.2 (by omega)), if_pos (ix_nI (by omega) (by omega)), nI_clamp (by omega), nI_clamp (by omega), nI_clamp (by omega)]
        rw [e4 k (Nat.le_refl k), e2 p p (by omega), e2 p k (by omega), h0 k (by omega) (by omega), h0 p (by omega) (by omega), h1 p (by omega) (by omega), h1 k (by omega) (by omega)]
        rw [lI_mul, lI_mul, lI_sub, lI_div hN.2.fit hqp.2.fit]
        have hst := mm_step A p r0 k
        have e5 : (mm_M A p r0 k * mm_M A p p p - mm_M A p r0 p * mm_M A p p k).tdiv (mm_q A p) = mm_M A (p + 1) r0 k := by
          rw [Int.mul_comm (mm_M A p r0 k), ← hst, Int.mul_tdiv_cancel_left _ (by omega)]
        rw [e5]
        refine ⟨_, rfl, nI_1 k, by omega, ?_, ?_, ?_⟩
        · intro r c hrr; dsimp only; rw [up_n hrr]; exact e2 r c hrr
        · intro c hc1 hc2
          dsimp only
          rw [up_s]
          by_cases hck : c = k
          · subst hck; exact pk_uLs
          · rw [pk_uLn hck]; exact e3 c hc1 (by omega)
        · intro c hc
          dsimp only
          rw [up_s, pk_uLn (by omega)]
          exact e4 c (by omega))
    (fun s hs => by
      obtain ⟨s1, s2⟩ := s
      obtain ⟨e1, hpk, e2, e3, e4⟩ := hs
      dsimp only at e1 e2 e3 e4
      subst e1
      simp only [f_FirstSteps_reduceRow_B22]
      rw [nI_1, if_pos (nI_lt (by omega) (by omega))]
      exact ⟨_, rfl, e2, fun c a b => e3 c a (by omega)⟩)
    300 (p + 1) (nI p + 1, rws) (by omega) (by omega) ⟨nI_1 p, by omega, fun _ _ _ => rfl, fun c a b => by omega, fun _ _ => rfl⟩
  rw [e]
  exact ⟨t.2, rfl, hQ⟩
theorem s_eliminate {A : Nat → Nat → Int} {L : Nat} (h : el_ok A L) (rws : Nat → Nat → Int64) (h0 : ∀ r c, r ≤ L → c ≤ L + 1 → rws r c = lI (A r c)) : ∃ rws', f_FirstSteps_eliminate rws (nI L) = some rws' ∧ ∀ c, L ≤ c → c ≤ L + 1 → rws' L c = lI (mm_M A L L c) := by
  have hred := fun p r0 (hp : p < r0) (hr : r0 ≤ L) rws a b => s_reduceRow h hp hr rws a b
  obtain ⟨h7, hq, hM⟩ := h
  unfold f_FirstSteps_eliminate f_FirstSteps_eliminate_L4
  obtain ⟨t, e, hQ⟩ := lp_run0 (fun s => f_FirstSteps_eliminate_B4 (nI L) s.1 s.2.1 s.2.2)
    (fun p s => s.1 = lI (mm_q A p) ∧ s.2.1 = nI p ∧ ∀ r c, p ≤ r → r ≤ L → p ≤ c → c ≤ L + 1 → s.2.2 r c = lI (mm_M A p r c))
    (fun t => ∀ c, L ≤ c → c ≤ L + 1 → t.2.2 L c = lI (mm_M A L L c)) L 300 (1, 0, rws) (by omega)
    ⟨rfl, rfl, fun r c _ hr _ hc => by rw [mm_M_0]; exact h0 r c hr hc⟩
    (fun p s hp hs => by
      obtain ⟨s1, s2, s3⟩ := s
      obtain ⟨e1, e2, e3⟩ := hs
      dsimp only at e1 e2 e3
      subst e1; subst e2
      simp only [f_FirstSteps_eliminate_B4]
      rw [if_neg (nI_ge hp (by omega))]
      unfold f_FirstSteps_eliminate_L17
      obtain ⟨t, e, hQ⟩ := lp_run (fun s => f_FirstSteps_eliminate_B17 (nI L) (lI (mm_q A p)) (nI p) s.1 s.2)
        (fun k s => s.1 = nI k ∧ p < k ∧ (∀ r c, p < r → r < k → p < c → c ≤ L + 1 → s.2 r c = lI (mm_M A (p + 1) r c)) ∧ (∀ r c, (r = p ∨ k ≤ r) → r ≤ L → p ≤ c → c ≤ L + 1 → s.2 r c = lI (mm_M A p r c)))
        (fun t => (∀ r c, p < r → r ≤ L → p < c → c ≤ L + 1 → t.2 r c = lI (mm_M A (p + 1) r c)) ∧ t.2 p p = lI (mm_M A p p p)) (L + 1)
        (fun k r hk hr => by
          obtain ⟨r1, r2⟩ := r
          obtain ⟨g1, g2, g3, g4⟩ := hr
          dsimp only at g1 g2 g3 g4
          subst g1
          simp only [f_FirstSteps_eliminate_B17]
          rw [if_neg (nI_nlt (by omega) (by omega))]
          obtain ⟨rws', e, q1, q2⟩ := hred p k g2 (by omega) r2 (fun c a b => g4 k c (Or.inr (Nat.le_refl k)) (by omega) a b) (fun c a b => g4 p c (Or.inl rfl) (by omega) a b)
          rw [e]
          refine ⟨_, rfl, nI_1 k, by omega, ?_, ?_⟩
          · intro r c a1 a2 a3 a4
            dsimp only
            by_cases hrk : r = k
            · subst hrk; exact q2 c a3 a4
            · rw [q1 r c hrk]; exact g3 r c a1 (by omega) a3 a4
          · intro r c a1 a2 a3 a4
            dsimp only
            rw [q1 r c (by omega)]
            exact g4 r c (by omega) a2 a3 a4)
        (fun r hr => by
          obtain ⟨r1, r2⟩ := r
          obtain ⟨g1, g2, g3, g4⟩ := hr
          dsimp only at g1 g2 g3 g4
          subst g1
          simp only [f_FirstSteps_eliminate_B17]
          rw [if_pos (nI_lt (by omega) (by omega))]
          exact ⟨_, rfl, fun r c a1 a2 a3 a4 => g3 r c a1 (by omega) a3 a4, g4 p p (Or.inl rfl) (by omega) (Nat.le_refl p) (by omega)⟩)
        300 (p + 1) (nI p + 1, s3) (by omega) (by omega) ⟨nI_1 p, by omega, fun r c a b => by omega, fun r c a b c' d => e3 r c (by omega) b c' d⟩
      rw [e]
      obtain ⟨t1, t2⟩ := t
      simp only [Option.bind_some]
      rw [if_pos (ix_nI (by omega) (by omega)), if_pos (ix_nI (by omega) (by omega)), nI_clamp (by omega)]
      refine ⟨_, rfl, ?_, nI_1 p, ?_⟩
      · rw [mm_q_s]; exact hQ.2
      · intro r c a1 a2 a3 a4; exact hQ.1 r c a1 a2 a3 a4)
    (fun s hs => by
      obtain ⟨s1, s2, s3⟩ := s
      obtain ⟨e1, e2, e3⟩ := hs
      dsimp only at e1 e2 e3
      subst e1; subst e2
      simp only [f_FirstSteps_eliminate_B4]
      rw [if_pos (nI_le (Nat.le_refl L) (by omega))]
      exact ⟨_, rfl, fun c a b => e3 L c (Nat.le_refl L) (Nat.le_refl L) a b⟩)
  rw [e]
  exact ⟨t.2.2, rfl, hQ⟩
