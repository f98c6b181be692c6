/-! SPC: elimination stays within a long -/
theorem pw12 : ∀ p, p ≤ 7 → (12 : Int) ^ p ≤ 35831808 := by decide +kernel
theorem pw12' : ∀ p, p ≤ 5 → (12 : Int) * 12 ^ p ≤ 2985984 := by decide +kernel
theorem pw12'' : ∀ p, p ≤ 6 → (12 : Int) * 12 ^ p ≤ 35831808 := by decide +kernel
theorem pw24 : ∀ p, p ≤ 6 → (p + 1) * 1200 * 24 ^ (p + 1) ≤ 38526359961600 := by decide +kernel
theorem pw24' : ∀ p, p ≤ 5 → (p + 1) * 1200 * 24 ^ (p + 1) ≤ 1375941427200 := by decide +kernel
theorem nat_cross {a b c d : Int} {A B : Nat} (ha : a.natAbs ≤ A) (hb : b.natAbs ≤ B) (hc : c.natAbs ≤ B) (hd : d.natAbs ≤ A) : (a * b - c * d).natAbs ≤ A * B + A * B := by
  have h1 := Int.natAbs_sub_le (a * b) (c * d)
  rw [Int.natAbs_mul, Int.natAbs_mul] at h1
  have h2 := Nat.mul_le_mul ha hb
  have h3 := Nat.mul_le_mul hc hd
  rw [Nat.mul_comm B A] at h3
  omega
section
variable {n : Nat} {W : Nat → Nat → Nat} {x : Int32} {a : Nat} {g : Nat → Int}
theorem sl_gain (hW : okW n W) (ha : a < n) (hg : ∀ k, k < n → (g k).natAbs ≤ 1200) {p r : Nat} (hp : p ≤ sl_L x n) (hr : r ≤ sl_L x n) : (mm_M (sl_A n W (sl_st x n a) (sl_L x n) g) p r (sl_L x n + 1)).natAbs ≤ (p + 1) * 1200 * 24 ^ (p + 1) := by
  have h7 := hW.1
  have hLn : sl_L x n ≤ n := ch_ol_len x n
  have hgc : ∀ k, k ≤ sl_L x n → (sl_A n W (sl_st x n a) (sl_L x n) g k (sl_L x n + 1)).natAbs ≤ 1200 := fun k hk => by
    rw [sl_AB (by omega)]
    unfold sl_B
    rw [if_pos rfl]
    exact hg _ (sl_st_lt ha hk)
  refine mm_col_le _ _ _ 1200 24 (p + 1) (by omega) ?_ ?_ ?_
  · intro q hq
    rcases List.mem_cons.mp hq with h | h
    · rw [h]; exact hgc r hr
    · obtain ⟨k, h1, h2⟩ := mm_V_mem _ p q h
      rw [h2]; exact hgc k (by omega)
  · intro q hq
    rcases List.mem_cons.mp hq with h | h
    · rw [h]; exact sl_L1 hW ha hr hp
    · obtain ⟨k, h1, h2⟩ := mm_V_mem _ p q h
      rw [h2]; exact sl_L1 hW ha (by omega) hp
  · simp only [List.length_cons]; rw [mm_V_len]; exact Nat.le_refl _
theorem sl_el (hW : okW n W) (ha : a < n) (hout : ch_out n W x) (hg : ∀ k, k < n → (g k).natAbs ≤ 1200) : el_ok (sl_A n W (sl_st x n a) (sl_L x n) g) (sl_L x n) := by
  obtain ⟨ρ, h⟩ := sl_mm (g := g) hW ha hout
  have hL6 := sl_L6 hW hout
  have hgn := fun p r => sl_gain (x := x) (a := a) hW ha hg (p := p) (r := r)
  generalize sl_A n W (sl_st x n a) (sl_L x n) g = A at *
  generalize sl_L x n = L at *
  have hqB := mm_qB h (by decide)
  have hdi : ∀ p r, p ≤ L → p ≤ r → r ≤ L → 0 < mm_M A p r r ∧ mm_M A p r r ≤ 12 * 12 ^ p := fun p r h1 h2 h3 => by
    have ho := mm_all h p (by omega)
    refine ⟨mm_pos ho h2 (by omega), ?_⟩
    have h4 := ho.2.2.2.2.2 r h2 (by omega)
    have h5 := hqB p (by omega)
    omega
  have hof : ∀ p r c, p ≤ L → p ≤ r → r ≤ L → p ≤ c → c ≤ L → (mm_M A p r c).natAbs ≤ 35831808 := fun p r c h1 h2 h3 h4 h5 => by
    have ho := mm_all h p (by omega)
    have h6 := mm_off ho h2 (by omega) h4 (j := c) (by omega)
    have h7 := hdi p r h1 h2 h3
    have h8 := pw12'' p (by omega)
    omega
  have hof' : ∀ p r c, p < L → p ≤ r → r ≤ L → p ≤ c → c ≤ L → (mm_M A p r c).natAbs ≤ 2985984 := fun p r c h1 h2 h3 h4 h5 => by
    have ho := mm_all h p (by omega)
    have h6 := mm_off ho h2 (by omega) h4 (j := c) (by omega)
    have h7 := hdi p r (by omega) h2 h3
    have h8 := pw12' p (by omega)
    omega
  refine ⟨by omega, ?_, ?_⟩
  · intro p hp
    have h1 := (mm_all h p hp).1
    have h2 := hqB p hp
    have h3 := pw12 p (by omega)
    refine ⟨h1, ?_⟩
    unfold smL
    omega
  · intro p r c h1 h2 h3 h4 h5
    by_cases hc : c = L + 1
    · subst hc
      have hb := hgn p r (by omega) (by omega)
      refine ⟨?_, ?_⟩
      · have := pw24 p (by omega)
        unfold smL
        omega
      · by_cases hr : r = p
        · subst hr
          have e : mm_M A r r (L + 1) * mm_M A r r r - mm_M A r r r * mm_M A r r (L + 1) = 0 := by rw [Int.mul_comm]; omega
          rw [e]; unfold smL; decide
        · have hb2 := hgn p p (by omega) (by omega)
          have h6 := pw24' p (by omega)
          have hcr := nat_cross (a := mm_M A p r (L + 1)) (b := mm_M A p p p) (c := mm_M A p r p) (d := mm_M A p p (L + 1)) (A := 1375941427200) (B := 2985984) (by omega) (hof' p p p (by omega) (Nat.le_refl p) (by omega) (Nat.le_refl p) (by omega)) (hof' p r p (by omega) h2 h3 (Nat.le_refl p) (by omega)) (by omega)
          unfold smL
          omega
    · have hcr := nat_cross (hof p r c h1 h2 h3 h4 (by omega)) (hof p p p h1 (Nat.le_refl p) h1 (Nat.le_refl p) h1) (hof p r p h1 h2 h3 (Nat.le_refl p) h1) (hof p p c h1 (Nat.le_refl p) h1 h4 (by omega))
      refine ⟨?_, ?_⟩
      · have := hof p r c h1 h2 h3 h4 (by omega)
        unfold smL
        omega
      · unfold smL
        omega
end
