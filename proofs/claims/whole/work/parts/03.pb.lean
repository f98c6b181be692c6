/-! PURE BASE: loops by fuel; long numbers as lI z (z whole); Euclid's turns; fractions in lowest terms -/
/-- a loop by fuel: the body goes on (.inl) or ends (.inr) -/
def lpk {σ τ : Type} (k : σ → Option τ) : σ ⊕ τ → Option τ
  | .inl s => k s
  | .inr t => some t
def lp {σ τ : Type} (body : σ → Option (σ ⊕ τ)) : Nat → σ → Option τ
  | 0, _ => none
  | n + 1, s => Option.bind (body s) (lpk (lp body n))
theorem lp_s {σ τ : Type} (body : σ → Option (σ ⊕ τ)) (n : Nat) (s : σ) : lp body (n + 1) s = Option.bind (body s) (lpk (lp body n)) := rfl
theorem lp_mu {σ τ : Type} (body : σ → Option (σ ⊕ τ)) (P : σ → Prop) (μ : σ → Nat) (Q : τ → Prop) (hs : ∀ s, P s → ∃ y, body s = some y ∧ (match y with | .inl s' => P s' ∧ μ s' < μ s | .inr t => Q t)) : ∀ (fuel : Nat) (s : σ), P s → μ s < fuel → ∃ t, lp body fuel s = some t ∧ Q t := by
  intro fuel
  induction fuel with
  | zero => intro s _ h; omega
  | succ n ih =>
    intro s hP hm
    obtain ⟨y, e, h⟩ := hs s hP
    simp only [lp]
    rw [e]
    cases y with
    | inl s' =>
      obtain ⟨h1, h2⟩ := h
      exact ih s' h1 (by omega)
    | inr t => exact ⟨t, rfl, h⟩
theorem lp_run {σ τ : Type} (body : σ → Option (σ ⊕ τ)) (P : Nat → σ → Prop) (Q : τ → Prop) (N : Nat) (hs : ∀ k s, k < N → P k s → ∃ y, body s = some y ∧ (match y with | .inl s' => P (k + 1) s' | .inr t => Q t)) (he : ∀ s, P N s → ∃ t, body s = some (.inr t) ∧ Q t) : ∀ (fuel k : Nat) (s : σ), k ≤ N → N < k + fuel → P k s → ∃ t, lp body fuel s = some t ∧ Q t := by
  intro fuel
  induction fuel with
  | zero => intro k s h1 h2; omega
  | succ n ih =>
    intro k s h1 h2 hP
    simp only [lp]
    rcases Nat.lt_or_ge k N with h | h
    · obtain ⟨y, e, h3⟩ := hs k s h hP
      rw [e]
      cases y with
      | inl s' => exact ih (k + 1) s' h (by omega) h3
      | inr t => exact ⟨t, rfl, h3⟩
    · have hk : k = N := by omega
      subst hk
      obtain ⟨t, e, h3⟩ := he s hP
      rw [e]
      exact ⟨t, rfl, h3⟩
/-- from the first turn on, with enough fuel -/
theorem lp_run0 {σ τ : Type} (body : σ → Option (σ ⊕ τ)) (P : Nat → σ → Prop) (Q : τ → Prop) (N fuel : Nat) (s : σ) (hN : N < fuel) (h0 : P 0 s) (hs : ∀ k s, k < N → P k s → ∃ y, body s = some y ∧ (match y with | .inl s' => P (k + 1) s' | .inr t => Q t)) (he : ∀ s, P N s → ∃ t, body s = some (.inr t) ∧ Q t) : ∃ t, lp body fuel s = some t ∧ Q t :=
  lp_run body P Q N hs he fuel 0 s (Nat.zero_le N) (by omega) h0
def lI (z : Int) : Int64 := Int64.ofInt z
theorem lI_add (a b : Int) : lI a + lI b = lI (a + b) := (Int64.ofInt_add a b).symm
theorem lI_sub (a b : Int) : lI a - lI b = lI (a - b) := (Int64.ofInt_sub a b).symm
theorem lI_mul (a b : Int) : lI a * lI b = lI (a * b) := (Int64.ofInt_mul a b).symm
theorem lI_neg (a : Int) : - lI a = lI (-a) := (Int64.ofInt_neg a).symm
theorem lI_0 : (0 : Int64) = lI 0 := rfl
theorem lI_1 : (1 : Int64) = lI 1 := rfl
theorem lI_of (x : Int64) : lI x.toInt = x := Int64.ofInt_toInt x
/-- z is a long -/
def fitL (z : Int) : Prop := -9223372036854775808 ≤ z ∧ z < 9223372036854775808
theorem lI_toInt {z : Int} (h : fitL z) : (lI z).toInt = z := Int64.toInt_ofInt_of_le (by have := h.1; omega) (by have := h.2; omega)
theorem lI_inj {a b : Int} (ha : fitL a) (hb : fitL b) : lI a = lI b ↔ a = b :=
  ⟨fun h => by rw [← lI_toInt ha, h, lI_toInt hb], fun h => by rw [h]⟩
theorem lI_lt {a b : Int} (ha : fitL a) (hb : fitL b) : lI a < lI b ↔ a < b := by
  rw [Int64.lt_iff_toInt_lt, lI_toInt ha, lI_toInt hb]
theorem lI_le {a b : Int} (ha : fitL a) (hb : fitL b) : lI a ≤ lI b ↔ a ≤ b := by
  rw [Int64.le_iff_toInt_le, lI_toInt ha, lI_toInt hb]
theorem lI_div {a b : Int} (ha : fitL a) (hb : fitL b) : lI a / lI b = lI (a.tdiv b) :=
  (Int64.ofInt_tdiv (by have := ha.1; show (-9223372036854775808 : Int) ≤ a; omega) (by have := ha.2; show a ≤ (9223372036854775807 : Int); omega) (by have := hb.1; show (-9223372036854775808 : Int) ≤ b; omega) (by have := hb.2; show b ≤ (9223372036854775807 : Int); omega)).symm
theorem fit0 : fitL 0 := ⟨by decide, by decide⟩
theorem nI_long (k : Nat) (h : k < 2147483648) : (nI k).toInt64 = lI k := by
  have e : (nI k).toInt = (k : Int) := nI_toInt (by omega)
  rw [← Int64.ofInt_int32ToInt, e]
  rfl
/-- Euclid ends within k turns -/
def eu : Nat → Nat → Nat → Prop
  | 0, _, y => y = 0
  | k + 1, x, y => y = 0 ∨ eu k y (x % y)
def fb : Nat → Nat
  | 0 => 0
  | 1 => 1
  | n + 2 => fb n + fb (n + 1)
theorem eu_0 (k x : Nat) : eu k x 0 := by
  cases k with
  | zero => rfl
  | succ k => exact Or.inl rfl
theorem eu_mono (k : Nat) : ∀ x y, eu k x y → eu (k + 1) x y := by
  induction k with
  | zero => intro x y h; exact Or.inl h
  | succ k ih =>
    intro x y h
    rcases h with h | h
    · exact Or.inl h
    · exact Or.inr (ih _ _ h)
theorem eu_fb (k : Nat) : (∀ x y, y < x → y < fb (k + 1) → eu k x y) ∧ (∀ x y, y < x → y < fb (k + 2) → eu (k + 1) x y) := by
  induction k with
  | zero =>
    constructor
    · intro x y _ h; have h : y < 1 := h; show y = 0; omega
    · intro x y _ h; have h : y < 1 := h; exact Or.inl (by omega)
  | succ k ih =>
    refine ⟨ih.2, ?_⟩
    intro x y hxy h
    by_cases hy : y = 0
    · exact Or.inl hy
    refine Or.inr ?_
    have hr : x % y < y := Nat.mod_lt _ (by omega)
    have h : y < fb (k + 1) + fb (k + 2) := h
    by_cases hr0 : x % y = 0
    · rw [hr0]; exact eu_0 _ _
    · rcases Nat.lt_or_ge (x % y) (fb (k + 2)) with h1 | h1
      · exact ih.2 _ _ hr h1
      · refine Or.inr ?_
        have h2 : y % (x % y) < x % y := Nat.mod_lt _ (by omega)
        have h3 : y % (x % y) ≤ y - x % y := by
          have h4 := Nat.mod_add_div y (x % y)
          have h5 : 1 ≤ y / (x % y) := Nat.div_pos (by omega) (by omega)
          have h6 : (x % y) * 1 ≤ (x % y) * (y / (x % y)) := Nat.mul_le_mul (Nat.le_refl _) h5
          omega
        exact ih.1 _ _ h2 (by omega)
theorem eu_93 (x y : Nat) (hx : x < 9223372036854775808) (hy : y < 9223372036854775808) : eu 94 x y := by
  have hf : 9223372036854775808 < fb 93 := by decide +kernel
  by_cases h0 : y = 0
  · exact Or.inl h0
  refine Or.inr ?_
  exact (eu_fb 92).2 y (x % y) (Nat.mod_lt _ (by omega)) (by
    have h1 : x % y ≤ x := Nat.mod_le _ _
    show x % y < fb 92 + fb 93
    omega)
/-- one turn of Euclid, in longs -/
theorem lI_rem {a b : Nat} (ha : a < 9223372036854775808) (hb : b < 9223372036854775808) : lI a - lI a / lI b * lI b = lI ((a % b : Nat) : Int) := by
  rw [lI_div ⟨by omega, by omega⟩ ⟨by omega, by omega⟩, lI_mul, lI_sub]
  congr 1
  have h1 := Int.tmod_add_mul_tdiv (a : Int) (b : Int)
  have h2 : ((a : Int).tmod (b : Int)) = ((a % b : Nat) : Int) := by
    rw [Int.tmod_eq_emod_of_nonneg (by omega)]; rfl
  rw [h2, Int.mul_comm] at h1
  omega
/-- the fraction n / d in lowest terms, the lower number above 0 -/
def rdU (n d : Int) : Int := (if d < 0 then -n else n) / (Int.gcd n d : Int)
def rdL (n d : Int) : Int := (if d < 0 then -d else d) / (Int.gcd n d : Int)
theorem rd_pos (n d : Int) (hd : d ≠ 0) : 0 < (Int.gcd n d : Int) := by
  have h : Int.gcd n d ≠ 0 := fun h => hd (Int.gcd_eq_zero_iff.mp h).2
  omega
theorem rd_U (n d : Int) : rdU n d * (Int.gcd n d : Int) = if d < 0 then -n else n := by
  unfold rdU
  refine Int.ediv_mul_cancel ?_
  split
  · exact Int.dvd_neg.mpr (Int.gcd_dvd_left n d)
  · exact Int.gcd_dvd_left n d
theorem rd_L (n d : Int) : rdL n d * (Int.gcd n d : Int) = if d < 0 then -d else d := by
  unfold rdL
  refine Int.ediv_mul_cancel ?_
  split
  · exact Int.dvd_neg.mpr (Int.gcd_dvd_right n d)
  · exact Int.gcd_dvd_right n d
theorem rd_nat {a b a' b' : Nat} (h : a * b' = a' * b) (hb : 0 < b) (hb' : 0 < b') : b / Nat.gcd a b = b' / Nat.gcd a' b' := by
  have hg : 0 < Nat.gcd a b := Nat.gcd_pos_of_pos_right a hb
  have hg' : 0 < Nat.gcd a' b' := Nat.gcd_pos_of_pos_right a' hb'
  have e : b * Nat.gcd a' b' = b' * Nat.gcd a b := by
    rw [← Nat.gcd_mul_left, ← Nat.gcd_mul_left, Nat.mul_comm b a', ← h, Nat.mul_comm b' a, Nat.mul_comm b b']
  have h1 : b / Nat.gcd a b * Nat.gcd a b = b := Nat.div_mul_cancel (Nat.gcd_dvd_right a b)
  have h2 : b' / Nat.gcd a' b' * Nat.gcd a' b' = b' := Nat.div_mul_cancel (Nat.gcd_dvd_right a' b')
  refine Nat.eq_of_mul_eq_mul_right (Nat.mul_pos hg hg') ?_
  calc b / Nat.gcd a b * (Nat.gcd a b * Nat.gcd a' b') = (b / Nat.gcd a b * Nat.gcd a b) * Nat.gcd a' b' := by rw [Nat.mul_assoc]
    _ = b' * Nat.gcd a b := by rw [h1, e]
    _ = (b' / Nat.gcd a' b' * Nat.gcd a' b') * Nat.gcd a b := by rw [h2]
    _ = b' / Nat.gcd a' b' * (Nat.gcd a b * Nat.gcd a' b') := by rw [Nat.mul_assoc, Nat.mul_comm (Nat.gcd a' b')]
theorem rd_Lnat (n d : Int) : rdL n d = ((d.natAbs / Nat.gcd n.natAbs d.natAbs : Nat) : Int) := by
  unfold rdL
  have e : (if d < 0 then -d else d) = (d.natAbs : Int) := by split <;> omega
  rw [e]
  rfl
theorem rd_Lpos (n d : Int) (hd : d ≠ 0) : 0 < rdL n d := by
  rw [rd_Lnat]
  have h : 0 < d.natAbs / Nat.gcd n.natAbs d.natAbs := Nat.div_pos (Nat.gcd_le_right _ (by omega)) (Nat.gcd_pos_of_pos_right _ (by omega))
  omega
/-- equal fractions have the same lowest terms -/
theorem rd_eq {n d n' d' : Int} (h : n * d' = n' * d) (hd : d ≠ 0) (hd' : d' ≠ 0) : rdU n d = rdU n' d' ∧ rdL n d = rdL n' d' := by
  have hL : rdL n d = rdL n' d' := by
    rw [rd_Lnat, rd_Lnat]
    have h2 : n.natAbs * d'.natAbs = n'.natAbs * d.natAbs := by rw [← Int.natAbs_mul, ← Int.natAbs_mul, h]
    rw [rd_nat h2 (by omega) (by omega)]
  refine ⟨?_, hL⟩
  have g1 := rd_pos n d hd
  have g2 := rd_pos n' d' hd'
  have u1 := rd_U n d
  have u2 := rd_U n' d'
  have l1 := rd_L n d
  have l2 := rd_L n' d'
  have lp := rd_Lpos n d hd
  rw [← hL] at l2
  have hs : (if d < 0 then -n else n) * (if d' < 0 then -d' else d') = (if d' < 0 then -n' else n') * (if d < 0 then -d else d) := by
    by_cases c1 : d < 0
    · by_cases c2 : d' < 0
      · simp only [c1, c2, if_true]; rw [Int.neg_mul_neg, Int.neg_mul_neg, h]
      · simp only [c1, c2, if_true, if_false]; rw [Int.neg_mul, Int.mul_neg, h]
    · by_cases c2 : d' < 0
      · simp only [c1, c2, if_true, if_false]; rw [Int.mul_neg, Int.neg_mul, h]
      · simp only [c1, c2, if_false]; exact h
  rw [← u1, ← u2, ← l1, ← l2] at hs
  have hk : (rdL n d * (Int.gcd n d : Int) * (Int.gcd n' d' : Int)) ≠ 0 := by
    have := Int.mul_pos (Int.mul_pos lp g1) g2
    omega
  refine Int.eq_of_mul_eq_mul_left hk ?_
  generalize rdL n d = L at *
  generalize (Int.gcd n d : Int) = g at *
  generalize (Int.gcd n' d' : Int) = g' at *
  generalize rdU n d = U at *
  generalize rdU n' d' = U' at *
  grind
theorem rd_leL (n d : Int) (hd : d ≠ 0) : (rdL n d).natAbs ≤ d.natAbs := by
  rw [rd_Lnat, Int.natAbs_natCast]
  exact Nat.div_le_self d.natAbs (Nat.gcd n.natAbs d.natAbs)
theorem rd_leU (n d : Int) (hd : d ≠ 0) : (rdU n d).natAbs ≤ n.natAbs := by
  have h1 := rd_U n d
  have h2 := rd_pos n d hd
  have h3 : (rdU n d).natAbs * (Int.gcd n d : Int).natAbs = n.natAbs := by
    rw [← Int.natAbs_mul, h1]; split <;> omega
  have h4 : 1 ≤ (Int.gcd n d : Int).natAbs := by omega
  have h5 := Nat.mul_le_mul (Nat.le_refl (rdU n d).natAbs) h4
  omega
