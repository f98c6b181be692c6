/-! SP8: the reference's determinants: sums over sets -/
def dp_pc (m : Nat) : Nat := ((List.range 7).filter (fun i => m.testBit i)).length
/-- the bits of P in [k, k + m), downwards -/
def dp_l (P : Nat → Bool) (k : Nat) : Nat → List Nat
  | 0 => []
  | m + 1 => (if P (k + m) = true then [k + m] else []) ++ dp_l P k m
theorem dp_l_split (P : Nat → Bool) (k : Nat) : ∀ m, dp_l P 0 (k + m) = dp_l P k m ++ dp_l P 0 k := by
  intro m
  induction m with
  | zero => rfl
  | succ m ih =>
    show (if P (0 + (k + m)) = true then [0 + (k + m)] else []) ++ dp_l P 0 (k + m) = (if P (k + m) = true then [k + m] else []) ++ dp_l P k m ++ dp_l P 0 k
    rw [ih, Nat.zero_add, List.append_assoc]
theorem dp_l_low (P : Nat → Bool) (k : Nat) : ∀ m, dp_l P k (m + 1) = dp_l P (k + 1) m ++ (if P k = true then [k] else []) := by
  intro m
  induction m with
  | zero => simp [dp_l]
  | succ m ih =>
    show (if P (k + (m + 1)) = true then [k + (m + 1)] else []) ++ dp_l P k (m + 1) = (if P (k + 1 + m) = true then [k + 1 + m] else []) ++ dp_l P (k + 1) m ++ _
    rw [ih, show k + (m + 1) = k + 1 + m by omega, List.append_assoc]
theorem dp_l_congr {P Q : Nat → Bool} {k : Nat} : ∀ m, (∀ i, k ≤ i → i < k + m → P i = Q i) → dp_l P k m = dp_l Q k m := by
  intro m
  induction m with
  | zero => intro _; rfl
  | succ m ih =>
    intro h
    simp only [dp_l]
    rw [h (k + m) (by omega) (by omega), ih (fun i a b => h i a (by omega))]
/-- P without t -/
def dp_w (P : Nat → Bool) (t : Nat) : Nat → Bool := fun i => P i && !decide (i = t)
def dp_S (f : Nat → Int) : Nat → Int
  | 0 => 0
  | k + 1 => dp_S f k + f k
theorem dp_S_mul (f : Nat → Int) (a : Int) : ∀ k, dp_S (fun t => a * f t) k = a * dp_S f k := by
  intro k
  induction k with
  | zero => simp [dp_S]
  | succ k ih => simp only [dp_S]; rw [ih]; grind
theorem dp_S_congr {f g : Nat → Int} : ∀ k, (∀ t, t < k → f t = g t) → dp_S f k = dp_S g k := by
  intro k
  induction k with
  | zero => intro _; rfl
  | succ k ih => intro h; simp only [dp_S]; rw [ih (fun t ht => h t (by omega)), h k (by omega)]
/-- the expansion by a row, over the bits -/
theorem dp_lap (P : Nat → Bool) (N : Nat) (r : Nat → Int) (F : List Nat → Int) : ∀ k, k ≤ N → dt_lap r F (dp_l P k (N - k)) (dp_l P 0 k) = dt_sg (dp_l P k (N - k)).length * dp_S (fun t => if P t = true then dt_sg (dp_l P (t + 1) (N - (t + 1))).length * (r t * F (dp_l (dp_w P t) 0 N)) else 0) k := by
  intro k
  induction k with
  | zero => intro _; simp [dp_l, dt_lap, dp_S]
  | succ k ih =>
    intro hk
    have h1 := ih (by omega)
    have e1 : N - k = (N - (k + 1)) + 1 := by omega
    have h2 := dp_l_low P k (N - (k + 1))
    simp only [dp_S]
    have e2 : dp_l P 0 (k + 1) = (if P k = true then [k] else []) ++ dp_l P 0 k := by simp [dp_l]
    rw [e2]
    by_cases hp : P k = true
    · rw [if_pos hp, if_pos hp]
      rw [e1, h2, if_pos hp] at h1
      simp only [List.cons_append, List.nil_append, dt_lap]
      rw [h1, List.length_append, List.length_singleton, dt_sg_s]
      have e3 : dp_l (dp_w P k) 0 N = dp_l P (k + 1) (N - (k + 1)) ++ dp_l P 0 k := by
        have e4 : N = (k + 1) + (N - (k + 1)) := by omega
        rw [e4, dp_l_split, ← e4]
        have e5 : dp_l (dp_w P k) 0 (k + 1) = dp_l P 0 k := by
          have h5 : dp_w P k (0 + k) = false := by simp [dp_w]
          show (if dp_w P k (0 + k) = true then [0 + k] else []) ++ dp_l (dp_w P k) 0 k = _
          rw [h5, if_neg (by decide), List.nil_append]
          exact dp_l_congr k (fun i _ hi => by
            have : i ≠ k := by omega
            simp [dp_w, this])
        rw [e5]
        congr 1
        exact dp_l_congr _ (fun i hi _ => by
          have : i ≠ k := by omega
          simp [dp_w, this])
      rw [e3]
      have hs := dt_sg_sq (dp_l P (k + 1) (N - (k + 1))).length
      grind
    · rw [if_neg hp, if_neg hp]
      rw [e1, h2, if_neg hp, List.append_nil] at h1
      simp only [List.nil_append]
      rw [h1]
      grind
theorem dp_D (P : Nat → Bool) (N : Nat) (r : Nat → Int) (rows : List (Nat → Int)) : dt_D (r :: rows) (dp_l P 0 N) = dp_S (fun t => if P t = true then dt_sg (dp_l P (t + 1) (N - (t + 1))).length * (r t * dt_D rows (dp_l (dp_w P t) 0 N)) else 0) N := by
  have h := dp_lap P N r (dt_D rows) N (Nat.le_refl N)
  rw [Nat.sub_self] at h
  show dt_lap r (dt_D rows) [] (dp_l P 0 N) = _
  have e : dp_l P N 0 = [] := rfl
  rw [e] at h
  rw [h]
  simp [dt_sg]
/-! finite facts on sets below 128 -/
theorem dp_many : ∀ m, m < 128 → f_M_many (nI m) = some (nI (dp_pc m)) := by decide +kernel
theorem dp_shr : ∀ m, m < 128 → ∀ t, t < 7 → nI m >>> (nI t &&& 31) = nI (m >>> t) := by decide +kernel
theorem dp_shrlt : ∀ m, m < 128 → ∀ t, t < 7 → m >>> t < 128 := by decide +kernel
theorem dp_or : ∀ m, m < 128 → ∀ t, t < 7 → m.testBit t = false → nI m ||| ((1 : Int32) <<< (nI t &&& 31)) = nI (m + 2 ^ t) := by decide +kernel
theorem dp_bits : ∀ m, m < 128 → ∀ t, t < 7 → m.testBit t = false → ∀ i, i < 7 → (m + 2 ^ t).testBit i = (m.testBit i || decide (i = t)) := by decide +kernel
theorem dp_pcs : ∀ m, m < 128 → ∀ t, t < 7 → m.testBit t = false → dp_pc (m + 2 ^ t) = dp_pc m + 1 := by decide +kernel
theorem dp_sub : ∀ S, S < 128 → ∀ t, t < 7 → S.testBit t = true → 2 ^ t ≤ S ∧ (S - 2 ^ t).testBit t = false := by decide +kernel
theorem dp_par : ∀ m, m < 128 → ∀ t, t < 7 → m.testBit t = false → dp_pc (m >>> t) = (dp_l (fun i => m.testBit i) (t + 1) (7 - (t + 1))).length := by decide +kernel
theorem dp_few : ∀ n, n ≤ 7 → ∀ m, m < 2 ^ n - 1 → dp_pc m < n := by decide +kernel
theorem dp_fit : ∀ n, n ≤ 7 → ∀ m, m < 2 ^ n → ∀ t, t < n → m.testBit t = false → m + 2 ^ t < 2 ^ n := by decide +kernel
theorem dp_bt : ∀ m, m < 128 → ∀ t, t < 7 → bt (nI m) t = m.testBit t := by decide +kernel
theorem dp_full : ∀ n, n ≤ 7 → dp_pc (2 ^ n - 1) = n ∧ dp_l (fun i => (2 ^ n - 1).testBit i) 0 7 = mm_I n := by decide +kernel
theorem dp_top : ∀ n, n ≤ 7 → ((1 : Int32) <<< (nI n &&& 31)) - 1 = nI (2 ^ n - 1) := by decide +kernel
theorem dp_p7 : ∀ n, n ≤ 7 → 2 ^ n ≤ 128 := by decide +kernel
