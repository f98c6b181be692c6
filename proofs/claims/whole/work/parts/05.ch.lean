/-! CH: the chain as numbers: W i j (0 where there is no arc), totals, the ways -/
def ch_T (W : Nat → Nat → Nat) (i : Nat) : Nat → Nat
  | 0 => 0
  | m + 1 => ch_T W i m + W i m
theorem ch_T_zero (W : Nat → Nat → Nat) (i n : Nat) (h : ∀ j, n ≤ j → W i j = 0) : ∀ m, ch_T W i (n + m) = ch_T W i n := by
  intro m
  induction m with
  | zero => rfl
  | succ m ih => show ch_T W i (n + m) + W i (n + m) = _; rw [ih, h (n + m) (by omega)]; rfl
theorem ch_T_le (W : Nat → Nat → Nat) (i j : Nat) : ∀ n, j < n → W i j ≤ ch_T W i n := by
  intro n
  induction n with
  | zero => intro h; omega
  | succ n ih =>
    intro h
    show W i j ≤ ch_T W i n + W i n
    by_cases e : j = n
    · subst e; omega
    · have := ih (by omega); omega
theorem ch_T_pos (W : Nat → Nat → Nat) (i : Nat) : ∀ n, 0 < ch_T W i n → ∃ j, j < n ∧ 0 < W i j := by
  intro n
  induction n with
  | zero => intro h; exact absurd h (Nat.lt_irrefl 0)
  | succ n ih =>
    intro h
    have h : 0 < ch_T W i n + W i n := h
    by_cases e : 0 < W i n
    · exact ⟨n, by omega, e⟩
    · obtain ⟨j, h1, h2⟩ := ih (by omega)
      exact ⟨j, by omega, h2⟩
theorem ch_T_add (W : Nat → Nat → Nat) (i m : Nat) : ∀ n, m ≤ n → ch_T W i m ≤ ch_T W i n := by
  intro n
  induction n with
  | zero => intro h; have : m = 0 := by omega
            subst this; exact Nat.le_refl _
  | succ n ih =>
    intro h
    by_cases e : m = n + 1
    · subst e; exact Nat.le_refl _
    · have := ih (by omega)
      show ch_T W i m ≤ ch_T W i n + W i n
      omega
/-- ways: from i to j by E, never going on from a state of S -/
def ch_rc (E : Nat → Nat → Prop) (S : Nat → Prop) : Nat → Nat → Nat → Prop
  | 0, i, j => i = j
  | k + 1, i, j => ∃ m, ¬ S i ∧ E i m ∧ ch_rc E S k m j
def ch_R (E : Nat → Nat → Prop) (S : Nat → Prop) (i j : Nat) : Prop := ∃ k, ch_rc E S k i j
theorem ch_R_refl (E : Nat → Nat → Prop) (S : Nat → Prop) (i : Nat) : ch_R E S i i := ⟨0, rfl⟩
theorem ch_R_left {E : Nat → Nat → Prop} {S : Nat → Prop} {i m j : Nat} (h1 : ¬ S i) (h2 : E i m) (h3 : ch_R E S m j) : ch_R E S i j := by
  obtain ⟨k, h⟩ := h3
  exact ⟨k + 1, m, h1, h2, h⟩
theorem ch_R_ind {E : Nat → Nat → Prop} {S : Nat → Prop} {j : Nat} (P : Nat → Prop) (h0 : P j) (hs : ∀ i m, ¬ S i → E i m → ch_R E S m j → P m → P i) : ∀ i, ch_R E S i j → P i := by
  intro i h
  obtain ⟨k, h⟩ := h
  induction k generalizing i with
  | zero => have e : i = j := h; rw [e]; exact h0
  | succ k ih =>
    obtain ⟨m, h1, h2, h3⟩ := h
    exact hs i m h1 h2 ⟨k, h3⟩ (ih m h3)
theorem ch_R_trans {E : Nat → Nat → Prop} {S : Nat → Prop} {i m j : Nat} (h1 : ch_R E S i m) (h2 : ch_R E S m j) : ch_R E S i j :=
  ch_R_ind (fun x => ch_R E S x j) h2 (fun _ _ a b _ c => ch_R_left a b c) i h1
theorem ch_R_right {E : Nat → Nat → Prop} {S : Nat → Prop} {i m j : Nat} (h1 : ch_R E S i m) (h2 : ¬ S m) (h3 : E m j) : ch_R E S i j :=
  ch_R_trans h1 (ch_R_left h2 h3 (ch_R_refl E S j))
/-- what is closed forwards holds all that is come to -/
theorem ch_R_fwd {E : Nat → Nat → Prop} {S C : Nat → Prop} (hc : ∀ x y, C x → ¬ S x → E x y → C y) {i j : Nat} (hi : C i) (h : ch_R E S i j) : C j := by
  obtain ⟨k, h⟩ := h
  induction k generalizing i with
  | zero => have e : i = j := h; rw [← e]; exact hi
  | succ k ih =>
    obtain ⟨m, h1, h2, h3⟩ := h
    exact ih (hc i m hi h1 h2) h3
/-- what is closed backwards holds all that leads to it -/
theorem ch_R_bwd {E : Nat → Nat → Prop} {S C : Nat → Prop} (hc : ∀ x y, C y → ¬ S x → E x y → C x) {i j : Nat} (hj : C j) (h : ch_R E S i j) : C i :=
  ch_R_ind C hj (fun x m a b _ c => hc x m c a b) i h
/-- the first hit -/
theorem ch_R_hit {E : Nat → Nat → Prop} {S G : Nat → Prop} {i g : Nat} (hg : G g) (h : ch_R E S i g) : ∃ g', G g' ∧ ch_R E (fun x => S x ∨ G x) i g' := by
  refine ch_R_ind (fun x => ∃ g', G g' ∧ ch_R E (fun x => S x ∨ G x) x g') ⟨g, hg, ch_R_refl _ _ g⟩ ?_ i h
  intro x m h1 h2 _ h3
  by_cases hx : G x
  · exact ⟨x, hx, ch_R_refl _ _ x⟩
  · obtain ⟨g', h4, h5⟩ := h3
    exact ⟨g', h4, ch_R_left (fun z => z.elim h1 hx) h2 h5⟩
theorem ch_R_weak {E : Nat → Nat → Prop} {S S' : Nat → Prop} (hs : ∀ x, S' x → S x) {i j : Nat} (h : ch_R E S i j) : ch_R E S' i j :=
  ch_R_ind (fun x => ch_R E S' x j) (ch_R_refl _ _ j) (fun _ _ a b _ c => ch_R_left (fun z => a (hs _ z)) b c) i h
/-- how many states a set has -/
def ch_cd (x : Int32) : Nat → Nat
  | 0 => 0
  | n + 1 => ch_cd x n + (if bt x n = true then 1 else 0)
theorem ch_cd_le (x : Int32) : ∀ n, ch_cd x n ≤ n := by
  intro n
  induction n with
  | zero => exact Nat.le_refl 0
  | succ n ih => simp only [ch_cd]; split <;> omega
theorem ch_cd_mono {x y : Int32} : ∀ n, (∀ i, i < n → bt x i = true → bt y i = true) → ch_cd x n ≤ ch_cd y n := by
  intro n
  induction n with
  | zero => intro _; exact Nat.le_refl 0
  | succ n ih =>
    intro h
    have h1 := ih (fun i hi => h i (by omega))
    have h2 := h n (by omega)
    simp only [ch_cd]
    by_cases hx : bt x n = true
    · rw [if_pos hx, if_pos (h2 hx)]; omega
    · rw [if_neg hx]; split <;> omega
theorem ch_cd_lt {x y : Int32} : ∀ n, (∀ i, i < n → bt x i = true → bt y i = true) → (∃ i, i < n ∧ bt y i = true ∧ ¬ bt x i = true) → ch_cd x n < ch_cd y n := by
  intro n
  induction n with
  | zero => intro _ h; obtain ⟨i, hi, _⟩ := h; omega
  | succ n ih =>
    intro h he
    have h2 := h n (by omega)
    simp only [ch_cd]
    obtain ⟨i, h3, h4, h5⟩ := he
    by_cases e : i = n
    · subst e
      have h1 := ch_cd_mono i (fun i' hi => h i' (by omega))
      rw [if_neg h5, if_pos h4]; omega
    · have h1 := ih (fun i hi => h i (by omega)) ⟨i, by omega, h4, h5⟩
      by_cases hx : bt x n = true
      · rw [if_pos hx, if_pos (h2 hx)]; omega
      · rw [if_neg hx]; split <;> omega
theorem ch_cd_pos {x : Int32} : ∀ n, (∃ i, i < n ∧ bt x i = true) → 1 ≤ ch_cd x n := by
  intro n
  induction n with
  | zero => intro h; obtain ⟨i, hi, _⟩ := h; omega
  | succ n ih =>
    intro h
    obtain ⟨i, h3, h4⟩ := h
    simp only [ch_cd]
    by_cases e : i = n
    · subst e; rw [if_pos h4]; omega
    · have := ih ⟨i, by omega, h4⟩; omega
