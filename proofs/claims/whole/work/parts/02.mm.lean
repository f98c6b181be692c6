/-! MM: matrices whose off-diagonal numbers are not above 0 and whose row sums (column s) are not below 0, from each row of which a row with a sum above 0 is come to: elimination without fractions goes through, no pivot is 0 -/
def mm_V (A : Nat → Nat → Int) : Nat → List (Nat → Int)
  | 0 => []
  | p + 1 => A p :: mm_V A p
def mm_I : Nat → List Nat
  | 0 => []
  | p + 1 => p :: mm_I p
def mm_M (A : Nat → Nat → Int) (p i j : Nat) : Int := dt_D (A i :: mm_V A p) (j :: mm_I p)
def mm_q (A : Nat → Nat → Int) (p : Nat) : Int := dt_D (mm_V A p) (mm_I p)
theorem mm_q_s (A : Nat → Nat → Int) (p : Nat) : mm_q A (p + 1) = mm_M A p p p := rfl
theorem mm_q_0 (A : Nat → Nat → Int) : mm_q A 0 = 1 := rfl
theorem mm_M_0 (A : Nat → Nat → Int) (i j : Nat) : mm_M A 0 i j = A i j := by
  simp [mm_M, mm_V, mm_I, dt_D, dt_lap]
theorem mm_step (A : Nat → Nat → Int) (p i j : Nat) : mm_q A p * mm_M A (p + 1) i j = mm_M A p p p * mm_M A p i j - mm_M A p i p * mm_M A p p j := by
  have h := dt_jacobi (mm_V A p) (mm_I p) (A p) (A i) p j
  have h2 := dt_D_alt (A i :: A p :: mm_V A p) p j [] (mm_I p)
  simp only [List.nil_append] at h2
  rw [h2] at h
  have e : mm_M A (p + 1) i j = dt_D (A i :: A p :: mm_V A p) (j :: p :: mm_I p) := rfl
  rw [e]
  unfold mm_M mm_q
  rw [Int.mul_neg] at h
  rw [Int.mul_comm (dt_D (A p :: mm_V A p) (p :: mm_I p))] at h ⊢
  omega
theorem mm_le0 {q x : Int} (hq : 0 < q) (h : q * x ≤ 0) : x ≤ 0 := by
  refine Int.not_lt.mp (fun hx => ?_)
  have := Int.mul_pos hq hx
  omega
theorem mm_ge0 {q x : Int} (hq : 0 < q) (h : 0 ≤ q * x) : 0 ≤ x := by
  refine Int.not_lt.mp (fun hx => ?_)
  have := Int.mul_neg_of_pos_of_neg hq hx
  omega
theorem mm_lt0 {q x : Int} (hq : 0 < q) (h : q * x < 0) : x < 0 := by
  refine Int.not_le.mp (fun hx => ?_)
  have := Int.mul_nonneg (Int.le_of_lt hq) hx
  omega
theorem mm_gt0 {q x : Int} (hq : 0 < q) (h : 0 < q * x) : 0 < x := by
  refine Int.not_le.mp (fun hx => ?_)
  have := Int.mul_nonpos_of_nonneg_of_nonpos (Int.le_of_lt hq) hx
  omega
def mm_T (f : Nat → Int) (p : Nat) : Nat → Int
  | 0 => 0
  | m + 1 => f p + mm_T f (p + 1) m
theorem mm_T_le0 (f : Nat → Int) (m : Nat) : ∀ p : Nat, (∀ k, p ≤ k → k < p + m → f k ≤ 0) → mm_T f p m ≤ 0 := by
  induction m with
  | zero => intro p _; exact Int.le_refl 0
  | succ m ih =>
    intro p h
    have h1 := h p (Nat.le_refl p) (by omega)
    have h2 := ih (p + 1) (fun k h1 h2 => h k (by omega) (by omega))
    simp only [mm_T]
    omega
theorem mm_T_le1 (f : Nat → Int) (i : Nat) (m : Nat) : ∀ p : Nat, (∀ k, p ≤ k → k < p + m → k ≠ i → f k ≤ 0) → p ≤ i → i < p + m → mm_T f p m ≤ f i := by
  induction m with
  | zero => intro p _ h1 h2; omega
  | succ m ih =>
    intro p h h1 h2
    simp only [mm_T]
    by_cases e : p = i
    · subst e
      have h3 := mm_T_le0 f m (p + 1) (fun k a b => h k (by omega) (by omega) (by omega))
      omega
    · have h3 := ih (p + 1) (fun k a b c => h k (by omega) (by omega) c) (by omega) (by omega)
      have h4 := h p (Nat.le_refl p) (by omega) e
      omega
theorem mm_T_le2 (f : Nat → Int) (i j : Nat) (hij : j ≠ i) (m : Nat) : ∀ p : Nat, (∀ k, p ≤ k → k < p + m → k ≠ i → f k ≤ 0) → p ≤ i → i < p + m → p ≤ j → j < p + m → mm_T f p m ≤ f i + f j := by
  induction m with
  | zero => intro p _ h1 h2; omega
  | succ m ih =>
    intro p h h1 h2 h5 h6
    simp only [mm_T]
    by_cases e : p = i
    · subst e
      have h3 := mm_T_le1 f j m (p + 1) (fun k a b _ => h k (by omega) (by omega) (by omega)) (by omega) (by omega)
      omega
    · by_cases e2 : p = j
      · subst e2
        have h3 := mm_T_le1 f i m (p + 1) (fun k a b c => h k (by omega) (by omega) c) (by omega) (by omega)
        omega
      · have h3 := ih (p + 1) (fun k a b c => h k (by omega) (by omega) c) (by omega) (by omega) (by omega) (by omega)
        have h4 := h p (Nat.le_refl p) (by omega) e
        omega
theorem mm_T_comb (f g h : Nat → Int) (q a b : Int) (e : ∀ k, q * h k = a * f k - b * g k) (m : Nat) : ∀ p : Nat, q * mm_T h p m = a * mm_T f p m - b * mm_T g p m := by
  induction m with
  | zero => intro p; simp [mm_T]
  | succ m ih =>
    intro p
    have h1 := e p
    have h2 := ih (p + 1)
    simp only [mm_T, Int.mul_add]
    omega
def mm_ok (A : Nat → Nat → Int) (n s : Nat) (ρ : Nat → Nat) (B : Int) (p : Nat) : Prop :=
  0 < mm_q A p ∧
  (∀ i j, p ≤ i → i < n → p ≤ j → j < n → j ≠ i → mm_M A p i j ≤ 0) ∧
  (∀ i, p ≤ i → i < n → 0 ≤ mm_M A p i s) ∧
  (∀ i, p ≤ i → i < n → mm_M A p i s = mm_T (mm_M A p i) p (n - p)) ∧
  (∀ i, p ≤ i → i < n → 0 < mm_M A p i s ∨ ∃ j, p ≤ j ∧ j < n ∧ j ≠ i ∧ mm_M A p i j < 0 ∧ ρ j < ρ i) ∧
  (∀ i, p ≤ i → i < n → mm_M A p i i ≤ B * mm_q A p)
theorem mm_pos {A : Nat → Nat → Int} {n s : Nat} {ρ : Nat → Nat} {B : Int} {p : Nat} (h : mm_ok A n s ρ B p) {i : Nat} (h1 : p ≤ i) (h2 : i < n) : 0 < mm_M A p i i := by
  obtain ⟨hq, ho, hs, ht, hr, hB⟩ := h
  have e := ht i h1 h2
  have hk : ∀ k, p ≤ k → k < p + (n - p) → k ≠ i → mm_M A p i k ≤ 0 := fun k a b c => ho i k h1 h2 a (by omega) c
  have h3 := mm_T_le1 (mm_M A p i) i (n - p) p hk h1 (by omega)
  rcases hr i h1 h2 with h4 | ⟨j, j1, j2, j3, j4, j5⟩
  · omega
  · have h5 := mm_T_le2 (mm_M A p i) i j j3 (n - p) p hk h1 (by omega) j1 (by omega)
    have h6 := hs i h1 h2
    omega
theorem mm_off {A : Nat → Nat → Int} {n s : Nat} {ρ : Nat → Nat} {B : Int} {p : Nat} (h : mm_ok A n s ρ B p) {i j : Nat} (h1 : p ≤ i) (h2 : i < n) (j1 : p ≤ j) (j2 : j < n) : (mm_M A p i j).natAbs ≤ (mm_M A p i i).natAbs := by
  have hp := mm_pos h h1 h2
  obtain ⟨hq, ho, hs, ht, hr, hB⟩ := h
  by_cases hj : j = i
  · subst hj; exact Nat.le_refl _
  · have e := ht i h1 h2
    have hk : ∀ k, p ≤ k → k < p + (n - p) → k ≠ i → mm_M A p i k ≤ 0 := fun k a b c => ho i k h1 h2 a (by omega) c
    have h5 := mm_T_le2 (mm_M A p i) i j hj (n - p) p hk h1 (by omega) j1 (by omega)
    have h6 := hs i h1 h2
    have h7 := ho i j h1 h2 j1 j2 hj
    omega
theorem mm_go {A : Nat → Nat → Int} {n s : Nat} {ρ : Nat → Nat} {B : Int} {p : Nat} (h : mm_ok A n s ρ B p) (hp : p < n) : mm_ok A n s ρ B (p + 1) := by
  have hP := mm_pos h (Nat.le_refl p) hp
  obtain ⟨hq, ho, hs, ht, hr, hB⟩ := h
  have st := fun i j => mm_step A p i j
  have hip : ∀ i, p + 1 ≤ i → i < n → mm_M A p i p ≤ 0 := fun i a b => ho i p (by omega) b (Nat.le_refl p) hp (by omega)
  have hpj : ∀ j, p + 1 ≤ j → j < n → mm_M A p p j ≤ 0 := fun j a b => ho p j (Nat.le_refl p) hp (by omega) b (by omega)
  have hps := hs p (Nat.le_refl p) hp
  refine ⟨hP, ?_, ?_, ?_, ?_, ?_⟩
  · intro i j a b c d e
    refine mm_le0 hq ?_
    rw [st]
    have h1 := Int.mul_nonpos_of_nonneg_of_nonpos (Int.le_of_lt hP) (ho i j (by omega) b (by omega) d e)
    have h2 := Int.mul_nonneg_of_nonpos_of_nonpos (hip i a b) (hpj j c d)
    omega
  · intro i a b
    refine mm_ge0 hq ?_
    rw [st]
    have h1 := Int.mul_nonneg (Int.le_of_lt hP) (hs i (by omega) b)
    have h2 := Int.mul_nonpos_of_nonpos_of_nonneg (hip i a b) hps
    omega
  · intro i a b
    refine Int.eq_of_mul_eq_mul_left (a := mm_q A p) (by omega) ?_
    rw [st]
    have h1 := mm_T_comb (mm_M A p i) (mm_M A p p) (mm_M A (p + 1) i) (mm_q A p) (mm_M A p p p) (mm_M A p i p) (fun k => st i k) (n - (p + 1)) (p + 1)
    rw [h1, ht i (by omega) b, ht p (Nat.le_refl p) hp]
    have e : n - p = (n - (p + 1)) + 1 := by omega
    rw [e]
    simp only [mm_T, Int.mul_add]
    rw [Int.mul_comm (mm_M A p p p) (mm_M A p i p)]
    omega
  · intro i a b
    rcases hr i (by omega) b with h4 | ⟨j, j1, j2, j3, j4, j5⟩
    · left
      refine mm_gt0 hq ?_
      rw [st]
      have h1 := Int.mul_pos hP h4
      have h2 := Int.mul_nonpos_of_nonpos_of_nonneg (hip i a b) hps
      omega
    · by_cases hjp : j = p
      · subst hjp
        rcases hr j (Nat.le_refl j) hp with h5 | ⟨k, k1, k2, k3, k4, k5⟩
        · left
          refine mm_gt0 hq ?_
          rw [st]
          have h1 := Int.mul_nonneg (Int.le_of_lt hP) (hs i (by omega) b)
          have h2 := Int.mul_neg_of_neg_of_pos j4 h5
          omega
        · right
          refine ⟨k, by omega, k2, by intro e; subst e; omega, ?_, by omega⟩
          refine mm_lt0 hq ?_
          rw [st]
          have h1 := Int.mul_nonpos_of_nonneg_of_nonpos (Int.le_of_lt hP) (ho i k (by omega) b (by omega) k2 (by intro e; subst e; omega))
          have h2 := Int.mul_pos_of_neg_of_neg j4 k4
          omega
      · right
        refine ⟨j, by omega, j2, j3, ?_, j5⟩
        refine mm_lt0 hq ?_
        rw [st]
        have h1 := Int.mul_neg_of_pos_of_neg hP j4
        have h2 := Int.mul_nonneg_of_nonpos_of_nonpos (hip i a b) (hpj j (by omega) j2)
        omega
  · intro i a b
    refine Int.le_of_mul_le_mul_left (a := mm_q A p) ?_ hq
    rw [st, mm_q_s]
    have h1 := Int.mul_le_mul_of_nonneg_left (hB i (by omega) b) (Int.le_of_lt hP)
    have h2 := Int.mul_nonneg_of_nonpos_of_nonpos (hip i a b) (hpj i a b)
    have e : mm_M A p p p * (B * mm_q A p) = mm_q A p * (B * mm_M A p p p) := by grind
    omega
theorem mm_all {A : Nat → Nat → Int} {n s : Nat} {ρ : Nat → Nat} {B : Int} (h : mm_ok A n s ρ B 0) : ∀ p, p ≤ n → mm_ok A n s ρ B p := by
  intro p
  induction p with
  | zero => intro _; exact h
  | succ p ih => intro hp; exact mm_go (ih (by omega)) (by omega)
/-- the start, in words of the matrix itself -/
theorem mm_start {A : Nat → Nat → Int} {n s : Nat} {ρ : Nat → Nat} {B : Int} (ho : ∀ i j, i < n → j < n → j ≠ i → A i j ≤ 0) (hs : ∀ i, i < n → 0 ≤ A i s) (ht : ∀ i, i < n → A i s = mm_T (A i) 0 n) (hr : ∀ i, i < n → 0 < A i s ∨ ∃ j, j < n ∧ j ≠ i ∧ A i j < 0 ∧ ρ j < ρ i) (hB : ∀ i, i < n → A i i ≤ B) : mm_ok A n s ρ B 0 := by
  have e : mm_M A 0 = A := funext fun i => funext fun j => mm_M_0 A i j
  refine ⟨by rw [mm_q_0]; decide, ?_, ?_, ?_, ?_, ?_⟩
  · intro i j _ b _ d f; rw [e]; exact ho i j b d f
  · intro i _ b; rw [e]; exact hs i b
  · intro i _ b; rw [e]; exact ht i b
  · intro i _ b; rw [e]
    rcases hr i b with h | ⟨j, j1, j2, j3, j4⟩
    · exact Or.inl h
    · exact Or.inr ⟨j, Nat.zero_le _, j1, j2, j3, j4⟩
  · intro i _ b; rw [e, mm_q_0, Int.mul_one]; exact hB i b
theorem mm_qB {A : Nat → Nat → Int} {n s : Nat} {ρ : Nat → Nat} {B : Int} (h : mm_ok A n s ρ B 0) (hB : 0 ≤ B) : ∀ p, p ≤ n → mm_q A p ≤ B ^ p := by
  intro p
  induction p with
  | zero => intro _; rw [mm_q_0, Int.pow_zero]; exact Int.le_refl 1
  | succ p ih =>
    intro hp
    obtain ⟨hq, ho, hs, ht, hr, hb⟩ := mm_all h p (by omega)
    have h1 := hb p (Nat.le_refl p) (by omega)
    have h2 := Int.mul_le_mul_of_nonneg_left (ih (by omega)) hB
    rw [mm_q_s, Int.pow_succ, Int.mul_comm]
    omega
/-! bounds by the sums of a row's numbers -/
def mm_L1 (r : Nat → Int) : List Nat → Nat
  | [] => 0
  | c :: cs => (r c).natAbs + mm_L1 r cs
theorem mm_L1_sub (r : Nat → Int) {l L : List Nat} (h : l.Sublist L) : mm_L1 r l ≤ mm_L1 r L := by
  induction h with
  | slnil => exact Nat.le_refl _
  | cons a _ ih => simp only [mm_L1]; omega
  | cons_cons a _ ih => simp only [mm_L1]; omega
theorem mm_lap_le {α : Type} (g : α → Int) (F : List α → Int) (m : Nat) (w : α → Nat) (L : List α) : ∀ pre : List α, (∀ c ∈ L, (g c).natAbs ≤ w c) → (∀ l, l.Sublist (pre ++ L) → (F l).natAbs ≤ m) → (dt_lap g F pre L).natAbs ≤ (L.map w).sum * m := by
  induction L with
  | nil => intro pre _ _; simp [dt_lap]
  | cons c cs ih =>
    intro pre hw h
    simp only [dt_lap, List.map_cons, List.sum_cons]
    have h1 := Int.natAbs_sub_le (g c * F (pre ++ cs)) (dt_lap g F (pre ++ [c]) cs)
    rw [Int.natAbs_mul] at h1
    have h2 := h (pre ++ cs) (List.Sublist.append (List.Sublist.refl pre) (List.sublist_cons_self c cs))
    have h3 := ih (pre ++ [c]) (fun c' hc' => hw c' (List.mem_cons_of_mem _ hc')) (fun l hl => h l (by simpa using hl))
    have h4 := Nat.mul_le_mul (hw c List.mem_cons_self) h2
    rw [Nat.add_mul]
    omega
theorem mm_L1_map (r : Nat → Int) (L : List Nat) : (L.map (fun c => (r c).natAbs)).sum = mm_L1 r L := by
  induction L with
  | nil => rfl
  | cons c cs ih => simp only [List.map_cons, List.sum_cons, mm_L1]; rw [ih]
def mm_Pr (L : List Nat) : List (Nat → Int) → Nat
  | [] => 1
  | r :: rs => mm_L1 r L * mm_Pr L rs
theorem mm_Pr_sub {l L : List Nat} (h : l.Sublist L) (rows : List (Nat → Int)) : mm_Pr l rows ≤ mm_Pr L rows := by
  induction rows with
  | nil => exact Nat.le_refl _
  | cons r rs ih => simp only [mm_Pr]; exact Nat.mul_le_mul (mm_L1_sub r h) ih
theorem mm_D_le (rows : List (Nat → Int)) : ∀ L : List Nat, (dt_D rows L).natAbs ≤ mm_Pr L rows := by
  induction rows with
  | nil => intro L; cases L <;> simp [dt_D, mm_Pr]
  | cons r rs ih =>
    intro L
    have h := mm_lap_le r (dt_D rs) (mm_Pr L rs) (fun c => (r c).natAbs) L [] (fun c _ => Nat.le_refl _) (fun l hl => Nat.le_trans (ih l) (mm_Pr_sub (by simpa using hl) rs))
    rw [mm_L1_map] at h
    exact h
