/-! LK2: words of group numbers, each at most one above those before it: the reference's order of them -/
def rg_m : List Nat → Nat
  | [] => 0
  | x :: p => if x < rg_m p then rg_m p else x + 1
def rg_p (h : Nat → Nat) : Nat → List Nat
  | 0 => []
  | k + 1 => h k :: rg_p h k
def rg_n : List Nat → Option (List Nat)
  | [] => none
  | x :: p => if p.isEmpty then none else if rg_m p ≤ x then (rg_n p).map (fun q => 0 :: q) else some ((x + 1) :: p)
def rg_all : Nat → List (List Nat)
  | 0 => [[]]
  | k + 1 => (rg_all k).flatMap (fun p => (List.range (rg_m p + 1)).map (fun x => x :: p))
def rg_ok (h : Nat → Nat) (n : Nat) : Prop := ∀ i, i < n → h i ≤ rg_m (rg_p h i)
theorem rg_mem (h : Nat → Nat) : ∀ n, rg_p h n ∈ rg_all n ↔ rg_ok h n := by
  intro n
  induction n with
  | zero => simp [rg_p, rg_all, rg_ok]
  | succ n ih =>
    simp only [rg_p, rg_all, List.mem_flatMap, List.mem_map, List.mem_range]
    constructor
    · rintro ⟨p, hp, x, hx, e⟩
      injection e with e1 e2
      subst e1 e2
      intro i hi
      by_cases e : i = n
      · subst e; omega
      · exact ih.mp hp i (by omega)
    · intro q
      exact ⟨_, ih.mpr (fun i hi => q i (by omega)), h n, by have := q n (by omega); omega, rfl⟩
def rg_ch : List (List Nat) → Bool
  | [] => false
  | [a] => (rg_n a).isNone
  | a :: b :: r => (rg_n a == some b) && rg_ch (b :: r)
theorem rg_chk (n : Nat) (h0 : 0 < n) (h7 : n ≤ 7) : rg_ch (rg_all n) = true ∧ (rg_all n).head? = some (List.replicate n 0) ∧ (rg_all n).length ≤ 877 := by
  have : n = 1 ∨ n = 2 ∨ n = 3 ∨ n = 4 ∨ n = 5 ∨ n = 6 ∨ n = 7 := by omega
  rcases this with rfl | rfl | rfl | rfl | rfl | rfl | rfl <;> decide +kernel
/-- of such a word: its numbers are those below rg_m, and rg_m counts the firsts -/
theorem rg_cnt {h : Nat → Nat} {n : Nat} (ho : rg_ok h n) : ∀ k, k ≤ n → (∀ d, d < rg_m (rg_p h k) → ∃ j, j < k ∧ h j = d) ∧ (∀ j, j < k → h j < rg_m (rg_p h k)) ∧ rg_m (rg_p h k) = lk_c (lk_g h) k := by
  intro k
  induction k with
  | zero => intro _; exact ⟨fun d hd => by simp only [rg_p, rg_m] at hd; omega, fun j hj => by omega, rfl⟩
  | succ k ih =>
    intro hk
    obtain ⟨h1, h2, h3⟩ := ih (by omega)
    have h4 := ho k (by omega)
    simp only [rg_p, rg_m, lk_c]
    by_cases e : h k < rg_m (rg_p h k)
    · rw [if_pos e]
      obtain ⟨j, j1, j2⟩ := h1 _ e
      rw [if_neg (fun q => (lk_g_fix h k).mp q j j1 j2)]
      refine ⟨fun d hd => ?_, fun j hj => ?_, h3⟩
      · obtain ⟨j, j1, j2⟩ := h1 d hd
        exact ⟨j, by omega, j2⟩
      · by_cases ej : j = k
        · subst ej; exact e
        · exact h2 j (by omega)
    · rw [if_neg e]
      have e' : h k = rg_m (rg_p h k) := by omega
      rw [if_pos ((lk_g_fix h k).mpr (fun j hj q => by have := h2 j hj; omega))]
      refine ⟨fun d hd => ?_, fun j hj => ?_, by omega⟩
      · by_cases ed : d = h k
        · exact ⟨k, by omega, ed.symm⟩
        · obtain ⟨j, j1, j2⟩ := h1 d (by omega)
          exact ⟨j, by omega, j2⟩
      · by_cases ej : j = k
        · subst ej; omega
        · have := h2 j (by omega); omega
theorem rg_m_le {h : Nat → Nat} {n : Nat} (ho : rg_ok h n) {k : Nat} (hk : k ≤ n) : rg_m (rg_p h k) ≤ k := by
  rw [(rg_cnt ho k hk).2.2]; exact lk_c_le _ _
theorem rg_lt {h : Nat → Nat} {n : Nat} (ho : rg_ok h n) {i : Nat} (hi : i < n) : h i ≤ i := by
  have := ho i hi
  have := rg_m_le ho (k := i) (by omega)
  omega
/-- the word of a parting -/
def rg_h (g : Nat → Nat) (i : Nat) : Nat := lk_c g (g i)
theorem lk_c_step (g : Nat → Nat) : ∀ a b, a ≤ b → lk_c g a ≤ lk_c g b := by
  intro a b h
  induction b with
  | zero => have : a = 0 := by omega
            subst this; exact Nat.le_refl _
  | succ b ih =>
    by_cases e : a = b + 1
    · subst e; exact Nat.le_refl _
    · have := ih (by omega)
      simp only [lk_c]; omega
theorem rg_h_iff {n : Nat} {g : Nat → Nat} (ho : lk_ok n g) {a b : Nat} (ha : a < n) (hb : b < n) : rg_h g a = rg_h g b ↔ g a = g b := by
  refine ⟨fun e => ?_, fun e => by unfold rg_h; rw [e]⟩
  unfold rg_h at e
  have key : ∀ x y, x < n → y < n → g x < g y → lk_c g (g x) < lk_c g (g y) := by
    intro x y hx hy hl
    have h1 := lk_c_step g (g x + 1) (g y) hl
    simp only [lk_c] at h1
    rw [if_pos (ho x hx).2] at h1
    omega
  have p1 : ¬ g a < g b := fun q => by have := key a b ha hb q; omega
  have p2 : ¬ g b < g a := fun q => by have := key b a hb ha q; omega
  omega
theorem rg_h_m {n : Nat} {g : Nat → Nat} (ho : lk_ok n g) : ∀ k, k ≤ n → rg_m (rg_p (rg_h g) k) = lk_c g k ∧ ∀ i, i < k → rg_h g i ≤ lk_c g i := by
  intro k
  induction k with
  | zero => intro _; exact ⟨rfl, fun i hi => by omega⟩
  | succ k ih =>
    intro hk
    obtain ⟨h1, h2⟩ := ih (by omega)
    obtain ⟨g1, g2⟩ := ho k (by omega)
    have h3 : rg_h g k ≤ lk_c g k := lk_c_step g _ _ g1
    refine ⟨?_, fun i hi => ?_⟩
    · simp only [rg_p, rg_m, lk_c, h1]
      by_cases e : g k = k
      · have : rg_h g k = lk_c g k := by unfold rg_h; rw [e]
        rw [if_neg (by omega), if_pos e, this]
      · have h4 := lk_c_step g (g k + 1) k (by omega)
        simp only [lk_c] at h4
        rw [if_pos g2] at h4
        rw [if_pos (show rg_h g k < lk_c g k by unfold rg_h; omega), if_neg e]
        rfl
    · by_cases ei : i = k
      · subst ei; exact h3
      · exact h2 i (by omega)
theorem rg_h_ok {n : Nat} {g : Nat → Nat} (ho : lk_ok n g) : rg_ok (rg_h g) n := fun i hi => by
  rw [(rg_h_m ho i (by omega)).1]
  exact (rg_h_m ho (i + 1) (by omega)).2 i (by omega)
/-- the groups' sums under other names for the same groups -/
theorem lk_sb_names {n : Nat} {W : Nat → Nat → Nat} {R : Nat → Int} {g h : Nat → Nat} {m m' : Nat} (hm : ∀ i, i < n → g i < m) (he : ∀ a b, a < n → b < n → (g a = g b ↔ h a = h b)) (hb : lk_sb n W R g m) : lk_sb n W R h m' := by
  intro a b ha hb' e
  obtain ⟨q1, q2, q3⟩ := hb a b ha hb' ((he a b ha hb').mpr e)
  refine ⟨q1, q2, fun c _ => ?_⟩
  obtain ⟨ε, hε⟩ := lk_split (g := h) (h := g) m c hm (fun a b ha hb e => (he a b ha hb).mp e)
  rw [hε (W a), hε (W b), lk_m_mul, lk_m_mul]
  refine lk_m_congr m (fun d hd => ?_)
  have := q3 d hd
  show ε d * lk_S g (W a) d n * ch_T W b n = ε d * lk_S g (W b) d n * ch_T W a n
  rw [Nat.mul_assoc, Nat.mul_assoc, this]
