/-! SPA: sums over open states; the class's matrix is one of MM's -/
theorem mm_T_shift (f : Nat → Int) (m : Nat) : ∀ p, mm_T (fun c => f (c + 1)) p m = mm_T f (p + 1) m := by
  induction m with
  | zero => intro p; rfl
  | succ m ih => intro p; simp only [mm_T]; rw [ih]
theorem mm_T_congr {f g : Nat → Int} (m : Nat) : ∀ p, (∀ k, p ≤ k → k < p + m → f k = g k) → mm_T f p m = mm_T g p m := by
  induction m with
  | zero => intro p _; rfl
  | succ m ih =>
    intro p h
    simp only [mm_T]
    rw [h p (Nat.le_refl p) (by omega), ih (p + 1) (fun k a b => h k (by omega) (by omega))]
theorem mm_T_list (f : Nat → Int) (l : List Nat) : mm_T (fun c => f (l.getD c 0)) 0 l.length = (l.map f).sum := by
  induction l with
  | nil => rfl
  | cons a l ih =>
    simp only [List.length_cons, mm_T, List.map_cons, List.sum_cons]
    have h := mm_T_shift (fun c => f ((a :: l).getD c 0)) l.length 0
    rw [← h]
    have e : (fun c => f ((a :: l).getD (c + 1) 0)) = fun c => f (l.getD c 0) := rfl
    rw [e, ih]
    rfl
theorem mm_T_add (f g : Nat → Int) (m : Nat) : ∀ p, mm_T (fun c => f c + g c) p m = mm_T f p m + mm_T g p m := by
  induction m with
  | zero => intro p; rfl
  | succ m ih => intro p; simp only [mm_T]; rw [ih]; omega
theorem mm_T_one (i : Nat) (v : Int) (m : Nat) : ∀ p, p ≤ i → i < p + m → mm_T (fun c => if c = i then v else 0) p m = v := by
  induction m with
  | zero => intro p _ _; omega
  | succ m ih =>
    intro p h1 h2
    simp only [mm_T]
    by_cases e : p = i
    · subst e
      rw [if_pos rfl]
      have : ∀ (m q : Nat), p < q → mm_T (fun c => if c = p then v else 0) q m = 0 := by
        intro m
        induction m with
        | zero => intro q _; rfl
        | succ m ih => intro q hq; simp only [mm_T]; rw [if_neg (by omega), ih (q + 1) (by omega)]; rfl
      rw [this m (p + 1) (by omega)]; omega
    · rw [if_neg e, ih (p + 1) (by omega) (by omega)]; omega
theorem mm_T_snoc (f : Nat → Int) (m : Nat) : ∀ p, mm_T f p (m + 1) = mm_T f p m + f (p + m) := by
  induction m with
  | zero => intro p; simp [mm_T]
  | succ m ih =>
    intro p
    have h := ih (p + 1)
    show f p + mm_T f (p + 1) (m + 1) = f p + mm_T f (p + 1) m + f (p + (m + 1))
    rw [h, show p + 1 + m = p + (m + 1) by omega]; omega
/-- the sum of f over all states below m -/
def ch_al (f : Nat → Nat) : Nat → Nat
  | 0 => 0
  | m + 1 => ch_al f m + f m
theorem ch_sm_le (x : Int32) (f : Nat → Nat) : ∀ m, ch_sm x f m ≤ ch_al f m := by
  intro m
  induction m with
  | zero => exact Nat.le_refl 0
  | succ m ih => simp only [ch_sm, ch_al]; split <;> omega
theorem ch_sm_lt (x : Int32) (f : Nat → Nat) (j : Nat) (hx : ¬ bt x j = true) (hf : 0 < f j) : ∀ m, j < m → ch_sm x f m < ch_al f m := by
  intro m
  induction m with
  | zero => intro h; omega
  | succ m ih =>
    intro h
    simp only [ch_sm, ch_al]
    by_cases e : j = m
    · subst e
      have := ch_sm_le x f j
      rw [if_neg hx]; omega
    · have := ih (by omega)
      split <;> omega
theorem ch_sm_ex (x : Int32) (f : Nat → Nat) : ∀ m, 0 < ch_sm x f m → ∃ j, j < m ∧ bt x j = true ∧ 0 < f j := by
  intro m
  induction m with
  | zero => intro h; exact absurd h (Nat.lt_irrefl 0)
  | succ m ih =>
    intro h
    simp only [ch_sm] at h
    by_cases hb : bt x m = true ∧ 0 < f m
    · exact ⟨m, by omega, hb⟩
    · have : (if bt x m = true then f m else 0) = 0 := by
        by_cases h1 : bt x m = true
        · rw [if_pos h1]
          have : ¬ 0 < f m := fun z => hb ⟨h1, z⟩
          omega
        · rw [if_neg h1]
      obtain ⟨j, h1, h2⟩ := ih (by omega)
      exact ⟨j, by omega, h2⟩
theorem ch_ol_sum (x : Int32) (f : Nat → Nat) : ∀ m, ((ch_ol x m).map (fun l => (f l : Int))).sum = (ch_sm x f m : Int) := by
  intro m
  induction m with
  | zero => rfl
  | succ m ih =>
    simp only [ch_ol, ch_sm, List.map_append, List.sum_append]
    rw [ih]
    by_cases h : bt x m = true
    · rw [if_pos h, if_pos h]; simp
    · rw [if_neg h, if_neg h]; simp
theorem ch_al_W (n : Nat) (W : Nat → Nat → Nat) (k : Nat) : ∀ m, ch_al (W k) m = ch_T W k m := by
  intro m
  induction m with
  | zero => rfl
  | succ m ih => simp only [ch_al, ch_T]; rw [ih]
theorem ch_al_one (k : Nat) : ∀ m, ch_al (fun j => if k = j then 1 else 0) m = if k < m then 1 else 0 := by
  intro m
  induction m with
  | zero => simp [ch_al]
  | succ m ih =>
    simp only [ch_al]
    rw [ih]
    by_cases h1 : k < m
    · rw [if_pos h1, if_neg (by omega), if_pos (by omega)]
    · by_cases h2 : k = m
      · rw [if_neg h1, if_pos h2, if_pos (by omega)]
      · rw [if_neg h1, if_neg h2, if_neg (by omega)]
theorem ch_al_p {n : Nat} {W : Nat → Nat → Nat} {k : Nat} (hk : k < n) : ch_al (ch_p n W k) n = ch_t n W k := by
  unfold ch_t
  by_cases h : ch_T W k n = 0
  · rw [if_pos h]
    have e : ch_p n W k = fun j => if k = j then 1 else 0 := funext fun j => by unfold ch_p; rw [if_pos h]
    rw [e, ch_al_one, if_pos hk]
  · rw [if_neg h]
    have e : ch_p n W k = W k := funext fun j => by unfold ch_p; rw [if_neg h]
    rw [e, ch_al_W n]
/-- the least number with Q -/
theorem ch_min (Q : Nat → Prop) (h : ∃ m, Q m) : ∃ m, Q m ∧ ∀ k, Q k → m ≤ k := by
  obtain ⟨m, hm⟩ := h
  refine Classical.byContradiction (fun hno => ?_)
  have : ∀ k, ∀ j, j ≤ k → ¬ Q j := by
    intro k
    induction k with
    | zero =>
      intro j hj hQ
      have : j = 0 := by omega
      subst this
      exact hno ⟨0, hQ, fun _ _ => Nat.zero_le _⟩
    | succ k ih =>
      intro j hj hQ
      refine hno ⟨j, hQ, fun i hi => ?_⟩
      refine Nat.le_of_not_lt (fun hlt => ih i (by omega) hi)
  exact this m m (Nat.le_refl m) hm
def ch_lv (E : Nat → Nat → Prop) (o : Nat → Prop) (m k : Nat) : Prop := ∃ j, ¬ o j ∧ ch_rc E (fun _ => False) m k j
noncomputable def ch_rho (E : Nat → Nat → Prop) (o : Nat → Prop) (k : Nat) : Nat := Classical.epsilon (fun m => ch_lv E o m k ∧ ∀ m', ch_lv E o m' k → m ≤ m')
/-- each state that can leave o has a next one that is nearer to leaving -/
theorem ch_rho_next {E : Nat → Nat → Prop} {o : Nat → Prop} {k : Nat} (hk : o k) (h : ∃ j, ¬ o j ∧ ch_R E (fun _ => False) k j) : ∃ m, E k m ∧ ch_rho E o m < ch_rho E o k ∧ (∃ j, ¬ o j ∧ ch_R E (fun _ => False) m j) := by
  have spec : ∀ q, (∃ m, ch_lv E o m q) → ch_lv E o (ch_rho E o q) q ∧ ∀ m', ch_lv E o m' q → ch_rho E o q ≤ m' := fun q hq => Classical.epsilon_spec (p := fun m => ch_lv E o m q ∧ ∀ m', ch_lv E o m' q → m ≤ m') (ch_min (fun m => ch_lv E o m q) hq)
  obtain ⟨j, hj, r, hr⟩ := h
  obtain ⟨⟨j2, hj2, hrc⟩, -⟩ := spec k ⟨r, j, hj, hr⟩
  generalize hq : ch_rho E o k = q at hrc
  cases q with
  | zero =>
    have e : k = j2 := hrc
    subst e
    exact absurd hk hj2
  | succ q =>
    obtain ⟨m, -, h2, h3⟩ := hrc
    have hm := (spec m ⟨q, j2, hj2, h3⟩).2 q ⟨j2, hj2, h3⟩
    exact ⟨m, h2, by omega, j2, hj2, q, h3⟩
