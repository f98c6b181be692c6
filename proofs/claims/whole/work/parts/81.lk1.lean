/-! LK1: partings of states into groups, as numbers -/
/-- the sum of f over the states of group c below m -/
def lk_S (g f : Nat → Nat) (c : Nat) : Nat → Nat
  | 0 => 0
  | m + 1 => lk_S g f c m + (if g m = c then f m else 0)
theorem lk_S_congr {g g' : Nat → Nat} (f : Nat → Nat) (c : Nat) : ∀ m, (∀ i, i < m → g i = g' i) → lk_S g f c m = lk_S g' f c m := by
  intro m
  induction m with
  | zero => intro _; rfl
  | succ m ih =>
    intro h
    simp only [lk_S, ih (fun i hi => h i (by omega)), h m (by omega)]
theorem lk_S_le (g : Nat → Nat) (W : Nat → Nat → Nat) (a c : Nat) : ∀ m, lk_S g (W a) c m ≤ ch_T W a m := by
  intro m
  induction m with
  | zero => exact Nat.le_refl 0
  | succ m ih =>
    simp only [lk_S, ch_T]
    split <;> omega
/-- a and b go alike into the groups 0 .. m-1 of g -/
def lk_f (n : Nat) (W : Nat → Nat → Nat) (R : Nat → Int) (g : Nat → Nat) (m a b : Nat) : Prop :=
  (ch_T W a n = 0 ↔ ch_T W b n = 0) ∧ R a = R b ∧ ∀ c, c < m → lk_S g (W a) c n * ch_T W b n = lk_S g (W b) c n * ch_T W a n
theorem lk_f_refl (n : Nat) (W : Nat → Nat → Nat) (R : Nat → Int) (g : Nat → Nat) (m a : Nat) : lk_f n W R g m a a := ⟨Iff.rfl, rfl, fun _ _ => rfl⟩
theorem lk_f_symm {n : Nat} {W : Nat → Nat → Nat} {R : Nat → Int} {g : Nat → Nat} {m a b : Nat} (h : lk_f n W R g m a b) : lk_f n W R g m b a := ⟨h.1.symm, h.2.1.symm, fun c hc => (h.2.2 c hc).symm⟩
theorem lk_f_trans {n : Nat} {W : Nat → Nat → Nat} {R : Nat → Int} {g : Nat → Nat} {m a b d : Nat} (h : lk_f n W R g m a b) (h' : lk_f n W R g m b d) : lk_f n W R g m a d := by
  refine ⟨h.1.trans h'.1, h.2.1.trans h'.2.1, fun c hc => ?_⟩
  have e1 := h.2.2 c hc
  have e2 := h'.2.2 c hc
  have q := h.1
  have q' := h'.1
  have la := lk_S_le g W a c n
  have lb := lk_S_le g W b c n
  have ld := lk_S_le g W d c n
  generalize lk_S g (W a) c n = x at *
  generalize lk_S g (W b) c n = y at *
  generalize lk_S g (W d) c n = z at *
  generalize ch_T W a n = A at *
  generalize ch_T W b n = B at *
  generalize ch_T W d n = D at *
  by_cases hB : B = 0
  · have hA := q.mpr hB
    have hD := q'.mp hB
    subst hA hD; simp
  · have h1 : (x * D) * B = (z * A) * B := by
      calc (x * D) * B = (x * B) * D := by grind
        _ = (y * A) * D := by rw [e1]
        _ = (y * D) * A := by grind
        _ = (z * B) * A := by rw [e2]
        _ = (z * A) * B := by grind
    exact Nat.eq_of_mul_eq_mul_right (by omega) h1
theorem lk_f_congr {n : Nat} {W : Nat → Nat → Nat} {R : Nat → Int} {g g' : Nat → Nat} {m a b : Nat} (e : ∀ i, i < n → g i = g' i) (h : lk_f n W R g m a b) : lk_f n W R g' m a b :=
  ⟨h.1, h.2.1, fun c hc => by rw [← lk_S_congr (W a) c n e, ← lk_S_congr (W b) c n e]; exact h.2.2 c hc⟩
/-- g tells of each state the least one of its group -/
def lk_ok (n : Nat) (g : Nat → Nat) : Prop := ∀ i, i < n → g i ≤ i ∧ g (g i) = g i
/-- how many states below m are the least of their group -/
def lk_c (g : Nat → Nat) : Nat → Nat
  | 0 => 0
  | m + 1 => lk_c g m + (if g m = m then 1 else 0)
theorem lk_c_le (g : Nat → Nat) : ∀ m, lk_c g m ≤ m := by
  intro m
  induction m with
  | zero => exact Nat.le_refl 0
  | succ m ih => simp only [lk_c]; split <;> omega
theorem lk_c_mono {g g' : Nat → Nat} : ∀ m, (∀ i, i < m → g i = i → g' i = i) → lk_c g m ≤ lk_c g' m := by
  intro m
  induction m with
  | zero => intro _; exact Nat.le_refl 0
  | succ m ih =>
    intro h
    have h1 := ih (fun i hi => h i (by omega))
    have h2 := h m (by omega)
    simp only [lk_c]
    by_cases e : g m = m
    · rw [if_pos e, if_pos (h2 e)]; omega
    · rw [if_neg e]; omega
theorem lk_c_eq {g g' : Nat → Nat} : ∀ m, (∀ i, i < m → g i = i → g' i = i) → lk_c g' m ≤ lk_c g m → ∀ i, i < m → g' i = i → g i = i := by
  intro m
  induction m with
  | zero => intro _ _ i hi; omega
  | succ m ih =>
    intro h hc i hi hf
    have h0 := lk_c_mono m (fun i hi => h i (by omega))
    have h2 := h m (by omega)
    simp only [lk_c] at hc
    by_cases e : g m = m
    · rw [if_pos e, if_pos (h2 e)] at hc
      by_cases him : i = m
      · rw [him]; exact e
      · exact ih (fun i hi => h i (by omega)) (by omega) i (by omega) hf
    · rw [if_neg e] at hc
      by_cases e' : g' m = m
      · rw [if_pos e'] at hc; omega
      · by_cases him : i = m
        · subst him; exact absurd hf e'
        · exact ih (fun i hi => h i (by omega)) (by omega) i (by omega) hf
theorem lk_c_congr {g g' : Nat → Nat} : ∀ m, (∀ i, i < m → g i = g' i) → lk_c g m = lk_c g' m := by
  intro m
  induction m with
  | zero => intro _; rfl
  | succ m ih => intro h; simp only [lk_c, ih (fun i hi => h i (by omega)), h m (by omega)]
/-- what refines keeps the least ones -/
theorem lk_fix {n : Nat} {g g' : Nat → Nat} (h : lk_ok n g) (h' : lk_ok n g') (hr : ∀ a b, a < n → b < n → g' a = g' b → g a = g b) : ∀ i, i < n → g i = i → g' i = i := by
  intro i hi e
  obtain ⟨h1, h2⟩ := h' i hi
  have h3 := hr (g' i) i (by omega) hi h2
  have h4 := (h (g' i) (by omega)).1
  omega
theorem lk_same {n : Nat} {g g' : Nat → Nat} (h : lk_ok n g) (h' : lk_ok n g') (hr : ∀ a b, a < n → b < n → g' a = g' b → g a = g b) (hc : lk_c g' n ≤ lk_c g n) : ∀ i, i < n → g' i = g i := by
  intro i hi
  obtain ⟨h1, h2⟩ := h' i hi
  have h3 := lk_c_eq n (lk_fix h h' hr) hc (g' i) (by omega) h2
  have h4 := hr (g' i) i (by omega) hi h2
  omega
/-- one round of the class's search -/
def lk_st (n : Nat) (W : Nat → Nat → Nat) (R : Nat → Int) (g g' : Nat → Nat) : Prop :=
  ∀ i, i < n → g' i ≤ i ∧ g (g' i) = g i ∧ lk_f n W R g n (g' i) i ∧ ∀ j, j < g' i → ¬ (g j = g i ∧ lk_f n W R g n j i)
theorem lk_st_iff {n : Nat} {W : Nat → Nat → Nat} {R : Nat → Int} {g g' : Nat → Nat} (h : lk_st n W R g g') {a b : Nat} (ha : a < n) (hb : b < n) : g' a = g' b ↔ g a = g b ∧ lk_f n W R g n a b := by
  obtain ⟨a1, a2, a3, a4⟩ := h a ha
  obtain ⟨b1, b2, b3, b4⟩ := h b hb
  constructor
  · intro e
    refine ⟨by rw [← a2, ← b2, e], lk_f_trans (lk_f_symm a3) (by rw [e]; exact b3)⟩
  · rintro ⟨e1, e2⟩
    have p1 : ¬ g' a < g' b := fun q => b4 _ q ⟨by rw [a2, e1], lk_f_trans a3 e2⟩
    have p2 : ¬ g' b < g' a := fun q => a4 _ q ⟨by rw [b2, e1], lk_f_trans b3 (lk_f_symm e2)⟩
    omega
theorem lk_st_ok {n : Nat} {W : Nat → Nat → Nat} {R : Nat → Int} {g g' : Nat → Nat} (h : lk_st n W R g g') : lk_ok n g' := by
  intro i hi
  obtain ⟨a1, a2, a3, a4⟩ := h i hi
  exact ⟨a1, (lk_st_iff h (by omega) hi).mpr ⟨a2, a3⟩⟩
/-- no group need be parted -/
def lk_sb (n : Nat) (W : Nat → Nat → Nat) (R : Nat → Int) (g : Nat → Nat) (m : Nat) : Prop := ∀ a b, a < n → b < n → g a = g b → lk_f n W R g m a b
theorem lk_sb_congr {n : Nat} {W : Nat → Nat → Nat} {R : Nat → Int} {g g' : Nat → Nat} {m : Nat} (e : ∀ i, i < n → g i = g' i) (h : lk_sb n W R g m) : lk_sb n W R g' m := fun a b ha hb q => lk_f_congr e (h a b ha hb (by rw [e a ha, e b hb, q]))
theorem lk_round {n : Nat} {W : Nat → Nat → Nat} {R : Nat → Int} {g g' : Nat → Nat} {k : Nat} (ho : lk_ok n g) (h : lk_st n W R g g') (hi : lk_sb n W R g n ∨ n = 0 ∨ k + 1 ≤ lk_c g n) : lk_sb n W R g' n ∨ n = 0 ∨ k + 1 + 1 ≤ lk_c g' n := by
  have ho' := lk_st_ok h
  have hr : ∀ a b, a < n → b < n → g' a = g' b → g a = g b := fun a b ha hb e => ((lk_st_iff h ha hb).mp e).1
  have key : (∀ i, i < n → g' i = g i) → lk_sb n W R g' n := by
    intro e
    refine lk_sb_congr (fun i hi => (e i hi).symm) (fun a b ha hb q => ?_)
    exact ((lk_st_iff h ha hb).mp (by rw [e a ha, e b hb, q])).2
  by_cases hc : lk_c g' n ≤ lk_c g n
  · exact Or.inl (key (lk_same ho ho' hr hc))
  · rcases hi with hi | hi | hi
    · refine Or.inl (key (fun i hi' => ?_))
      obtain ⟨q1, q2⟩ := ho i hi'
      have q3 : g' (g i) = g' i := (lk_st_iff h (by omega) hi').mpr ⟨q2, hi _ _ (by omega) hi' q2⟩
      have q4 := (ho' (g i) (by omega)).1
      obtain ⟨r1, r2⟩ := ho' i hi'
      have r3 := hr (g' i) i (by omega) hi' r2
      have r4 := (ho (g' i) (by omega)).1
      omega
    · exact Or.inr (Or.inl hi)
    · exact Or.inr (Or.inr (by omega))
/-- sums over groups -/
def lk_m (f : Nat → Nat) : Nat → Nat
  | 0 => 0
  | m + 1 => lk_m f m + f m
theorem lk_m_add (f g : Nat → Nat) : ∀ m, lk_m (fun d => f d + g d) m = lk_m f m + lk_m g m := by
  intro m
  induction m with
  | zero => rfl
  | succ m ih => simp only [lk_m, ih]; omega
theorem lk_m_0 (f : Nat → Nat) : ∀ m, (∀ d, d < m → f d = 0) → lk_m f m = 0 := by
  intro m
  induction m with
  | zero => intro _; rfl
  | succ m ih => intro h; simp only [lk_m, ih (fun d hd => h d (by omega)), h m (by omega)]
theorem lk_m_one (f : Nat → Nat) (x : Nat) : ∀ m, x < m → (∀ d, d < m → d ≠ x → f d = 0) → lk_m f m = f x := by
  intro m
  induction m with
  | zero => intro h; omega
  | succ m ih =>
    intro h h0
    simp only [lk_m]
    by_cases e : x = m
    · subst e; rw [lk_m_0 f x (fun d hd => h0 d (by omega) (by omega))]; omega
    · rw [ih (by omega) (fun d hd q => h0 d (by omega) q), h0 m (by omega) (by omega)]; omega
theorem lk_m_congr {f g : Nat → Nat} : ∀ m, (∀ d, d < m → f d = g d) → lk_m f m = lk_m g m := by
  intro m
  induction m with
  | zero => intro _; rfl
  | succ m ih => intro h; simp only [lk_m, ih (fun d hd => h d (by omega)), h m (by omega)]
theorem lk_m_mul (f : Nat → Nat) (x : Nat) : ∀ m, lk_m f m * x = lk_m (fun d => f d * x) m := by
  intro m
  induction m with
  | zero => simp [lk_m]
  | succ m ih => simp only [lk_m, Nat.add_mul, ih]
/-- a coarser group's sum is a sum of finer groups' sums -/
theorem lk_split {n : Nat} {g h : Nat → Nat} (m c : Nat) (hm : ∀ i, i < n → h i < m) (hr : ∀ a b, a < n → b < n → h a = h b → g a = g b) : ∃ ε : Nat → Nat, ∀ f : Nat → Nat, lk_S g f c n = lk_m (fun d => ε d * lk_S h f d n) m := by
  classical
  refine ⟨fun d => if ∃ l, l < n ∧ h l = d ∧ g l = c then 1 else 0, fun f => ?_⟩
  suffices hs : ∀ k, k ≤ n → lk_S g f c k = lk_m (fun d => (if ∃ l, l < n ∧ h l = d ∧ g l = c then 1 else 0) * lk_S h f d k) m from hs n (Nat.le_refl n)
  intro k
  induction k with
  | zero => intro _; rw [lk_m_0 _ m (fun d _ => by simp [lk_S])]; rfl
  | succ k ih =>
    intro hk
    simp only [lk_S, Nat.mul_add, lk_m_add]
    rw [ih (by omega)]
    congr 1
    rw [lk_m_one _ (h k) m (hm k (by omega)) (fun d _ hd => by rw [if_neg (c := h k = d) (fun e => hd e.symm)]; simp)]
    rw [if_pos rfl]
    by_cases e : g k = c
    · rw [if_pos e, if_pos ⟨k, by omega, rfl, e⟩]; omega
    · rw [if_neg e, if_neg]
      · omega
      · rintro ⟨l, hl, e1, e2⟩
        exact e (by rw [← hr l k hl (by omega) e1]; exact e2)
/-- a parting refines each stage of the class's search -/
theorem lk_coarse {n : Nat} {W : Nat → Nat → Nat} {R : Nat → Int} {g g' h : Nat → Nat} {m : Nat} (hs : lk_st n W R g g') (hm : ∀ i, i < n → h i < m) (hb : lk_sb n W R h m) (hr : ∀ a b, a < n → b < n → h a = h b → g a = g b) : ∀ a b, a < n → b < n → h a = h b → g' a = g' b := by
  intro a b ha hb' e
  refine (lk_st_iff hs ha hb').mpr ⟨hr a b ha hb' e, ?_⟩
  obtain ⟨q1, q2, q3⟩ := hb a b ha hb' e
  refine ⟨q1, q2, fun c _ => ?_⟩
  obtain ⟨ε, he⟩ := lk_split m c hm hr
  rw [he (W a), he (W b), lk_m_mul, lk_m_mul]
  refine lk_m_congr m (fun d hd => ?_)
  have := q3 d hd
  show ε d * lk_S h (W a) d n * ch_T W b n = ε d * lk_S h (W b) d n * ch_T W a n
  rw [Nat.mul_assoc, Nat.mul_assoc, this]
/-- the least of h's group, for any labels h -/
def lk_l (h : Nat → Nat) (i : Nat) : Nat → Nat
  | 0 => 0
  | k + 1 => if h (lk_l h i k) = h i then lk_l h i k else k + 1
theorem lk_l_inv (h : Nat → Nat) (i : Nat) : ∀ k, lk_l h i k ≤ k ∧ (∀ j, j < lk_l h i k → h j ≠ h i) ∧ (h (lk_l h i k) = h i ∨ lk_l h i k = k) := by
  intro k
  induction k with
  | zero => exact ⟨Nat.le_refl 0, fun j hj => by simp only [lk_l] at hj; omega, Or.inr rfl⟩
  | succ k ih =>
    obtain ⟨h1, h2, h3⟩ := ih
    simp only [lk_l]
    by_cases e : h (lk_l h i k) = h i
    · rw [if_pos e]
      exact ⟨by omega, h2, Or.inl e⟩
    · rw [if_neg e]
      have h4 : lk_l h i k = k := h3.resolve_left e
      refine ⟨Nat.le_refl _, fun j hj => ?_, Or.inr rfl⟩
      by_cases ej : j = k
      · subst ej; rw [h4] at e; exact e
      · exact h2 j (by omega)
def lk_g (h : Nat → Nat) (i : Nat) : Nat := lk_l h i i
theorem lk_g_spec (h : Nat → Nat) (i : Nat) : lk_g h i ≤ i ∧ h (lk_g h i) = h i ∧ ∀ j, j < lk_g h i → h j ≠ h i := by
  obtain ⟨h1, h2, h3⟩ := lk_l_inv h i i
  refine ⟨h1, ?_, h2⟩
  rcases h3 with h3 | h3
  · exact h3
  · show h (lk_l h i i) = h i; rw [h3]
theorem lk_g_iff (h : Nat → Nat) (a b : Nat) : lk_g h a = lk_g h b ↔ h a = h b := by
  obtain ⟨a1, a2, a3⟩ := lk_g_spec h a
  obtain ⟨b1, b2, b3⟩ := lk_g_spec h b
  constructor
  · intro e; rw [← a2, e, b2]
  · intro e
    have p1 : ¬ lk_g h a < lk_g h b := fun q => b3 _ q (by rw [a2, e])
    have p2 : ¬ lk_g h b < lk_g h a := fun q => a3 _ q (by rw [b2, e])
    omega
theorem lk_g_ok (n : Nat) (h : Nat → Nat) : lk_ok n (lk_g h) := fun i _ => ⟨(lk_g_spec h i).1, (lk_g_iff h _ i).mpr (lk_g_spec h i).2.1⟩
theorem lk_g_fix (h : Nat → Nat) (i : Nat) : lk_g h i = i ↔ ∀ j, j < i → h j ≠ h i := by
  obtain ⟨a1, a2, a3⟩ := lk_g_spec h i
  constructor
  · intro e; rw [e] at a3; exact a3
  · intro q
    rcases Nat.lt_or_ge (lk_g h i) i with z | z
    · exact absurd a2 (q _ z)
    · omega
