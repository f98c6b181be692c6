/-! SPQ: determinants for the shares: minors, and the mean time of return -/
theorem dt_lap_g0 {α : Type} (F : List α → Int) (L : List α) : ∀ pre : List α, dt_lap (fun _ => 0) F pre L = 0 := by
  induction L with
  | nil => intro pre; rfl
  | cons c cs ih => intro pre; simp only [dt_lap]; rw [ih]; omega
theorem dt_D_map2 (A A' : Nat → Nat → Int) (S : List Nat) : ∀ L : List Nat, (∀ s ∈ S, ∀ c ∈ L, A s c = A' s c) → dt_D (S.map A) L = dt_D (S.map A') L := by
  induction S with
  | nil => intro L _; rfl
  | cons s S ih =>
    intro L h
    show dt_lap (A s) (dt_D (S.map A)) [] L = dt_lap (A' s) (dt_D (S.map A')) [] L
    exact dt_lap_congr L [] (fun c hc => h s List.mem_cons_self c hc) (fun l hl => ih l (fun s' hs' c hc => h s' (List.mem_cons_of_mem _ hs') c ((by simpa using hl : l.Sublist L).subset hc)))
/-- row k and a column moved to the front -/
theorem dt_sim (B : Nat → Nat → Int) (p q : List Nat) (k b : Nat) : dt_D ((p ++ k :: q).map B) (p ++ b :: q) = dt_D (B k :: (p ++ q).map B) (b :: (p ++ q)) := by
  have h1 := dt_alt_mv _ (dt_D_altr (p ++ b :: q)) (B k) (q.map B) (p.map B) []
  have h2 := dt_alt_mv _ (dt_D_alt (B k :: (p ++ q).map B)) b q p []
  simp only [List.nil_append, List.length_map] at h1 h2
  rw [List.map_append, List.map_cons, h1, ← List.map_append, h2, ← Int.mul_assoc, dt_sg_sq, Int.one_mul]
theorem dt_unit {r : Nat → Int} {k : Nat} {L : List Nat} (h1 : r k = 1) (h2 : ∀ c ∈ L, r c = 0) (R : List (Nat → Int)) : dt_D (r :: R) (k :: L) = dt_D R L := by
  show r k * dt_D R ([] ++ L) - dt_lap r (dt_D R) ([] ++ [k]) L = _
  rw [dt_lap_congr (g' := fun _ => 0) (F' := dt_D R) L ([] ++ [k]) h2 (fun _ _ => rfl), dt_lap_g0, h1]
  simp
theorem mm_V_I (A : Nat → Nat → Int) : ∀ p, mm_V A p = (mm_I p).map A := by
  intro p
  induction p with
  | zero => rfl
  | succ p ih => simp only [mm_V, mm_I, List.map_cons]; rw [ih]
def dr (k : Nat) (L : List Nat) : List Nat := L.filter (fun c => !decide (c = k))
theorem dr_app {k : Nat} {p q : List Nat} (h1 : k ∉ p) (h2 : k ∉ q) : dr k (p ++ k :: q) = p ++ q := by
  unfold dr
  have e : ∀ l : List Nat, k ∉ l → l.filter (fun c => !decide (c = k)) = l := fun l hl => List.filter_eq_self.mpr (fun c hc => by
    have : c ≠ k := fun z => hl (by rw [← z]; exact hc)
    simp [this])
  rw [List.filter_append, List.filter_cons, e p h1, e q h2]
  simp
theorem dr_mem {k c : Nat} {L : List Nat} : c ∈ dr k L ↔ c ∈ L ∧ c ≠ k := by
  unfold dr
  simp [List.mem_filter]
theorem mm_I_split {n k : Nat} (hk : k < n) : ∃ p q, mm_I n = p ++ k :: q ∧ k ∉ p ∧ k ∉ q ∧ dr k (mm_I n) = p ++ q := by
  obtain ⟨p, q, e⟩ := List.append_of_mem ((mm_I_mem n k).mpr hk)
  have hnd := mm_I_nodup n
  rw [e] at hnd
  have h3 := List.nodup_append.mp hnd
  have h4 : k ∉ p := fun z => h3.2.2 k z k List.mem_cons_self rfl
  have h5 : k ∉ q := (List.nodup_cons.mp h3.2.1).1
  exact ⟨p, q, e, h4, h5, by rw [e]; exact dr_app h4 h5⟩
/-- the principal minor without k -/
def cof (n : Nat) (A : Nat → Nat → Int) (k : Nat) : Int := dt_D ((dr k (mm_I n)).map A) (dr k (mm_I n))
/-- a matrix whose row k is the unit row -/
theorem cof_unit {n k : Nat} (hk : k < n) {A B : Nat → Nat → Int} (h1 : ∀ c, c < n → B k c = if c = k then 1 else 0) (h2 : ∀ s c, s < n → c < n → s ≠ k → c ≠ k → B s c = A s c) : dt_D (mm_V B n) (mm_I n) = cof n A k := by
  obtain ⟨p, q, e, h4, h5, h6⟩ := mm_I_split hk
  have hlt : ∀ c, c ∈ p ++ q → c < n ∧ c ≠ k := fun c hc => by
    rw [← h6] at hc
    have := dr_mem.mp hc
    exact ⟨(mm_I_mem n c).mp this.1, this.2⟩
  unfold cof
  rw [mm_V_I, h6, e, dt_sim, dt_unit (by rw [h1 k hk, if_pos rfl]) (fun c hc => by rw [h1 c (hlt c hc).1, if_neg (hlt c hc).2])]
  exact dt_D_map2 B A _ _ (fun s hs c hc => h2 s c (hlt s hs).1 (hlt c hc).1 (hlt s hs).2 (hlt c hc).2)
/-- sums over a list -/
def ls_S (f : Nat → Int) : List Nat → Int
  | [] => 0
  | k :: L => f k + ls_S f L
theorem dt_lapG (A : Nat → Nat → Int) (t β : Nat) (M : List Nat) (hM : M.Nodup) : ∀ (suf pre : List Nat), pre ++ suf = M → dt_sg pre.length * dt_lap (fun r : Nat → Int => r β) (fun R => dt_D R M) (A t :: pre.map A) (suf.map A) = ls_S (fun k => A k β * dt_D (A t :: (dr k M).map A) (k :: dr k M)) suf := by
  intro suf
  induction suf with
  | nil => intro pre _; simp [dt_lap, ls_S]
  | cons k cs ih =>
    intro pre e
    have h1 := ih (pre ++ [k]) (by rw [← e]; simp)
    rw [List.length_append, List.length_singleton, dt_sg_s, List.map_append] at h1
    have hnd := hM
    rw [← e] at hnd
    have h3 := List.nodup_append.mp hnd
    have h4 : k ∉ pre := fun z => h3.2.2 k z k List.mem_cons_self rfl
    have h5 : k ∉ cs := (List.nodup_cons.mp h3.2.1).1
    have e2 : dr k M = pre ++ cs := by rw [← e]; exact dr_app h4 h5
    have hmv := dt_alt_mv _ (dt_D_alt (A t :: (pre ++ cs).map A)) k cs pre []
    simp only [List.nil_append] at hmv
    rw [e] at hmv
    simp only [List.map_cons, dt_lap, ls_S]
    rw [← h1, e2]
    have e3 : A t :: pre.map A ++ cs.map A = A t :: (pre ++ cs).map A := by simp
    rw [e3, hmv]
    have hsq := dt_sg_sq pre.length
    have e4 : A t :: pre.map A ++ [A k] = A t :: (pre.map A ++ [k].map A) := by simp
    rw [e4]
    grind
theorem ls_S_congr {f g : Nat → Int} : ∀ L : List Nat, (∀ k ∈ L, f k = g k) → ls_S f L = ls_S g L := by
  intro L
  induction L with
  | nil => intro _; rfl
  | cons k L ih => intro h; simp only [ls_S]; rw [h k List.mem_cons_self, ih (fun k' hk' => h k' (List.mem_cons_of_mem _ hk'))]
theorem ls_S_app (f : Nat → Int) (L1 L2 : List Nat) : ls_S f (L1 ++ L2) = ls_S f L1 + ls_S f L2 := by
  induction L1 with
  | nil => simp [ls_S]
  | cons k L ih => simp only [List.cons_append, ls_S]; rw [ih]; omega
theorem ls_S_neg (f : Nat → Int) : ∀ L : List Nat, ls_S (fun k => - f k) L = - ls_S f L := by
  intro L
  induction L with
  | nil => rfl
  | cons k L ih => simp only [ls_S]; rw [ih]; omega
theorem ls_S_I (f : Nat → Int) : ∀ p, ls_S f (mm_I p) = mm_T f 0 p := by
  intro p
  induction p with
  | zero => rfl
  | succ p ih => rw [mm_T_snoc]; simp only [mm_I, ls_S]; rw [ih, Nat.zero_add]; omega
/-- the pairs of a set of names -/
def dt_set (S : Nat → Bool) (L : List Nat) : List (Int × Nat) := (L.filter S).map (fun k => (1, k))
theorem dt_S_set (f : Nat → Int) (S : Nat → Bool) : ∀ L : List Nat, dt_S f (dt_set S L) = ls_S (fun k => if S k = true then f k else 0) L := by
  intro L
  induction L with
  | nil => rfl
  | cons k L ih =>
    simp only [ls_S]
    rw [← ih]
    unfold dt_set
    rw [List.filter_cons]
    by_cases h : S k = true
    · rw [if_pos h, if_pos h]; simp only [List.map_cons, dt_S]; omega
    · rw [if_neg h, if_neg h]; omega
/-- rows of sum 0 over S: minors along two columns of S differ in their sign alone -/
theorem dt_two (S : Nat → Bool) (R : List (Nat → Int)) (t k : Nat) (L : List Nat) (hS : S t = true) (hk : S k = true) (htk : t ≠ k) (hR : ∀ r ∈ R, dt_S r (dt_set S (t :: k :: L)) = 0) : dt_D R (t :: L) = - dt_D R (k :: L) := by
  have h := dt_contr0 (dt_set S (t :: k :: L)) R hR L
  rw [dt_S_set] at h
  simp only [ls_S] at h
  rw [if_pos hS, if_pos hk] at h
  have hz : ls_S (fun j => if S j = true then dt_D R (j :: L) else 0) L = 0 := by
    have : ∀ M : List Nat, (∀ j ∈ M, j ∈ L) → ls_S (fun j => if S j = true then dt_D R (j :: L) else 0) M = 0 := by
      intro M
      induction M with
      | nil => intro _; rfl
      | cons j M ih =>
        intro hM
        simp only [ls_S]
        rw [ih (fun i hi => hM i (List.mem_cons_of_mem _ hi)), dt_alt_dup _ (dt_D_alt R) j L (hM j List.mem_cons_self)]
        split <;> rfl
    exact this L (fun _ h => h)
  rw [hz] at h
  omega
