/-! DET: determinants by the first row, over lists of vectors (names to numbers) and lists of names; swaps, equal columns and rows, Cramer's rule, the identity of elimination without fractions -/
def dt_lap {α : Type} (g : α → Int) (F : List α → Int) (pre : List α) : List α → Int
  | [] => 0
  | c :: cs => g c * F (pre ++ cs) - dt_lap g F (pre ++ [c]) cs
def dt_D : List (Nat → Int) → List Nat → Int
  | [] => fun cs => if cs.isEmpty then 1 else 0
  | r :: rs => fun cs => dt_lap r (dt_D rs) [] cs
theorem dt_lap_pre {α : Type} (g : α → Int) (F : List α → Int) (k : α) (L : List α) : ∀ pre : List α, dt_lap g F (k :: pre) L = dt_lap g (fun l => F (k :: l)) pre L := by
  induction L with
  | nil => intro pre; rfl
  | cons c cs ih => intro pre; simp only [dt_lap, List.cons_append]; rw [ih (pre ++ [c])]
theorem dt_lap_zero {α : Type} (g : α → Int) (L : List α) : ∀ pre : List α, dt_lap g (fun _ => 0) pre L = 0 := by
  induction L with
  | nil => intro pre; rfl
  | cons c cs ih => intro pre; simp only [dt_lap]; rw [ih]; simp
theorem dt_lap_lin {α : Type} (g : α → Int) (a : Int) (F1 F2 : List α → Int) (L : List α) : ∀ pre : List α, dt_lap g (fun l => a * F1 l - F2 l) pre L = a * dt_lap g F1 pre L - dt_lap g F2 pre L := by
  induction L with
  | nil => intro pre; simp [dt_lap]
  | cons c cs ih => intro pre; simp only [dt_lap]; rw [ih]; grind
theorem dt_lap_smul {α : Type} (g : α → Int) (a : Int) (F : List α → Int) (L : List α) (pre : List α) : dt_lap g (fun l => a * F l) pre L = a * dt_lap g F pre L := by
  have h := dt_lap_lin g a F (fun _ => 0) L pre
  rw [dt_lap_zero] at h
  simpa using h
theorem dt_lap_swap2 {α β : Type} (g : α → Int) (h : β → Int) (F : List β → List α → Int) (L q : List α) (R0 : List β) : ∀ pre : List β, dt_lap g (fun l => dt_lap h (fun R => F R l) pre R0) q L = dt_lap h (fun R => dt_lap g (fun l => F R l) q L) pre R0 := by
  induction R0 with
  | nil => intro pre; exact dt_lap_zero g L q
  | cons r rs ih =>
    intro pre
    show dt_lap g (fun l => h r * F (pre ++ rs) l - dt_lap h (fun R => F R l) (pre ++ [r]) rs) q L = _
    rw [dt_lap_lin, ih]
    rfl
/-- a function of lists that changes its sign when two neighbours are swapped -/
def dt_alt {α : Type} (F : List α → Int) : Prop := ∀ (a b : α) (x y : List α), F (x ++ a :: b :: y) = - F (x ++ b :: a :: y)
theorem dt_lap_altp {α : Type} (g : α → Int) (F : List α → Int) (hF : dt_alt F) (a b : α) (x : List α) (L : List α) : ∀ y : List α, dt_lap g F (x ++ a :: b :: y) L = - dt_lap g F (x ++ b :: a :: y) L := by
  induction L with
  | nil => intro y; simp [dt_lap]
  | cons c cs ih =>
    intro y
    simp only [dt_lap]
    have h1 := hF a b x (y ++ cs)
    have h2 := ih (y ++ [c])
    simp only [List.append_assoc, List.cons_append] at h1 h2 ⊢
    rw [h1, h2]
    grind
theorem dt_lap_alt {α : Type} (g : α → Int) (F : List α → Int) (hF : dt_alt F) (a b : α) (y : List α) (x : List α) : ∀ pre : List α, dt_lap g F pre (x ++ a :: b :: y) = - dt_lap g F pre (x ++ b :: a :: y) := by
  induction x with
  | nil =>
    intro pre
    have h := dt_lap_altp g F hF a b pre y []
    simp only [dt_lap, List.nil_append, List.append_assoc, List.cons_append] at h ⊢
    rw [h]
    grind
  | cons c cs ih =>
    intro pre
    simp only [dt_lap, List.cons_append]
    have h1 := hF a b (pre ++ cs) y
    simp only [List.append_assoc] at h1
    rw [h1, ih (pre ++ [c])]
    grind
theorem dt_D_alt (rows : List (Nat → Int)) : dt_alt (dt_D rows) := by
  induction rows with
  | nil => intro a b x y; cases x <;> simp [dt_D]
  | cons r rs ih => intro a b x y; exact dt_lap_alt r (dt_D rs) ih a b y x []
/-- the expansion by the first column -/
theorem dt_D_col (c : Nat) (rows : List (Nat → Int)) : ∀ cs : List Nat, dt_D rows (c :: cs) = dt_lap (fun r => r c) (fun R => dt_D R cs) [] rows := by
  induction rows with
  | nil => intro cs; rfl
  | cons r rs ih =>
    intro cs
    show r c * dt_D rs ([] ++ cs) - dt_lap r (dt_D rs) ([] ++ [c]) cs = r c * dt_D ([] ++ rs) cs - dt_lap (fun r => r c) (fun R => dt_D R cs) ([] ++ [r]) rs
    simp only [List.nil_append]
    rw [dt_lap_pre r (dt_D rs) c cs [], dt_lap_pre (fun r => r c) (fun R => dt_D R cs) r rs []]
    have h1 : (fun l => dt_D rs (c :: l)) = fun l => dt_lap (fun r => r c) (fun R => dt_D R l) [] rs := funext fun l => ih l
    rw [h1, dt_lap_swap2 r (fun r => r c) (fun R l => dt_D R l) cs [] rs []]
    rfl
theorem dt_D_altr (cs : List Nat) : dt_alt (fun R => dt_D R cs) := by
  induction cs with
  | nil => intro a b x y; cases x <;> simp [dt_D, dt_lap]
  | cons c cs ih =>
    intro a b x y
    show dt_D (x ++ a :: b :: y) (c :: cs) = - dt_D (x ++ b :: a :: y) (c :: cs)
    rw [dt_D_col, dt_D_col]
    exact dt_lap_alt (fun r => r c) (fun R => dt_D R cs) ih a b y x []
theorem dt_alt_dup0 {α : Type} (F : List α → Int) (hF : dt_alt F) (a : α) (q : List α) (p : List α) : ∀ x : List α, F (x ++ a :: (p ++ a :: q)) = 0 := by
  induction p with
  | nil =>
    intro x
    have h := hF a a x q
    simp only [List.nil_append]
    omega
  | cons c p ih =>
    intro x
    have h := hF a c x (p ++ a :: q)
    have h2 := ih (x ++ [c])
    simp only [List.append_assoc, List.cons_append, List.nil_append] at h h2 ⊢
    rw [h, h2]
    rfl
theorem dt_alt_dup {α : Type} (F : List α → Int) (hF : dt_alt F) (a : α) (l : List α) (h : a ∈ l) : F (a :: l) = 0 := by
  obtain ⟨p, q, rfl⟩ := List.append_of_mem h
  exact dt_alt_dup0 F hF a q p []
def dt_sg (n : Nat) : Int := if n % 2 = 0 then 1 else -1
theorem dt_sg_s (n : Nat) : dt_sg (n + 1) = - dt_sg n := by
  unfold dt_sg
  by_cases h : n % 2 = 0
  · rw [if_pos h, if_neg (by omega)]
  · rw [if_neg h, if_pos (by omega)]; rfl
theorem dt_sg_sq (n : Nat) : dt_sg n * dt_sg n = 1 := by
  unfold dt_sg
  by_cases h : n % 2 = 0
  · rw [if_pos h]; rfl
  · rw [if_neg h]; rfl
theorem dt_alt_mv {α : Type} (F : List α → Int) (hF : dt_alt F) (a : α) (y : List α) (x : List α) : ∀ z : List α, F (z ++ (x ++ a :: y)) = dt_sg x.length * F (z ++ a :: (x ++ y)) := by
  induction x with
  | nil => intro z; simp [dt_sg]
  | cons c x ih =>
    intro z
    have h := ih (z ++ [c])
    have h2 := hF c a z (x ++ y)
    simp only [List.append_assoc, List.cons_append, List.nil_append, List.length_cons] at h h2 ⊢
    rw [h, h2, dt_sg_s]
    grind
/-- sums over pairs (number, name) -/
def dt_S (f : Nat → Int) : List (Int × Nat) → Int
  | [] => 0
  | k :: K => k.1 * f k.2 + dt_S f K
theorem dt_S_zero (K : List (Int × Nat)) (f : Nat → Int) (h : ∀ k ∈ K, f k.2 = 0) : dt_S f K = 0 := by
  induction K with
  | nil => rfl
  | cons k K ih =>
    simp only [dt_S]
    rw [h k List.mem_cons_self, ih (fun k' hk' => h k' (List.mem_cons_of_mem _ hk'))]
    simp
theorem dt_S_lin (K : List (Int × Nat)) (f1 f2 : Nat → Int) (a : Int) : dt_S (fun k => f1 k * a - f2 k) K = dt_S f1 K * a - dt_S f2 K := by
  induction K with
  | nil => simp [dt_S]
  | cons k K ih => simp only [dt_S]; rw [ih]; grind
theorem dt_S_lap (g : Nat → Int) (F : Nat → List Nat → Int) (L : List Nat) (K : List (Int × Nat)) : ∀ pre : List Nat, dt_S (fun k => dt_lap g (F k) pre L) K = dt_lap g (fun l => dt_S (fun k => F k l) K) pre L := by
  induction L with
  | nil =>
    intro pre
    exact dt_S_zero K _ (fun k _ => rfl)
  | cons c cs ih =>
    intro pre
    have h := dt_S_lin K (fun k => F k (pre ++ cs)) (fun k => dt_lap g (F k) (pre ++ [c]) cs) (g c)
    simp only [dt_lap]
    rw [ih] at h
    have e : (fun k => g c * F k (pre ++ cs) - dt_lap g (F k) (pre ++ [c]) cs) = fun k => F k (pre ++ cs) * g c - dt_lap g (F k) (pre ++ [c]) cs := funext fun k => by rw [Int.mul_comm]
    rw [e, h, Int.mul_comm]
/-- contraction -/
theorem dt_contr (K : List (Int × Nat)) (r : Nat → Int) (rows : List (Nat → Int)) (T : List Nat) : dt_S (fun k => dt_D (r :: rows) (k :: T)) K = dt_S r K * dt_D rows T - dt_lap r (fun l => dt_S (fun k => dt_D rows (k :: l)) K) [] T := by
  have e : (fun k => dt_D (r :: rows) (k :: T)) = fun k => r k * dt_D rows T - dt_lap r (fun l => dt_D rows (k :: l)) [] T := funext fun k => by
    show r k * dt_D rows ([] ++ T) - dt_lap r (dt_D rows) ([] ++ [k]) T = _
    simp only [List.nil_append]
    rw [dt_lap_pre]
  rw [e, dt_S_lin, dt_S_lap]
theorem dt_contr0 (K : List (Int × Nat)) (rows : List (Nat → Int)) (h : ∀ r ∈ rows, dt_S r K = 0) : ∀ T : List Nat, dt_S (fun k => dt_D rows (k :: T)) K = 0 := by
  induction rows with
  | nil => intro T; exact dt_S_zero K _ (fun k _ => rfl)
  | cons r rs ih =>
    intro T
    rw [dt_contr, h r List.mem_cons_self]
    have e : (fun l => dt_S (fun k => dt_D rs (k :: l)) K) = fun _ => 0 := funext fun l => ih (fun r' hr' => h r' (List.mem_cons_of_mem _ hr')) l
    rw [e, dt_lap_zero]
    simp
theorem dt_S_app (f : Nat → Int) (K1 K2 : List (Int × Nat)) : dt_S f (K1 ++ K2) = dt_S f K1 + dt_S f K2 := by
  induction K1 with
  | nil => simp [dt_S]
  | cons k K ih => simp only [dt_S, List.cons_append]; rw [ih]; omega
def dt_pr (X : Nat → Int) (L : List Nat) : List (Int × Nat) := L.map (fun k => (X k, k))
/-- Cramer's rule: rows . X = d * (column n) -/
theorem dt_cramer (rows : List (Nat → Int)) (X : Nat → Int) (d : Int) (x y : List Nat) (j n : Nat) (h : ∀ r ∈ rows, dt_S r (dt_pr X (x ++ j :: y)) = d * r n) : X j * dt_D rows (x ++ j :: y) = d * dt_D rows (x ++ n :: y) := by
  have h0 := dt_contr0 ((-d, n) :: dt_pr X (x ++ j :: y)) rows (fun r hr => by
    simp only [dt_S]; rw [h r hr]; grind) (x ++ y)
  have hz : ∀ L : List Nat, (∀ k ∈ L, k ∈ x ++ y) → dt_S (fun k => dt_D rows (k :: (x ++ y))) (dt_pr X L) = 0 := fun L hL => dt_S_zero _ _ (fun k hk => by
    obtain ⟨k', hk', rfl⟩ := List.mem_map.mp hk
    exact dt_alt_dup _ (dt_D_alt rows) k' _ (hL k' hk'))
  have e : dt_pr X (x ++ j :: y) = dt_pr X x ++ ((X j, j) :: dt_pr X y) := by simp [dt_pr]
  rw [e] at h0
  simp only [dt_S] at h0
  rw [dt_S_app] at h0
  simp only [dt_S] at h0
  rw [hz x (fun k hk => List.mem_append_left _ hk), hz y (fun k hk => List.mem_append_right _ hk)] at h0
  have m1 := dt_alt_mv _ (dt_D_alt rows) j y x []
  have m2 := dt_alt_mv _ (dt_D_alt rows) n y x []
  simp only [List.nil_append] at m1 m2
  rw [m1, m2]
  grind
/-- the linear form of the expansion by the first row -/
def dt_K (F : List Nat → Int) (pre : List Nat) : List Nat → List (Int × Nat)
  | [] => []
  | c :: cs => (F (pre ++ cs), c) :: (dt_K F (pre ++ [c]) cs).map (fun k => (-k.1, k.2))
theorem dt_S_neg (f : Nat → Int) (K : List (Int × Nat)) : dt_S f (K.map (fun k => (-k.1, k.2))) = - dt_S f K := by
  induction K with
  | nil => rfl
  | cons k K ih => simp only [dt_S, List.map_cons]; rw [ih]; grind
theorem dt_S_K (F : List Nat → Int) (r : Nat → Int) (L : List Nat) : ∀ pre : List Nat, dt_S r (dt_K F pre L) = dt_lap r F pre L := by
  induction L with
  | nil => intro pre; rfl
  | cons c cs ih => intro pre; simp only [dt_K, dt_S, dt_lap]; rw [dt_S_neg, ih]; grind
theorem dt_K_mem (F : List Nat → Int) (L : List Nat) : ∀ pre : List Nat, ∀ k ∈ dt_K F pre L, k.2 ∈ L := by
  induction L with
  | nil => intro pre k hk; cases hk
  | cons c cs ih =>
    intro pre k hk
    simp only [dt_K] at hk
    rcases List.mem_cons.mp hk with h | h
    · rw [h]; exact List.mem_cons_self
    · obtain ⟨k', hk', rfl⟩ := List.mem_map.mp h
      exact List.mem_cons_of_mem _ (ih _ k' hk')
/-- the identity of elimination without fractions -/
theorem dt_jacobi (V : List (Nat → Int)) (I : List Nat) (u z : Nat → Int) (a b : Nat) : dt_D V I * dt_D (z :: u :: V) (a :: b :: I) = dt_D (z :: V) (a :: I) * dt_D (u :: V) (b :: I) - dt_D (u :: V) (a :: I) * dt_D (z :: V) (b :: I) := by
  have hK : ∀ v : Nat → Int, dt_S v (dt_K (dt_D V) [] (a :: I)) = dt_D (v :: V) (a :: I) := fun v => dt_S_K (dt_D V) v (a :: I) []
  have hV : ∀ v ∈ V, dt_S v (dt_K (dt_D V) [] (a :: I)) = 0 := fun v hv => by
    rw [hK]; exact dt_alt_dup _ (dt_D_altr (a :: I)) v V hv
  have h1 := dt_contr (dt_K (dt_D V) [] (a :: I)) z (u :: V) (b :: I)
  have e : (fun l => dt_S (fun k => dt_D (u :: V) (k :: l)) (dt_K (dt_D V) [] (a :: I))) = fun l => dt_D (u :: V) (a :: I) * dt_D V l := funext fun l => by
    rw [dt_contr]
    have e2 : (fun l' => dt_S (fun k => dt_D V (k :: l')) (dt_K (dt_D V) [] (a :: I))) = fun _ => 0 := funext fun l' => dt_contr0 _ V hV l'
    rw [e2, dt_lap_zero, hK]
    simp
  rw [e, dt_lap_smul, hK z] at h1
  have h2 : dt_S (fun k => dt_D (z :: u :: V) (k :: b :: I)) (dt_K (dt_D V) [] (a :: I)) = dt_D V I * dt_D (z :: u :: V) (a :: b :: I) := by
    show dt_D V ([] ++ I) * dt_D (z :: u :: V) (a :: b :: I) + dt_S (fun k => dt_D (z :: u :: V) (k :: b :: I)) ((dt_K (dt_D V) ([] ++ [a]) I).map (fun k => (-k.1, k.2))) = _
    rw [dt_S_zero ((dt_K (dt_D V) ([] ++ [a]) I).map (fun k => (-k.1, k.2))) _ (fun k hk => by
      obtain ⟨k', hk', rfl⟩ := List.mem_map.mp hk
      exact dt_alt_dup _ (dt_D_alt (z :: u :: V)) k'.2 _ (List.mem_cons_of_mem _ (dt_K_mem _ I _ k' hk')))]
    simp
  rw [h2] at h1
  rw [h1]
  show _ = dt_D (z :: V) (a :: I) * dt_D (u :: V) (b :: I) - dt_D (u :: V) (a :: I) * dt_lap z (dt_D V) [] (b :: I)
  rfl
/-- existence: a repeated row -/
theorem dt_exists (rows : List (Nat → Int)) (r : Nat → Int) (hr : r ∈ rows) (L : List Nat) (n : Nat) : r n * dt_D rows L = dt_lap r (fun l => dt_D rows (n :: l)) [] L := by
  have h := dt_alt_dup _ (dt_D_altr (n :: L)) r rows hr
  have h2 : r n * dt_D rows ([] ++ L) - dt_lap r (dt_D rows) ([] ++ [n]) L = 0 := h
  simp only [List.nil_append] at h2
  rw [dt_lap_pre] at h2
  omega
/-- names may be changed -/
theorem dt_lap_map (g : Nat → Int) (F : List Nat → Int) (σ : Nat → Nat) (L : List Nat) : ∀ pre : List Nat, dt_lap (fun k => g (σ k)) (fun l => F (l.map σ)) pre L = dt_lap g F (pre.map σ) (L.map σ) := by
  induction L with
  | nil => intro pre; rfl
  | cons c cs ih => intro pre; simp only [dt_lap, List.map_cons]; rw [ih]; simp
theorem dt_D_map (σ : Nat → Nat) (rows : List (Nat → Int)) : ∀ L : List Nat, dt_D (rows.map (fun r k => r (σ k))) L = dt_D rows (L.map σ) := by
  induction rows with
  | nil => intro L; cases L <;> rfl
  | cons r rs ih =>
    intro L
    show dt_lap (fun k => r (σ k)) (dt_D (rs.map (fun r k => r (σ k)))) [] L = dt_lap r (dt_D rs) [] (L.map σ)
    have e : dt_D (rs.map (fun r k => r (σ k))) = fun l => dt_D rs (l.map σ) := funext fun l => ih l
    rw [e]
    exact dt_lap_map r (dt_D rs) σ L []
/-- the sum of r c * F (the list, b in the place of c) -/
def dt_rs (r : Nat → Int) (F : List Nat → Int) (b : Nat) (pre : List Nat) : List Nat → Int
  | [] => 0
  | c :: cs => r c * F (pre ++ b :: cs) + dt_rs r F b (pre ++ [c]) cs
theorem dt_rs_lap (r : Nat → Int) (F : List Nat → Int) (hF : dt_alt F) (b : Nat) (L : List Nat) : ∀ pre : List Nat, dt_sg pre.length * dt_lap r (fun l => F (b :: l)) pre L = dt_rs r F b pre L := by
  induction L with
  | nil => intro pre; simp [dt_lap, dt_rs]
  | cons c cs ih =>
    intro pre
    have mv := dt_alt_mv F hF b cs pre []
    have h := ih (pre ++ [c])
    simp only [List.nil_append] at mv
    rw [List.length_append, List.length_singleton, dt_sg_s] at h
    simp only [dt_lap, dt_rs]
    rw [mv, ← h]
    grind
def dt_at (c b k : Nat) : Nat := if k = c then b else k
theorem dt_at_map (c b : Nat) (l : List Nat) (h : c ∉ l) : l.map (dt_at c b) = l := by
  induction l with
  | nil => rfl
  | cons k l ih =>
    have h1 : k ≠ c := fun e => h (by rw [e]; exact List.mem_cons_self)
    simp only [List.map_cons]
    rw [ih (fun z => h (List.mem_cons_of_mem _ z))]
    unfold dt_at
    rw [if_neg h1]
theorem dt_rs_sum (r : Nat → Int) (F : List Nat → Int) (b : Nat) (L : List Nat) : ∀ pre : List Nat, (pre ++ L).Nodup → dt_rs r F b pre L = dt_S r (dt_pr (fun c => F ((pre ++ L).map (dt_at c b))) L) := by
  intro pre hN
  have key : ∀ (M : List Nat), M.Nodup → ∀ (L pre : List Nat), pre ++ L = M → dt_rs r F b pre L = dt_S r (dt_pr (fun c => F (M.map (dt_at c b))) L) := by
    intro M hM L
    induction L with
    | nil => intro pre _; rfl
    | cons c cs ih =>
      intro pre e
      have h1 := ih (pre ++ [c]) (by rw [← e]; simp)
      have h2 : M.map (dt_at c b) = pre ++ b :: cs := by
        rw [← e] at hM ⊢
        have h3 := List.nodup_append.mp hM
        have h4 : c ∉ pre := fun z => h3.2.2 c z c List.mem_cons_self rfl
        have h5 : c ∉ cs := (List.nodup_cons.mp h3.2.1).1
        rw [List.map_append, List.map_cons, dt_at_map c b pre h4, dt_at_map c b cs h5]
        simp [dt_at]
      simp only [dt_rs, dt_pr, List.map_cons, dt_S]
      rw [h1, h2, Int.mul_comm]
      rfl
  exact key (pre ++ L) hN L pre rfl
/-- Cramer's numbers solve the system, times the determinant -/
theorem dt_sol (rows : List (Nat → Int)) (L : List Nat) (hL : L.Nodup) (b : Nat) : ∀ r ∈ rows, dt_S r (dt_pr (fun c => dt_D rows (L.map (dt_at c b))) L) = dt_D rows L * r b := by
  intro r hr
  have h1 := dt_exists rows r hr L b
  have h2 := dt_rs_lap r (dt_D rows) (dt_D_alt rows) b L []
  have h3 := dt_rs_sum r (dt_D rows) b L [] (by simpa using hL)
  simp only [List.nil_append] at h3
  rw [← h3, ← h2, ← h1, Int.mul_comm (dt_D rows L)]
  simp [dt_sg]
