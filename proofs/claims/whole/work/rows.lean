section
/-! DET: determinants by the first row, over lists of vectors (names to numbers) and lists of names; swaps, equal columns and rows, Cramer's rule, the identity of elimination without fractions -/
def dt_lap {α : Type} (g : α → Int) (F : List α → Int) (pre : List α) : List α → Int
  | [] => 0
  | c :: cs => g c * F (pre ++ cs) - dt_lap g F (pre ++ [c]) cs
def dt_D : List (Nat → Int) → List Nat → Int
  | [] => fun cs => if cs.isEmpty then 1 else 0
  | r :: rs => fun cs => dt_lap r (dt_D rs) [] cs
theorem dt_lap_pre {α : Type} (g : α → Int) (F : List α → Int) (k : α) (L : List α) : ∀ pre : List α, dt_lap g F (k :: pre) L = dt_lap g (fun l => F (k :: l)) pre L := by
  induction L with
  | nil => intro pre; rfl
  | cons c cs ih => intro pre; simp only [dt_lap, List.cons_append]; rw [ih (pre ++ [c])]
theorem dt_lap_zero {α : Type} (g : α → Int) (L : List α) : ∀ pre : List α, dt_lap g (fun _ => 0) pre L = 0 := by
  induction L with
  | nil => intro pre; rfl
  | cons c cs ih => intro pre; simp only [dt_lap]; rw [ih]; simp
theorem dt_lap_lin {α : Type} (g : α → Int) (a : Int) (F1 F2 : List α → Int) (L : List α) : ∀ pre : List α, dt_lap g (fun l => a * F1 l - F2 l) pre L = a * dt_lap g F1 pre L - dt_lap g F2 pre L := by
  induction L with
  | nil => intro pre; simp [dt_lap]
  | cons c cs ih => intro pre; simp only [dt_lap]; rw [ih]; grind
theorem dt_lap_smul {α : Type} (g : α → Int) (a : Int) (F : List α → Int) (L : List α) (pre : List α) : dt_lap g (fun l => a * F l) pre L = a * dt_lap g F pre L := by
  have h := dt_lap_lin g a F (fun _ => 0) L pre
  rw [dt_lap_zero] at h
  simpa using h
theorem dt_lap_swap2 {α β : Type} (g : α → Int) (h : β → Int) (F : List β → List α → Int) (L q : List α) (R0 : List β) : ∀ pre : List β, dt_lap g (fun l => dt_lap h (fun R => F R l) pre R0) q L = dt_lap h (fun R => dt_lap g (fun l => F R l) q L) pre R0 := by
  induction R0 with
  | nil => intro pre; exact dt_lap_zero g L q
  | cons r rs ih =>
    intro pre
    show dt_lap g (fun l => h r * F (pre ++ rs) l - dt_lap h (fun R => F R l) (pre ++ [r]) rs) q L = _
    rw [dt_lap_lin, ih]
    rfl
/-- a function of lists that changes its sign when two neighbours are swapped -/
def dt_alt {α : Type} (F : List α → Int) : Prop := ∀ (a b : α) (x y : List α), F (x ++ a :: b :: y) = - F (x ++ b :: a :: y)
theorem dt_lap_altp {α : Type} (g : α → Int) (F : List α → Int) (hF : dt_alt F) (a b : α) (x : List α) (L : List α) : ∀ y : List α, dt_lap g F (x ++ a :: b :: y) L = - dt_lap g F (x ++ b :: a :: y) L := by
  induction L with
  | nil => intro y; simp [dt_lap]
  | cons c cs ih =>
    intro y
    simp only [dt_lap]
    have h1 := hF a b x (y ++ cs)
    have h2 := ih (y ++ [c])
    simp only [List.append_assoc, List.cons_append] at h1 h2 ⊢
    rw [h1, h2]
    grind
theorem dt_lap_alt {α : Type} (g : α → Int) (F : List α → Int) (hF : dt_alt F) (a b : α) (y : List α) (x : List α) : ∀ pre : List α, dt_lap g F pre (x ++ a :: b :: y) = - dt_lap g F pre (x ++ b :: a :: y) := by
  induction x with
  | nil =>
    intro pre
    have h := dt_lap_altp g F hF a b pre y []
    simp only [dt_lap, List.nil_append, List.append_assoc, List.cons_append] at h ⊢
    rw [h]
    grind
  | cons c cs ih =>
    intro pre
    simp only [dt_lap, List.cons_append]
    have h1 := hF a b (pre ++ cs) y
    simp only [List.append_assoc] at h1
    rw [h1, ih (pre ++ [c])]
    grind
theorem dt_D_alt (rows : List (Nat → Int)) : dt_alt (dt_D rows) := by
  induction rows with
  | nil => intro a b x y; cases x <;> simp [dt_D]
  | cons r rs ih => intro a b x y; exact dt_lap_alt r (dt_D rs) ih a b y x []
/-- the expansion by the first column -/
theorem dt_D_col (c : Nat) (rows : List (Nat → Int)) : ∀ cs : List Nat, dt_D rows (c :: cs) = dt_lap (fun r => r c) (fun R => dt_D R cs) [] rows := by
  induction rows with
  | nil => intro cs; rfl
  | cons r rs ih =>
    intro cs
    show r c * dt_D rs ([] ++ cs) - dt_lap r (dt_D rs) ([] ++ [c]) cs = r c * dt_D ([] ++ rs) cs - dt_lap (fun r => r c) (fun R => dt_D R cs) ([] ++ [r]) rs
    simp only [List.nil_append]
    rw [dt_lap_pre r (dt_D rs) c cs [], dt_lap_pre (fun r => r c) (fun R => dt_D R cs) r rs []]
    have h1 : (fun l => dt_D rs (c :: l)) = fun l => dt_lap (fun r => r c) (fun R => dt_D R l) [] rs := funext fun l => ih l
    rw [h1, dt_lap_swap2 r (fun r => r c) (fun R l => dt_D R l) cs [] rs []]
    rfl
theorem dt_D_altr (cs : List Nat) : dt_alt (fun R => dt_D R cs) := by
  induction cs with
  | nil => intro a b x y; cases x <;> simp [dt_D, dt_lap]
  | cons c cs ih =>
    intro a b x y
    show dt_D (x ++ a :: b :: y) (c :: cs) = - dt_D (x ++ b :: a :: y) (c :: cs)
    rw [dt_D_col, dt_D_col]
    exact dt_lap_alt (fun r => r c) (fun R => dt_D R cs) ih a b y x []
theorem dt_alt_dup0 {α : Type} (F : List α → Int) (hF : dt_alt F) (a : α) (q : List α) (p : List α) : ∀ x : List α, F (x ++ a :: (p ++ a :: q)) = 0 := by
  induction p with
  | nil =>
    intro x
    have h := hF a a x q
    simp only [List.nil_append]
    omega
  | cons c p ih =>
    intro x
    have h := hF a c x (p ++ a :: q)
    have h2 := ih (x ++ [c])
    simp only [List.append_assoc, List.cons_append, List.nil_append] at h h2 ⊢
    rw [h, h2]
    rfl
theorem dt_alt_dup {α : Type} (F : List α → Int) (hF : dt_alt F) (a : α) (l : List α) (h : a ∈ l) : F (a :: l) = 0 := by
  obtain ⟨p, q, rfl⟩ := List.append_of_mem h
  exact dt_alt_dup0 F hF a q p []
def dt_sg (n : Nat) : Int := if n % 2 = 0 then 1 else -1
theorem dt_sg_s (n : Nat) : dt_sg (n + 1) = - dt_sg n := by
  unfold dt_sg
  by_cases h : n % 2 = 0
  · rw [if_pos h, if_neg (by omega)]
  · rw [if_neg h, if_pos (by omega)]; rfl
theorem dt_sg_sq (n : Nat) : dt_sg n * dt_sg n = 1 := by
  unfold dt_sg
  by_cases h : n % 2 = 0
  · rw [if_pos h]; rfl
  · rw [if_neg h]; rfl
theorem dt_alt_mv {α : Type} (F : List α → Int) (hF : dt_alt F) (a : α) (y : List α) (x : List α) : ∀ z : List α, F (z ++ (x ++ a :: y)) = dt_sg x.length * F (z ++ a :: (x ++ y)) := by
  induction x with
  | nil => intro z; simp [dt_sg]
  | cons c x ih =>
    intro z
    have h := ih (z ++ [c])
    have h2 := hF c a z (x ++ y)
    simp only [List.append_assoc, List.cons_append, List.nil_append, List.length_cons] at h h2 ⊢
    rw [h, h2, dt_sg_s]
    grind
/-- sums over pairs (number, name) -/
def dt_S (f : Nat → Int) : List (Int × Nat) → Int
  | [] => 0
  | k :: K => k.1 * f k.2 + dt_S f K
theorem dt_S_zero (K : List (Int × Nat)) (f : Nat → Int) (h : ∀ k ∈ K, f k.2 = 0) : dt_S f K = 0 := by
  induction K with
  | nil => rfl
  | cons k K ih =>
    simp only [dt_S]
    rw [h k List.mem_cons_self, ih (fun k' hk' => h k' (List.mem_cons_of_mem _ hk'))]
    simp
theorem dt_S_lin (K : List (Int × Nat)) (f1 f2 : Nat → Int) (a : Int) : dt_S (fun k => f1 k * a - f2 k) K = dt_S f1 K * a - dt_S f2 K := by
  induction K with
  | nil => simp [dt_S]
  | cons k K ih => simp only [dt_S]; rw [ih]; grind
theorem dt_S_lap (g : Nat → Int) (F : Nat → List Nat → Int) (L : List Nat) (K : List (Int × Nat)) : ∀ pre : List Nat, dt_S (fun k => dt_lap g (F k) pre L) K = dt_lap g (fun l => dt_S (fun k => F k l) K) pre L := by
  induction L with
  | nil =>
    intro pre
    exact dt_S_zero K _ (fun k _ => rfl)
  | cons c cs ih =>
    intro pre
    have h := dt_S_lin K (fun k => F k (pre ++ cs)) (fun k => dt_lap g (F k) (pre ++ [c]) cs) (g c)
    simp only [dt_lap]
    rw [ih] at h
    have e : (fun k => g c * F k (pre ++ cs) - dt_lap g (F k) (pre ++ [c]) cs) = fun k => F k (pre ++ cs) * g c - dt_lap g (F k) (pre ++ [c]) cs := funext fun k => by rw [Int.mul_comm]
    rw [e, h, Int.mul_comm]
/-- contraction -/
theorem dt_contr (K : List (Int × Nat)) (r : Nat → Int) (rows : List (Nat → Int)) (T : List Nat) : dt_S (fun k => dt_D (r :: rows) (k :: T)) K = dt_S r K * dt_D rows T - dt_lap r (fun l => dt_S (fun k => dt_D rows (k :: l)) K) [] T := by
  have e : (fun k => dt_D (r :: rows) (k :: T)) = fun k => r k * dt_D rows T - dt_lap r (fun l => dt_D rows (k :: l)) [] T := funext fun k => by
    show r k * dt_D rows ([] ++ T) - dt_lap r (dt_D rows) ([] ++ [k]) T = _
    simp only [List.nil_append]
    rw [dt_lap_pre]
  rw [e, dt_S_lin, dt_S_lap]
theorem dt_contr0 (K : List (Int × Nat)) (rows : List (Nat → Int)) (h : ∀ r ∈ rows, dt_S r K = 0) : ∀ T : List Nat, dt_S (fun k => dt_D rows (k :: T)) K = 0 := by
  induction rows with
  | nil => intro T; exact dt_S_zero K _ (fun k _ => rfl)
  | cons r rs ih =>
    intro T
    rw [dt_contr, h r List.mem_cons_self]
    have e : (fun l => dt_S (fun k => dt_D rs (k :: l)) K) = fun _ => 0 := funext fun l => ih (fun r' hr' => h r' (List.mem_cons_of_mem _ hr')) l
    rw [e, dt_lap_zero]
    simp
theorem dt_S_app (f : Nat → Int) (K1 K2 : List (Int × Nat)) : dt_S f (K1 ++ K2) = dt_S f K1 + dt_S f K2 := by
  induction K1 with
  | nil => simp [dt_S]
  | cons k K ih => simp only [dt_S, List.cons_append]; rw [ih]; omega
def dt_pr (X : Nat → Int) (L : List Nat) : List (Int × Nat) := L.map (fun k => (X k, k))
/-- Cramer's rule: rows . X = d * (column n) -/
theorem dt_cramer (rows : List (Nat → Int)) (X : Nat → Int) (d : Int) (x y : List Nat) (j n : Nat) (h : ∀ r ∈ rows, dt_S r (dt_pr X (x ++ j :: y)) = d * r n) : X j * dt_D rows (x ++ j :: y) = d * dt_D rows (x ++ n :: y) := by
  have h0 := dt_contr0 ((-d, n) :: dt_pr X (x ++ j :: y)) rows (fun r hr => by
    simp only [dt_S]; rw [h r hr]; grind) (x ++ y)
  have hz : ∀ L : List Nat, (∀ k ∈ L, k ∈ x ++ y) → dt_S (fun k => dt_D rows (k :: (x ++ y))) (dt_pr X L) = 0 := fun L hL => dt_S_zero _ _ (fun k hk => by
    obtain ⟨k', hk', rfl⟩ := List.mem_map.mp hk
    exact dt_alt_dup _ (dt_D_alt rows) k' _ (hL k' hk'))
  have e : dt_pr X (x ++ j :: y) = dt_pr X x ++ ((X j, j) :: dt_pr X y) := by simp [dt_pr]
  rw [e] at h0
  simp only [dt_S] at h0
  rw [dt_S_app] at h0
  simp only [dt_S] at h0
  rw [hz x (fun k hk => List.mem_append_left _ hk), hz y (fun k hk => List.mem_append_right _ hk)] at h0
  have m1 := dt_alt_mv _ (dt_D_alt rows) j y x []
  have m2 := dt_alt_mv _ (dt_D_alt rows) n y x []
  simp only [List.nil_append] at m1 m2
  rw [m1, m2]
  grind
/-- the linear form of the expansion by the first row -/
def dt_K (F : List Nat → Int) (pre : List Nat) : List Nat → List (Int × Nat)
  | [] => []
  | c :: cs => (F (pre ++ cs), c) :: (dt_K F (pre ++ [c]) cs).map (fun k => (-k.1, k.2))
theorem dt_S_neg (f : Nat → Int) (K : List (Int × Nat)) : dt_S f (K.map (fun k => (-k.1, k.2))) = - dt_S f K := by
  induction K with
  | nil => rfl
  | cons k K ih => simp only [dt_S, List.map_cons]; rw [ih]; grind
theorem dt_S_K (F : List Nat → Int) (r : Nat → Int) (L : List Nat) : ∀ pre : List Nat, dt_S r (dt_K F pre L) = dt_lap r F pre L := by
  induction L with
  | nil => intro pre; rfl
  | cons c cs ih => intro pre; simp only [dt_K, dt_S, dt_lap]; rw [dt_S_neg, ih]; grind
theorem dt_K_mem (F : List Nat → Int) (L : List Nat) : ∀ pre : List Nat, ∀ k ∈ dt_K F pre L, k.2 ∈ L := by
  induction L with
  | nil => intro pre k hk; cases hk
  | cons c cs ih =>
    intro pre k hk
    simp only [dt_K] at hk
    rcases List.mem_cons.mp hk with h | h
    · rw [h]; exact List.mem_cons_self
    · obtain ⟨k', hk', rfl⟩ := List.mem_map.mp h
      exact List.mem_cons_of_mem _ (ih _ k' hk')
/-- the identity of elimination without fractions -/
theorem dt_jacobi (V : List (Nat → Int)) (I : List Nat) (u z : Nat → Int) (a b : Nat) : dt_D V I * dt_D (z :: u :: V) (a :: b :: I) = dt_D (z :: V) (a :: I) * dt_D (u :: V) (b :: I) - dt_D (u :: V) (a :: I) * dt_D (z :: V) (b :: I) := by
  have hK : ∀ v : Nat → Int, dt_S v (dt_K (dt_D V) [] (a :: I)) = dt_D (v :: V) (a :: I) := fun v => dt_S_K (dt_D V) v (a :: I) []
  have hV : ∀ v ∈ V, dt_S v (dt_K (dt_D V) [] (a :: I)) = 0 := fun v hv => by
    rw [hK]; exact dt_alt_dup _ (dt_D_altr (a :: I)) v V hv
  have h1 := dt_contr (dt_K (dt_D V) [] (a :: I)) z (u :: V) (b :: I)
  have e : (fun l => dt_S (fun k => dt_D (u :: V) (k :: l)) (dt_K (dt_D V) [] (a :: I))) = fun l => dt_D (u :: V) (a :: I) * dt_D V l := funext fun l => by
    rw [dt_contr]
    have e2 : (fun l' => dt_S (fun k => dt_D V (k :: l')) (dt_K (dt_D V) [] (a :: I))) = fun _ => 0 := funext fun l' => dt_contr0 _ V hV l'
    rw [e2, dt_lap_zero, hK]
    simp
  rw [e, dt_lap_smul, hK z] at h1
  have h2 : dt_S (fun k => dt_D (z :: u :: V) (k :: b :: I)) (dt_K (dt_D V) [] (a :: I)) = dt_D V I * dt_D (z :: u :: V) (a :: b :: I) := by
    show dt_D V ([] ++ I) * dt_D (z :: u :: V) (a :: b :: I) + dt_S (fun k => dt_D (z :: u :: V) (k :: b :: I)) ((dt_K (dt_D V) ([] ++ [a]) I).map (fun k => (-k.1, k.2))) = _
    rw [dt_S_zero ((dt_K (dt_D V) ([] ++ [a]) I).map (fun k => (-k.1, k.2))) _ (fun k hk => by
      obtain ⟨k', hk', rfl⟩ := List.mem_map.mp hk
      exact dt_alt_dup _ (dt_D_alt (z :: u :: V)) k'.2 _ (List.mem_cons_of_mem _ (dt_K_mem _ I _ k' hk')))]
    simp
  rw [h2] at h1
  rw [h1]
  show _ = dt_D (z :: V) (a :: I) * dt_D (u :: V) (b :: I) - dt_D (u :: V) (a :: I) * dt_lap z (dt_D V) [] (b :: I)
  rfl
/-- existence: a repeated row -/
theorem dt_exists (rows : List (Nat → Int)) (r : Nat → Int) (hr : r ∈ rows) (L : List Nat) (n : Nat) : r n * dt_D rows L = dt_lap r (fun l => dt_D rows (n :: l)) [] L := by
  have h := dt_alt_dup _ (dt_D_altr (n :: L)) r rows hr
  have h2 : r n * dt_D rows ([] ++ L) - dt_lap r (dt_D rows) ([] ++ [n]) L = 0 := h
  simp only [List.nil_append] at h2
  rw [dt_lap_pre] at h2
  omega
/-- names may be changed -/
theorem dt_lap_map (g : Nat → Int) (F : List Nat → Int) (σ : Nat → Nat) (L : List Nat) : ∀ pre : List Nat, dt_lap (fun k => g (σ k)) (fun l => F (l.map σ)) pre L = dt_lap g F (pre.map σ) (L.map σ) := by
  induction L with
  | nil => intro pre; rfl
  | cons c cs ih => intro pre; simp only [dt_lap, List.map_cons]; rw [ih]; simp
theorem dt_D_map (σ : Nat → Nat) (rows : List (Nat → Int)) : ∀ L : List Nat, dt_D (rows.map (fun r k => r (σ k))) L = dt_D rows (L.map σ) := by
  induction rows with
  | nil => intro L; cases L <;> rfl
  | cons r rs ih =>
    intro L
    show dt_lap (fun k => r (σ k)) (dt_D (rs.map (fun r k => r (σ k)))) [] L = dt_lap r (dt_D rs) [] (L.map σ)
    have e : dt_D (rs.map (fun r k => r (σ k))) = fun l => dt_D rs (l.map σ) := funext fun l => ih l
    rw [e]
    exact dt_lap_map r (dt_D rs) σ L []
/-- the sum of r c * F (the list, b in the place of c) -/
def dt_rs (r : Nat → Int) (F : List Nat → Int) (b : Nat) (pre : List Nat) : List Nat → Int
  | [] => 0
  | c :: cs => r c * F (pre ++ b :: cs) + dt_rs r F b (pre ++ [c]) cs
theorem dt_rs_lap (r : Nat → Int) (F : List Nat → Int) (hF : dt_alt F) (b : Nat) (L : List Nat) : ∀ pre : List Nat, dt_sg pre.length * dt_lap r (fun l => F (b :: l)) pre L = dt_rs r F b pre L := by
  induction L with
  | nil => intro pre; simp [dt_lap, dt_rs]
  | cons c cs ih =>
    intro pre
    have mv := dt_alt_mv F hF b cs pre []
    have h := ih (pre ++ [c])
    simp only [List.nil_append] at mv
    rw [List.length_append, List.length_singleton, dt_sg_s] at h
    simp only [dt_lap, dt_rs]
    rw [mv, ← h]
    grind
def dt_at (c b k : Nat) : Nat := if k = c then b else k
theorem dt_at_map (c b : Nat) (l : List Nat) (h : c ∉ l) : l.map (dt_at c b) = l := by
  induction l with
  | nil => rfl
  | cons k l ih =>
    have h1 : k ≠ c := fun e => h (by rw [e]; exact List.mem_cons_self)
    simp only [List.map_cons]
    rw [ih (fun z => h (List.mem_cons_of_mem _ z))]
    unfold dt_at
    rw [if_neg h1]
theorem dt_rs_sum (r : Nat → Int) (F : List Nat → Int) (b : Nat) (L : List Nat) : ∀ pre : List Nat, (pre ++ L).Nodup → dt_rs r F b pre L = dt_S r (dt_pr (fun c => F ((pre ++ L).map (dt_at c b))) L) := by
  intro pre hN
  have key : ∀ (M : List Nat), M.Nodup → ∀ (L pre : List Nat), pre ++ L = M → dt_rs r F b pre L = dt_S r (dt_pr (fun c => F (M.map (dt_at c b))) L) := by
    intro M hM L
    induction L with
    | nil => intro pre _; rfl
    | cons c cs ih =>
      intro pre e
      have h1 := ih (pre ++ [c]) (by rw [← e]; simp)
      have h2 : M.map (dt_at c b) = pre ++ b :: cs := by
        rw [← e] at hM ⊢
        have h3 := List.nodup_append.mp hM
        have h4 : c ∉ pre := fun z => h3.2.2 c z c List.mem_cons_self rfl
        have h5 : c ∉ cs := (List.nodup_cons.mp h3.2.1).1
        rw [List.map_append, List.map_cons, dt_at_map c b pre h4, dt_at_map c b cs h5]
        simp [dt_at]
      simp only [dt_rs, dt_pr, List.map_cons, dt_S]
      rw [h1, h2, Int.mul_comm]
      rfl
  exact key (pre ++ L) hN L pre rfl
/-- Cramer's numbers solve the system, times the determinant -/
theorem dt_sol (rows : List (Nat → Int)) (L : List Nat) (hL : L.Nodup) (b : Nat) : ∀ r ∈ rows, dt_S r (dt_pr (fun c => dt_D rows (L.map (dt_at c b))) L) = dt_D rows L * r b := by
  intro r hr
  have h1 := dt_exists rows r hr L b
  have h2 := dt_rs_lap r (dt_D rows) (dt_D_alt rows) b L []
  have h3 := dt_rs_sum r (dt_D rows) b L [] (by simpa using hL)
  simp only [List.nil_append] at h3
  rw [← h3, ← h2, ← h1, Int.mul_comm (dt_D rows L)]
  simp [dt_sg]
end
section
/-! MM: matrices whose off-diagonal numbers are not above 0 and whose row sums (column s) are not below 0, from each row of which a row with a sum above 0 is come to: elimination without fractions goes through, no pivot is 0 -/
def mm_V (A : Nat → Nat → Int) : Nat → List (Nat → Int)
  | 0 => []
  | p + 1 => A p :: mm_V A p
def mm_I : Nat → List Nat
  | 0 => []
  | p + 1 => p :: mm_I p
def mm_M (A : Nat → Nat → Int) (p i j : Nat) : Int := dt_D (A i :: mm_V A p) (j :: mm_I p)
def mm_q (A : Nat → Nat → Int) (p : Nat) : Int := dt_D (mm_V A p) (mm_I p)
theorem mm_q_s (A : Nat → Nat → Int) (p : Nat) : mm_q A (p + 1) = mm_M A p p p := rfl
theorem mm_q_0 (A : Nat → Nat → Int) : mm_q A 0 = 1 := rfl
theorem mm_M_0 (A : Nat → Nat → Int) (i j : Nat) : mm_M A 0 i j = A i j := by
  simp [mm_M, mm_V, mm_I, dt_D, dt_lap]
theorem mm_step (A : Nat → Nat → Int) (p i j : Nat) : mm_q A p * mm_M A (p + 1) i j = mm_M A p p p * mm_M A p i j - mm_M A p i p * mm_M A p p j := by
  have h := dt_jacobi (mm_V A p) (mm_I p) (A p) (A i) p j
  have h2 := dt_D_alt (A i :: A p :: mm_V A p) p j [] (mm_I p)
  simp only [List.nil_append] at h2
  rw [h2] at h
  have e : mm_M A (p + 1) i j = dt_D (A i :: A p :: mm_V A p) (j :: p :: mm_I p) := rfl
  rw [e]
  unfold mm_M mm_q
  rw [Int.mul_neg] at h
  rw [Int.mul_comm (dt_D (A p :: mm_V A p) (p :: mm_I p))] at h ⊢
  omega
theorem mm_le0 {q x : Int} (hq : 0 < q) (h : q * x ≤ 0) : x ≤ 0 := by
  refine Int.not_lt.mp (fun hx => ?_)
  have := Int.mul_pos hq hx
  omega
theorem mm_ge0 {q x : Int} (hq : 0 < q) (h : 0 ≤ q * x) : 0 ≤ x := by
  refine Int.not_lt.mp (fun hx => ?_)
  have := Int.mul_neg_of_pos_of_neg hq hx
  omega
theorem mm_lt0 {q x : Int} (hq : 0 < q) (h : q * x < 0) : x < 0 := by
  refine Int.not_le.mp (fun hx => ?_)
  have := Int.mul_nonneg (Int.le_of_lt hq) hx
  omega
theorem mm_gt0 {q x : Int} (hq : 0 < q) (h : 0 < q * x) : 0 < x := by
  refine Int.not_le.mp (fun hx => ?_)
  have := Int.mul_nonpos_of_nonneg_of_nonpos (Int.le_of_lt hq) hx
  omega
def mm_T (f : Nat → Int) (p : Nat) : Nat → Int
  | 0 => 0
  | m + 1 => f p + mm_T f (p + 1) m
theorem mm_T_le0 (f : Nat → Int) (m : Nat) : ∀ p : Nat, (∀ k, p ≤ k → k < p + m → f k ≤ 0) → mm_T f p m ≤ 0 := by
  induction m with
  | zero => intro p _; exact Int.le_refl 0
  | succ m ih =>
    intro p h
    have h1 := h p (Nat.le_refl p) (by omega)
    have h2 := ih (p + 1) (fun k h1 h2 => h k (by omega) (by omega))
    simp only [mm_T]
    omega
theorem mm_T_le1 (f : Nat → Int) (i : Nat) (m : Nat) : ∀ p : Nat, (∀ k, p ≤ k → k < p + m → k ≠ i → f k ≤ 0) → p ≤ i → i < p + m → mm_T f p m ≤ f i := by
  induction m with
  | zero => intro p _ h1 h2; omega
  | succ m ih =>
    intro p h h1 h2
    simp only [mm_T]
    by_cases e : p = i
    · subst e
      have h3 := mm_T_le0 f m (p + 1) (fun k a b => h k (by omega) (by omega) (by omega))
      omega
    · have h3 := ih (p + 1) (fun k a b c => h k (by omega) (by omega) c) (by omega) (by omega)
      have h4 := h p (Nat.le_refl p) (by omega) e
      omega
theorem mm_T_le2 (f : Nat → Int) (i j : Nat) (hij : j ≠ i) (m : Nat) : ∀ p : Nat, (∀ k, p ≤ k → k < p + m → k ≠ i → f k ≤ 0) → p ≤ i → i < p + m → p ≤ j → j < p + m → mm_T f p m ≤ f i + f j := by
  induction m with
  | zero => intro p _ h1 h2; omega
  | succ m ih =>
    intro p h h1 h2 h5 h6
    simp only [mm_T]
    by_cases e : p = i
    · subst e
      have h3 := mm_T_le1 f j m (p + 1) (fun k a b _ => h k (by omega) (by omega) (by omega)) (by omega) (by omega)
      omega
    · by_cases e2 : p = j
      · subst e2
        have h3 := mm_T_le1 f i m (p + 1) (fun k a b c => h k (by omega) (by omega) c) (by omega) (by omega)
        omega
      · have h3 := ih (p + 1) (fun k a b c => h k (by omega) (by omega) c) (by omega) (by omega) (by omega) (by omega)
        have h4 := h p (Nat.le_refl p) (by omega) e
        omega
theorem mm_T_comb (f g h : Nat → Int) (q a b : Int) (e : ∀ k, q * h k = a * f k - b * g k) (m : Nat) : ∀ p : Nat, q * mm_T h p m = a * mm_T f p m - b * mm_T g p m := by
  induction m with
  | zero => intro p; simp [mm_T]
  | succ m ih =>
    intro p
    have h1 := e p
    have h2 := ih (p + 1)
    simp only [mm_T, Int.mul_add]
    omega
def mm_ok (A : Nat → Nat → Int) (n s : Nat) (ρ : Nat → Nat) (B : Int) (p : Nat) : Prop :=
  0 < mm_q A p ∧
  (∀ i j, p ≤ i → i < n → p ≤ j → j < n → j ≠ i → mm_M A p i j ≤ 0) ∧
  (∀ i, p ≤ i → i < n → 0 ≤ mm_M A p i s) ∧
  (∀ i, p ≤ i → i < n → mm_M A p i s = mm_T (mm_M A p i) p (n - p)) ∧
  (∀ i, p ≤ i → i < n → 0 < mm_M A p i s ∨ ∃ j, p ≤ j ∧ j < n ∧ j ≠ i ∧ mm_M A p i j < 0 ∧ ρ j < ρ i) ∧
  (∀ i, p ≤ i → i < n → mm_M A p i i ≤ B * mm_q A p)
theorem mm_pos {A : Nat → Nat → Int} {n s : Nat} {ρ : Nat → Nat} {B : Int} {p : Nat} (h : mm_ok A n s ρ B p) {i : Nat} (h1 : p ≤ i) (h2 : i < n) : 0 < mm_M A p i i := by
  obtain ⟨hq, ho, hs, ht, hr, hB⟩ := h
  have e := ht i h1 h2
  have hk : ∀ k, p ≤ k → k < p + (n - p) → k ≠ i → mm_M A p i k ≤ 0 := fun k a b c => ho i k h1 h2 a (by omega) c
  have h3 := mm_T_le1 (mm_M A p i) i (n - p) p hk h1 (by omega)
  rcases hr i h1 h2 with h4 | ⟨j, j1, j2, j3, j4, j5⟩
  · omega
  · have h5 := mm_T_le2 (mm_M A p i) i j j3 (n - p) p hk h1 (by omega) j1 (by omega)
    have h6 := hs i h1 h2
    omega
theorem mm_off {A : Nat → Nat → Int} {n s : Nat} {ρ : Nat → Nat} {B : Int} {p : Nat} (h : mm_ok A n s ρ B p) {i j : Nat} (h1 : p ≤ i) (h2 : i < n) (j1 : p ≤ j) (j2 : j < n) : (mm_M A p i j).natAbs ≤ (mm_M A p i i).natAbs := by
  have hp := mm_pos h h1 h2
  obtain ⟨hq, ho, hs, ht, hr, hB⟩ := h
  by_cases hj : j = i
  · subst hj; exact Nat.le_refl _
  · have e := ht i h1 h2
    have hk : ∀ k, p ≤ k → k < p + (n - p) → k ≠ i → mm_M A p i k ≤ 0 := fun k a b c => ho i k h1 h2 a (by omega) c
    have h5 := mm_T_le2 (mm_M A p i) i j hj (n - p) p hk h1 (by omega) j1 (by omega)
    have h6 := hs i h1 h2
    have h7 := ho i j h1 h2 j1 j2 hj
    omega
theorem mm_go {A : Nat → Nat → Int} {n s : Nat} {ρ : Nat → Nat} {B : Int} {p : Nat} (h : mm_ok A n s ρ B p) (hp : p < n) : mm_ok A n s ρ B (p + 1) := by
  have hP := mm_pos h (Nat.le_refl p) hp
  obtain ⟨hq, ho, hs, ht, hr, hB⟩ := h
  have st := fun i j => mm_step A p i j
  have hip : ∀ i, p + 1 ≤ i → i < n → mm_M A p i p ≤ 0 := fun i a b => ho i p (by omega) b (Nat.le_refl p) hp (by omega)
  have hpj : ∀ j, p + 1 ≤ j → j < n → mm_M A p p j ≤ 0 := fun j a b => ho p j (Nat.le_refl p) hp (by omega) b (by omega)
  have hps := hs p (Nat.le_refl p) hp
  refine ⟨hP, ?_, ?_, ?_, ?_, ?_⟩
  · intro i j a b c d e
    refine mm_le0 hq ?_
    rw [st]
    have h1 := Int.mul_nonpos_of_nonneg_of_nonpos (Int.le_of_lt hP) (ho i j (by omega) b (by omega) d e)
    have h2 := Int.mul_nonneg_of_nonpos_of_nonpos (hip i a b) (hpj j c d)
    omega
  · intro i a b
    refine mm_ge0 hq ?_
    rw [st]
    have h1 := Int.mul_nonneg (Int.le_of_lt hP) (hs i (by omega) b)
    have h2 := Int.mul_nonpos_of_nonpos_of_nonneg (hip i a b) hps
    omega
  · intro i a b
    refine Int.eq_of_mul_eq_mul_left (a := mm_q A p) (by omega) ?_
    rw [st]
    have h1 := mm_T_comb (mm_M A p i) (mm_M A p p) (mm_M A (p + 1) i) (mm_q A p) (mm_M A p p p) (mm_M A p i p) (fun k => st i k) (n - (p + 1)) (p + 1)
    rw [h1, ht i (by omega) b, ht p (Nat.le_refl p) hp]
    have e : n - p = (n - (p + 1)) + 1 := by omega
    rw [e]
    simp only [mm_T, Int.mul_add]
    rw [Int.mul_comm (mm_M A p p p) (mm_M A p i p)]
    omega
  · intro i a b
    rcases hr i (by omega) b with h4 | ⟨j, j1, j2, j3, j4, j5⟩
    · left
      refine mm_gt0 hq ?_
      rw [st]
      have h1 := Int.mul_pos hP h4
      have h2 := Int.mul_nonpos_of_nonpos_of_nonneg (hip i a b) hps
      omega
    · by_cases hjp : j = p
      · subst hjp
        rcases hr j (Nat.le_refl j) hp with h5 | ⟨k, k1, k2, k3, k4, k5⟩
        · left
          refine mm_gt0 hq ?_
          rw [st]
          have h1 := Int.mul_nonneg (Int.le_of_lt hP) (hs i (by omega) b)
          have h2 := Int.mul_neg_of_neg_of_pos j4 h5
          omega
        · right
          refine ⟨k, by omega, k2, by intro e; subst e; omega, ?_, by omega⟩
          refine mm_lt0 hq ?_
          rw [st]
          have h1 := Int.mul_nonpos_of_nonneg_of_nonpos (Int.le_of_lt hP) (ho i k (by omega) b (by omega) k2 (by intro e; subst e; omega))
          have h2 := Int.mul_pos_of_neg_of_neg j4 k4
          omega
      · right
        refine ⟨j, by omega, j2, j3, ?_, j5⟩
        refine mm_lt0 hq ?_
        rw [st]
        have h1 := Int.mul_neg_of_pos_of_neg hP j4
        have h2 := Int.mul_nonneg_of_nonpos_of_nonpos (hip i a b) (hpj j (by omega) j2)
        omega
  · intro i a b
    refine Int.le_of_mul_le_mul_left (a := mm_q A p) ?_ hq
    rw [st, mm_q_s]
    have h1 := Int.mul_le_mul_of_nonneg_left (hB i (by omega) b) (Int.le_of_lt hP)
    have h2 := Int.mul_nonneg_of_nonpos_of_nonpos (hip i a b) (hpj i a b)
    have e : mm_M A p p p * (B * mm_q A p) = mm_q A p * (B * mm_M A p p p) := by grind
    omega
theorem mm_all {A : Nat → Nat → Int} {n s : Nat} {ρ : Nat → Nat} {B : Int} (h : mm_ok A n s ρ B 0) : ∀ p, p ≤ n → mm_ok A n s ρ B p := by
  intro p
  induction p with
  | zero => intro _; exact h
  | succ p ih => intro hp; exact mm_go (ih (by omega)) (by omega)
/-- the start, in words of the matrix itself -/
theorem mm_start {A : Nat → Nat → Int} {n s : Nat} {ρ : Nat → Nat} {B : Int} (ho : ∀ i j, i < n → j < n → j ≠ i → A i j ≤ 0) (hs : ∀ i, i < n → 0 ≤ A i s) (ht : ∀ i, i < n → A i s = mm_T (A i) 0 n) (hr : ∀ i, i < n → 0 < A i s ∨ ∃ j, j < n ∧ j ≠ i ∧ A i j < 0 ∧ ρ j < ρ i) (hB : ∀ i, i < n → A i i ≤ B) : mm_ok A n s ρ B 0 := by
  have e : mm_M A 0 = A := funext fun i => funext fun j => mm_M_0 A i j
  refine ⟨by rw [mm_q_0]; decide, ?_, ?_, ?_, ?_, ?_⟩
  · intro i j _ b _ d f; rw [e]; exact ho i j b d f
  · intro i _ b; rw [e]; exact hs i b
  · intro i _ b; rw [e]; exact ht i b
  · intro i _ b; rw [e]
    rcases hr i b with h | ⟨j, j1, j2, j3, j4⟩
    · exact Or.inl h
    · exact Or.inr ⟨j, Nat.zero_le _, j1, j2, j3, j4⟩
  · intro i _ b; rw [e, mm_q_0, Int.mul_one]; exact hB i b
theorem mm_qB {A : Nat → Nat → Int} {n s : Nat} {ρ : Nat → Nat} {B : Int} (h : mm_ok A n s ρ B 0) (hB : 0 ≤ B) : ∀ p, p ≤ n → mm_q A p ≤ B ^ p := by
  intro p
  induction p with
  | zero => intro _; rw [mm_q_0, Int.pow_zero]; exact Int.le_refl 1
  | succ p ih =>
    intro hp
    obtain ⟨hq, ho, hs, ht, hr, hb⟩ := mm_all h p (by omega)
    have h1 := hb p (Nat.le_refl p) (by omega)
    have h2 := Int.mul_le_mul_of_nonneg_left (ih (by omega)) hB
    rw [mm_q_s, Int.pow_succ, Int.mul_comm]
    omega
/-! bounds by the sums of a row's numbers -/
def mm_L1 (r : Nat → Int) : List Nat → Nat
  | [] => 0
  | c :: cs => (r c).natAbs + mm_L1 r cs
theorem mm_L1_sub (r : Nat → Int) {l L : List Nat} (h : l.Sublist L) : mm_L1 r l ≤ mm_L1 r L := by
  induction h with
  | slnil => exact Nat.le_refl _
  | cons a _ ih => simp only [mm_L1]; omega
  | cons_cons a _ ih => simp only [mm_L1]; omega
theorem mm_lap_le {α : Type} (g : α → Int) (F : List α → Int) (m : Nat) (w : α → Nat) (L : List α) : ∀ pre : List α, (∀ c ∈ L, (g c).natAbs ≤ w c) → (∀ l, l.Sublist (pre ++ L) → (F l).natAbs ≤ m) → (dt_lap g F pre L).natAbs ≤ (L.map w).sum * m := by
  induction L with
  | nil => intro pre _ _; simp [dt_lap]
  | cons c cs ih =>
    intro pre hw h
    simp only [dt_lap, List.map_cons, List.sum_cons]
    have h1 := Int.natAbs_sub_le (g c * F (pre ++ cs)) (dt_lap g F (pre ++ [c]) cs)
    rw [Int.natAbs_mul] at h1
    have h2 := h (pre ++ cs) (List.Sublist.append (List.Sublist.refl pre) (List.sublist_cons_self c cs))
    have h3 := ih (pre ++ [c]) (fun c' hc' => hw c' (List.mem_cons_of_mem _ hc')) (fun l hl => h l (by simpa using hl))
    have h4 := Nat.mul_le_mul (hw c List.mem_cons_self) h2
    rw [Nat.add_mul]
    omega
theorem mm_L1_map (r : Nat → Int) (L : List Nat) : (L.map (fun c => (r c).natAbs)).sum = mm_L1 r L := by
  induction L with
  | nil => rfl
  | cons c cs ih => simp only [List.map_cons, List.sum_cons, mm_L1]; rw [ih]
def mm_Pr (L : List Nat) : List (Nat → Int) → Nat
  | [] => 1
  | r :: rs => mm_L1 r L * mm_Pr L rs
theorem mm_Pr_sub {l L : List Nat} (h : l.Sublist L) (rows : List (Nat → Int)) : mm_Pr l rows ≤ mm_Pr L rows := by
  induction rows with
  | nil => exact Nat.le_refl _
  | cons r rs ih => simp only [mm_Pr]; exact Nat.mul_le_mul (mm_L1_sub r h) ih
theorem mm_D_le (rows : List (Nat → Int)) : ∀ L : List Nat, (dt_D rows L).natAbs ≤ mm_Pr L rows := by
  induction rows with
  | nil => intro L; cases L <;> simp [dt_D, mm_Pr]
  | cons r rs ih =>
    intro L
    have h := mm_lap_le r (dt_D rs) (mm_Pr L rs) (fun c => (r c).natAbs) L [] (fun c _ => Nat.le_refl _) (fun l hl => Nat.le_trans (ih l) (mm_Pr_sub (by simpa using hl) rs))
    rw [mm_L1_map] at h
    exact h
end
section
/-! PURE BASE: loops by fuel; long numbers as lI z (z whole); Euclid's turns; fractions in lowest terms -/
/-- a loop by fuel: the body goes on (.inl) or ends (.inr) -/
def lpk {σ τ : Type} (k : σ → Option τ) : σ ⊕ τ → Option τ
  | .inl s => k s
  | .inr t => some t
def lp {σ τ : Type} (body : σ → Option (σ ⊕ τ)) : Nat → σ → Option τ
  | 0, _ => none
  | n + 1, s => Option.bind (body s) (lpk (lp body n))
theorem lp_s {σ τ : Type} (body : σ → Option (σ ⊕ τ)) (n : Nat) (s : σ) : lp body (n + 1) s = Option.bind (body s) (lpk (lp body n)) := rfl
theorem lp_mu {σ τ : Type} (body : σ → Option (σ ⊕ τ)) (P : σ → Prop) (μ : σ → Nat) (Q : τ → Prop) (hs : ∀ s, P s → ∃ y, body s = some y ∧ (match y with | .inl s' => P s' ∧ μ s' < μ s | .inr t => Q t)) : ∀ (fuel : Nat) (s : σ), P s → μ s < fuel → ∃ t, lp body fuel s = some t ∧ Q t := by
  intro fuel
  induction fuel with
  | zero => intro s _ h; omega
  | succ n ih =>
    intro s hP hm
    obtain ⟨y, e, h⟩ := hs s hP
    simp only [lp]
    rw [e]
    cases y with
    | inl s' =>
      obtain ⟨h1, h2⟩ := h
      exact ih s' h1 (by omega)
    | inr t => exact ⟨t, rfl, h⟩
theorem lp_run {σ τ : Type} (body : σ → Option (σ ⊕ τ)) (P : Nat → σ → Prop) (Q : τ → Prop) (N : Nat) (hs : ∀ k s, k < N → P k s → ∃ y, body s = some y ∧ (match y with | .inl s' => P (k + 1) s' | .inr t => Q t)) (he : ∀ s, P N s → ∃ t, body s = some (.inr t) ∧ Q t) : ∀ (fuel k : Nat) (s : σ), k ≤ N → N < k + fuel → P k s → ∃ t, lp body fuel s = some t ∧ Q t := by
  intro fuel
  induction fuel with
  | zero => intro k s h1 h2; omega
  | succ n ih =>
    intro k s h1 h2 hP
    simp only [lp]
    rcases Nat.lt_or_ge k N with h | h
    · obtain ⟨y, e, h3⟩ := hs k s h hP
      rw [e]
      cases y with
      | inl s' => exact ih (k + 1) s' h (by omega) h3
      | inr t => exact ⟨t, rfl, h3⟩
    · have hk : k = N := by omega
      subst hk
      obtain ⟨t, e, h3⟩ := he s hP
      rw [e]
      exact ⟨t, rfl, h3⟩
/-- from the first turn on, with enough fuel -/
theorem lp_run0 {σ τ : Type} (body : σ → Option (σ ⊕ τ)) (P : Nat → σ → Prop) (Q : τ → Prop) (N fuel : Nat) (s : σ) (hN : N < fuel) (h0 : P 0 s) (hs : ∀ k s, k < N → P k s → ∃ y, body s = some y ∧ (match y with | .inl s' => P (k + 1) s' | .inr t => Q t)) (he : ∀ s, P N s → ∃ t, body s = some (.inr t) ∧ Q t) : ∃ t, lp body fuel s = some t ∧ Q t :=
  lp_run body P Q N hs he fuel 0 s (Nat.zero_le N) (by omega) h0
def lI (z : Int) : Int64 := Int64.ofInt z
theorem lI_add (a b : Int) : lI a + lI b = lI (a + b) := (Int64.ofInt_add a b).symm
theorem lI_sub (a b : Int) : lI a - lI b = lI (a - b) := (Int64.ofInt_sub a b).symm
theorem lI_mul (a b : Int) : lI a * lI b = lI (a * b) := (Int64.ofInt_mul a b).symm
theorem lI_neg (a : Int) : - lI a = lI (-a) := (Int64.ofInt_neg a).symm
theorem lI_0 : (0 : Int64) = lI 0 := rfl
theorem lI_1 : (1 : Int64) = lI 1 := rfl
theorem lI_of (x : Int64) : lI x.toInt = x := Int64.ofInt_toInt x
/-- z is a long -/
def fitL (z : Int) : Prop := -9223372036854775808 ≤ z ∧ z < 9223372036854775808
theorem lI_toInt {z : Int} (h : fitL z) : (lI z).toInt = z := Int64.toInt_ofInt_of_le (by have := h.1; omega) (by have := h.2; omega)
theorem lI_inj {a b : Int} (ha : fitL a) (hb : fitL b) : lI a = lI b ↔ a = b :=
  ⟨fun h => by rw [← lI_toInt ha, h, lI_toInt hb], fun h => by rw [h]⟩
theorem lI_lt {a b : Int} (ha : fitL a) (hb : fitL b) : lI a < lI b ↔ a < b := by
  rw [Int64.lt_iff_toInt_lt, lI_toInt ha, lI_toInt hb]
theorem lI_le {a b : Int} (ha : fitL a) (hb : fitL b) : lI a ≤ lI b ↔ a ≤ b := by
  rw [Int64.le_iff_toInt_le, lI_toInt ha, lI_toInt hb]
theorem lI_div {a b : Int} (ha : fitL a) (hb : fitL b) : lI a / lI b = lI (a.tdiv b) :=
  (Int64.ofInt_tdiv (by have := ha.1; show (-9223372036854775808 : Int) ≤ a; omega) (by have := ha.2; show a ≤ (9223372036854775807 : Int); omega) (by have := hb.1; show (-9223372036854775808 : Int) ≤ b; omega) (by have := hb.2; show b ≤ (9223372036854775807 : Int); omega)).symm
theorem fit0 : fitL 0 := ⟨by decide, by decide⟩
theorem nI_long (k : Nat) (h : k < 2147483648) : (nI k).toInt64 = lI k := by
  have e : (nI k).toInt = (k : Int) := nI_toInt (by omega)
  rw [← Int64.ofInt_int32ToInt, e]
  rfl
/-- Euclid ends within k turns -/
def eu : Nat → Nat → Nat → Prop
  | 0, _, y => y = 0
  | k + 1, x, y => y = 0 ∨ eu k y (x % y)
def fb : Nat → Nat
  | 0 => 0
  | 1 => 1
  | n + 2 => fb n + fb (n + 1)
theorem eu_0 (k x : Nat) : eu k x 0 := by
  cases k with
  | zero => rfl
  | succ k => exact Or.inl rfl
theorem eu_mono (k : Nat) : ∀ x y, eu k x y → eu (k + 1) x y := by
  induction k with
  | zero => intro x y h; exact Or.inl h
  | succ k ih =>
    intro x y h
    rcases h with h | h
    · exact Or.inl h
    · exact Or.inr (ih _ _ h)
theorem eu_fb (k : Nat) : (∀ x y, y < x → y < fb (k + 1) → eu k x y) ∧ (∀ x y, y < x → y < fb (k + 2) → eu (k + 1) x y) := by
  induction k with
  | zero =>
    constructor
    · intro x y _ h; have h : y < 1 := h; show y = 0; omega
    · intro x y _ h; have h : y < 1 := h; exact Or.inl (by omega)
  | succ k ih =>
    refine ⟨ih.2, ?_⟩
    intro x y hxy h
    by_cases hy : y = 0
    · exact Or.inl hy
    refine Or.inr ?_
    have hr : x % y < y := Nat.mod_lt _ (by omega)
    have h : y < fb (k + 1) + fb (k + 2) := h
    by_cases hr0 : x % y = 0
    · rw [hr0]; exact eu_0 _ _
    · rcases Nat.lt_or_ge (x % y) (fb (k + 2)) with h1 | h1
      · exact ih.2 _ _ hr h1
      · refine Or.inr ?_
        have h2 : y % (x % y) < x % y := Nat.mod_lt _ (by omega)
        have h3 : y % (x % y) ≤ y - x % y := by
          have h4 := Nat.mod_add_div y (x % y)
          have h5 : 1 ≤ y / (x % y) := Nat.div_pos (by omega) (by omega)
          have h6 : (x % y) * 1 ≤ (x % y) * (y / (x % y)) := Nat.mul_le_mul (Nat.le_refl _) h5
          omega
        exact ih.1 _ _ h2 (by omega)
theorem eu_93 (x y : Nat) (hx : x < 9223372036854775808) (hy : y < 9223372036854775808) : eu 94 x y := by
  have hf : 9223372036854775808 < fb 93 := by decide +kernel
  by_cases h0 : y = 0
  · exact Or.inl h0
  refine Or.inr ?_
  exact (eu_fb 92).2 y (x % y) (Nat.mod_lt _ (by omega)) (by
    have h1 : x % y ≤ x := Nat.mod_le _ _
    show x % y < fb 92 + fb 93
    omega)
/-- one turn of Euclid, in longs -/
theorem lI_rem {a b : Nat} (ha : a < 9223372036854775808) (hb : b < 9223372036854775808) : lI a - lI a / lI b * lI b = lI ((a % b : Nat) : Int) := by
  rw [lI_div ⟨by omega, by omega⟩ ⟨by omega, by omega⟩, lI_mul, lI_sub]
  congr 1
  have h1 := Int.tmod_add_mul_tdiv (a : Int) (b : Int)
  have h2 : ((a : Int).tmod (b : Int)) = ((a % b : Nat) : Int) := by
    rw [Int.tmod_eq_emod_of_nonneg (by omega)]; rfl
  rw [h2, Int.mul_comm] at h1
  omega
/-- the fraction n / d in lowest terms, the lower number above 0 -/
def rdU (n d : Int) : Int := (if d < 0 then -n else n) / (Int.gcd n d : Int)
def rdL (n d : Int) : Int := (if d < 0 then -d else d) / (Int.gcd n d : Int)
theorem rd_pos (n d : Int) (hd : d ≠ 0) : 0 < (Int.gcd n d : Int) := by
  have h : Int.gcd n d ≠ 0 := fun h => hd (Int.gcd_eq_zero_iff.mp h).2
  omega
theorem rd_U (n d : Int) : rdU n d * (Int.gcd n d : Int) = if d < 0 then -n else n := by
  unfold rdU
  refine Int.ediv_mul_cancel ?_
  split
  · exact Int.dvd_neg.mpr (Int.gcd_dvd_left n d)
  · exact Int.gcd_dvd_left n d
theorem rd_L (n d : Int) : rdL n d * (Int.gcd n d : Int) = if d < 0 then -d else d := by
  unfold rdL
  refine Int.ediv_mul_cancel ?_
  split
  · exact Int.dvd_neg.mpr (Int.gcd_dvd_right n d)
  · exact Int.gcd_dvd_right n d
theorem rd_nat {a b a' b' : Nat} (h : a * b' = a' * b) (hb : 0 < b) (hb' : 0 < b') : b / Nat.gcd a b = b' / Nat.gcd a' b' := by
  have hg : 0 < Nat.gcd a b := Nat.gcd_pos_of_pos_right a hb
  have hg' : 0 < Nat.gcd a' b' := Nat.gcd_pos_of_pos_right a' hb'
  have e : b * Nat.gcd a' b' = b' * Nat.gcd a b := by
    rw [← Nat.gcd_mul_left, ← Nat.gcd_mul_left, Nat.mul_comm b a', ← h, Nat.mul_comm b' a, Nat.mul_comm b b']
  have h1 : b / Nat.gcd a b * Nat.gcd a b = b := Nat.div_mul_cancel (Nat.gcd_dvd_right a b)
  have h2 : b' / Nat.gcd a' b' * Nat.gcd a' b' = b' := Nat.div_mul_cancel (Nat.gcd_dvd_right a' b')
  refine Nat.eq_of_mul_eq_mul_right (Nat.mul_pos hg hg') ?_
  calc b / Nat.gcd a b * (Nat.gcd a b * Nat.gcd a' b') = (b / Nat.gcd a b * Nat.gcd a b) * Nat.gcd a' b' := by rw [Nat.mul_assoc]
    _ = b' * Nat.gcd a b := by rw [h1, e]
    _ = (b' / Nat.gcd a' b' * Nat.gcd a' b') * Nat.gcd a b := by rw [h2]
    _ = b' / Nat.gcd a' b' * (Nat.gcd a b * Nat.gcd a' b') := by rw [Nat.mul_assoc, Nat.mul_comm (Nat.gcd a' b')]
theorem rd_Lnat (n d : Int) : rdL n d = ((d.natAbs / Nat.gcd n.natAbs d.natAbs : Nat) : Int) := by
  unfold rdL
  have e : (if d < 0 then -d else d) = (d.natAbs : Int) := by split <;> omega
  rw [e]
  rfl
theorem rd_Lpos (n d : Int) (hd : d ≠ 0) : 0 < rdL n d := by
  rw [rd_Lnat]
  have h : 0 < d.natAbs / Nat.gcd n.natAbs d.natAbs := Nat.div_pos (Nat.gcd_le_right _ (by omega)) (Nat.gcd_pos_of_pos_right _ (by omega))
  omega
/-- equal fractions have the same lowest terms -/
theorem rd_eq {n d n' d' : Int} (h : n * d' = n' * d) (hd : d ≠ 0) (hd' : d' ≠ 0) : rdU n d = rdU n' d' ∧ rdL n d = rdL n' d' := by
  have hL : rdL n d = rdL n' d' := by
    rw [rd_Lnat, rd_Lnat]
    have h2 : n.natAbs * d'.natAbs = n'.natAbs * d.natAbs := by rw [← Int.natAbs_mul, ← Int.natAbs_mul, h]
    rw [rd_nat h2 (by omega) (by omega)]
  refine ⟨?_, hL⟩
  have g1 := rd_pos n d hd
  have g2 := rd_pos n' d' hd'
  have u1 := rd_U n d
  have u2 := rd_U n' d'
  have l1 := rd_L n d
  have l2 := rd_L n' d'
  have lp := rd_Lpos n d hd
  rw [← hL] at l2
  have hs : (if d < 0 then -n else n) * (if d' < 0 then -d' else d') = (if d' < 0 then -n' else n') * (if d < 0 then -d else d) := by
    by_cases c1 : d < 0
    · by_cases c2 : d' < 0
      · simp only [c1, c2, if_true]; rw [Int.neg_mul_neg, Int.neg_mul_neg, h]
      · simp only [c1, c2, if_true, if_false]; rw [Int.neg_mul, Int.mul_neg, h]
    · by_cases c2 : d' < 0
      · simp only [c1, c2, if_true, if_false]; rw [Int.mul_neg, Int.neg_mul, h]
      · simp only [c1, c2, if_false]; exact h
  rw [← u1, ← u2, ← l1, ← l2] at hs
  have hk : (rdL n d * (Int.gcd n d : Int) * (Int.gcd n' d' : Int)) ≠ 0 := by
    have := Int.mul_pos (Int.mul_pos lp g1) g2
    omega
  refine Int.eq_of_mul_eq_mul_left hk ?_
  generalize rdL n d = L at *
  generalize (Int.gcd n d : Int) = g at *
  generalize (Int.gcd n' d' : Int) = g' at *
  generalize rdU n d = U at *
  generalize rdU n' d' = U' at *
  grind
theorem rd_leL (n d : Int) (hd : d ≠ 0) : (rdL n d).natAbs ≤ d.natAbs := by
  rw [rd_Lnat, Int.natAbs_natCast]
  exact Nat.div_le_self d.natAbs (Nat.gcd n.natAbs d.natAbs)
theorem rd_leU (n d : Int) (hd : d ≠ 0) : (rdU n d).natAbs ≤ n.natAbs := by
  have h1 := rd_U n d
  have h2 := rd_pos n d hd
  have h3 : (rdU n d).natAbs * (Int.gcd n d : Int).natAbs = n.natAbs := by
    rw [← Int.natAbs_mul, h1]; split <;> omega
  have h4 : 1 ≤ (Int.gcd n d : Int).natAbs := by omega
  have h5 := Nat.mul_le_mul (Nat.le_refl (rdU n d).natAbs) h4
  omega
end
section
/-! BITS: sets of states as the bits of an int (bt and its rows are of the kit's laws, BITS.to-paste) -/
def bt (x : Int32) (i : Nat) : Bool := x.toBitVec.getLsbD i
theorem b_ext {x y : Int32} (h : ∀ i, i < 32 → bt x i = bt y i) : x = y := Int32.toBitVec_inj.mp (BitVec.eq_of_getLsbD_eq (fun i hi => h i hi))
theorem b_or (x y : Int32) (i : Nat) : bt (x ||| y) i = (bt x i || bt y i) := by unfold bt; rw [Int32.toBitVec_or, BitVec.getLsbD_or]
theorem b_and (x y : Int32) (i : Nat) : bt (x &&& y) i = (bt x i && bt y i) := by unfold bt; rw [Int32.toBitVec_and, BitVec.getLsbD_and]
theorem b_xor (x y : Int32) (i : Nat) : bt (x ^^^ y) i = (bt x i ^^ bt y i) := by unfold bt; rw [Int32.toBitVec_xor, BitVec.getLsbD_xor]
theorem b_big {x : Int32} {i : Nat} (h : 32 ≤ i) : bt x i = false := BitVec.getLsbD_of_ge _ _ h
theorem b_m1 : ∀ i, i < 32 → bt (-1) i = true := by decide +kernel
theorem b_0 (i : Nat) : bt 0 i = false := BitVec.getLsbD_zero
theorem b_1 : ∀ i, i < 32 → bt 1 i = decide (i = 0) := by decide +kernel
theorem s_l : ∀ n, n < 32 → ((nI n &&& 31).toBitVec.smod 32).toNat = n := by decide +kernel
theorem b_shl (n : Nat) (hn : n < 32) (x : Int32) {i : Nat} (hi : i < 32) : bt (x <<< (nI n &&& 31)) i = (decide (n ≤ i) && bt x (i - n)) := by
  unfold bt
  rw [Int32.toBitVec_shiftLeft]
  show (x.toBitVec <<< ((nI n &&& 31).toBitVec.smod 32).toNat).getLsbD i = _
  rw [s_l n hn, BitVec.getLsbD_shiftLeft]
  rcases Nat.lt_or_ge i n with h | h
  · simp [h, Nat.not_le.mpr h]
  · simp [hi, h, Nat.not_lt.mpr h]
theorem b_sshr (n : Nat) (hn : n < 32) (x : Int32) {i : Nat} (hi : i < 32) : bt (x >>> (nI n &&& 31)) i = if n + i < 32 then bt x (n + i) else bt x 31 := by
  unfold bt
  rw [Int32.toBitVec_shiftRight]
  show (x.toBitVec.sshiftRight ((nI n &&& 31).toBitVec.smod 32).toNat).getLsbD i = _
  rw [s_l n hn, BitVec.getLsbD_sshiftRight, BitVec.msb_eq_getLsbD_last]
  simp [hi]
/-- the set of one state -/
theorem b_one (k : Nat) (hk : k < 32) {i : Nat} (hi : i < 32) : bt ((1 : Int32) <<< (nI k &&& 31)) i = decide (i = k) := by
  rw [b_shl k hk 1 hi, b_1 (i - k) (by omega)]
  by_cases h : i = k
  · subst h; simp
  · by_cases h2 : k ≤ i
    · have h3 : ¬ (i - k = 0) := by omega
      simp [h, h2, h3]
    · simp [h, h2]
theorem b_not (x : Int32) {i : Nat} (hi : i < 32) : bt (x ^^^ (-1)) i = !bt x i := by
  rw [b_xor, b_m1 i hi]; simp
theorem b_and1 (y : Int32) : y &&& 1 = if bt y 0 = true then 1 else 0 := by
  apply b_ext
  intro i hi
  rw [b_and, b_1 i hi]
  by_cases h : i = 0
  · subst h
    cases hb : bt y 0
    · simp [b_0]
    · simp [b_1 0 (by omega)]
  · cases hb : bt y 0
    · simp [b_0, h]
    · simp [b_1 i hi, h]
theorem b_bit (x : Int32) (k : Nat) (hk : k < 32) : (x >>> (nI k &&& 31)) &&& 1 = if bt x k = true then 1 else 0 := by
  rw [b_and1, b_sshr k hk x (by omega : 0 < 32)]
  simp [hk]
/-- x is the set of the states i < n with P i -/
def isS (x : Int32) (n : Nat) (P : Nat → Prop) : Prop := ∀ i, i < 32 → (bt x i = true ↔ i < n ∧ P i)
theorem isS_in {x : Int32} {n : Nat} {P : Nat → Prop} (h : isS x n P) {i : Nat} (hi : i < n) (hn : n ≤ 7) : bt x i = true ↔ P i := by
  rw [h i (by omega)]; exact ⟨fun z => z.2, fun z => ⟨hi, z⟩⟩
theorem isS_eq {x y : Int32} {n : Nat} {P Q : Nat → Prop} (hx : isS x n P) (hy : isS y n Q) (h : ∀ i, i < n → (P i ↔ Q i)) : x = y := by
  apply b_ext
  intro i hi
  have h1 := hx i hi
  have h2 := hy i hi
  rw [Bool.eq_iff_iff, h1, h2]
  exact ⟨fun z => ⟨z.1, (h i z.1).mp z.2⟩, fun z => ⟨z.1, (h i z.1).mpr z.2⟩⟩
theorem isS_0 {n : Nat} : isS 0 n (fun _ => False) := fun i _ => by rw [b_0]; simp
theorem isS_one {n k : Nat} (hk : k < n) (hn : n ≤ 7) : isS ((1 : Int32) <<< (nI k &&& 31)) n (fun i => i = k) := fun i hi => by
  rw [b_one k (by omega) hi]
  simp only [decide_eq_true_eq]
  exact ⟨fun h => ⟨by omega, h⟩, fun h => h.2⟩
theorem isS_or {x y : Int32} {n : Nat} {P Q : Nat → Prop} (hx : isS x n P) (hy : isS y n Q) : isS (x ||| y) n (fun i => P i ∨ Q i) := fun i hi => by
  rw [b_or, Bool.or_eq_true, hx i hi, hy i hi]
  constructor
  · rintro (h | h)
    · exact ⟨h.1, Or.inl h.2⟩
    · exact ⟨h.1, Or.inr h.2⟩
  · rintro ⟨h1, h | h⟩
    · exact Or.inl ⟨h1, h⟩
    · exact Or.inr ⟨h1, h⟩
theorem isS_and {x y : Int32} {n : Nat} {P Q : Nat → Prop} (hx : isS x n P) (hy : isS y n Q) : isS (x &&& y) n (fun i => P i ∧ Q i) := fun i hi => by
  rw [b_and, Bool.and_eq_true, hx i hi, hy i hi]
  exact ⟨fun h => ⟨h.1.1, h.1.2, h.2.2⟩, fun h => ⟨⟨h.1, h.2.1⟩, h.1, h.2.2⟩⟩
theorem isS_diff {x y : Int32} {n : Nat} {P Q : Nat → Prop} (hx : isS x n P) (hy : isS y n Q) : isS (x &&& (y ^^^ (-1))) n (fun i => P i ∧ ¬ Q i) := fun i hi => by
  rw [b_and, b_not y hi, Bool.and_eq_true, Bool.not_eq_true', hx i hi, ← Bool.not_eq_true, hy i hi]
  exact ⟨fun h => ⟨h.1.1, h.1.2, fun q => h.2 ⟨h.1.1, q⟩⟩, fun h => ⟨⟨h.1, h.2.1⟩, fun q => h.2.2 q.2⟩⟩
theorem isS_congr {x : Int32} {n : Nat} {P Q : Nat → Prop} (hx : isS x n P) (h : ∀ i, i < n → (P i ↔ Q i)) : isS x n Q := fun i hi => by
  rw [hx i hi]
  exact ⟨fun z => ⟨z.1, (h i z.1).mp z.2⟩, fun z => ⟨z.1, (h i z.1).mpr z.2⟩⟩
theorem isS_nil {x : Int32} {n : Nat} {P : Nat → Prop} (hn : n ≤ 7) (hx : isS x n P) : x = 0 ↔ ∀ i, i < n → ¬ P i := by
  constructor
  · intro e i hi hp
    have := (hx i (by omega)).mpr ⟨hi, hp⟩
    rw [e, b_0] at this
    cases this
  · intro h
    exact isS_eq hx isS_0 (fun i hi => ⟨fun p => h i hi p, fun q => q.elim⟩)
end
section
/-! CH: the chain as numbers: W i j (0 where there is no arc), totals, the ways -/
def ch_T (W : Nat → Nat → Nat) (i : Nat) : Nat → Nat
  | 0 => 0
  | m + 1 => ch_T W i m + W i m
theorem ch_T_zero (W : Nat → Nat → Nat) (i n : Nat) (h : ∀ j, n ≤ j → W i j = 0) : ∀ m, ch_T W i (n + m) = ch_T W i n := by
  intro m
  induction m with
  | zero => rfl
  | succ m ih => show ch_T W i (n + m) + W i (n + m) = _; rw [ih, h (n + m) (by omega)]; rfl
theorem ch_T_le (W : Nat → Nat → Nat) (i j : Nat) : ∀ n, j < n → W i j ≤ ch_T W i n := by
  intro n
  induction n with
  | zero => intro h; omega
  | succ n ih =>
    intro h
    show W i j ≤ ch_T W i n + W i n
    by_cases e : j = n
    · subst e; omega
    · have := ih (by omega); omega
theorem ch_T_pos (W : Nat → Nat → Nat) (i : Nat) : ∀ n, 0 < ch_T W i n → ∃ j, j < n ∧ 0 < W i j := by
  intro n
  induction n with
  | zero => intro h; exact absurd h (Nat.lt_irrefl 0)
  | succ n ih =>
    intro h
    have h : 0 < ch_T W i n + W i n := h
    by_cases e : 0 < W i n
    · exact ⟨n, by omega, e⟩
    · obtain ⟨j, h1, h2⟩ := ih (by omega)
      exact ⟨j, by omega, h2⟩
theorem ch_T_add (W : Nat → Nat → Nat) (i m : Nat) : ∀ n, m ≤ n → ch_T W i m ≤ ch_T W i n := by
  intro n
  induction n with
  | zero => intro h; have : m = 0 := by omega
            subst this; exact Nat.le_refl _
  | succ n ih =>
    intro h
    by_cases e : m = n + 1
    · subst e; exact Nat.le_refl _
    · have := ih (by omega)
      show ch_T W i m ≤ ch_T W i n + W i n
      omega
/-- ways: from i to j by E, never going on from a state of S -/
def ch_rc (E : Nat → Nat → Prop) (S : Nat → Prop) : Nat → Nat → Nat → Prop
  | 0, i, j => i = j
  | k + 1, i, j => ∃ m, ¬ S i ∧ E i m ∧ ch_rc E S k m j
def ch_R (E : Nat → Nat → Prop) (S : Nat → Prop) (i j : Nat) : Prop := ∃ k, ch_rc E S k i j
theorem ch_R_refl (E : Nat → Nat → Prop) (S : Nat → Prop) (i : Nat) : ch_R E S i i := ⟨0, rfl⟩
theorem ch_R_left {E : Nat → Nat → Prop} {S : Nat → Prop} {i m j : Nat} (h1 : ¬ S i) (h2 : E i m) (h3 : ch_R E S m j) : ch_R E S i j := by
  obtain ⟨k, h⟩ := h3
  exact ⟨k + 1, m, h1, h2, h⟩
theorem ch_R_ind {E : Nat → Nat → Prop} {S : Nat → Prop} {j : Nat} (P : Nat → Prop) (h0 : P j) (hs : ∀ i m, ¬ S i → E i m → ch_R E S m j → P m → P i) : ∀ i, ch_R E S i j → P i := by
  intro i h
  obtain ⟨k, h⟩ := h
  induction k generalizing i with
  | zero => have e : i = j := h; rw [e]; exact h0
  | succ k ih =>
    obtain ⟨m, h1, h2, h3⟩ := h
    exact hs i m h1 h2 ⟨k, h3⟩ (ih m h3)
theorem ch_R_trans {E : Nat → Nat → Prop} {S : Nat → Prop} {i m j : Nat} (h1 : ch_R E S i m) (h2 : ch_R E S m j) : ch_R E S i j :=
  ch_R_ind (fun x => ch_R E S x j) h2 (fun _ _ a b _ c => ch_R_left a b c) i h1
theorem ch_R_right {E : Nat → Nat → Prop} {S : Nat → Prop} {i m j : Nat} (h1 : ch_R E S i m) (h2 : ¬ S m) (h3 : E m j) : ch_R E S i j :=
  ch_R_trans h1 (ch_R_left h2 h3 (ch_R_refl E S j))
/-- what is closed forwards holds all that is come to -/
theorem ch_R_fwd {E : Nat → Nat → Prop} {S C : Nat → Prop} (hc : ∀ x y, C x → ¬ S x → E x y → C y) {i j : Nat} (hi : C i) (h : ch_R E S i j) : C j := by
  obtain ⟨k, h⟩ := h
  induction k generalizing i with
  | zero => have e : i = j := h; rw [← e]; exact hi
  | succ k ih =>
    obtain ⟨m, h1, h2, h3⟩ := h
    exact ih (hc i m hi h1 h2) h3
/-- what is closed backwards holds all that leads to it -/
theorem ch_R_bwd {E : Nat → Nat → Prop} {S C : Nat → Prop} (hc : ∀ x y, C y → ¬ S x → E x y → C x) {i j : Nat} (hj : C j) (h : ch_R E S i j) : C i :=
  ch_R_ind C hj (fun x m a b _ c => hc x m c a b) i h
/-- the first hit -/
theorem ch_R_hit {E : Nat → Nat → Prop} {S G : Nat → Prop} {i g : Nat} (hg : G g) (h : ch_R E S i g) : ∃ g', G g' ∧ ch_R E (fun x => S x ∨ G x) i g' := by
  refine ch_R_ind (fun x => ∃ g', G g' ∧ ch_R E (fun x => S x ∨ G x) x g') ⟨g, hg, ch_R_refl _ _ g⟩ ?_ i h
  intro x m h1 h2 _ h3
  by_cases hx : G x
  · exact ⟨x, hx, ch_R_refl _ _ x⟩
  · obtain ⟨g', h4, h5⟩ := h3
    exact ⟨g', h4, ch_R_left (fun z => z.elim h1 hx) h2 h5⟩
theorem ch_R_weak {E : Nat → Nat → Prop} {S S' : Nat → Prop} (hs : ∀ x, S' x → S x) {i j : Nat} (h : ch_R E S i j) : ch_R E S' i j :=
  ch_R_ind (fun x => ch_R E S' x j) (ch_R_refl _ _ j) (fun _ _ a b _ c => ch_R_left (fun z => a (hs _ z)) b c) i h
/-- how many states a set has -/
def ch_cd (x : Int32) : Nat → Nat
  | 0 => 0
  | n + 1 => ch_cd x n + (if bt x n = true then 1 else 0)
theorem ch_cd_le (x : Int32) : ∀ n, ch_cd x n ≤ n := by
  intro n
  induction n with
  | zero => exact Nat.le_refl 0
  | succ n ih => simp only [ch_cd]; split <;> omega
theorem ch_cd_mono {x y : Int32} : ∀ n, (∀ i, i < n → bt x i = true → bt y i = true) → ch_cd x n ≤ ch_cd y n := by
  intro n
  induction n with
  | zero => intro _; exact Nat.le_refl 0
  | succ n ih =>
    intro h
    have h1 := ih (fun i hi => h i (by omega))
    have h2 := h n (by omega)
    simp only [ch_cd]
    by_cases hx : bt x n = true
    · rw [if_pos hx, if_pos (h2 hx)]; omega
    · rw [if_neg hx]; split <;> omega
theorem ch_cd_lt {x y : Int32} : ∀ n, (∀ i, i < n → bt x i = true → bt y i = true) → (∃ i, i < n ∧ bt y i = true ∧ ¬ bt x i = true) → ch_cd x n < ch_cd y n := by
  intro n
  induction n with
  | zero => intro _ h; obtain ⟨i, hi, _⟩ := h; omega
  | succ n ih =>
    intro h he
    have h2 := h n (by omega)
    simp only [ch_cd]
    obtain ⟨i, h3, h4, h5⟩ := he
    by_cases e : i = n
    · subst e
      have h1 := ch_cd_mono i (fun i' hi => h i' (by omega))
      rw [if_neg h5, if_pos h4]; omega
    · have h1 := ih (fun i hi => h i (by omega)) ⟨i, by omega, h4, h5⟩
      by_cases hx : bt x n = true
      · rw [if_pos hx, if_pos (h2 hx)]; omega
      · rw [if_neg hx]; split <;> omega
theorem ch_cd_pos {x : Int32} : ∀ n, (∃ i, i < n ∧ bt x i = true) → 1 ≤ ch_cd x n := by
  intro n
  induction n with
  | zero => intro h; obtain ⟨i, hi, _⟩ := h; omega
  | succ n ih =>
    intro h
    obtain ⟨i, h3, h4⟩ := h
    simp only [ch_cd]
    by_cases e : i = n
    · subst e; rw [if_pos h4]; omega
    · have := ih ⟨i, by omega, h4⟩; omega
end
section
-- ===== PART A: goes FIRST, ahead of the names: the tables' words, and 'selects' of the private methods out of them =====
/-- a private method of a class that the tables say can be made, by its rows of tables_1 -/
def lw_okq (q : MethodName × Nat) : Prop := (q.1.cls ≠ "java/lang/invoke/MethodHandle" ∧ q.1.cls ≠ "java/lang/invoke/VarHandle") ∧ Cond.instantiable q.1.cls q.2 ∈ tables_1 ∧ Cond.privateMethod q.1 ∈ tables_1 ∧ Cond.instanceMethod q.1 ∈ tables_1
theorem lw_p0 : lw_okq (⟨"ChainSolves$Ways", "oneStepOn", "(I)I"⟩, 1) := ⟨⟨by decide +kernel, by decide +kernel⟩, List.mem_of_getElem? (i := 52) (by decide +kernel), List.mem_of_getElem? (i := 243) (by decide +kernel), List.mem_of_getElem? (i := 244) (by decide +kernel)⟩
theorem lw_p1 : lw_okq (⟨"ChainSolves$Likeness", "leastMate", "(I)I"⟩, 3) := ⟨⟨by decide +kernel, by decide +kernel⟩, List.mem_of_getElem? (i := 62) (by decide +kernel), List.mem_of_getElem? (i := 256) (by decide +kernel), List.mem_of_getElem? (i := 257) (by decide +kernel)⟩
theorem lw_p2 : lw_okq (⟨"ChainSolves$Likeness", "looksLike", "(II)Z"⟩, 3) := ⟨⟨by decide +kernel, by decide +kernel⟩, List.mem_of_getElem? (i := 62) (by decide +kernel), List.mem_of_getElem? (i := 260) (by decide +kernel), List.mem_of_getElem? (i := 261) (by decide +kernel)⟩
theorem lw_p3 : lw_okq (⟨"ChainSolves$Likeness", "membersOf", "(I)I"⟩, 3) := ⟨⟨by decide +kernel, by decide +kernel⟩, List.mem_of_getElem? (i := 62) (by decide +kernel), List.mem_of_getElem? (i := 265) (by decide +kernel), List.mem_of_getElem? (i := 266) (by decide +kernel)⟩
theorem lw_p4 : lw_okq (⟨"ChainSolves", "answerOddsToMeet", "(III)V"⟩, 7) := ⟨⟨by decide +kernel, by decide +kernel⟩, List.mem_of_getElem? (i := 12) (by decide +kernel), List.mem_of_getElem? (i := 282) (by decide +kernel), List.mem_of_getElem? (i := 283) (by decide +kernel)⟩
theorem lw_p5 : lw_okq (⟨"ChainSolves$FirstSteps", "writeRow", "(I)V"⟩, 5) := ⟨⟨by decide +kernel, by decide +kernel⟩, List.mem_of_getElem? (i := 79) (by decide +kernel), List.mem_of_getElem? (i := 298) (by decide +kernel), List.mem_of_getElem? (i := 299) (by decide +kernel)⟩
theorem lw_p6 : lw_okq (⟨"ChainSolves$FirstSteps", "eliminate", "()V"⟩, 5) := ⟨⟨by decide +kernel, by decide +kernel⟩, List.mem_of_getElem? (i := 79) (by decide +kernel), List.mem_of_getElem? (i := 304) (by decide +kernel), List.mem_of_getElem? (i := 305) (by decide +kernel)⟩
theorem lw_p7 : lw_okq (⟨"ChainSolves$FirstSteps", "reduceRow", "(IIJ)V"⟩, 5) := ⟨⟨by decide +kernel, by decide +kernel⟩, List.mem_of_getElem? (i := 79) (by decide +kernel), List.mem_of_getElem? (i := 308) (by decide +kernel), List.mem_of_getElem? (i := 309) (by decide +kernel)⟩
theorem lw_p8 : lw_okq (⟨"ChainSolvesModel", "isState", "(I)Z"⟩, 12) := ⟨⟨by decide +kernel, by decide +kernel⟩, List.mem_of_getElem? (i := 409) (by decide +kernel), List.mem_of_getElem? (i := 464) (by decide +kernel), List.mem_of_getElem? (i := 465) (by decide +kernel)⟩
theorem lw_p9 : lw_okq (⟨"ChainSolvesModel", "w", "(II)I"⟩, 12) := ⟨⟨by decide +kernel, by decide +kernel⟩, List.mem_of_getElem? (i := 409) (by decide +kernel), List.mem_of_getElem? (i := 471) (by decide +kernel), List.mem_of_getElem? (i := 472) (by decide +kernel)⟩
theorem lw_p10 : lw_okq (⟨"ChainSolvesModel", "total", "(I)I"⟩, 12) := ⟨⟨by decide +kernel, by decide +kernel⟩, List.mem_of_getElem? (i := 409) (by decide +kernel), List.mem_of_getElem? (i := 475) (by decide +kernel), List.mem_of_getElem? (i := 476) (by decide +kernel)⟩
theorem lw_p11 : lw_okq (⟨"ChainSolvesModel", "partOf", "(I)I"⟩, 12) := ⟨⟨by decide +kernel, by decide +kernel⟩, List.mem_of_getElem? (i := 409) (by decide +kernel), List.mem_of_getElem? (i := 487) (by decide +kernel), List.mem_of_getElem? (i := 488) (by decide +kernel)⟩
theorem lw_p12 : lw_okq (⟨"ChainSolvesModel", "reach", "(II)I"⟩, 12) := ⟨⟨by decide +kernel, by decide +kernel⟩, List.mem_of_getElem? (i := 409) (by decide +kernel), List.mem_of_getElem? (i := 491) (by decide +kernel), List.mem_of_getElem? (i := 492) (by decide +kernel)⟩
theorem lw_p13 : lw_okq (⟨"ChainSolvesModel", "whence", "(II)I"⟩, 12) := ⟨⟨by decide +kernel, by decide +kernel⟩, List.mem_of_getElem? (i := 409) (by decide +kernel), List.mem_of_getElem? (i := 498) (by decide +kernel), List.mem_of_getElem? (i := 499) (by decide +kernel)⟩
theorem lw_p14 : lw_okq (⟨"ChainSolvesModel", "isClosed", "(I)Z"⟩, 12) := ⟨⟨by decide +kernel, by decide +kernel⟩, List.mem_of_getElem? (i := 409) (by decide +kernel), List.mem_of_getElem? (i := 509) (by decide +kernel), List.mem_of_getElem? (i := 510) (by decide +kernel)⟩
theorem lw_p15 : lw_okq (⟨"ChainSolvesModel", "isEnd", "(I)Z"⟩, 12) := ⟨⟨by decide +kernel, by decide +kernel⟩, List.mem_of_getElem? (i := 409) (by decide +kernel), List.mem_of_getElem? (i := 517) (by decide +kernel), List.mem_of_getElem? (i := 518) (by decide +kernel)⟩
def lw_privs_1 : List (MethodName × Nat) := [(⟨"ChainSolves$Ways", "oneStepOn", "(I)I"⟩, 1), (⟨"ChainSolves$Likeness", "leastMate", "(I)I"⟩, 3), (⟨"ChainSolves$Likeness", "looksLike", "(II)Z"⟩, 3), (⟨"ChainSolves$Likeness", "membersOf", "(I)I"⟩, 3), (⟨"ChainSolves", "answerOddsToMeet", "(III)V"⟩, 7), (⟨"ChainSolves$FirstSteps", "writeRow", "(I)V"⟩, 5), (⟨"ChainSolves$FirstSteps", "eliminate", "()V"⟩, 5), (⟨"ChainSolves$FirstSteps", "reduceRow", "(IIJ)V"⟩, 5), (⟨"ChainSolvesModel", "isState", "(I)Z"⟩, 12), (⟨"ChainSolvesModel", "w", "(II)I"⟩, 12), (⟨"ChainSolvesModel", "total", "(I)I"⟩, 12), (⟨"ChainSolvesModel", "partOf", "(I)I"⟩, 12), (⟨"ChainSolvesModel", "reach", "(II)I"⟩, 12), (⟨"ChainSolvesModel", "whence", "(II)I"⟩, 12), (⟨"ChainSolvesModel", "isClosed", "(I)Z"⟩, 12), (⟨"ChainSolvesModel", "isEnd", "(I)Z"⟩, 12)]
theorem lw_r1 : ∀ q ∈ lw_privs_1, lw_okq q := List.forall_mem_cons.mpr ⟨lw_p0, List.forall_mem_cons.mpr ⟨lw_p1, List.forall_mem_cons.mpr ⟨lw_p2, List.forall_mem_cons.mpr ⟨lw_p3, List.forall_mem_cons.mpr ⟨lw_p4, List.forall_mem_cons.mpr ⟨lw_p5, List.forall_mem_cons.mpr ⟨lw_p6, List.forall_mem_cons.mpr ⟨lw_p7, List.forall_mem_cons.mpr ⟨lw_p8, List.forall_mem_cons.mpr ⟨lw_p9, List.forall_mem_cons.mpr ⟨lw_p10, List.forall_mem_cons.mpr ⟨lw_p11, List.forall_mem_cons.mpr ⟨lw_p12, List.forall_mem_cons.mpr ⟨lw_p13, List.forall_mem_cons.mpr ⟨lw_p14, List.forall_mem_cons.mpr ⟨lw_p15, fun _ h => absurd h List.not_mem_nil⟩⟩⟩⟩⟩⟩⟩⟩⟩⟩⟩⟩⟩⟩⟩⟩
theorem lw_p16 : lw_okq (⟨"ChainSolvesModel", "layOdds", "(II)V"⟩, 12) := ⟨⟨by decide +kernel, by decide +kernel⟩, List.mem_of_getElem? (i := 409) (by decide +kernel), List.mem_of_getElem? (i := 525) (by decide +kernel), List.mem_of_getElem? (i := 526) (by decide +kernel)⟩
theorem lw_p17 : lw_okq (⟨"ChainSolvesModel", "fix", "(IJ)V"⟩, 12) := ⟨⟨by decide +kernel, by decide +kernel⟩, List.mem_of_getElem? (i := 409) (by decide +kernel), List.mem_of_getElem? (i := 529) (by decide +kernel), List.mem_of_getElem? (i := 530) (by decide +kernel)⟩
theorem lw_p18 : lw_okq (⟨"ChainSolvesModel", "lay", "(IJ)V"⟩, 12) := ⟨⟨by decide +kernel, by decide +kernel⟩, List.mem_of_getElem? (i := 409) (by decide +kernel), List.mem_of_getElem? (i := 533) (by decide +kernel), List.mem_of_getElem? (i := 534) (by decide +kernel)⟩
theorem lw_p19 : lw_okq (⟨"ChainSolvesModel", "solved", "(I)I"⟩, 12) := ⟨⟨by decide +kernel, by decide +kernel⟩, List.mem_of_getElem? (i := 409) (by decide +kernel), List.mem_of_getElem? (i := 537) (by decide +kernel), List.mem_of_getElem? (i := 538) (by decide +kernel)⟩
theorem lw_p20 : lw_okq (⟨"ChainSolvesModel", "all", "(I)J"⟩, 12) := ⟨⟨by decide +kernel, by decide +kernel⟩, List.mem_of_getElem? (i := 409) (by decide +kernel), List.mem_of_getElem? (i := 541) (by decide +kernel), List.mem_of_getElem? (i := 542) (by decide +kernel)⟩
theorem lw_p21 : lw_okq (⟨"ChainSolvesModel", "answer", "(JJ)I"⟩, 12) := ⟨⟨by decide +kernel, by decide +kernel⟩, List.mem_of_getElem? (i := 409) (by decide +kernel), List.mem_of_getElem? (i := 548) (by decide +kernel), List.mem_of_getElem? (i := 549) (by decide +kernel)⟩
theorem lw_p22 : lw_okq (⟨"ChainSolvesModel", "isSure", "(II)Z"⟩, 12) := ⟨⟨by decide +kernel, by decide +kernel⟩, List.mem_of_getElem? (i := 409) (by decide +kernel), List.mem_of_getElem? (i := 564) (by decide +kernel), List.mem_of_getElem? (i := 565) (by decide +kernel)⟩
theorem lw_p23 : lw_okq (⟨"ChainSolvesModel", "ends", "()I"⟩, 12) := ⟨⟨by decide +kernel, by decide +kernel⟩, List.mem_of_getElem? (i := 409) (by decide +kernel), List.mem_of_getElem? (i := 585) (by decide +kernel), List.mem_of_getElem? (i := 586) (by decide +kernel)⟩
theorem lw_p24 : lw_okq (⟨"ChainSolvesModel", "layGroups", "()V"⟩, 12) := ⟨⟨by decide +kernel, by decide +kernel⟩, List.mem_of_getElem? (i := 409) (by decide +kernel), List.mem_of_getElem? (i := 593) (by decide +kernel), List.mem_of_getElem? (i := 594) (by decide +kernel)⟩
theorem lw_p25 : lw_okq (⟨"ChainSolvesModel", "isParting", "(I)Z"⟩, 12) := ⟨⟨by decide +kernel, by decide +kernel⟩, List.mem_of_getElem? (i := 409) (by decide +kernel), List.mem_of_getElem? (i := 597) (by decide +kernel), List.mem_of_getElem? (i := 598) (by decide +kernel)⟩
theorem lw_p26 : lw_okq (⟨"ChainSolvesModel", "fits", "(III)Z"⟩, 12) := ⟨⟨by decide +kernel, by decide +kernel⟩, List.mem_of_getElem? (i := 409) (by decide +kernel), List.mem_of_getElem? (i := 601) (by decide +kernel), List.mem_of_getElem? (i := 602) (by decide +kernel)⟩
theorem lw_p27 : lw_okq (⟨"ChainSolvesModel", "weightTo", "(II)I"⟩, 12) := ⟨⟨by decide +kernel, by decide +kernel⟩, List.mem_of_getElem? (i := 409) (by decide +kernel), List.mem_of_getElem? (i := 605) (by decide +kernel), List.mem_of_getElem? (i := 606) (by decide +kernel)⟩
theorem lw_p28 : lw_okq (⟨"ChainSolvesModel", "next", "()Z"⟩, 12) := ⟨⟨by decide +kernel, by decide +kernel⟩, List.mem_of_getElem? (i := 409) (by decide +kernel), List.mem_of_getElem? (i := 609) (by decide +kernel), List.mem_of_getElem? (i := 610) (by decide +kernel)⟩
def lw_privs_2 : List (MethodName × Nat) := [(⟨"ChainSolvesModel", "layOdds", "(II)V"⟩, 12), (⟨"ChainSolvesModel", "fix", "(IJ)V"⟩, 12), (⟨"ChainSolvesModel", "lay", "(IJ)V"⟩, 12), (⟨"ChainSolvesModel", "solved", "(I)I"⟩, 12), (⟨"ChainSolvesModel", "all", "(I)J"⟩, 12), (⟨"ChainSolvesModel", "answer", "(JJ)I"⟩, 12), (⟨"ChainSolvesModel", "isSure", "(II)Z"⟩, 12), (⟨"ChainSolvesModel", "ends", "()I"⟩, 12), (⟨"ChainSolvesModel", "layGroups", "()V"⟩, 12), (⟨"ChainSolvesModel", "isParting", "(I)Z"⟩, 12), (⟨"ChainSolvesModel", "fits", "(III)Z"⟩, 12), (⟨"ChainSolvesModel", "weightTo", "(II)I"⟩, 12), (⟨"ChainSolvesModel", "next", "()Z"⟩, 12)]
theorem lw_r2 : ∀ q ∈ lw_privs_2, lw_okq q := List.forall_mem_cons.mpr ⟨lw_p16, List.forall_mem_cons.mpr ⟨lw_p17, List.forall_mem_cons.mpr ⟨lw_p18, List.forall_mem_cons.mpr ⟨lw_p19, List.forall_mem_cons.mpr ⟨lw_p20, List.forall_mem_cons.mpr ⟨lw_p21, List.forall_mem_cons.mpr ⟨lw_p22, List.forall_mem_cons.mpr ⟨lw_p23, List.forall_mem_cons.mpr ⟨lw_p24, List.forall_mem_cons.mpr ⟨lw_p25, List.forall_mem_cons.mpr ⟨lw_p26, List.forall_mem_cons.mpr ⟨lw_p27, List.forall_mem_cons.mpr ⟨lw_p28, fun _ h => absurd h List.not_mem_nil⟩⟩⟩⟩⟩⟩⟩⟩⟩⟩⟩⟩⟩
def lw_privs : List (MethodName × Nat) := lw_privs_1 ++ (lw_privs_2)
def lw_tbl : List Cond := k2_sels lw_privs ++ tables_1
theorem lw_privs_ok : ∀ q ∈ lw_privs, lw_okq q := by
  show ∀ q ∈ lw_privs_1 ++ (lw_privs_2), lw_okq q
  exact List.forall_mem_append.mpr ⟨lw_r1, lw_r2⟩
end
section
def va_AOA (t : FieldType) (U : State) : Prop := (Cond.arrayOver (.array t)).before #[] U = true
theorem va_AOA.of {t : FieldType} {A : Array Value} {U : State} (h : (Cond.arrayOver (.array t)).before A U = true) : va_AOA t U := h
theorem va_AOA.use {t : FieldType} {A : Array Value} {U : State} (h : va_AOA t U) : (Cond.arrayOver (.array t)).before A U = true := h
theorem va_AOA.moved {t : FieldType} {u U : State} (hvm : u.vm.Alike U.vm) (h : va_AOA t u) : va_AOA t U := over_moved hvm h
/-! ===== BEGIN words of one list among another's, by their places ===== -/
theorem goodIn_r {big : List Cond} (ws : List Cond) (ps : List Nat) (hp : ws = ps.filterMap (fun i => big[i]?)) (h : ws.all goodWord = true) : GoodIn big ws := by
  intro w hw
  have h1 := List.all_eq_true.mp h w hw
  rw [hp] at hw
  obtain ⟨i, -, hi⟩ := List.mem_filterMap.mp hw
  have hm : w ∈ big := by first | exact List.mem_of_getElem? hi | exact List.getElem?_mem hi
  exact ⟨hm, good_of_word h1⟩
theorem goodIn_app {big a b : List Cond} (ha : GoodIn big a) (hb : GoodIn big b) : GoodIn big (a ++ b) := fun w h => (List.mem_append.mp h).elim (ha w) (hb w)
theorem goodIn_ca {big a b : List Cond} {c : Cond} (ha : GoodIn big (c :: a)) (hb : GoodIn big b) : GoodIn big (c :: (a ++ b)) := fun w h => (List.mem_cons.mp h).elim (fun e => ha w (List.mem_cons.mpr (Or.inl e))) (fun h => (List.mem_append.mp h).elim (fun h => ha w (List.mem_cons.mpr (Or.inr h))) (hb w))
theorem goodIn_sub {big ws : List Cond} (hm : ∀ w ∈ ws, w ∈ big) (h : ws.all goodWord = true) : GoodIn big ws := fun w hw => ⟨hm w hw, good_of_word (List.all_eq_true.mp h w hw)⟩
/-! ===== END ===== -/

/-! ===== BEGIN new T[n][m]: the outer array a place, the inner ones among the pooled ===== -/
/-- f, but v at every address of l -/
def vr_up {α : Type} (f : Nat → α) (l : List Nat) (v : α) : Nat → α := fun a => if a ∈ l then v else f a
theorem vr_up_in {α : Type} {f : Nat → α} {l : List Nat} {v : α} {a : Nat} (h : a ∈ l) : vr_up f l v a = v := if_pos h
theorem vr_up_ne {α : Type} {f : Nat → α} {l : List Nat} {v : α} {a : Nat} (h : a ∉ l) : vr_up f l v a = f a := if_neg h
theorem vr_rows {L l : List Nat} {f : Nat → va_E} {e : va_E} (h : ∀ a, a ∈ l → a ∉ L) : va_pl L f ++ l.map (fun a => (a, e)) = va_pl (L ++ l) (vr_up f l e) := by
  unfold va_pl
  rw [List.map_append]
  congr 1
  · apply List.map_congr_left
    intro a ha
    rw [vr_up_ne (fun q => h a q ha)]
  · apply List.map_congr_left
    intro a ha
    rw [vr_up_in ha]
theorem vr_lay {X rows : va_W} {x : Nat × va_E} {pl : va_W} {D : va_G} {cl : List vw_C} {H : Heap} (hP : va_P D cl (((X ++ pl) ++ [x]) ++ rows) H) : va_P D cl ((X ++ [x]) ++ (pl ++ rows)) H := by
  rw [List.append_assoc (X ++ pl)] at hP
  have h := va_P.swap hP
  rw [← List.append_assoc X] at h
  have h2 := va_P.swap h
  rw [List.append_assoc (X ++ [x])] at h2
  exact h2
theorem vr_layD {X rows : va_W} {x : Nat × va_E} {pl : va_W} {A : Nat → Prop} (hD : va_D A (((X ++ pl) ++ [x]) ++ rows)) : va_D A ((X ++ [x]) ++ (pl ++ rows)) := by
  rw [List.append_assoc (X ++ pl)] at hD
  have h := va_D.swap hD
  rw [← List.append_assoc X] at h
  have h2 := va_D.swap h
  rw [List.append_assoc (X ++ [x])] at h2
  exact h2
theorem vr_outer (c : ClassId) (N h0 : Nat) : ∀ i : Nat, Jvm.Free.Multi.outerC c N h0 i = arrV c N (fun j => va_rf (if j < i then some (h0 + 1 + j) else none))
  | 0 => by
    show ({ cls := c, slots := Array.replicate N .null, vm := .none } : Cell) = _
    rw [arrV_new]
    refine congrArg (arrV c N) (funext fun j => ?_)
    simp [va_rf]
  | i + 1 => by
    show (Jvm.Free.Multi.outerC c N h0 i).setSlot i (.ref (h0 + 1 + i)) = _
    rw [vr_outer c N h0 i, arrV_store]
    refine congrArg (arrV c N) (funext fun j => ?_)
    by_cases e : j = i
    · subst e
      simp [updV, va_rf]
    · by_cases h : j < i
      · simp [updV, e, h, Nat.lt_succ_of_lt h]
      · simp [updV, e, h, show ¬ j < i + 1 by omega]
section VGM
variable {p : Program} {l : Launch} {e : Env} {R : Room} {s : State} {m : MethodId} {args : Array Value} {below : List Frame} {meth : Method} {c : Code} {H : Heap} {locs : List Loc} {cells slots : Nat} {Q : State → Prop}
variable {cc : ByteArray} {pc : Nat} {ls : Array Slot} {rest : List Value} {D : va_G} {cl : List vw_C} {A : Nat → Prop} {a : Nat} {tys : List (ClassId × FieldType)} {ws : va_W} {H0 : Heap}
theorem va_mna {X : va_W} {L : List Nat} {f : Nat → va_E} {cc : ByteArray} (hexec : p.tables.exec = Jvm.exec) (hb : c.code = cc) {own : String} {index : Nat} {ty : FieldType} {cy : ClassId} (hown : s.vm.findClass own = some m.cls) (hclink : (Cond.classLink own index ("[" ++ (FieldType.array ty).toString)).before args s = true) (hover : va_AOA ty s) (harr : (Cond.arrayClass ty).before args s = true) (hcy : s.vm.findClass (FieldType.array ty).toString = some cy)
    (hK : va_K D cl tys s) (hP : va_P D cl (X ++ va_pl L f) H) (hD : va_D A (X ++ va_pl L f)) (hS : va_S A H0 H locs) (hA : ∀ q, H0.size ≤ q → A q) {n k : Int32} {N' K' : Nat} {z : vp_A} (hn : ¬ n < 0) (hk : ¬ k < 0) (hN : n.toNatClampNeg = N') (hM : k.toNatClampNeg = K')
    (hb1 : N' * 4 ≤ 536870912) (hb2 : K' * componentBytes ty ≤ 536870912) (hb3 : K' ≤ 536870912) (hdf : fits ty (defaultValue ty) = true) (hdd : (defaultValue ty).isDefault = true) (hcells : cells + (1 + N') ≤ R.cells) (hslots : slots + (N' + N' * K') ≤ R.slots) (hz : ∀ c : ClassId, Jvm.Free.Multi.innerC c K' (defaultValue ty) = vp_cell c z) (hdg : decode cc pc = .ok (.multianewarray index 2, 4))
    (kk : ∀ (q : Nat) (r : Nat → Nat) (cA : ClassId) (H1 : Heap), (∀ i j : Nat, i < N' → j < N' → r i = r j → i = j) → (∀ i : Nat, i < N' → r i ∉ L) → va_K D cl (tys ++ [(cA, .array ty)]) s →
      va_P D cl ((X ++ [(q, .inl (cA, N', .inr (.inr (.inr (.inr (fun i => if i < N' then some (r i) else none))))))]) ++ va_pl (L ++ (List.range N').map r) (vr_up f ((List.range N').map r) (.inl (cy, z)))) H1 → va_D A ((X ++ [(q, .inl (cA, N', .inr (.inr (.inr (.inr (fun i => if i < N' then some (r i) else none))))))]) ++ va_pl (L ++ (List.range N').map r) (vr_up f ((List.range N').map r) (.inl (cy, z)))) → va_S A H0 H1 locs →
      W p l e R s m args below meth c H1 locs (cells + 1 + N') (slots + N' + N' * K') Q (F0 m (pc + 4) ls (.ref q :: rest))) : W p l e R s m args below meth c H locs cells slots Q (F0 m pc ls (.int k :: .int n :: rest)) := by
  subst hN
  subst hM
  intro T hT Xs
  obtain ⟨vm₁, cA, comp, -, fA, fC, hO, -, X', step⟩ := Xs.multianewarray2F hexec hown hclink (va_AOA.use hover) harr (g := F0 m pc ls (.int k :: .int n :: rest)) rfl (by rw [hb]; exact hdg) rfl hn hk hb1 hb2 hb3 hdf hdd hcells hslots
  have ec : some cy = some comp := hcy.symm.trans fC
  cases ec
  generalize hF : Jvm.Free.Multi.fill (T.setVm vm₁) cA cy n.toNatClampNeg k.toNatClampNeg (defaultValue ty) n.toNatClampNeg = F at X' step
  have hTh : (T.setVm vm₁).heap = H := hT
  obtain ⟨f1, f2, -, -⟩ := Jvm.Free.Multi.fill_facts (T.setVm vm₁) cA cy n.toNatClampNeg k.toNatClampNeg (defaultValue ty) n.toNatClampNeg
  rw [hF, hTh] at f1 f2
  have hold : ∀ x : Nat, x < H.size → F.heap[x]? = H[x]? := fun x hx => by
    have := Jvm.Free.Multi.fill_old (T.setVm vm₁) cA cy n.toNatClampNeg k.toNatClampNeg (defaultValue ty) (a := x) (by rw [hTh]; exact hx) n.toNatClampNeg
    rw [hF, hTh] at this
    exact this
  have hrow : ∀ j : Nat, j < n.toNatClampNeg → F.heap[H.size + 1 + j]? = some (vp_cell cy z) := fun j hj => by
    have := Jvm.Free.Multi.fill_inner (T.setVm vm₁) cA cy n.toNatClampNeg k.toNatClampNeg (defaultValue ty) n.toNatClampNeg j hj
    rw [hF, hTh, hz] at this
    exact this
  have hout : Jvm.Free.Multi.outerC cA n.toNatClampNeg H.size n.toNatClampNeg = vp_cell cA (n.toNatClampNeg, .inr (.inr (.inr (.inr (fun i => if i < n.toNatClampNeg then some (H.size + 1 + i) else none))))) := by
    rw [vp_cell_q]
    exact vr_outer cA n.toNatClampNeg H.size n.toNatClampNeg
  rw [hout] at f2
  have hlt : ∀ a, a ∈ L → a < H.size := fun a ha => by
    obtain ⟨k9, hk9⟩ := va_pl_get (X := X) (f := f) ha
    exact (hP k9 _ hk9).lt
  have hnl : ∀ i : Nat, i < n.toNatClampNeg → H.size + 1 + i ∉ L := fun i _ h => by
    have := hlt _ h
    omega
  have hnm : ∀ a, a ∈ (List.range n.toNatClampNeg).map (fun i => H.size + 1 + i) → a ∉ L := fun a ha h => by
    obtain ⟨i, -, rfl⟩ := List.mem_map.mp ha
    have := hlt _ h
    omega
  have hP0 : va_P D cl (X ++ va_pl L f) F.heap := hP.kept (fun k9 x hx => hold x.1 ((hP k9 x hx).lt))
  have hP1 : va_P D cl ((X ++ va_pl L f) ++ [(H.size, .inl (cA, n.toNatClampNeg, .inr (.inr (.inr (.inr (fun i => if i < n.toNatClampNeg then some (H.size + 1 + i) else none))))))]) F.heap := hP0.app (fun k9 x hx => by
    have h0 : k9 < 1 := (List.getElem?_eq_some_iff.mp hx).1
    rw [show k9 = 0 by omega] at hx
    cases hx
    exact f2)
  have hP2 : va_P D cl (((X ++ va_pl L f) ++ [(H.size, .inl (cA, n.toNatClampNeg, .inr (.inr (.inr (.inr (fun i => if i < n.toNatClampNeg then some (H.size + 1 + i) else none))))))]) ++ ((List.range n.toNatClampNeg).map (fun i => H.size + 1 + i)).map (fun a => (a, .inl (cy, z)))) F.heap := hP1.app (fun k9 x hx => by
    obtain ⟨a, ha, rfl⟩ := List.mem_map.mp (List.mem_of_getElem? hx)
    obtain ⟨i, hi, rfl⟩ := List.mem_map.mp ha
    exact hrow i (List.mem_range.mp hi))
  have hD2 : va_D A (((X ++ va_pl L f) ++ [(H.size, .inl (cA, n.toNatClampNeg, .inr (.inr (.inr (.inr (fun i => if i < n.toNatClampNeg then some (H.size + 1 + i) else none))))))]) ++ ((List.range n.toNatClampNeg).map (fun i => H.size + 1 + i)).map (fun a => (a, .inl (cy, z)))) := by
    have hD1 := hD.push (e := .inl (cA, n.toNatClampNeg, .inr (.inr (.inr (.inr (fun i => if i < n.toNatClampNeg then some (H.size + 1 + i) else none)))))) hP rfl (hA _ hS.1)
    generalize hW1 : (X ++ va_pl L f) ++ [(H.size, .inl (cA, n.toNatClampNeg, .inr (.inr (.inr (.inr (fun i => if i < n.toNatClampNeg then some (H.size + 1 + i) else none))))))] = W1 at hD1 hP1 ⊢
    have hle : ∀ (k9 : Nat) (x : Nat × va_E), W1[k9]? = some x → x.1 ≤ H.size := fun k9 x hx => by
      rw [← hW1] at hx
      by_cases hl : k9 < (X ++ va_pl L f).length
      · rw [List.getElem?_append_left hl] at hx
        exact Nat.le_of_lt ((hP k9 x hx).lt)
      · rw [List.getElem?_append_right (by omega)] at hx
        have h0 : k9 - (X ++ va_pl L f).length < 1 := (List.getElem?_eq_some_iff.mp hx).1
        rw [show k9 - (X ++ va_pl L f).length = 0 by omega] at hx
        cases hx
        exact Nat.le_refl _
    have hr : ∀ (k9 : Nat) (x : Nat × va_E), (((List.range n.toNatClampNeg).map (fun i => H.size + 1 + i)).map (fun a => ((a, .inl (cy, z)) : Nat × va_E)))[k9]? = some x → x.1 = H.size + 1 + k9 := fun k9 x hx => by
      rw [List.getElem?_map, List.getElem?_map] at hx
      by_cases h9 : k9 < n.toNatClampNeg
      · rw [List.getElem?_range h9] at hx
        cases hx
        rfl
      · have hn0 : (List.range n.toNatClampNeg)[k9]? = none := List.getElem?_eq_none (by rw [List.length_range]; omega)
        rw [hn0] at hx
        cases hx
    refine ⟨fun i j x y hi hj hxy => ?_, fun k9 x hx => ?_⟩
    · by_cases h1 : i < W1.length <;> by_cases h2 : j < W1.length
      · rw [List.getElem?_append_left h1] at hi
        rw [List.getElem?_append_left h2] at hj
        exact hD1.1 i j x y hi hj hxy
      · rw [List.getElem?_append_left h1] at hi
        rw [List.getElem?_append_right (by omega)] at hj
        have := hle _ _ hi
        have := hr _ _ hj
        omega
      · rw [List.getElem?_append_right (by omega)] at hi
        rw [List.getElem?_append_left h2] at hj
        have := hle _ _ hj
        have := hr _ _ hi
        omega
      · rw [List.getElem?_append_right (by omega)] at hi hj
        have := hr _ _ hi
        have := hr _ _ hj
        omega
    · by_cases h1 : k9 < W1.length
      · rw [List.getElem?_append_left h1] at hx
        exact hD1.2 k9 x hx
      · rw [List.getElem?_append_right (by omega)] at hx
        have := hr _ _ hx
        exact hA _ (by have := hS.1; omega)
  have hAr : ArrOfT s cA (.array ty) := fun N9 z9 => by
    obtain ⟨-, k9, hk9, cm9, hkk9⟩ := (hO 0 0 0).1
    exact ⟨(fun q hq => by cases hq), k9, hk9, cm9, hkk9⟩
  have hK2 : va_K D cl (tys ++ [(cA, .array ty)]) s := ⟨hK.1, fun k9 x hx => by
    by_cases hl : k9 < tys.length
    · rw [List.getElem?_append_left hl] at hx
      exact hK.2 k9 x hx
    · rw [List.getElem?_append_right (by omega)] at hx
      have h0 : k9 - tys.length < 1 := (List.getElem?_eq_some_iff.mp hx).1
      rw [show k9 - tys.length = 0 by omega] at hx
      cases hx
      exact ⟨hAr, fA⟩⟩
  obtain ⟨t, a1, b1⟩ := kk H.size (fun i => H.size + 1 + i) cA F.heap (fun i j _ _ h => by have h9 : H.size + 1 + i = H.size + 1 + j := h; omega) hnl hK2 (by rw [← vr_rows hnm]; exact vr_lay hP2) (by rw [← vr_rows hnm]; exact vr_layD hD2) ⟨by rw [f1]; have := hS.1; omega, fun x h1 h2 => (hold x (Nat.lt_of_lt_of_le h1 hS.1)).trans (hS.2.1 x h1 h2), hS.2.2⟩ F rfl X'
  refine ⟨t, step t ?_, b1⟩
  have e : T.heap.size = H.size := by rw [hT]
  rw [e]
  exact a1
end VGM
/-! ===== END ===== -/
end
section
/-! BASE: words of the decompiled functions (Option: none = an index out of range, a division by 0, a loop out of fuel), and calls by contracts of two kinds: 'ro' (the heap is the same) and 'rw' (a picture in, a picture out) -/
def ix (i : Int32) (n : Nat) : Bool := !(decide (i < 0)) && decide (i.toNatClampNeg < n)
theorem ix_in {i : Int32} {n : Nat} (h : ix i n = true) : vp_in i n := by
  simp only [ix, Bool.and_eq_true, Bool.not_eq_true', decide_eq_false_iff_not, decide_eq_true_eq] at h
  intro q
  rcases q with q | q
  · exact h.1 q
  · omega
theorem ix_lt {i : Int32} {n : Nat} (h : ix i n = true) : i.toNatClampNeg < n := by
  simp only [ix, Bool.and_eq_true, decide_eq_true_eq] at h
  exact h.2
theorem ix_nI {k n : Nat} (h : k < n) (hn : n < 2 ^ 31) : ix (nI k) n = true := by
  have h1 := nI_pos (n := k) (by omega)
  have h2 := nI_clamp (n := k) (by omega)
  simp [ix, h1, h2, h]
theorem ob {α β : Type} {x : Option α} {g : α → Option β} {r : β} (h : some r = Option.bind x g) : ∃ y, x = some y ∧ some r = g y := by
  cases x with
  | none => cases h
  | some y => exact ⟨y, rfl, h⟩
theorem og {c : Prop} [Decidable c] {β : Type} {r : β} {X : Option β} (h : some r = if c then X else none) : c ∧ some r = X := by
  by_cases hc : c
  · rw [if_pos hc] at h; exact ⟨hc, h⟩
  · rw [if_neg hc] at h; cases h
theorem it_p {c : Prop} [Decidable c] {α : Type} {x a b : α} (h : c) (e : x = if c then a else b) : x = a := by rw [e, if_pos h]
theorem it_n {c : Prop} [Decidable c] {α : Type} {x a b : α} (h : ¬ c) (e : x = if c then a else b) : x = b := by rw [e, if_neg h]
theorem tb_out {x : Int32} (lo hi : Int) (h : ∀ k : Int, lo ≤ k → k ≤ hi → x.toInt ≠ k) : x.toInt < lo ∨ hi < x.toInt := by
  rcases Int.lt_or_le x.toInt lo with h1 | h1
  · exact Or.inl h1
  · rcases Int.lt_or_le hi x.toInt with h2 | h2
    · exact Or.inr h2
    · exact absurd rfl (h _ h1 h2)

def f_bitCount (p1 : Int32) : Option (Int32) := some (((((((((p1 - (((p1.toUInt32 >>> ((1 : Int32).toUInt32 &&& Int32.toUInt32 31)).toInt32) &&& (1431655765 : Int32))) &&& (858993459 : Int32)) + ((((p1 - (((p1.toUInt32 >>> ((1 : Int32).toUInt32 &&& Int32.toUInt32 31)).toInt32) &&& (1431655765 : Int32))).toUInt32 >>> ((2 : Int32).toUInt32 &&& Int32.toUInt32 31)).toInt32) &&& (858993459 : Int32))) + (((((p1 - (((p1.toUInt32 >>> ((1 : Int32).toUInt32 &&& Int32.toUInt32 31)).toInt32) &&& (1431655765 : Int32))) &&& (858993459 : Int32)) + ((((p1 - (((p1.toUInt32 >>> ((1 : Int32).toUInt32 &&& Int32.toUInt32 31)).toInt32) &&& (1431655765 : Int32))).toUInt32 >>> ((2 : Int32).toUInt32 &&& Int32.toUInt32 31)).toInt32) &&& (858993459 : Int32))).toUInt32 >>> ((4 : Int32).toUInt32 &&& Int32.toUInt32 31)).toInt32)) &&& (252645135 : Int32)) + (((((((p1 - (((p1.toUInt32 >>> ((1 : Int32).toUInt32 &&& Int32.toUInt32 31)).toInt32) &&& (1431655765 : Int32))) &&& (858993459 : Int32)) + ((((p1 - (((p1.toUInt32 >>> ((1 : Int32).toUInt32 &&& Int32.toUInt32 31)).toInt32) &&& (1431655765 : Int32))).toUInt32 >>> ((2 : Int32).toUInt32 &&& Int32.toUInt32 31)).toInt32) &&& (858993459 : Int32))) + (((((p1 - (((p1.toUInt32 >>> ((1 : Int32).toUInt32 &&& Int32.toUInt32 31)).toInt32) &&& (1431655765 : Int32))) &&& (858993459 : Int32)) + ((((p1 - (((p1.toUInt32 >>> ((1 : Int32).toUInt32 &&& Int32.toUInt32 31)).toInt32) &&& (1431655765 : Int32))).toUInt32 >>> ((2 : Int32).toUInt32 &&& Int32.toUInt32 31)).toInt32) &&& (858993459 : Int32))).toUInt32 >>> ((4 : Int32).toUInt32 &&& Int32.toUInt32 31)).toInt32)) &&& (252645135 : Int32)).toUInt32 >>> ((8 : Int32).toUInt32 &&& Int32.toUInt32 31)).toInt32)) + ((((((((p1 - (((p1.toUInt32 >>> ((1 : Int32).toUInt32 &&& Int32.toUInt32 31)).toInt32) &&& (1431655765 : Int32))) &&& (858993459 : Int32)) + ((((p1 - (((p1.toUInt32 >>> ((1 : Int32).toUInt32 &&& Int32.toUInt32 31)).toInt32) &&& (1431655765 : Int32))).toUInt32 >>> ((2 : Int32).toUInt32 &&& Int32.toUInt32 31)).toInt32) &&& (858993459 : Int32))) + (((((p1 - (((p1.toUInt32 >>> ((1 : Int32).toUInt32 &&& Int32.toUInt32 31)).toInt32) &&& (1431655765 : Int32))) &&& (858993459 : Int32)) + ((((p1 - (((p1.toUInt32 >>> ((1 : Int32).toUInt32 &&& Int32.toUInt32 31)).toInt32) &&& (1431655765 : Int32))).toUInt32 >>> ((2 : Int32).toUInt32 &&& Int32.toUInt32 31)).toInt32) &&& (858993459 : Int32))).toUInt32 >>> ((4 : Int32).toUInt32 &&& Int32.toUInt32 31)).toInt32)) &&& (252645135 : Int32)) + (((((((p1 - (((p1.toUInt32 >>> ((1 : Int32).toUInt32 &&& Int32.toUInt32 31)).toInt32) &&& (1431655765 : Int32))) &&& (858993459 : Int32)) + ((((p1 - (((p1.toUInt32 >>> ((1 : Int32).toUInt32 &&& Int32.toUInt32 31)).toInt32) &&& (1431655765 : Int32))).toUInt32 >>> ((2 : Int32).toUInt32 &&& Int32.toUInt32 31)).toInt32) &&& (858993459 : Int32))) + (((((p1 - (((p1.toUInt32 >>> ((1 : Int32).toUInt32 &&& Int32.toUInt32 31)).toInt32) &&& (1431655765 : Int32))) &&& (858993459 : Int32)) + ((((p1 - (((p1.toUInt32 >>> ((1 : Int32).toUInt32 &&& Int32.toUInt32 31)).toInt32) &&& (1431655765 : Int32))).toUInt32 >>> ((2 : Int32).toUInt32 &&& Int32.toUInt32 31)).toInt32) &&& (858993459 : Int32))).toUInt32 >>> ((4 : Int32).toUInt32 &&& Int32.toUInt32 31)).toInt32)) &&& (252645135 : Int32)).toUInt32 >>> ((8 : Int32).toUInt32 &&& Int32.toUInt32 31)).toInt32)).toUInt32 >>> ((16 : Int32).toUInt32 &&& Int32.toUInt32 31)).toInt32)) &&& (63 : Int32)))
def f_holds (p1 : Int32) (p2 : Int32) : Option (Int32) := (if ((p1 >>> (p2 &&& 31)) &&& (1 : Int32)) = 0 then some ((0 : Int32)) else some ((1 : Int32)))
def f_gcd_B15  (x4_1 : Int64) (x6_2 : Int64) (x8_3 : Int32) : Option ((Int64 × Int64 × Int32) ⊕ (Int64 × Int64 × Int32)) := (if (100 : Int32) ≤ x8_3 then some (.inr (x4_1, x6_2, x8_3)) else (if (lg_cmp x6_2 (0 : Int64)) = 0 then some (.inr (x4_1, x6_2, x8_3)) else if ¬ x6_2 = 0 then some (.inl (x6_2, (x4_1 - x4_1 / x6_2 * x6_2), (x8_3 + 1))) else none))
def f_gcd_L15  (n : Nat) (x4_1 : Int64) (x6_2 : Int64) (x8_3 : Int32) : Option (Int64 × Int64 × Int32) := lp (fun s => f_gcd_B15 s.1 s.2.1 s.2.2) n (x4_1, x6_2, x8_3)
theorem f_gcd_L15_s  (n : Nat) (x4_1 : Int64) (x6_2 : Int64) (x8_3 : Int32) : f_gcd_L15 (n + 1) x4_1 x6_2 x8_3 = Option.bind (f_gcd_B15 x4_1 x6_2 x8_3) (lpk (fun s => f_gcd_L15 n s.1 s.2.1 s.2.2)) := lp_s (fun s => f_gcd_B15 s.1 s.2.1 s.2.2) n (x4_1, x6_2, x8_3)
def f_gcd (p1 : Int64) (p2 : Int64) : Option (Int64) := Option.bind (f_gcd_L15 300 (if 0 < p1 then p1 else -p1) (if 0 < p2 then p2 else -p2) (0 : Int32)) (fun (u8, u9, u10) => some (u8))
def f_Fraction_put (p1 : Int64) (p2 : Int64) : Option (Int64 × Int64) := Option.bind (f_gcd p1 p2) (fun r1 => (if (lg_cmp p2 (0 : Int64)) = 0 then some ((0 : Int64), (1 : Int64)) else (if (lg_cmp r1 (0 : Int64)) = 0 then some ((0 : Int64), (1 : Int64)) else (if 0 ≤ (lg_cmp p2 (0 : Int64)) then if ¬ r1 = 0 then if ¬ r1 = 0 then some ((p1 / r1), (p2 / r1)) else none else none else if ¬ (-r1) = 0 then if ¬ (-r1) = 0 then some ((p1 / (-r1)), (p2 / (-r1))) else none else none))))
def f_Chain_has (cnt : Int32) (p1 : Int32) : Option (Int32) := (if p1 < 0 then some ((0 : Int32)) else (if cnt ≤ p1 then some ((0 : Int32)) else some ((1 : Int32))))
def f_Chain_all (cnt : Int32) : Option (Int32) := some ((((1 : Int32) <<< (cnt &&& 31)) - (1 : Int32)))
def f_Chain_isEnd (tot : Nat → Int32) (p1 : Int32) : Option (Int32) := if ix p1 7 = true then (if (tot p1.toNatClampNeg) = 0 then some ((1 : Int32)) else some ((0 : Int32))) else none
def f_Chain_ends_B4 (cnt : Int32) (tot : Nat → Int32) (x1_1 : Int32) (x2_2 : Int32) : Option ((Int32 × Int32) ⊕ (Int32 × Int32)) := (if cnt ≤ x2_2 then some (.inr (x1_1, x2_2)) else Option.bind (f_Chain_isEnd tot x2_2) (fun r4 => (if r4 = 0 then some (.inl (x1_1, (x2_2 + 1))) else some (.inl ((x1_1 ||| ((1 : Int32) <<< (x2_2 &&& 31))), (x2_2 + 1))))))
def f_Chain_ends_L4 (cnt : Int32) (tot : Nat → Int32) (n : Nat) (x1_1 : Int32) (x2_2 : Int32) : Option (Int32 × Int32) := lp (fun s => f_Chain_ends_B4 cnt tot s.1 s.2) n (x1_1, x2_2)
theorem f_Chain_ends_L4_s (cnt : Int32) (tot : Nat → Int32) (n : Nat) (x1_1 : Int32) (x2_2 : Int32) : f_Chain_ends_L4 cnt tot (n + 1) x1_1 x2_2 = Option.bind (f_Chain_ends_B4 cnt tot x1_1 x2_2) (lpk (fun s => f_Chain_ends_L4 cnt tot n s.1 s.2)) := lp_s (fun s => f_Chain_ends_B4 cnt tot s.1 s.2) n (x1_1, x2_2)
def f_Chain_ends (cnt : Int32) (tot : Nat → Int32) : Option (Int32) := Option.bind (f_Chain_ends_L4 cnt tot 300 (0 : Int32) (0 : Int32)) (fun (u7, u8) => some (u7))
def f_Chain_countWeights_B14 (cnt : Int32) (w : Nat → Nat → Int32) (x2_2 : Int32) (x1_4 : Int32) (x3_5 : Int32) : Option ((Int32 × Int32) ⊕ (Int32 × Int32)) := (if cnt ≤ x3_5 then some (.inr (x1_4, x3_5)) else if ix x2_2 7 = true then if ix x3_5 7 = true then (if (w x2_2.toNatClampNeg x3_5.toNatClampNeg) = 0 then some (.inl (x1_4, (x3_5 + 1))) else some (.inl ((x1_4 + 1), (x3_5 + 1)))) else none else none)
def f_Chain_countWeights_L14 (cnt : Int32) (w : Nat → Nat → Int32) (x2_2 : Int32) (n : Nat) (x1_4 : Int32) (x3_5 : Int32) : Option (Int32 × Int32) := lp (fun s => f_Chain_countWeights_B14 cnt w x2_2 s.1 s.2) n (x1_4, x3_5)
theorem f_Chain_countWeights_L14_s (cnt : Int32) (w : Nat → Nat → Int32) (x2_2 : Int32) (n : Nat) (x1_4 : Int32) (x3_5 : Int32) : f_Chain_countWeights_L14 cnt w x2_2 (n + 1) x1_4 x3_5 = Option.bind (f_Chain_countWeights_B14 cnt w x2_2 x1_4 x3_5) (lpk (fun s => f_Chain_countWeights_L14 cnt w x2_2 n s.1 s.2)) := lp_s (fun s => f_Chain_countWeights_B14 cnt w x2_2 s.1 s.2) n (x1_4, x3_5)
def f_Chain_countWeights_B4 (cnt : Int32) (w : Nat → Nat → Int32) (x1_1 : Int32) (x2_2 : Int32) : Option ((Int32 × Int32) ⊕ (Int32 × Int32)) := (if cnt ≤ x2_2 then some (.inr (x1_1, x2_2)) else Option.bind (f_Chain_countWeights_L14 cnt w x2_2 300 x1_1 (0 : Int32)) (fun (u11, u12) => some (.inl (u11, (x2_2 + 1)))))
def f_Chain_countWeights_L4 (cnt : Int32) (w : Nat → Nat → Int32) (n : Nat) (x1_1 : Int32) (x2_2 : Int32) : Option (Int32 × Int32) := lp (fun s => f_Chain_countWeights_B4 cnt w s.1 s.2) n (x1_1, x2_2)
theorem f_Chain_countWeights_L4_s (cnt : Int32) (w : Nat → Nat → Int32) (n : Nat) (x1_1 : Int32) (x2_2 : Int32) : f_Chain_countWeights_L4 cnt w (n + 1) x1_1 x2_2 = Option.bind (f_Chain_countWeights_B4 cnt w x1_1 x2_2) (lpk (fun s => f_Chain_countWeights_L4 cnt w n s.1 s.2)) := lp_s (fun s => f_Chain_countWeights_B4 cnt w s.1 s.2) n (x1_1, x2_2)
def f_Chain_countWeights (cnt : Int32) (w : Nat → Nat → Int32) : Option (Int32) := Option.bind (f_Chain_countWeights_L4 cnt w 300 (0 : Int32) (0 : Int32)) (fun (u14, u15) => some (u14))
def f_Chain_pull (w : Nat → Nat → Int32) (tot : Nat → Int32) (p1 : Int32) (p2 : Int32) : Option (Int32) := Option.bind (f_Chain_isEnd tot p1) (fun r1 => (if r1 = 0 then if ix p1 7 = true then if ix p2 7 = true then some ((w p1.toNatClampNeg p2.toNatClampNeg)) else none else none else (if p1 = p2 then some ((1 : Int32)) else some ((0 : Int32)))))
def f_Chain_pullOfAll (tot : Nat → Int32) (p1 : Int32) : Option (Int32) := Option.bind (f_Chain_isEnd tot p1) (fun r1 => (if r1 = 0 then if ix p1 7 = true then some ((tot p1.toNatClampNeg)) else none else some ((1 : Int32))))
def f_Chain_pullInto_B5 (cnt : Int32) (w : Nat → Nat → Int32) (tot : Nat → Int32) (p1 : Int32) (p2 : Int32) (x3_1 : Int32) (x4_2 : Int32) : Option ((Int32 × Int32) ⊕ (Int32 × Int32)) := (if cnt ≤ x4_2 then some (.inr (x3_1, x4_2)) else Option.bind (f_holds p2 x4_2) (fun r4 => (if r4 = 0 then some (.inl (x3_1, (x4_2 + 1))) else Option.bind (f_Chain_pull w tot p1 x4_2) (fun r6 => some (.inl ((x3_1 + r6), (x4_2 + 1)))))))
def f_Chain_pullInto_L5 (cnt : Int32) (w : Nat → Nat → Int32) (tot : Nat → Int32) (p1 : Int32) (p2 : Int32) (n : Nat) (x3_1 : Int32) (x4_2 : Int32) : Option (Int32 × Int32) := lp (fun s => f_Chain_pullInto_B5 cnt w tot p1 p2 s.1 s.2) n (x3_1, x4_2)
theorem f_Chain_pullInto_L5_s (cnt : Int32) (w : Nat → Nat → Int32) (tot : Nat → Int32) (p1 : Int32) (p2 : Int32) (n : Nat) (x3_1 : Int32) (x4_2 : Int32) : f_Chain_pullInto_L5 cnt w tot p1 p2 (n + 1) x3_1 x4_2 = Option.bind (f_Chain_pullInto_B5 cnt w tot p1 p2 x3_1 x4_2) (lpk (fun s => f_Chain_pullInto_L5 cnt w tot p1 p2 n s.1 s.2)) := lp_s (fun s => f_Chain_pullInto_B5 cnt w tot p1 p2 s.1 s.2) n (x3_1, x4_2)
def f_Chain_pullInto (cnt : Int32) (w : Nat → Nat → Int32) (tot : Nat → Int32) (p1 : Int32) (p2 : Int32) : Option (Int32) := Option.bind (f_Chain_pullInto_L5 cnt w tot p1 p2 300 (0 : Int32) (0 : Int32)) (fun (u8, u9) => some (u8))
def f_Chain_nextOnes_B4 (cnt : Int32) (w : Nat → Nat → Int32) (tot : Nat → Int32) (p1 : Int32) (x2_1 : Int32) (x3_2 : Int32) : Option ((Int32 × Int32) ⊕ (Int32 × Int32)) := (if cnt ≤ x3_2 then some (.inr (x2_1, x3_2)) else Option.bind (f_Chain_pull w tot p1 x3_2) (fun r4 => (if r4 = 0 then some (.inl (x2_1, (x3_2 + 1))) else some (.inl ((x2_1 ||| ((1 : Int32) <<< (x3_2 &&& 31))), (x3_2 + 1))))))
def f_Chain_nextOnes_L4 (cnt : Int32) (w : Nat → Nat → Int32) (tot : Nat → Int32) (p1 : Int32) (n : Nat) (x2_1 : Int32) (x3_2 : Int32) : Option (Int32 × Int32) := lp (fun s => f_Chain_nextOnes_B4 cnt w tot p1 s.1 s.2) n (x2_1, x3_2)
theorem f_Chain_nextOnes_L4_s (cnt : Int32) (w : Nat → Nat → Int32) (tot : Nat → Int32) (p1 : Int32) (n : Nat) (x2_1 : Int32) (x3_2 : Int32) : f_Chain_nextOnes_L4 cnt w tot p1 (n + 1) x2_1 x3_2 = Option.bind (f_Chain_nextOnes_B4 cnt w tot p1 x2_1 x3_2) (lpk (fun s => f_Chain_nextOnes_L4 cnt w tot p1 n s.1 s.2)) := lp_s (fun s => f_Chain_nextOnes_B4 cnt w tot p1 s.1 s.2) n (x2_1, x3_2)
def f_Chain_nextOnes (cnt : Int32) (w : Nat → Nat → Int32) (tot : Nat → Int32) (p1 : Int32) : Option (Int32) := Option.bind (f_Chain_nextOnes_L4 cnt w tot p1 300 (0 : Int32) (0 : Int32)) (fun (u7, u8) => some (u7))
def f_Chain_removeAll_B10 (x1_1 : Int32) (x2_6 : Int32) (w_7 : Nat → Nat → Int32) : Option ((Int32 × (Nat → Nat → Int32)) ⊕ (Int32 × (Nat → Nat → Int32))) := (if (7 : Int32) ≤ x2_6 then some (.inr (x2_6, w_7)) else if ix x1_1 7 = true then if ix x2_6 7 = true then some (.inl ((x2_6 + 1), (va_up w_7 x1_1.toNatClampNeg (upd (w_7 x1_1.toNatClampNeg) x2_6.toNatClampNeg (0 : Int32))))) else none else none)
def f_Chain_removeAll_L10 (x1_1 : Int32) (n : Nat) (x2_6 : Int32) (w_7 : Nat → Nat → Int32) : Option (Int32 × (Nat → Nat → Int32)) := lp (fun s => f_Chain_removeAll_B10 x1_1 s.1 s.2) n (x2_6, w_7)
theorem f_Chain_removeAll_L10_s (x1_1 : Int32) (n : Nat) (x2_6 : Int32) (w_7 : Nat → Nat → Int32) : f_Chain_removeAll_L10 x1_1 (n + 1) x2_6 w_7 = Option.bind (f_Chain_removeAll_B10 x1_1 x2_6 w_7) (lpk (fun s => f_Chain_removeAll_L10 x1_1 n s.1 s.2)) := lp_s (fun s => f_Chain_removeAll_B10 x1_1 s.1 s.2) n (x2_6, w_7)
def f_Chain_removeAll_B2  (x1_1 : Int32) (w_2 : Nat → Nat → Int32) (tot_3 : Nat → Int32) (rew_4 : Nat → Int32) : Option ((Int32 × (Nat → Nat → Int32) × (Nat → Int32) × (Nat → Int32)) ⊕ (Int32 × (Nat → Nat → Int32) × (Nat → Int32) × (Nat → Int32))) := (if (7 : Int32) ≤ x1_1 then some (.inr (x1_1, w_2, tot_3, rew_4)) else Option.bind (f_Chain_removeAll_L10 x1_1 300 (0 : Int32) w_2) (fun (u12, u13) => if ix x1_1 7 = true then if ix x1_1 7 = true then some (.inl ((x1_1 + 1), u13, (upd tot_3 x1_1.toNatClampNeg (0 : Int32)), (upd rew_4 x1_1.toNatClampNeg (0 : Int32)))) else none else none))
def f_Chain_removeAll_L2  (n : Nat) (x1_1 : Int32) (w_2 : Nat → Nat → Int32) (tot_3 : Nat → Int32) (rew_4 : Nat → Int32) : Option (Int32 × (Nat → Nat → Int32) × (Nat → Int32) × (Nat → Int32)) := lp (fun s => f_Chain_removeAll_B2 s.1 s.2.1 s.2.2.1 s.2.2.2) n (x1_1, w_2, tot_3, rew_4)
theorem f_Chain_removeAll_L2_s  (n : Nat) (x1_1 : Int32) (w_2 : Nat → Nat → Int32) (tot_3 : Nat → Int32) (rew_4 : Nat → Int32) : f_Chain_removeAll_L2 (n + 1) x1_1 w_2 tot_3 rew_4 = Option.bind (f_Chain_removeAll_B2 x1_1 w_2 tot_3 rew_4) (lpk (fun s => f_Chain_removeAll_L2 n s.1 s.2.1 s.2.2.1 s.2.2.2)) := lp_s (fun s => f_Chain_removeAll_B2 s.1 s.2.1 s.2.2.1 s.2.2.2) n (x1_1, w_2, tot_3, rew_4)
def f_Chain_removeAll (w : Nat → Nat → Int32) (tot : Nat → Int32) (rew : Nat → Int32) : Option (Int32 × (Nat → Nat → Int32) × (Nat → Int32) × (Nat → Int32)) := Option.bind (f_Chain_removeAll_L2 300 (0 : Int32) w tot rew) (fun (u17, u18, u19, u20) => some ((0 : Int32), u18, u19, u20))
def f_Ways_metFrom_B22 (cnt : Int32) (w : Nat → Nat → Int32) (tot : Nat → Int32) (p2 : Int32) (x3_4 : Int32) (x5_5 : Int32) : Option ((Int32 × Int32) ⊕ (Int32 × Int32)) := (if cnt ≤ x5_5 then some (.inr (x3_4, x5_5)) else Option.bind (f_holds (x3_4 &&& (p2 ^^^ (-1 : Int32))) x5_5) (fun r7 => (if r7 = 0 then some (.inl (x3_4, (x5_5 + 1))) else Option.bind (f_Chain_nextOnes cnt w tot x5_5) (fun r9 => some (.inl ((x3_4 ||| r9), (x5_5 + 1)))))))
def f_Ways_metFrom_L22 (cnt : Int32) (w : Nat → Nat → Int32) (tot : Nat → Int32) (p2 : Int32) (n : Nat) (x3_4 : Int32) (x5_5 : Int32) : Option (Int32 × Int32) := lp (fun s => f_Ways_metFrom_B22 cnt w tot p2 s.1 s.2) n (x3_4, x5_5)
theorem f_Ways_metFrom_L22_s (cnt : Int32) (w : Nat → Nat → Int32) (tot : Nat → Int32) (p2 : Int32) (n : Nat) (x3_4 : Int32) (x5_5 : Int32) : f_Ways_metFrom_L22 cnt w tot p2 (n + 1) x3_4 x5_5 = Option.bind (f_Ways_metFrom_B22 cnt w tot p2 x3_4 x5_5) (lpk (fun s => f_Ways_metFrom_L22 cnt w tot p2 n s.1 s.2)) := lp_s (fun s => f_Ways_metFrom_B22 cnt w tot p2 s.1 s.2) n (x3_4, x5_5)
def f_Ways_metFrom_B7 (cnt : Int32) (w : Nat → Nat → Int32) (tot : Nat → Int32) (p2 : Int32) (x3_1 : Int32) (x4_2 : Int32) : Option ((Int32 × Int32) ⊕ (Int32 × Int32)) := (if cnt ≤ x4_2 then some (.inr (x3_1, x4_2)) else Option.bind (f_Ways_metFrom_L22 cnt w tot p2 300 x3_1 (0 : Int32)) (fun (u11, u12) => some (.inl (u11, (x4_2 + 1)))))
def f_Ways_metFrom_L7 (cnt : Int32) (w : Nat → Nat → Int32) (tot : Nat → Int32) (p2 : Int32) (n : Nat) (x3_1 : Int32) (x4_2 : Int32) : Option (Int32 × Int32) := lp (fun s => f_Ways_metFrom_B7 cnt w tot p2 s.1 s.2) n (x3_1, x4_2)
theorem f_Ways_metFrom_L7_s (cnt : Int32) (w : Nat → Nat → Int32) (tot : Nat → Int32) (p2 : Int32) (n : Nat) (x3_1 : Int32) (x4_2 : Int32) : f_Ways_metFrom_L7 cnt w tot p2 (n + 1) x3_1 x4_2 = Option.bind (f_Ways_metFrom_B7 cnt w tot p2 x3_1 x4_2) (lpk (fun s => f_Ways_metFrom_L7 cnt w tot p2 n s.1 s.2)) := lp_s (fun s => f_Ways_metFrom_B7 cnt w tot p2 s.1 s.2) n (x3_1, x4_2)
def f_Ways_metFrom (cnt : Int32) (w : Nat → Nat → Int32) (tot : Nat → Int32) (p1 : Int32) (p2 : Int32) : Option (Int32) := Option.bind (f_Ways_metFrom_L7 cnt w tot p2 300 ((1 : Int32) <<< (p1 &&& 31)) (0 : Int32)) (fun (u14, u15) => some (u14))
def f_Ways_leadingTo_B20 (cnt : Int32) (w : Nat → Nat → Int32) (tot : Nat → Int32) (p2 : Int32) (x3_4 : Int32) (x5_5 : Int32) : Option ((Int32 × Int32) ⊕ (Int32 × Int32)) := (if cnt ≤ x5_5 then some (.inr (x3_4, x5_5)) else Option.bind (f_holds p2 x5_5) (fun r7 => (if r7 = 0 then Option.bind (f_Chain_nextOnes cnt w tot x5_5) (fun r9 => (if (r9 &&& x3_4) = 0 then some (.inl (x3_4, (x5_5 + 1))) else some (.inl ((x3_4 ||| ((1 : Int32) <<< (x5_5 &&& 31))), (x5_5 + 1))))) else some (.inl (x3_4, (x5_5 + 1))))))
def f_Ways_leadingTo_L20 (cnt : Int32) (w : Nat → Nat → Int32) (tot : Nat → Int32) (p2 : Int32) (n : Nat) (x3_4 : Int32) (x5_5 : Int32) : Option (Int32 × Int32) := lp (fun s => f_Ways_leadingTo_B20 cnt w tot p2 s.1 s.2) n (x3_4, x5_5)
theorem f_Ways_leadingTo_L20_s (cnt : Int32) (w : Nat → Nat → Int32) (tot : Nat → Int32) (p2 : Int32) (n : Nat) (x3_4 : Int32) (x5_5 : Int32) : f_Ways_leadingTo_L20 cnt w tot p2 (n + 1) x3_4 x5_5 = Option.bind (f_Ways_leadingTo_B20 cnt w tot p2 x3_4 x5_5) (lpk (fun s => f_Ways_leadingTo_L20 cnt w tot p2 n s.1 s.2)) := lp_s (fun s => f_Ways_leadingTo_B20 cnt w tot p2 s.1 s.2) n (x3_4, x5_5)
def f_Ways_leadingTo_B5 (cnt : Int32) (w : Nat → Nat → Int32) (tot : Nat → Int32) (p2 : Int32) (x3_1 : Int32) (x4_2 : Int32) : Option ((Int32 × Int32) ⊕ (Int32 × Int32)) := (if cnt ≤ x4_2 then some (.inr (x3_1, x4_2)) else Option.bind (f_Ways_leadingTo_L20 cnt w tot p2 300 x3_1 (0 : Int32)) (fun (u12, u13) => some (.inl (u12, (x4_2 + 1)))))
def f_Ways_leadingTo_L5 (cnt : Int32) (w : Nat → Nat → Int32) (tot : Nat → Int32) (p2 : Int32) (n : Nat) (x3_1 : Int32) (x4_2 : Int32) : Option (Int32 × Int32) := lp (fun s => f_Ways_leadingTo_B5 cnt w tot p2 s.1 s.2) n (x3_1, x4_2)
theorem f_Ways_leadingTo_L5_s (cnt : Int32) (w : Nat → Nat → Int32) (tot : Nat → Int32) (p2 : Int32) (n : Nat) (x3_1 : Int32) (x4_2 : Int32) : f_Ways_leadingTo_L5 cnt w tot p2 (n + 1) x3_1 x4_2 = Option.bind (f_Ways_leadingTo_B5 cnt w tot p2 x3_1 x4_2) (lpk (fun s => f_Ways_leadingTo_L5 cnt w tot p2 n s.1 s.2)) := lp_s (fun s => f_Ways_leadingTo_B5 cnt w tot p2 s.1 s.2) n (x3_1, x4_2)
def f_Ways_leadingTo (cnt : Int32) (w : Nat → Nat → Int32) (tot : Nat → Int32) (p1 : Int32) (p2 : Int32) : Option (Int32) := Option.bind (f_Ways_leadingTo_L5 cnt w tot p2 300 p1 (0 : Int32)) (fun (u15, u16) => some (u15))
def f_Ways_isSureToMeet (cnt : Int32) (w : Nat → Nat → Int32) (tot : Nat → Int32) (p1 : Int32) (p2 : Int32) : Option (Int32) := Option.bind (f_Ways_metFrom cnt w tot p1 p2) (fun r1 => Option.bind (f_Ways_leadingTo cnt w tot p2 (0 : Int32)) (fun r2 => (if (r1 &&& (r2 ^^^ (-1 : Int32))) = 0 then some ((1 : Int32)) else some ((0 : Int32)))))
def f_Ways_leastOfPart_B18 (p1 : Int32) (y2_3 : Int32) (x3_4 : Int32) : Option ((Int32) ⊕ ((Int32) ⊕ (Int32))) := (if p1 ≤ x3_4 then some (.inr (.inl x3_4)) else Option.bind (f_holds y2_3 x3_4) (fun r6 => (if r6 = 0 then some (.inl (x3_4 + 1)) else some (.inr (.inr (x3_4))))))
def f_Ways_leastOfPart_L18 (p1 : Int32) (y2_3 : Int32) (n : Nat) (x3_4 : Int32) : Option ((Int32) ⊕ (Int32)) := lp (fun s => f_Ways_leastOfPart_B18 p1 y2_3 s) n x3_4
theorem f_Ways_leastOfPart_L18_s (p1 : Int32) (y2_3 : Int32) (n : Nat) (x3_4 : Int32) : f_Ways_leastOfPart_L18 p1 y2_3 (n + 1) x3_4 = Option.bind (f_Ways_leastOfPart_B18 p1 y2_3 x3_4) (lpk (fun s => f_Ways_leastOfPart_L18 p1 y2_3 n s)) := lp_s (fun s => f_Ways_leastOfPart_B18 p1 y2_3 s) n x3_4
def f_Ways_leastOfPart (cnt : Int32) (w : Nat → Nat → Int32) (tot : Nat → Int32) (p1 : Int32) : Option (Int32) := Option.bind (f_Ways_metFrom cnt w tot p1 (0 : Int32)) (fun r1 => Option.bind (f_Ways_leadingTo cnt w tot ((1 : Int32) <<< (p1 &&& 31)) (0 : Int32)) (fun r2 => Option.bind (f_Ways_leastOfPart_L18 p1 (r1 &&& r2) 300 (0 : Int32)) (fun | .inr r => some r | .inl u9 => some (p1))))
def f_Ways_isClosedAt (cnt : Int32) (w : Nat → Nat → Int32) (tot : Nat → Int32) (p1 : Int32) : Option (Int32) := Option.bind (f_Ways_metFrom cnt w tot p1 (0 : Int32)) (fun r1 => Option.bind (f_Ways_leadingTo cnt w tot ((1 : Int32) <<< (p1 &&& 31)) (0 : Int32)) (fun r2 => (if (r1 &&& (r2 ^^^ (-1 : Int32))) = 0 then some ((1 : Int32)) else some ((0 : Int32)))))
def f_Ways_countParts_B4 (cnt : Int32) (w : Nat → Nat → Int32) (tot : Nat → Int32) (p1 : Int32) (x2_1 : Int32) (x3_2 : Int32) : Option ((Int32 × Int32) ⊕ (Int32 × Int32)) := (if cnt ≤ x3_2 then some (.inr (x2_1, x3_2)) else Option.bind (f_Ways_leastOfPart cnt w tot x3_2) (fun r4 => (if r4 = x3_2 then (if p1 = 0 then some (.inl ((x2_1 + 1), (x3_2 + 1))) else Option.bind (f_Ways_isClosedAt cnt w tot x3_2) (fun r7 => (if r7 = 0 then some (.inl (x2_1, (x3_2 + 1))) else some (.inl ((x2_1 + 1), (x3_2 + 1)))))) else some (.inl (x2_1, (x3_2 + 1))))))
def f_Ways_countParts_L4 (cnt : Int32) (w : Nat → Nat → Int32) (tot : Nat → Int32) (p1 : Int32) (n : Nat) (x2_1 : Int32) (x3_2 : Int32) : Option (Int32 × Int32) := lp (fun s => f_Ways_countParts_B4 cnt w tot p1 s.1 s.2) n (x2_1, x3_2)
theorem f_Ways_countParts_L4_s (cnt : Int32) (w : Nat → Nat → Int32) (tot : Nat → Int32) (p1 : Int32) (n : Nat) (x2_1 : Int32) (x3_2 : Int32) : f_Ways_countParts_L4 cnt w tot p1 (n + 1) x2_1 x3_2 = Option.bind (f_Ways_countParts_B4 cnt w tot p1 x2_1 x3_2) (lpk (fun s => f_Ways_countParts_L4 cnt w tot p1 n s.1 s.2)) := lp_s (fun s => f_Ways_countParts_B4 cnt w tot p1 s.1 s.2) n (x2_1, x3_2)
def f_Ways_countParts (cnt : Int32) (w : Nat → Nat → Int32) (tot : Nat → Int32) (p1 : Int32) : Option (Int32) := Option.bind (f_Ways_countParts_L4 cnt w tot p1 300 (0 : Int32) (0 : Int32)) (fun (u10, u11) => some (u10))
def f_Ways_oneStepOn_B4 (cnt : Int32) (w : Nat → Nat → Int32) (tot : Nat → Int32) (p1 : Int32) (x2_1 : Int32) (x3_2 : Int32) : Option ((Int32 × Int32) ⊕ (Int32 × Int32)) := (if cnt ≤ x3_2 then some (.inr (x2_1, x3_2)) else Option.bind (f_holds p1 x3_2) (fun r4 => (if r4 = 0 then some (.inl (x2_1, (x3_2 + 1))) else Option.bind (f_Chain_nextOnes cnt w tot x3_2) (fun r6 => some (.inl ((x2_1 ||| r6), (x3_2 + 1)))))))
def f_Ways_oneStepOn_L4 (cnt : Int32) (w : Nat → Nat → Int32) (tot : Nat → Int32) (p1 : Int32) (n : Nat) (x2_1 : Int32) (x3_2 : Int32) : Option (Int32 × Int32) := lp (fun s => f_Ways_oneStepOn_B4 cnt w tot p1 s.1 s.2) n (x2_1, x3_2)
theorem f_Ways_oneStepOn_L4_s (cnt : Int32) (w : Nat → Nat → Int32) (tot : Nat → Int32) (p1 : Int32) (n : Nat) (x2_1 : Int32) (x3_2 : Int32) : f_Ways_oneStepOn_L4 cnt w tot p1 (n + 1) x2_1 x3_2 = Option.bind (f_Ways_oneStepOn_B4 cnt w tot p1 x2_1 x3_2) (lpk (fun s => f_Ways_oneStepOn_L4 cnt w tot p1 n s.1 s.2)) := lp_s (fun s => f_Ways_oneStepOn_B4 cnt w tot p1 s.1 s.2) n (x2_1, x3_2)
def f_Ways_oneStepOn (cnt : Int32) (w : Nat → Nat → Int32) (tot : Nat → Int32) (p1 : Int32) : Option (Int32) := Option.bind (f_Ways_oneStepOn_L4 cnt w tot p1 300 (0 : Int32) (0 : Int32)) (fun (u8, u9) => some (u8))
def f_Ways_ringDivisor_B9 (cnt : Int32) (w : Nat → Nat → Int32) (tot : Nat → Int32) (p1 : Int32) (x2_1 : Int32) (x3_2 : Int32) (x4_3 : Int32) : Option ((Int32 × Int32 × Int32) ⊕ (Int32 × Int32 × Int32)) := (if ((3 : Int32) * cnt) < x4_3 then some (.inr (x2_1, x3_2, x4_3)) else Option.bind (f_Ways_oneStepOn cnt w tot x3_2) (fun r5 => Option.bind (f_holds r5 p1) (fun r6 => (if r6 = 0 then some (.inl (x2_1, r5, (x4_3 + 1))) else Option.bind (f_gcd (x2_1.toInt64) (x4_3.toInt64)) (fun r8 => some (.inl ((r8.toInt32), r5, (x4_3 + 1))))))))
def f_Ways_ringDivisor_L9 (cnt : Int32) (w : Nat → Nat → Int32) (tot : Nat → Int32) (p1 : Int32) (n : Nat) (x2_1 : Int32) (x3_2 : Int32) (x4_3 : Int32) : Option (Int32 × Int32 × Int32) := lp (fun s => f_Ways_ringDivisor_B9 cnt w tot p1 s.1 s.2.1 s.2.2) n (x2_1, x3_2, x4_3)
theorem f_Ways_ringDivisor_L9_s (cnt : Int32) (w : Nat → Nat → Int32) (tot : Nat → Int32) (p1 : Int32) (n : Nat) (x2_1 : Int32) (x3_2 : Int32) (x4_3 : Int32) : f_Ways_ringDivisor_L9 cnt w tot p1 (n + 1) x2_1 x3_2 x4_3 = Option.bind (f_Ways_ringDivisor_B9 cnt w tot p1 x2_1 x3_2 x4_3) (lpk (fun s => f_Ways_ringDivisor_L9 cnt w tot p1 n s.1 s.2.1 s.2.2)) := lp_s (fun s => f_Ways_ringDivisor_B9 cnt w tot p1 s.1 s.2.1 s.2.2) n (x2_1, x3_2, x4_3)
def f_Ways_ringDivisor (cnt : Int32) (w : Nat → Nat → Int32) (tot : Nat → Int32) (p1 : Int32) : Option (Int32) := Option.bind (f_Ways_ringDivisor_L9 cnt w tot p1 300 (0 : Int32) ((1 : Int32) <<< (p1 &&& 31)) (1 : Int32)) (fun (u10, u11, u12) => some (u10))
def f_Likeness_membersOf_B4 (cnt : Int32) (grp : Nat → Int32) (p1 : Int32) (x2_1 : Int32) (x3_2 : Int32) : Option ((Int32 × Int32) ⊕ (Int32 × Int32)) := (if cnt ≤ x3_2 then some (.inr (x2_1, x3_2)) else if ix x3_2 7 = true then (if (grp x3_2.toNatClampNeg) = p1 then some (.inl ((x2_1 ||| ((1 : Int32) <<< (x3_2 &&& 31))), (x3_2 + 1))) else some (.inl (x2_1, (x3_2 + 1)))) else none)
def f_Likeness_membersOf_L4 (cnt : Int32) (grp : Nat → Int32) (p1 : Int32) (n : Nat) (x2_1 : Int32) (x3_2 : Int32) : Option (Int32 × Int32) := lp (fun s => f_Likeness_membersOf_B4 cnt grp p1 s.1 s.2) n (x2_1, x3_2)
theorem f_Likeness_membersOf_L4_s (cnt : Int32) (grp : Nat → Int32) (p1 : Int32) (n : Nat) (x2_1 : Int32) (x3_2 : Int32) : f_Likeness_membersOf_L4 cnt grp p1 (n + 1) x2_1 x3_2 = Option.bind (f_Likeness_membersOf_B4 cnt grp p1 x2_1 x3_2) (lpk (fun s => f_Likeness_membersOf_L4 cnt grp p1 n s.1 s.2)) := lp_s (fun s => f_Likeness_membersOf_B4 cnt grp p1 s.1 s.2) n (x2_1, x3_2)
def f_Likeness_membersOf (cnt : Int32) (grp : Nat → Int32) (p1 : Int32) : Option (Int32) := Option.bind (f_Likeness_membersOf_L4 cnt grp p1 300 (0 : Int32) (0 : Int32)) (fun (u7, u8) => some (u7))
def f_Likeness_looksLike_B44 (cnt : Int32) (w : Nat → Nat → Int32) (tot : Nat → Int32) (grp : Nat → Int32) (p1 : Int32) (p2 : Int32) (x3_7 : Int32) : Option ((Int32) ⊕ ((Int32) ⊕ (Int32))) := (if cnt ≤ x3_7 then some (.inr (.inl x3_7)) else Option.bind (f_Likeness_membersOf cnt grp x3_7) (fun r9 => Option.bind (f_Chain_pullInto cnt w tot p1 r9) (fun r10 => Option.bind (f_Chain_pullOfAll tot p2) (fun r11 => Option.bind (f_Chain_pullInto cnt w tot p2 r9) (fun r12 => Option.bind (f_Chain_pullOfAll tot p1) (fun r13 => (if (r10 * r11) = (r12 * r13) then some (.inl (x3_7 + 1)) else some (.inr (.inr ((0 : Int32)))))))))))
def f_Likeness_looksLike_L44 (cnt : Int32) (w : Nat → Nat → Int32) (tot : Nat → Int32) (grp : Nat → Int32) (p1 : Int32) (p2 : Int32) (n : Nat) (x3_7 : Int32) : Option ((Int32) ⊕ (Int32)) := lp (fun s => f_Likeness_looksLike_B44 cnt w tot grp p1 p2 s) n x3_7
theorem f_Likeness_looksLike_L44_s (cnt : Int32) (w : Nat → Nat → Int32) (tot : Nat → Int32) (grp : Nat → Int32) (p1 : Int32) (p2 : Int32) (n : Nat) (x3_7 : Int32) : f_Likeness_looksLike_L44 cnt w tot grp p1 p2 (n + 1) x3_7 = Option.bind (f_Likeness_looksLike_B44 cnt w tot grp p1 p2 x3_7) (lpk (fun s => f_Likeness_looksLike_L44 cnt w tot grp p1 p2 n s)) := lp_s (fun s => f_Likeness_looksLike_B44 cnt w tot grp p1 p2 s) n x3_7
def f_Likeness_looksLike (cnt : Int32) (w : Nat → Nat → Int32) (tot : Nat → Int32) (rew : Nat → Int32) (grp : Nat → Int32) (p1 : Int32) (p2 : Int32) : Option (Int32) := Option.bind (f_Chain_isEnd tot p1) (fun r1 => Option.bind (f_Chain_isEnd tot p2) (fun r2 => (if r1 = r2 then if ix p1 7 = true then if ix p2 7 = true then (if (rew p1.toNatClampNeg) = (rew p2.toNatClampNeg) then Option.bind (f_Likeness_looksLike_L44 cnt w tot grp p1 p2 300 (0 : Int32)) (fun | .inr r => some r | .inl u16 => some ((1 : Int32))) else some ((0 : Int32))) else none else none else some ((0 : Int32)))))
def f_Likeness_leastMate_B2 (cnt : Int32) (w : Nat → Nat → Int32) (tot : Nat → Int32) (rew : Nat → Int32) (grp : Nat → Int32) (p1 : Int32) (x2_1 : Int32) : Option ((Int32) ⊕ ((Int32) ⊕ (Int32))) := (if p1 ≤ x2_1 then some (.inr (.inl x2_1)) else if ix x2_1 7 = true then if ix p1 7 = true then (if (grp x2_1.toNatClampNeg) = (grp p1.toNatClampNeg) then Option.bind (f_Likeness_looksLike cnt w tot rew grp x2_1 p1) (fun r6 => (if r6 = 0 then some (.inl (x2_1 + 1)) else some (.inr (.inr (x2_1))))) else some (.inl (x2_1 + 1))) else none else none)
def f_Likeness_leastMate_L2 (cnt : Int32) (w : Nat → Nat → Int32) (tot : Nat → Int32) (rew : Nat → Int32) (grp : Nat → Int32) (p1 : Int32) (n : Nat) (x2_1 : Int32) : Option ((Int32) ⊕ (Int32)) := lp (fun s => f_Likeness_leastMate_B2 cnt w tot rew grp p1 s) n x2_1
theorem f_Likeness_leastMate_L2_s (cnt : Int32) (w : Nat → Nat → Int32) (tot : Nat → Int32) (rew : Nat → Int32) (grp : Nat → Int32) (p1 : Int32) (n : Nat) (x2_1 : Int32) : f_Likeness_leastMate_L2 cnt w tot rew grp p1 (n + 1) x2_1 = Option.bind (f_Likeness_leastMate_B2 cnt w tot rew grp p1 x2_1) (lpk (fun s => f_Likeness_leastMate_L2 cnt w tot rew grp p1 n s)) := lp_s (fun s => f_Likeness_leastMate_B2 cnt w tot rew grp p1 s) n x2_1
def f_Likeness_leastMate (cnt : Int32) (w : Nat → Nat → Int32) (tot : Nat → Int32) (rew : Nat → Int32) (grp : Nat → Int32) (p1 : Int32) : Option (Int32) := Option.bind (f_Likeness_leastMate_L2 cnt w tot rew grp p1 300 (0 : Int32)) (fun | .inr r => some r | .inl u9 => some (p1))
def f_Likeness_countGroups_B4 (cnt : Int32) (grp : Nat → Int32) (x1_1 : Int32) (x2_2 : Int32) : Option ((Int32 × Int32) ⊕ (Int32 × Int32)) := (if cnt ≤ x2_2 then some (.inr (x1_1, x2_2)) else if ix x2_2 7 = true then (if (grp x2_2.toNatClampNeg) = x2_2 then some (.inl ((x1_1 + 1), (x2_2 + 1))) else some (.inl (x1_1, (x2_2 + 1)))) else none)
def f_Likeness_countGroups_L4 (cnt : Int32) (grp : Nat → Int32) (n : Nat) (x1_1 : Int32) (x2_2 : Int32) : Option (Int32 × Int32) := lp (fun s => f_Likeness_countGroups_B4 cnt grp s.1 s.2) n (x1_1, x2_2)
theorem f_Likeness_countGroups_L4_s (cnt : Int32) (grp : Nat → Int32) (n : Nat) (x1_1 : Int32) (x2_2 : Int32) : f_Likeness_countGroups_L4 cnt grp (n + 1) x1_1 x2_2 = Option.bind (f_Likeness_countGroups_B4 cnt grp x1_1 x2_2) (lpk (fun s => f_Likeness_countGroups_L4 cnt grp n s.1 s.2)) := lp_s (fun s => f_Likeness_countGroups_B4 cnt grp s.1 s.2) n (x1_1, x2_2)
def f_Likeness_countGroups (cnt : Int32) (grp : Nat → Int32) : Option (Int32) := Option.bind (f_Likeness_countGroups_L4 cnt grp 300 (0 : Int32) (0 : Int32)) (fun (u7, u8) => some (u7))
def f_Likeness_find_B2 (cnt : Int32) (x1_1 : Int32) (grp_2 : Nat → Int32) : Option ((Int32 × (Nat → Int32)) ⊕ (Int32 × (Nat → Int32))) := (if cnt ≤ x1_1 then some (.inr (x1_1, grp_2)) else if ix x1_1 7 = true then some (.inl ((x1_1 + 1), (upd grp_2 x1_1.toNatClampNeg (0 : Int32)))) else none)
def f_Likeness_find_L2 (cnt : Int32) (n : Nat) (x1_1 : Int32) (grp_2 : Nat → Int32) : Option (Int32 × (Nat → Int32)) := lp (fun s => f_Likeness_find_B2 cnt s.1 s.2) n (x1_1, grp_2)
theorem f_Likeness_find_L2_s (cnt : Int32) (n : Nat) (x1_1 : Int32) (grp_2 : Nat → Int32) : f_Likeness_find_L2 cnt (n + 1) x1_1 grp_2 = Option.bind (f_Likeness_find_B2 cnt x1_1 grp_2) (lpk (fun s => f_Likeness_find_L2 cnt n s.1 s.2)) := lp_s (fun s => f_Likeness_find_B2 cnt s.1 s.2) n (x1_1, grp_2)
def f_Likeness_find_B41 (cnt : Int32) (w : Nat → Nat → Int32) (tot : Nat → Int32) (rew : Nat → Int32) (grp_9 : Nat → Int32) (x2_12 : Int32) (fin_13 : Nat → Int32) : Option ((Int32 × (Nat → Int32)) ⊕ (Int32 × (Nat → Int32))) := (if cnt ≤ x2_12 then some (.inr (x2_12, fin_13)) else Option.bind (f_Likeness_leastMate cnt w tot rew grp_9 x2_12) (fun r15 => if ix x2_12 7 = true then some (.inl ((x2_12 + 1), (upd fin_13 x2_12.toNatClampNeg r15))) else none))
def f_Likeness_find_L41 (cnt : Int32) (w : Nat → Nat → Int32) (tot : Nat → Int32) (rew : Nat → Int32) (grp_9 : Nat → Int32) (n : Nat) (x2_12 : Int32) (fin_13 : Nat → Int32) : Option (Int32 × (Nat → Int32)) := lp (fun s => f_Likeness_find_B41 cnt w tot rew grp_9 s.1 s.2) n (x2_12, fin_13)
theorem f_Likeness_find_L41_s (cnt : Int32) (w : Nat → Nat → Int32) (tot : Nat → Int32) (rew : Nat → Int32) (grp_9 : Nat → Int32) (n : Nat) (x2_12 : Int32) (fin_13 : Nat → Int32) : f_Likeness_find_L41 cnt w tot rew grp_9 (n + 1) x2_12 fin_13 = Option.bind (f_Likeness_find_B41 cnt w tot rew grp_9 x2_12 fin_13) (lpk (fun s => f_Likeness_find_L41 cnt w tot rew grp_9 n s.1 s.2)) := lp_s (fun s => f_Likeness_find_B41 cnt w tot rew grp_9 s.1 s.2) n (x2_12, fin_13)
def f_Likeness_find_B71 (cnt : Int32) (u19 : Nat → Int32) (x2_20 : Int32) (grp_21 : Nat → Int32) : Option ((Int32 × (Nat → Int32)) ⊕ (Int32 × (Nat → Int32))) := (if cnt ≤ x2_20 then some (.inr (x2_20, grp_21)) else if ix x2_20 7 = true then if ix x2_20 7 = true then some (.inl ((x2_20 + 1), (upd grp_21 x2_20.toNatClampNeg (u19 x2_20.toNatClampNeg)))) else none else none)
def f_Likeness_find_L71 (cnt : Int32) (u19 : Nat → Int32) (n : Nat) (x2_20 : Int32) (grp_21 : Nat → Int32) : Option (Int32 × (Nat → Int32)) := lp (fun s => f_Likeness_find_B71 cnt u19 s.1 s.2) n (x2_20, grp_21)
theorem f_Likeness_find_L71_s (cnt : Int32) (u19 : Nat → Int32) (n : Nat) (x2_20 : Int32) (grp_21 : Nat → Int32) : f_Likeness_find_L71 cnt u19 (n + 1) x2_20 grp_21 = Option.bind (f_Likeness_find_B71 cnt u19 x2_20 grp_21) (lpk (fun s => f_Likeness_find_L71 cnt u19 n s.1 s.2)) := lp_s (fun s => f_Likeness_find_B71 cnt u19 s.1 s.2) n (x2_20, grp_21)
def f_Likeness_find_B28 (cnt : Int32) (w : Nat → Nat → Int32) (tot : Nat → Int32) (rew : Nat → Int32) (x1_8 : Int32) (grp_9 : Nat → Int32) (fin_10 : Nat → Int32) : Option ((Int32 × (Nat → Int32) × (Nat → Int32)) ⊕ (Int32 × (Nat → Int32) × (Nat → Int32))) := (if cnt < x1_8 then some (.inr (x1_8, grp_9, fin_10)) else Option.bind (f_Likeness_find_L41 cnt w tot rew grp_9 300 (0 : Int32) fin_10) (fun (u18, u19) => Option.bind (f_Likeness_find_L71 cnt u19 300 (0 : Int32) grp_9) (fun (u26, u27) => some (.inl ((x1_8 + 1), u27, u19)))))
def f_Likeness_find_L28 (cnt : Int32) (w : Nat → Nat → Int32) (tot : Nat → Int32) (rew : Nat → Int32) (n : Nat) (x1_8 : Int32) (grp_9 : Nat → Int32) (fin_10 : Nat → Int32) : Option (Int32 × (Nat → Int32) × (Nat → Int32)) := lp (fun s => f_Likeness_find_B28 cnt w tot rew s.1 s.2.1 s.2.2) n (x1_8, grp_9, fin_10)
theorem f_Likeness_find_L28_s (cnt : Int32) (w : Nat → Nat → Int32) (tot : Nat → Int32) (rew : Nat → Int32) (n : Nat) (x1_8 : Int32) (grp_9 : Nat → Int32) (fin_10 : Nat → Int32) : f_Likeness_find_L28 cnt w tot rew (n + 1) x1_8 grp_9 fin_10 = Option.bind (f_Likeness_find_B28 cnt w tot rew x1_8 grp_9 fin_10) (lpk (fun s => f_Likeness_find_L28 cnt w tot rew n s.1 s.2.1 s.2.2)) := lp_s (fun s => f_Likeness_find_B28 cnt w tot rew s.1 s.2.1 s.2.2) n (x1_8, grp_9, fin_10)
def f_Likeness_find (cnt : Int32) (w : Nat → Nat → Int32) (tot : Nat → Int32) (rew : Nat → Int32) (grp : Nat → Int32) (fin : Nat → Int32) : Option ((Nat → Int32) × (Nat → Int32)) := Option.bind (f_Likeness_find_L2 cnt 300 (0 : Int32) grp) (fun (u6, u7) => Option.bind (f_Likeness_find_L28 cnt w tot rew 300 (0 : Int32) u7 fin) (fun (u29, u30, u31) => some (u30, u31)))
def f_FirstSteps_gainByEntering_B2 (cnt : Int32) (w : Nat → Nat → Int32) (tot : Nat → Int32) (p1 : Int32) (x2_1 : Int32) (gns_2 : Nat → Int64) : Option ((Int32 × (Nat → Int64)) ⊕ (Int32 × (Nat → Int64))) := (if cnt ≤ x2_1 then some (.inr (x2_1, gns_2)) else Option.bind (f_Chain_pullInto cnt w tot x2_1 p1) (fun r4 => if ix x2_1 7 = true then some (.inl ((x2_1 + 1), (vp_updL gns_2 x2_1.toNatClampNeg (r4.toInt64)))) else none))
def f_FirstSteps_gainByEntering_L2 (cnt : Int32) (w : Nat → Nat → Int32) (tot : Nat → Int32) (p1 : Int32) (n : Nat) (x2_1 : Int32) (gns_2 : Nat → Int64) : Option (Int32 × (Nat → Int64)) := lp (fun s => f_FirstSteps_gainByEntering_B2 cnt w tot p1 s.1 s.2) n (x2_1, gns_2)
theorem f_FirstSteps_gainByEntering_L2_s (cnt : Int32) (w : Nat → Nat → Int32) (tot : Nat → Int32) (p1 : Int32) (n : Nat) (x2_1 : Int32) (gns_2 : Nat → Int64) : f_FirstSteps_gainByEntering_L2 cnt w tot p1 (n + 1) x2_1 gns_2 = Option.bind (f_FirstSteps_gainByEntering_B2 cnt w tot p1 x2_1 gns_2) (lpk (fun s => f_FirstSteps_gainByEntering_L2 cnt w tot p1 n s.1 s.2)) := lp_s (fun s => f_FirstSteps_gainByEntering_B2 cnt w tot p1 s.1 s.2) n (x2_1, gns_2)
def f_FirstSteps_gainByEntering (cnt : Int32) (w : Nat → Nat → Int32) (tot : Nat → Int32) (gns : Nat → Int64) (p1 : Int32) : Option ((Nat → Int64)) := Option.bind (f_FirstSteps_gainByEntering_L2 cnt w tot p1 300 (0 : Int32) gns) (fun (u7, u8) => some (u8))
def f_FirstSteps_gainByStep_B2 (cnt : Int32) (tot : Nat → Int32) (x1_1 : Int32) (gns_2 : Nat → Int64) : Option ((Int32 × (Nat → Int64)) ⊕ (Int32 × (Nat → Int64))) := (if cnt ≤ x1_1 then some (.inr (x1_1, gns_2)) else Option.bind (f_Chain_pullOfAll tot x1_1) (fun r4 => if ix x1_1 7 = true then some (.inl ((x1_1 + 1), (vp_updL gns_2 x1_1.toNatClampNeg (r4.toInt64)))) else none))
def f_FirstSteps_gainByStep_L2 (cnt : Int32) (tot : Nat → Int32) (n : Nat) (x1_1 : Int32) (gns_2 : Nat → Int64) : Option (Int32 × (Nat → Int64)) := lp (fun s => f_FirstSteps_gainByStep_B2 cnt tot s.1 s.2) n (x1_1, gns_2)
theorem f_FirstSteps_gainByStep_L2_s (cnt : Int32) (tot : Nat → Int32) (n : Nat) (x1_1 : Int32) (gns_2 : Nat → Int64) : f_FirstSteps_gainByStep_L2 cnt tot (n + 1) x1_1 gns_2 = Option.bind (f_FirstSteps_gainByStep_B2 cnt tot x1_1 gns_2) (lpk (fun s => f_FirstSteps_gainByStep_L2 cnt tot n s.1 s.2)) := lp_s (fun s => f_FirstSteps_gainByStep_B2 cnt tot s.1 s.2) n (x1_1, gns_2)
def f_FirstSteps_gainByStep (cnt : Int32) (tot : Nat → Int32) (gns : Nat → Int64) : Option ((Nat → Int64)) := Option.bind (f_FirstSteps_gainByStep_L2 cnt tot 300 (0 : Int32) gns) (fun (u7, u8) => some (u8))
def f_FirstSteps_gainByBeingIn_B2 (cnt : Int32) (tot : Nat → Int32) (p1 : Int32) (x2_1 : Int32) (gns_2 : Nat → Int64) : Option ((Int32 × (Nat → Int64)) ⊕ (Int32 × (Nat → Int64))) := (if cnt ≤ x2_1 then some (.inr (x2_1, gns_2)) else (if x2_1 = p1 then Option.bind (f_Chain_pullOfAll tot x2_1) (fun r6 => if ix x2_1 7 = true then some (.inl ((x2_1 + 1), (vp_updL gns_2 x2_1.toNatClampNeg (r6.toInt64)))) else none) else if ix x2_1 7 = true then some (.inl ((x2_1 + 1), (vp_updL gns_2 x2_1.toNatClampNeg (0 : Int64)))) else none))
def f_FirstSteps_gainByBeingIn_L2 (cnt : Int32) (tot : Nat → Int32) (p1 : Int32) (n : Nat) (x2_1 : Int32) (gns_2 : Nat → Int64) : Option (Int32 × (Nat → Int64)) := lp (fun s => f_FirstSteps_gainByBeingIn_B2 cnt tot p1 s.1 s.2) n (x2_1, gns_2)
theorem f_FirstSteps_gainByBeingIn_L2_s (cnt : Int32) (tot : Nat → Int32) (p1 : Int32) (n : Nat) (x2_1 : Int32) (gns_2 : Nat → Int64) : f_FirstSteps_gainByBeingIn_L2 cnt tot p1 (n + 1) x2_1 gns_2 = Option.bind (f_FirstSteps_gainByBeingIn_B2 cnt tot p1 x2_1 gns_2) (lpk (fun s => f_FirstSteps_gainByBeingIn_L2 cnt tot p1 n s.1 s.2)) := lp_s (fun s => f_FirstSteps_gainByBeingIn_B2 cnt tot p1 s.1 s.2) n (x2_1, gns_2)
def f_FirstSteps_gainByBeingIn (cnt : Int32) (tot : Nat → Int32) (gns : Nat → Int64) (p1 : Int32) : Option ((Nat → Int64)) := Option.bind (f_FirstSteps_gainByBeingIn_L2 cnt tot p1 300 (0 : Int32) gns) (fun (u9, u10) => some (u10))
def f_FirstSteps_gainByReward_B2 (cnt : Int32) (tot : Nat → Int32) (rew : Nat → Int32) (x1_1 : Int32) (gns_2 : Nat → Int64) : Option ((Int32 × (Nat → Int64)) ⊕ (Int32 × (Nat → Int64))) := (if cnt ≤ x1_1 then some (.inr (x1_1, gns_2)) else Option.bind (f_Chain_pullOfAll tot x1_1) (fun r4 => if ix x1_1 7 = true then if ix x1_1 7 = true then some (.inl ((x1_1 + 1), (vp_updL gns_2 x1_1.toNatClampNeg ((r4.toInt64) * ((rew x1_1.toNatClampNeg).toInt64))))) else none else none))
def f_FirstSteps_gainByReward_L2 (cnt : Int32) (tot : Nat → Int32) (rew : Nat → Int32) (n : Nat) (x1_1 : Int32) (gns_2 : Nat → Int64) : Option (Int32 × (Nat → Int64)) := lp (fun s => f_FirstSteps_gainByReward_B2 cnt tot rew s.1 s.2) n (x1_1, gns_2)
theorem f_FirstSteps_gainByReward_L2_s (cnt : Int32) (tot : Nat → Int32) (rew : Nat → Int32) (n : Nat) (x1_1 : Int32) (gns_2 : Nat → Int64) : f_FirstSteps_gainByReward_L2 cnt tot rew (n + 1) x1_1 gns_2 = Option.bind (f_FirstSteps_gainByReward_B2 cnt tot rew x1_1 gns_2) (lpk (fun s => f_FirstSteps_gainByReward_L2 cnt tot rew n s.1 s.2)) := lp_s (fun s => f_FirstSteps_gainByReward_B2 cnt tot rew s.1 s.2) n (x1_1, gns_2)
def f_FirstSteps_gainByReward (cnt : Int32) (tot : Nat → Int32) (rew : Nat → Int32) (gns : Nat → Int64) : Option ((Nat → Int64)) := Option.bind (f_FirstSteps_gainByReward_L2 cnt tot rew 300 (0 : Int32) gns) (fun (u8, u9) => some (u9))
def f_FirstSteps_writeRow_B9 (w : Nat → Nat → Int32) (tot : Nat → Int32) (rst : Nat → Int32) (last : Int32) (p1 : Int32) (y2_2 : Int32) (x3_3 : Int32) (rws_4 : Nat → Nat → Int64) : Option ((Int32 × (Nat → Nat → Int64)) ⊕ (Int32 × (Nat → Nat → Int64))) := (if last ≤ x3_3 then some (.inr (x3_3, rws_4)) else if ix p1 8 = true then if ix x3_3 8 = true then Option.bind (f_Chain_pull w tot y2_2 (rst x3_3.toNatClampNeg)) (fun r8 => if ix x3_3 9 = true then some (.inl ((x3_3 + 1), (va_up rws_4 p1.toNatClampNeg (vp_updL (rws_4 p1.toNatClampNeg) x3_3.toNatClampNeg ((-r8).toInt64))))) else none) else none else none)
def f_FirstSteps_writeRow_L9 (w : Nat → Nat → Int32) (tot : Nat → Int32) (rst : Nat → Int32) (last : Int32) (p1 : Int32) (y2_2 : Int32) (n : Nat) (x3_3 : Int32) (rws_4 : Nat → Nat → Int64) : Option (Int32 × (Nat → Nat → Int64)) := lp (fun s => f_FirstSteps_writeRow_B9 w tot rst last p1 y2_2 s.1 s.2) n (x3_3, rws_4)
theorem f_FirstSteps_writeRow_L9_s (w : Nat → Nat → Int32) (tot : Nat → Int32) (rst : Nat → Int32) (last : Int32) (p1 : Int32) (y2_2 : Int32) (n : Nat) (x3_3 : Int32) (rws_4 : Nat → Nat → Int64) : f_FirstSteps_writeRow_L9 w tot rst last p1 y2_2 (n + 1) x3_3 rws_4 = Option.bind (f_FirstSteps_writeRow_B9 w tot rst last p1 y2_2 x3_3 rws_4) (lpk (fun s => f_FirstSteps_writeRow_L9 w tot rst last p1 y2_2 n s.1 s.2)) := lp_s (fun s => f_FirstSteps_writeRow_B9 w tot rst last p1 y2_2 s.1 s.2) n (x3_3, rws_4)
def f_FirstSteps_writeRow (w : Nat → Nat → Int32) (tot : Nat → Int32) (gns : Nat → Int64) (rst : Nat → Int32) (rws : Nat → Nat → Int64) (last : Int32) (p1 : Int32) : Option ((Nat → Nat → Int64)) := if ix p1 8 = true then Option.bind (f_FirstSteps_writeRow_L9 w tot rst last p1 (rst p1.toNatClampNeg) 300 (0 : Int32) rws) (fun (u11, u12) => if ix p1 8 = true then if ix last 9 = true then if ix p1 8 = true then if ix p1 9 = true then Option.bind (f_Chain_pullOfAll tot (rst p1.toNatClampNeg)) (fun r17 => if ix p1 9 = true then if ix p1 8 = true then if ix (rst p1.toNatClampNeg) 7 = true then if ix (last + (1 : Int32)) 9 = true then some ((va_up (va_up (va_up u12 p1.toNatClampNeg (vp_updL (u12 p1.toNatClampNeg) last.toNatClampNeg (0 : Int64))) p1.toNatClampNeg (vp_updL ((va_up u12 p1.toNatClampNeg (vp_updL (u12 p1.toNatClampNeg) last.toNatClampNeg (0 : Int64))) p1.toNatClampNeg) p1.toNatClampNeg (((va_up u12 p1.toNatClampNeg (vp_updL (u12 p1.toNatClampNeg) last.toNatClampNeg (0 : Int64))) p1.toNatClampNeg p1.toNatClampNeg) + (r17.toInt64)))) p1.toNatClampNeg (vp_updL ((va_up (va_up u12 p1.toNatClampNeg (vp_updL (u12 p1.toNatClampNeg) last.toNatClampNeg (0 : Int64))) p1.toNatClampNeg (vp_updL ((va_up u12 p1.toNatClampNeg (vp_updL (u12 p1.toNatClampNeg) last.toNatClampNeg (0 : Int64))) p1.toNatClampNeg) p1.toNatClampNeg (((va_up u12 p1.toNatClampNeg (vp_updL (u12 p1.toNatClampNeg) last.toNatClampNeg (0 : Int64))) p1.toNatClampNeg p1.toNatClampNeg) + (r17.toInt64)))) p1.toNatClampNeg) (last + (1 : Int32)).toNatClampNeg (gns (rst p1.toNatClampNeg).toNatClampNeg)))) else none else none else none else none) else none else none else none else none) else none
def f_FirstSteps_reduceRow_B22 (last : Int32) (p1 : Int32) (p2 : Int32) (p3 : Int64) (y5_4 : Int64) (x7_5 : Int32) (rws_6 : Nat → Nat → Int64) : Option ((Int32 × (Nat → Nat → Int64)) ⊕ (Int32 × (Nat → Nat → Int64))) := (if (last + (1 : Int32)) < x7_5 then some (.inr (x7_5, rws_6)) else if ix p1 8 = true then if ix x7_5 9 = true then if ix p2 8 = true then if ix p2 9 = true then if ix p2 8 = true then if ix x7_5 9 = true then if ix p1 8 = true then if ¬ p3 = 0 then if ix x7_5 9 = true then some (.inl ((x7_5 + 1), (va_up rws_6 p1.toNatClampNeg (vp_updL (rws_6 p1.toNatClampNeg) x7_5.toNatClampNeg ((((rws_6 p1.toNatClampNeg x7_5.toNatClampNeg) * (rws_6 p2.toNatClampNeg p2.toNatClampNeg)) - (y5_4 * (rws_6 p2.toNatClampNeg x7_5.toNatClampNeg))) / p3))))) else none else none else none else none else none else none else none else none else none)
def f_FirstSteps_reduceRow_L22 (last : Int32) (p1 : Int32) (p2 : Int32) (p3 : Int64) (y5_4 : Int64) (n : Nat) (x7_5 : Int32) (rws_6 : Nat → Nat → Int64) : Option (Int32 × (Nat → Nat → Int64)) := lp (fun s => f_FirstSteps_reduceRow_B22 last p1 p2 p3 y5_4 s.1 s.2) n (x7_5, rws_6)
theorem f_FirstSteps_reduceRow_L22_s (last : Int32) (p1 : Int32) (p2 : Int32) (p3 : Int64) (y5_4 : Int64) (n : Nat) (x7_5 : Int32) (rws_6 : Nat → Nat → Int64) : f_FirstSteps_reduceRow_L22 last p1 p2 p3 y5_4 (n + 1) x7_5 rws_6 = Option.bind (f_FirstSteps_reduceRow_B22 last p1 p2 p3 y5_4 x7_5 rws_6) (lpk (fun s => f_FirstSteps_reduceRow_L22 last p1 p2 p3 y5_4 n s.1 s.2)) := lp_s (fun s => f_FirstSteps_reduceRow_B22 last p1 p2 p3 y5_4 s.1 s.2) n (x7_5, rws_6)
def f_FirstSteps_reduceRow (rws : Nat → Nat → Int64) (last : Int32) (p1 : Int32) (p2 : Int32) (p3 : Int64) : Option ((Nat → Nat → Int64)) := (if (lg_cmp p3 (0 : Int64)) = 0 then some (rws) else if ix p1 8 = true then if ix p2 9 = true then Option.bind (f_FirstSteps_reduceRow_L22 last p1 p2 p3 (rws p1.toNatClampNeg p2.toNatClampNeg) 300 (p2 + (1 : Int32)) rws) (fun (u18, u19) => some (u19)) else none else none)
def f_FirstSteps_eliminate_B17 (last : Int32) (x1_1 : Int64) (x3_2 : Int32) (x4_5 : Int32) (rws_6 : Nat → Nat → Int64) : Option ((Int32 × (Nat → Nat → Int64)) ⊕ (Int32 × (Nat → Nat → Int64))) := (if last < x4_5 then some (.inr (x4_5, rws_6)) else Option.bind (f_FirstSteps_reduceRow rws_6 last x4_5 x3_2 x1_1) (fun rws_8 => some (.inl ((x4_5 + 1), rws_8))))
def f_FirstSteps_eliminate_L17 (last : Int32) (x1_1 : Int64) (x3_2 : Int32) (n : Nat) (x4_5 : Int32) (rws_6 : Nat → Nat → Int64) : Option (Int32 × (Nat → Nat → Int64)) := lp (fun s => f_FirstSteps_eliminate_B17 last x1_1 x3_2 s.1 s.2) n (x4_5, rws_6)
theorem f_FirstSteps_eliminate_L17_s (last : Int32) (x1_1 : Int64) (x3_2 : Int32) (n : Nat) (x4_5 : Int32) (rws_6 : Nat → Nat → Int64) : f_FirstSteps_eliminate_L17 last x1_1 x3_2 (n + 1) x4_5 rws_6 = Option.bind (f_FirstSteps_eliminate_B17 last x1_1 x3_2 x4_5 rws_6) (lpk (fun s => f_FirstSteps_eliminate_L17 last x1_1 x3_2 n s.1 s.2)) := lp_s (fun s => f_FirstSteps_eliminate_B17 last x1_1 x3_2 s.1 s.2) n (x4_5, rws_6)
def f_FirstSteps_eliminate_B4 (last : Int32) (x1_1 : Int64) (x3_2 : Int32) (rws_3 : Nat → Nat → Int64) : Option ((Int64 × Int32 × (Nat → Nat → Int64)) ⊕ (Int64 × Int32 × (Nat → Nat → Int64))) := (if last ≤ x3_2 then some (.inr (x1_1, x3_2, rws_3)) else Option.bind (f_FirstSteps_eliminate_L17 last x1_1 x3_2 300 (x3_2 + (1 : Int32)) rws_3) (fun (u10, u11) => if ix x3_2 8 = true then if ix x3_2 9 = true then some (.inl ((u11 x3_2.toNatClampNeg x3_2.toNatClampNeg), (x3_2 + 1), u11)) else none else none))
def f_FirstSteps_eliminate_L4 (last : Int32) (n : Nat) (x1_1 : Int64) (x3_2 : Int32) (rws_3 : Nat → Nat → Int64) : Option (Int64 × Int32 × (Nat → Nat → Int64)) := lp (fun s => f_FirstSteps_eliminate_B4 last s.1 s.2.1 s.2.2) n (x1_1, x3_2, rws_3)
theorem f_FirstSteps_eliminate_L4_s (last : Int32) (n : Nat) (x1_1 : Int64) (x3_2 : Int32) (rws_3 : Nat → Nat → Int64) : f_FirstSteps_eliminate_L4 last (n + 1) x1_1 x3_2 rws_3 = Option.bind (f_FirstSteps_eliminate_B4 last x1_1 x3_2 rws_3) (lpk (fun s => f_FirstSteps_eliminate_L4 last n s.1 s.2.1 s.2.2)) := lp_s (fun s => f_FirstSteps_eliminate_B4 last s.1 s.2.1 s.2.2) n (x1_1, x3_2, rws_3)
def f_FirstSteps_eliminate (rws : Nat → Nat → Int64) (last : Int32) : Option ((Nat → Nat → Int64)) := Option.bind (f_FirstSteps_eliminate_L4 last 300 (1 : Int64) (0 : Int32) rws) (fun (u15, u16, u17) => some (u17))
def f_FirstSteps_solveA_B8 (cnt : Int32) (p2 : Int32) (x4_1 : Int32) (rst_2 : Nat → Int32) (last_3 : Int32) : Option ((Int32 × (Nat → Int32) × Int32) ⊕ (Int32 × (Nat → Int32) × Int32)) := (if cnt ≤ x4_1 then some (.inr (x4_1, rst_2, last_3)) else Option.bind (f_holds p2 x4_1) (fun r5 => (if r5 = 0 then some (.inl ((x4_1 + 1), rst_2, last_3)) else if ix last_3 8 = true then some (.inl ((x4_1 + 1), (upd rst_2 last_3.toNatClampNeg x4_1), (last_3 + (1 : Int32)))) else none)))
def f_FirstSteps_solveA_L8 (cnt : Int32) (p2 : Int32) (n : Nat) (x4_1 : Int32) (rst_2 : Nat → Int32) (last_3 : Int32) : Option (Int32 × (Nat → Int32) × Int32) := lp (fun s => f_FirstSteps_solveA_B8 cnt p2 s.1 s.2.1 s.2.2) n (x4_1, rst_2, last_3)
theorem f_FirstSteps_solveA_L8_s (cnt : Int32) (p2 : Int32) (n : Nat) (x4_1 : Int32) (rst_2 : Nat → Int32) (last_3 : Int32) : f_FirstSteps_solveA_L8 cnt p2 (n + 1) x4_1 rst_2 last_3 = Option.bind (f_FirstSteps_solveA_B8 cnt p2 x4_1 rst_2 last_3) (lpk (fun s => f_FirstSteps_solveA_L8 cnt p2 n s.1 s.2.1 s.2.2)) := lp_s (fun s => f_FirstSteps_solveA_B8 cnt p2 s.1 s.2.1 s.2.2) n (x4_1, rst_2, last_3)
def f_FirstSteps_solveA_B69 (w : Nat → Nat → Int32) (tot : Nat → Int32) (gns : Nat → Int64) (rst_14 : Nat → Int32) (u11 : Int32) (x4_13 : Int32) (rws_15 : Nat → Nat → Int64) : Option ((Int32 × (Nat → Nat → Int64)) ⊕ (Int32 × (Nat → Nat → Int64))) := (if u11 < x4_13 then some (.inr (x4_13, rws_15)) else Option.bind (f_FirstSteps_writeRow w tot gns rst_14 rws_15 u11 x4_13) (fun rws_17 => some (.inl ((x4_13 + 1), rws_17))))
def f_FirstSteps_solveA_L69 (w : Nat → Nat → Int32) (tot : Nat → Int32) (gns : Nat → Int64) (rst_14 : Nat → Int32) (u11 : Int32) (n : Nat) (x4_13 : Int32) (rws_15 : Nat → Nat → Int64) : Option (Int32 × (Nat → Nat → Int64)) := lp (fun s => f_FirstSteps_solveA_B69 w tot gns rst_14 u11 s.1 s.2) n (x4_13, rws_15)
theorem f_FirstSteps_solveA_L69_s (w : Nat → Nat → Int32) (tot : Nat → Int32) (gns : Nat → Int64) (rst_14 : Nat → Int32) (u11 : Int32) (n : Nat) (x4_13 : Int32) (rws_15 : Nat → Nat → Int64) : f_FirstSteps_solveA_L69 w tot gns rst_14 u11 (n + 1) x4_13 rws_15 = Option.bind (f_FirstSteps_solveA_B69 w tot gns rst_14 u11 x4_13 rws_15) (lpk (fun s => f_FirstSteps_solveA_L69 w tot gns rst_14 u11 n s.1 s.2)) := lp_s (fun s => f_FirstSteps_solveA_B69 w tot gns rst_14 u11 s.1 s.2) n (x4_13, rws_15)
def f_FirstSteps_solveA (cnt : Int32) (w : Nat → Nat → Int32) (tot : Nat → Int32) (gns : Nat → Int64) (rst : Nat → Int32) (rws : Nat → Nat → Int64) (p1 : Int32) (p2 : Int32) : Option ((Nat → Int32) × (Nat → Nat → Int64) × Int32 × Int64 × Int64) := Option.bind (f_FirstSteps_solveA_L8 cnt p2 300 (0 : Int32) rst (0 : Int32)) (fun (u9, u10, u11) => if ix u11 8 = true then Option.bind (f_FirstSteps_solveA_L69 w tot gns (upd u10 u11.toNatClampNeg p1) u11 300 (0 : Int32) rws) (fun (u19, u20) => Option.bind (f_FirstSteps_eliminate u20 u11) (fun rws_21 => if ix u11 8 = true then if ix (u11 + (1 : Int32)) 9 = true then if ix u11 8 = true then if ix u11 9 = true then Option.bind (f_Fraction_put (rws_21 u11.toNatClampNeg (u11 + (1 : Int32)).toNatClampNeg) (rws_21 u11.toNatClampNeg u11.toNatClampNeg)) (fun (u_26, lo_27) => some ((upd u10 u11.toNatClampNeg p1), rws_21, u11, u_26, lo_27)) else none else none else none else none)) else none)
def f_FirstSteps_solveM_B8 (cnt : Int32) (p2 : Int32) (x4_1 : Int32) (rst_2 : Nat → Int32) (last_3 : Int32) : Option ((Int32 × (Nat → Int32) × Int32) ⊕ (Int32 × (Nat → Int32) × Int32)) := (if cnt ≤ x4_1 then some (.inr (x4_1, rst_2, last_3)) else Option.bind (f_holds p2 x4_1) (fun r5 => (if r5 = 0 then some (.inl ((x4_1 + 1), rst_2, last_3)) else if ix last_3 8 = true then some (.inl ((x4_1 + 1), (upd rst_2 last_3.toNatClampNeg x4_1), (last_3 + (1 : Int32)))) else none)))
def f_FirstSteps_solveM_L8 (cnt : Int32) (p2 : Int32) (n : Nat) (x4_1 : Int32) (rst_2 : Nat → Int32) (last_3 : Int32) : Option (Int32 × (Nat → Int32) × Int32) := lp (fun s => f_FirstSteps_solveM_B8 cnt p2 s.1 s.2.1 s.2.2) n (x4_1, rst_2, last_3)
theorem f_FirstSteps_solveM_L8_s (cnt : Int32) (p2 : Int32) (n : Nat) (x4_1 : Int32) (rst_2 : Nat → Int32) (last_3 : Int32) : f_FirstSteps_solveM_L8 cnt p2 (n + 1) x4_1 rst_2 last_3 = Option.bind (f_FirstSteps_solveM_B8 cnt p2 x4_1 rst_2 last_3) (lpk (fun s => f_FirstSteps_solveM_L8 cnt p2 n s.1 s.2.1 s.2.2)) := lp_s (fun s => f_FirstSteps_solveM_B8 cnt p2 s.1 s.2.1 s.2.2) n (x4_1, rst_2, last_3)
def f_FirstSteps_solveM_B69 (w : Nat → Nat → Int32) (tot : Nat → Int32) (gns : Nat → Int64) (rst_14 : Nat → Int32) (u11 : Int32) (x4_13 : Int32) (rws_15 : Nat → Nat → Int64) : Option ((Int32 × (Nat → Nat → Int64)) ⊕ (Int32 × (Nat → Nat → Int64))) := (if u11 < x4_13 then some (.inr (x4_13, rws_15)) else Option.bind (f_FirstSteps_writeRow w tot gns rst_14 rws_15 u11 x4_13) (fun rws_17 => some (.inl ((x4_13 + 1), rws_17))))
def f_FirstSteps_solveM_L69 (w : Nat → Nat → Int32) (tot : Nat → Int32) (gns : Nat → Int64) (rst_14 : Nat → Int32) (u11 : Int32) (n : Nat) (x4_13 : Int32) (rws_15 : Nat → Nat → Int64) : Option (Int32 × (Nat → Nat → Int64)) := lp (fun s => f_FirstSteps_solveM_B69 w tot gns rst_14 u11 s.1 s.2) n (x4_13, rws_15)
theorem f_FirstSteps_solveM_L69_s (w : Nat → Nat → Int32) (tot : Nat → Int32) (gns : Nat → Int64) (rst_14 : Nat → Int32) (u11 : Int32) (n : Nat) (x4_13 : Int32) (rws_15 : Nat → Nat → Int64) : f_FirstSteps_solveM_L69 w tot gns rst_14 u11 (n + 1) x4_13 rws_15 = Option.bind (f_FirstSteps_solveM_B69 w tot gns rst_14 u11 x4_13 rws_15) (lpk (fun s => f_FirstSteps_solveM_L69 w tot gns rst_14 u11 n s.1 s.2)) := lp_s (fun s => f_FirstSteps_solveM_B69 w tot gns rst_14 u11 s.1 s.2) n (x4_13, rws_15)
def f_FirstSteps_solveM (cnt : Int32) (w : Nat → Nat → Int32) (tot : Nat → Int32) (gns : Nat → Int64) (rst : Nat → Int32) (rws : Nat → Nat → Int64) (p1 : Int32) (p2 : Int32) : Option ((Nat → Int32) × (Nat → Nat → Int64) × Int32 × Int64 × Int64) := Option.bind (f_FirstSteps_solveM_L8 cnt p2 300 (0 : Int32) rst (0 : Int32)) (fun (u9, u10, u11) => if ix u11 8 = true then Option.bind (f_FirstSteps_solveM_L69 w tot gns (upd u10 u11.toNatClampNeg p1) u11 300 (0 : Int32) rws) (fun (u19, u20) => Option.bind (f_FirstSteps_eliminate u20 u11) (fun rws_21 => if ix u11 8 = true then if ix (u11 + (1 : Int32)) 9 = true then if ix u11 8 = true then if ix u11 9 = true then Option.bind (f_Fraction_put (rws_21 u11.toNatClampNeg (u11 + (1 : Int32)).toNatClampNeg) (rws_21 u11.toNatClampNeg u11.toNatClampNeg)) (fun (u_26, lo_27) => some ((upd u10 u11.toNatClampNeg p1), rws_21, u11, u_26, lo_27)) else none else none else none else none)) else none)
def f_Spread_start_B2 (p1 : Int32) (x2_1 : Int32) (now_2 : Nat → Int64) : Option ((Int32 × (Nat → Int64)) ⊕ (Int32 × (Nat → Int64))) := (if (7 : Int32) ≤ x2_1 then some (.inr (x2_1, now_2)) else (if x2_1 = p1 then if ix x2_1 7 = true then some (.inl ((x2_1 + 1), (vp_updL now_2 x2_1.toNatClampNeg (1 : Int64)))) else none else if ix x2_1 7 = true then some (.inl ((x2_1 + 1), (vp_updL now_2 x2_1.toNatClampNeg (0 : Int64)))) else none))
def f_Spread_start_L2 (p1 : Int32) (n : Nat) (x2_1 : Int32) (now_2 : Nat → Int64) : Option (Int32 × (Nat → Int64)) := lp (fun s => f_Spread_start_B2 p1 s.1 s.2) n (x2_1, now_2)
theorem f_Spread_start_L2_s (p1 : Int32) (n : Nat) (x2_1 : Int32) (now_2 : Nat → Int64) : f_Spread_start_L2 p1 (n + 1) x2_1 now_2 = Option.bind (f_Spread_start_B2 p1 x2_1 now_2) (lpk (fun s => f_Spread_start_L2 p1 n s.1 s.2)) := lp_s (fun s => f_Spread_start_B2 p1 s.1 s.2) n (x2_1, now_2)
def f_Spread_start (now : Nat → Int64) (p1 : Int32) : Option ((Nat → Int64) × Int64) := Option.bind (f_Spread_start_L2 p1 300 (0 : Int32) now) (fun (u8, u9) => some (u9, (1 : Int64)))
def f_Spread_goOn_B18 (cnt : Int32) (w : Nat → Nat → Int32) (tot : Nat → Int32) (now : Nat → Int64) (x1_1 : Int32) (x2_4 : Int64) (x4_5 : Int32) : Option ((Int64 × Int32) ⊕ (Int64 × Int32)) := (if cnt ≤ x4_5 then some (.inr (x2_4, x4_5)) else if ix x4_5 7 = true then Option.bind (f_Chain_pullOfAll tot x4_5) (fun r8 => if ¬ (r8.toInt64) = 0 then Option.bind (f_Chain_pull w tot x4_5 x1_1) (fun r10 => some (.inl ((x2_4 + (((now x4_5.toNatClampNeg) * ((27720 : Int64) / (r8.toInt64))) * (r10.toInt64))), (x4_5 + 1)))) else none) else none)
def f_Spread_goOn_L18 (cnt : Int32) (w : Nat → Nat → Int32) (tot : Nat → Int32) (now : Nat → Int64) (x1_1 : Int32) (n : Nat) (x2_4 : Int64) (x4_5 : Int32) : Option (Int64 × Int32) := lp (fun s => f_Spread_goOn_B18 cnt w tot now x1_1 s.1 s.2) n (x2_4, x4_5)
theorem f_Spread_goOn_L18_s (cnt : Int32) (w : Nat → Nat → Int32) (tot : Nat → Int32) (now : Nat → Int64) (x1_1 : Int32) (n : Nat) (x2_4 : Int64) (x4_5 : Int32) : f_Spread_goOn_L18 cnt w tot now x1_1 (n + 1) x2_4 x4_5 = Option.bind (f_Spread_goOn_B18 cnt w tot now x1_1 x2_4 x4_5) (lpk (fun s => f_Spread_goOn_L18 cnt w tot now x1_1 n s.1 s.2)) := lp_s (fun s => f_Spread_goOn_B18 cnt w tot now x1_1 s.1 s.2) n (x2_4, x4_5)
def f_Spread_goOn_B2 (cnt : Int32) (w : Nat → Nat → Int32) (tot : Nat → Int32) (now : Nat → Int64) (x1_1 : Int32) (nxt_2 : Nat → Int64) : Option ((Int32 × (Nat → Int64)) ⊕ (Int32 × (Nat → Int64))) := (if cnt ≤ x1_1 then some (.inr (x1_1, nxt_2)) else Option.bind (f_Spread_goOn_L18 cnt w tot now x1_1 300 (0 : Int64) (0 : Int32)) (fun (u12, u13) => if ix x1_1 7 = true then some (.inl ((x1_1 + 1), (vp_updL nxt_2 x1_1.toNatClampNeg u12))) else none))
def f_Spread_goOn_L2 (cnt : Int32) (w : Nat → Nat → Int32) (tot : Nat → Int32) (now : Nat → Int64) (n : Nat) (x1_1 : Int32) (nxt_2 : Nat → Int64) : Option (Int32 × (Nat → Int64)) := lp (fun s => f_Spread_goOn_B2 cnt w tot now s.1 s.2) n (x1_1, nxt_2)
theorem f_Spread_goOn_L2_s (cnt : Int32) (w : Nat → Nat → Int32) (tot : Nat → Int32) (now : Nat → Int64) (n : Nat) (x1_1 : Int32) (nxt_2 : Nat → Int64) : f_Spread_goOn_L2 cnt w tot now (n + 1) x1_1 nxt_2 = Option.bind (f_Spread_goOn_B2 cnt w tot now x1_1 nxt_2) (lpk (fun s => f_Spread_goOn_L2 cnt w tot now n s.1 s.2)) := lp_s (fun s => f_Spread_goOn_B2 cnt w tot now s.1 s.2) n (x1_1, nxt_2)
def f_Spread_goOn_B88 (cnt : Int32) (u17 : Nat → Int64) (x1_18 : Int32) (now_19 : Nat → Int64) : Option ((Int32 × (Nat → Int64)) ⊕ (Int32 × (Nat → Int64))) := (if cnt ≤ x1_18 then some (.inr (x1_18, now_19)) else if ix x1_18 7 = true then if ix x1_18 7 = true then some (.inl ((x1_18 + 1), (vp_updL now_19 x1_18.toNatClampNeg (u17 x1_18.toNatClampNeg)))) else none else none)
def f_Spread_goOn_L88 (cnt : Int32) (u17 : Nat → Int64) (n : Nat) (x1_18 : Int32) (now_19 : Nat → Int64) : Option (Int32 × (Nat → Int64)) := lp (fun s => f_Spread_goOn_B88 cnt u17 s.1 s.2) n (x1_18, now_19)
theorem f_Spread_goOn_L88_s (cnt : Int32) (u17 : Nat → Int64) (n : Nat) (x1_18 : Int32) (now_19 : Nat → Int64) : f_Spread_goOn_L88 cnt u17 (n + 1) x1_18 now_19 = Option.bind (f_Spread_goOn_B88 cnt u17 x1_18 now_19) (lpk (fun s => f_Spread_goOn_L88 cnt u17 n s.1 s.2)) := lp_s (fun s => f_Spread_goOn_B88 cnt u17 s.1 s.2) n (x1_18, now_19)
def f_Spread_goOn (cnt : Int32) (w : Nat → Nat → Int32) (tot : Nat → Int32) (now : Nat → Int64) (nxt : Nat → Int64) (whl : Int64) : Option ((Nat → Int64) × (Nat → Int64) × Int64) := Option.bind (f_Spread_goOn_L2 cnt w tot now 300 (0 : Int32) nxt) (fun (u16, u17) => Option.bind (f_Spread_goOn_L88 cnt u17 300 (0 : Int32) now) (fun (u24, u25) => some (u25, u17, (whl * (27720 : Int64)))))
def f_CS_answerOddsToMeet (cnt : Int32) (w : Nat → Nat → Int32) (tot : Nat → Int32) (gns : Nat → Int64) (rst : Nat → Int32) (rws : Nat → Nat → Int64) (last : Int32) (p1 : Int32) (p2 : Int32) (p3 : Int32) : Option ((Nat → Int64) × (Nat → Int32) × (Nat → Nat → Int64) × Int32 × Int64 × Int64) := Option.bind (f_Ways_leadingTo cnt w tot p2 p3) (fun r1 => Option.bind (f_holds p2 p1) (fun r2 => (if r2 = 0 then Option.bind (f_holds r1 p1) (fun r4 => (if r4 = 0 then Option.bind (f_Fraction_put (0 : Int64) (1 : Int64)) (fun (u_12, lo_13) => some (gns, rst, rws, last, u_12, lo_13)) else Option.bind (f_FirstSteps_gainByEntering cnt w tot gns p2) (fun gns_6 => Option.bind (f_FirstSteps_solveA cnt w tot gns_6 rst rws p1 (r1 &&& (p2 ^^^ (-1 : Int32)))) (fun (rst_7, rws_8, last_9, au_10, al_11) => some (gns_6, rst_7, rws_8, last_9, au_10, al_11))))) else Option.bind (f_Fraction_put (1 : Int64) (1 : Int64)) (fun (u_14, lo_15) => some (gns, rst, rws, last, u_14, lo_15)))))
def f_CS_clear (w : Nat → Nat → Int32) (tot : Nat → Int32) (rew : Nat → Int32) : Option (Int32 × (Nat → Nat → Int32) × (Nat → Int32) × (Nat → Int32) × Int64 × Int64) := Option.bind (f_Chain_removeAll w tot rew) (fun (cnt_1, w_2, tot_3, rew_4) => Option.bind (f_Fraction_put (0 : Int64) (1 : Int64)) (fun (u_5, lo_6) => some (cnt_1, w_2, tot_3, rew_4, u_5, lo_6)))
def f_CS_state (cnt : Int32) : Option (Int32 × Int32) := (if cnt < (7 : Int32) then some (((cnt + (1 : Int32)) - (1 : Int32)), (cnt + (1 : Int32))) else some ((-4 : Int32), cnt))
def f_CS_arc (cnt : Int32) (w : Nat → Nat → Int32) (tot : Nat → Int32) (p1 : Int32) (p2 : Int32) (p3 : Int32) : Option (Int32 × (Nat → Nat → Int32) × (Nat → Int32)) := Option.bind (f_Chain_has cnt p1) (fun r1 => (if r1 = 0 then some ((-1 : Int32), w, tot) else Option.bind (f_Chain_has cnt p2) (fun r3 => (if r3 = 0 then some ((-1 : Int32), w, tot) else (if p3 < 0 then some ((-2 : Int32), w, tot) else (if p3 ≤ (9 : Int32) then if ix p1 7 = true then if ix p2 7 = true then if ix p1 7 = true then (if (((tot p1.toNatClampNeg) - (w p1.toNatClampNeg p2.toNatClampNeg)) + p3) ≤ (12 : Int32) then if ix p1 7 = true then if ix p2 7 = true then if ix p1 7 = true then some ((w p1.toNatClampNeg p2.toNatClampNeg), (va_up w p1.toNatClampNeg (upd (w p1.toNatClampNeg) p2.toNatClampNeg p3)), (upd tot p1.toNatClampNeg (((tot p1.toNatClampNeg) - (w p1.toNatClampNeg p2.toNatClampNeg)) + p3))) else none else none else none else some ((-2 : Int32), w, tot)) else none else none else none else some ((-2 : Int32), w, tot)))))))
def f_CS_reward (cnt : Int32) (rew : Nat → Int32) (p1 : Int32) (p2 : Int32) : Option (Int32 × (Nat → Int32)) := Option.bind (f_Chain_has cnt p1) (fun r1 => (if r1 = 0 then some ((-1 : Int32), rew) else (if p2 < (-100 : Int32) then some ((-2 : Int32), rew) else (if p2 ≤ (100 : Int32) then if ix p1 7 = true then if ix p1 7 = true then some (((rew p1.toNatClampNeg) + (100 : Int32)), (upd rew p1.toNatClampNeg p2)) else none else none else some ((-2 : Int32), rew)))))
def f_CS_part (cnt : Int32) (w : Nat → Nat → Int32) (tot : Nat → Int32) (p1 : Int32) : Option (Int32) := Option.bind (f_Chain_has cnt p1) (fun r1 => (if r1 = 0 then some ((-1 : Int32)) else Option.bind (f_Ways_leastOfPart cnt w tot p1) (fun r3 => some (r3))))
def f_CS_closed (cnt : Int32) (w : Nat → Nat → Int32) (tot : Nat → Int32) (p1 : Int32) : Option (Int32) := Option.bind (f_Chain_has cnt p1) (fun r1 => (if r1 = 0 then some ((-1 : Int32)) else Option.bind (f_Ways_isClosedAt cnt w tot p1) (fun r3 => (if r3 = 0 then some ((0 : Int32)) else some ((1 : Int32))))))
def f_CS_period (cnt : Int32) (w : Nat → Nat → Int32) (tot : Nat → Int32) (p1 : Int32) : Option (Int32) := Option.bind (f_Chain_has cnt p1) (fun r1 => (if r1 = 0 then some ((-1 : Int32)) else Option.bind (f_Ways_ringDivisor cnt w tot p1) (fun r3 => some (r3))))
def f_CS_alike (cnt : Int32) (w : Nat → Nat → Int32) (tot : Nat → Int32) (rew : Nat → Int32) (grp : Nat → Int32) (fin : Nat → Int32) (p1 : Int32) : Option (Int32 × (Nat → Int32) × (Nat → Int32)) := Option.bind (f_Chain_has cnt p1) (fun r1 => (if r1 = 0 then some ((-1 : Int32), grp, fin) else Option.bind (f_Likeness_find cnt w tot rew grp fin) (fun (grp_3, fin_4) => if ix p1 7 = true then some ((grp_3 p1.toNatClampNeg), grp_3, fin_4) else none)))
def f_CS_ever (cnt : Int32) (w : Nat → Nat → Int32) (tot : Nat → Int32) (gns : Nat → Int64) (rst : Nat → Int32) (rws : Nat → Nat → Int64) (last : Int32) (au : Int64) (al : Int64) (p1 : Int32) (p2 : Int32) : Option (Int32 × (Nat → Int64) × (Nat → Int32) × (Nat → Nat → Int64) × Int32 × Int64 × Int64) := Option.bind (f_Chain_has cnt p1) (fun r1 => (if r1 = 0 then some ((-1 : Int32), gns, rst, rws, last, au, al) else Option.bind (f_Chain_has cnt p2) (fun r3 => (if r3 = 0 then some ((-1 : Int32), gns, rst, rws, last, au, al) else Option.bind (f_CS_answerOddsToMeet cnt w tot gns rst rws last p1 ((1 : Int32) <<< (p2 &&& 31)) (0 : Int32)) (fun (gns_5, rst_6, rws_7, last_8, au_9, al_10) => some ((1 : Int32), gns_5, rst_6, rws_7, last_8, au_9, al_10))))))
def f_CS_again (cnt : Int32) (w : Nat → Nat → Int32) (tot : Nat → Int32) (gns : Nat → Int64) (rst : Nat → Int32) (rws : Nat → Nat → Int64) (last : Int32) (au : Int64) (al : Int64) (p1 : Int32) : Option (Int32 × (Nat → Int64) × (Nat → Int32) × (Nat → Nat → Int64) × Int32 × Int64 × Int64) := Option.bind (f_Chain_has cnt p1) (fun r1 => (if r1 = 0 then some ((-1 : Int32), gns, rst, rws, last, au, al) else Option.bind (f_FirstSteps_gainByEntering cnt w tot gns ((1 : Int32) <<< (p1 &&& 31))) (fun gns_3 => Option.bind (f_Ways_leadingTo cnt w tot ((1 : Int32) <<< (p1 &&& 31)) (0 : Int32)) (fun r4 => Option.bind (f_FirstSteps_solveA cnt w tot gns_3 rst rws p1 (r4 &&& (((1 : Int32) <<< (p1 &&& 31)) ^^^ (-1 : Int32)))) (fun (rst_5, rws_6, last_7, au_8, al_9) => some ((1 : Int32), gns_3, rst_5, rws_6, last_7, au_8, al_9))))))
def f_CS_before (cnt : Int32) (w : Nat → Nat → Int32) (tot : Nat → Int32) (gns : Nat → Int64) (rst : Nat → Int32) (rws : Nat → Nat → Int64) (last : Int32) (au : Int64) (al : Int64) (p1 : Int32) (p2 : Int32) (p3 : Int32) : Option (Int32 × (Nat → Int64) × (Nat → Int32) × (Nat → Nat → Int64) × Int32 × Int64 × Int64) := Option.bind (f_Chain_has cnt p1) (fun r1 => (if r1 = 0 then some ((-1 : Int32), gns, rst, rws, last, au, al) else Option.bind (f_Chain_has cnt p2) (fun r3 => (if r3 = 0 then some ((-1 : Int32), gns, rst, rws, last, au, al) else Option.bind (f_Chain_has cnt p3) (fun r5 => (if r5 = 0 then some ((-1 : Int32), gns, rst, rws, last, au, al) else (if p2 = p3 then some ((-3 : Int32), gns, rst, rws, last, au, al) else Option.bind (f_CS_answerOddsToMeet cnt w tot gns rst rws last p1 ((1 : Int32) <<< (p2 &&& 31)) ((1 : Int32) <<< (p3 &&& 31))) (fun (gns_8, rst_9, rws_10, last_11, au_12, al_13) => some ((1 : Int32), gns_8, rst_9, rws_10, last_11, au_12, al_13)))))))))
def f_CS_steps (cnt : Int32) (w : Nat → Nat → Int32) (tot : Nat → Int32) (gns : Nat → Int64) (rst : Nat → Int32) (rws : Nat → Nat → Int64) (last : Int32) (au : Int64) (al : Int64) (p1 : Int32) (p2 : Int32) : Option (Int32 × (Nat → Int64) × (Nat → Int32) × (Nat → Nat → Int64) × Int32 × Int64 × Int64) := Option.bind (f_Chain_has cnt p1) (fun r1 => (if r1 = 0 then some ((-1 : Int32), gns, rst, rws, last, au, al) else Option.bind (f_Chain_all cnt) (fun r3 => (if (p2 &&& (r3 ^^^ (-1 : Int32))) = 0 then Option.bind (f_Ways_isSureToMeet cnt w tot p1 p2) (fun r5 => (if r5 = 0 then some ((-3 : Int32), gns, rst, rws, last, au, al) else Option.bind (f_holds p2 p1) (fun r7 => (if r7 = 0 then Option.bind (f_FirstSteps_gainByStep cnt tot gns) (fun gns_9 => Option.bind (f_Ways_metFrom cnt w tot p1 p2) (fun r10 => Option.bind (f_FirstSteps_solveA cnt w tot gns_9 rst rws p1 (r10 &&& (p2 ^^^ (-1 : Int32)))) (fun (rst_11, rws_12, last_13, au_14, al_15) => some ((1 : Int32), gns_9, rst_11, rws_12, last_13, au_14, al_15)))) else Option.bind (f_Fraction_put (0 : Int64) (1 : Int64)) (fun (u_16, lo_17) => some ((1 : Int32), gns, rst, rws, last, u_16, lo_17)))))) else some ((-1 : Int32), gns, rst, rws, last, au, al)))))
def f_CS_visits (cnt : Int32) (w : Nat → Nat → Int32) (tot : Nat → Int32) (gns : Nat → Int64) (rst : Nat → Int32) (rws : Nat → Nat → Int64) (last : Int32) (au : Int64) (al : Int64) (p1 : Int32) (p2 : Int32) : Option (Int32 × (Nat → Int64) × (Nat → Int32) × (Nat → Nat → Int64) × Int32 × Int64 × Int64) := Option.bind (f_Chain_has cnt p1) (fun r1 => (if r1 = 0 then some ((-1 : Int32), gns, rst, rws, last, au, al) else Option.bind (f_Chain_has cnt p2) (fun r3 => (if r3 = 0 then some ((-1 : Int32), gns, rst, rws, last, au, al) else Option.bind (f_Ways_leadingTo cnt w tot ((1 : Int32) <<< (p2 &&& 31)) (0 : Int32)) (fun r5 => Option.bind (f_holds r5 p1) (fun r6 => (if r6 = 0 then Option.bind (f_Fraction_put (0 : Int64) (1 : Int64)) (fun (u_16, lo_17) => some ((1 : Int32), gns, rst, rws, last, u_16, lo_17)) else Option.bind (f_Ways_isClosedAt cnt w tot p2) (fun r8 => (if r8 = 0 then Option.bind (f_FirstSteps_gainByBeingIn cnt tot gns p2) (fun gns_10 => Option.bind (f_FirstSteps_solveA cnt w tot gns_10 rst rws p1 r5) (fun (rst_11, rws_12, last_13, au_14, al_15) => some ((1 : Int32), gns_10, rst_11, rws_12, last_13, au_14, al_15))) else some ((-3 : Int32), gns, rst, rws, last, au, al))))))))))
def f_CS_share (cnt : Int32) (w : Nat → Nat → Int32) (tot : Nat → Int32) (gns : Nat → Int64) (rst : Nat → Int32) (rws : Nat → Nat → Int64) (last : Int32) (au : Int64) (al : Int64) (mu : Int64) (ml : Int64) (p1 : Int32) (p2 : Int32) : Option (Int32 × (Nat → Int64) × (Nat → Int32) × (Nat → Nat → Int64) × Int32 × Int64 × Int64 × Int64 × Int64) := Option.bind (f_Chain_has cnt p1) (fun r1 => (if r1 = 0 then some ((-1 : Int32), gns, rst, rws, last, au, al, mu, ml) else Option.bind (f_Chain_has cnt p2) (fun r3 => (if r3 = 0 then some ((-1 : Int32), gns, rst, rws, last, au, al, mu, ml) else Option.bind (f_Ways_isClosedAt cnt w tot p2) (fun r5 => (if r5 = 0 then Option.bind (f_Fraction_put (0 : Int64) (1 : Int64)) (fun (u_22, lo_23) => some ((1 : Int32), gns, rst, rws, last, u_22, lo_23, mu, ml)) else Option.bind (f_FirstSteps_gainByStep cnt tot gns) (fun gns_7 => Option.bind (f_Ways_metFrom cnt w tot p2 (0 : Int32)) (fun r8 => Option.bind (f_FirstSteps_solveM cnt w tot gns_7 rst rws p2 (r8 &&& (((1 : Int32) <<< (p2 &&& 31)) ^^^ (-1 : Int32)))) (fun (rst_9, rws_10, last_11, mu_12, ml_13) => Option.bind (f_CS_answerOddsToMeet cnt w tot gns_7 rst_9 rws_10 last_11 p1 ((1 : Int32) <<< (p2 &&& 31)) (0 : Int32)) (fun (gns_14, rst_15, rws_16, last_17, au_18, al_19) => Option.bind (f_Fraction_put (au_18 * ml_13) (al_19 * mu_12)) (fun (u_20, lo_21) => some ((1 : Int32), gns_14, rst_15, rws_16, last_17, u_20, lo_21, mu_12, ml_13))))))))))))
def f_CS_after_B47 (cnt : Int32) (w : Nat → Nat → Int32) (tot : Nat → Int32) (p3 : Int32) (x4_9 : Int32) (now_10 : Nat → Int64) (nxt_11 : Nat → Int64) (whl_12 : Int64) : Option ((Int32 × (Nat → Int64) × (Nat → Int64) × Int64) ⊕ (Int32 × (Nat → Int64) × (Nat → Int64) × Int64)) := (if p3 ≤ x4_9 then some (.inr (x4_9, now_10, nxt_11, whl_12)) else Option.bind (f_Spread_goOn cnt w tot now_10 nxt_11 whl_12) (fun (now_14, nxt_15, whl_16) => some (.inl ((x4_9 + 1), now_14, nxt_15, whl_16))))
def f_CS_after_L47 (cnt : Int32) (w : Nat → Nat → Int32) (tot : Nat → Int32) (p3 : Int32) (n : Nat) (x4_9 : Int32) (now_10 : Nat → Int64) (nxt_11 : Nat → Int64) (whl_12 : Int64) : Option (Int32 × (Nat → Int64) × (Nat → Int64) × Int64) := lp (fun s => f_CS_after_B47 cnt w tot p3 s.1 s.2.1 s.2.2.1 s.2.2.2) n (x4_9, now_10, nxt_11, whl_12)
theorem f_CS_after_L47_s (cnt : Int32) (w : Nat → Nat → Int32) (tot : Nat → Int32) (p3 : Int32) (n : Nat) (x4_9 : Int32) (now_10 : Nat → Int64) (nxt_11 : Nat → Int64) (whl_12 : Int64) : f_CS_after_L47 cnt w tot p3 (n + 1) x4_9 now_10 nxt_11 whl_12 = Option.bind (f_CS_after_B47 cnt w tot p3 x4_9 now_10 nxt_11 whl_12) (lpk (fun s => f_CS_after_L47 cnt w tot p3 n s.1 s.2.1 s.2.2.1 s.2.2.2)) := lp_s (fun s => f_CS_after_B47 cnt w tot p3 s.1 s.2.1 s.2.2.1 s.2.2.2) n (x4_9, now_10, nxt_11, whl_12)
def f_CS_after (cnt : Int32) (w : Nat → Nat → Int32) (tot : Nat → Int32) (now : Nat → Int64) (nxt : Nat → Int64) (whl : Int64) (au : Int64) (al : Int64) (p1 : Int32) (p2 : Int32) (p3 : Int32) : Option (Int32 × (Nat → Int64) × (Nat → Int64) × Int64 × Int64 × Int64) := Option.bind (f_Chain_has cnt p1) (fun r1 => (if r1 = 0 then some ((-1 : Int32), now, nxt, whl, au, al) else Option.bind (f_Chain_has cnt p2) (fun r3 => (if r3 = 0 then some ((-1 : Int32), now, nxt, whl, au, al) else (if p3 < 0 then some ((-2 : Int32), now, nxt, whl, au, al) else (if p3 ≤ (4 : Int32) then Option.bind (f_Spread_start now p1) (fun (now_7, whl_8) => Option.bind (f_CS_after_L47 cnt w tot p3 300 (0 : Int32) now_7 nxt whl_8) (fun (u18, u19, u20, u21) => if ix p2 7 = true then Option.bind (f_Fraction_put (u19 p2.toNatClampNeg) u21) (fun (u_23, lo_24) => some ((1 : Int32), u19, u20, u21, u_23, lo_24)) else none)) else some ((-2 : Int32), now, nxt, whl, au, al)))))))
def f_CS_worth (cnt : Int32) (w : Nat → Nat → Int32) (tot : Nat → Int32) (rew : Nat → Int32) (gns : Nat → Int64) (rst : Nat → Int32) (rws : Nat → Nat → Int64) (last : Int32) (au : Int64) (al : Int64) (p1 : Int32) : Option (Int32 × (Nat → Int64) × (Nat → Int32) × (Nat → Nat → Int64) × Int32 × Int64 × Int64) := Option.bind (f_Chain_has cnt p1) (fun r1 => (if r1 = 0 then some ((-1 : Int32), gns, rst, rws, last, au, al) else Option.bind (f_Chain_ends cnt tot) (fun r3 => Option.bind (f_Ways_isSureToMeet cnt w tot p1 r3) (fun r4 => (if r4 = 0 then some ((-3 : Int32), gns, rst, rws, last, au, al) else Option.bind (f_holds r3 p1) (fun r6 => (if r6 = 0 then Option.bind (f_FirstSteps_gainByReward cnt tot rew gns) (fun gns_8 => Option.bind (f_Ways_metFrom cnt w tot p1 (0 : Int32)) (fun r9 => Option.bind (f_FirstSteps_solveA cnt w tot gns_8 rst rws p1 (r9 &&& (r3 ^^^ (-1 : Int32)))) (fun (rst_10, rws_11, last_12, au_13, al_14) => some ((1 : Int32), gns_8, rst_10, rws_11, last_12, au_13, al_14)))) else Option.bind (f_Fraction_put (0 : Int64) (1 : Int64)) (fun (u_15, lo_16) => some ((1 : Int32), gns, rst, rws, last, u_15, lo_16)))))))))
def f_CS_upper (au : Int64) : Option (Int64) := some (au)
def f_CS_lower (al : Int64) : Option (Int64) := some (al)
def f_CS_told (cnt : Int32) (w : Nat → Nat → Int32) (tot : Nat → Int32) (rew : Nat → Int32) (grp : Nat → Int32) (fin : Nat → Int32) (p1 : Int32) : Option (Int32 × (Nat → Int32) × (Nat → Int32)) := (if p1 = 0 then some (cnt, grp, fin) else (if p1 = 1 then Option.bind (f_Chain_countWeights cnt w) (fun r3 => some (r3, grp, fin)) else (if p1 = 2 then Option.bind (f_Chain_ends cnt tot) (fun r5 => Option.bind (f_bitCount r5) (fun r6 => some (r6, grp, fin))) else (if p1 = 3 then Option.bind (f_Ways_countParts cnt w tot (0 : Int32)) (fun r8 => some (r8, grp, fin)) else (if p1 = 4 then Option.bind (f_Ways_countParts cnt w tot (1 : Int32)) (fun r10 => some (r10, grp, fin)) else (if p1 = 5 then Option.bind (f_Likeness_find cnt w tot rew grp fin) (fun (grp_12, fin_13) => Option.bind (f_Likeness_countGroups cnt grp_12) (fun r14 => some (r14, grp_12, fin_13))) else some ((-2 : Int32), grp, fin)))))))
end
section
def f_M_within (p1 : Int32) (p2 : Int32) (p3 : Int32) : Option (Int32) := (if p1 < p2 then some ((0 : Int32)) else (if p3 < p1 then some ((0 : Int32)) else some ((1 : Int32))))
def f_M_has (p1 : Int32) (p2 : Int32) : Option (Int32) := (if ((p1 >>> (p2 &&& 31)) &&& (1 : Int32)) = (1 : Int32) then some ((1 : Int32)) else some ((0 : Int32)))
def f_M_many_B4 (p1 : Int32) (x1_1 : Int32) (x2_2 : Int32) : Option ((Int32 × Int32) ⊕ (Int32 × Int32)) := (if (7 : Int32) ≤ x2_2 then some (.inr (x1_1, x2_2)) else some (.inl ((x1_1 + ((p1 >>> (x2_2 &&& 31)) &&& (1 : Int32))), (x2_2 + 1))))
def f_M_many_L4 (p1 : Int32) (n : Nat) (x1_1 : Int32) (x2_2 : Int32) : Option (Int32 × Int32) := lp (fun s => f_M_many_B4 p1 s.1 s.2) n (x1_1, x2_2)
theorem f_M_many_L4_s (p1 : Int32) (n : Nat) (x1_1 : Int32) (x2_2 : Int32) : f_M_many_L4 p1 (n + 1) x1_1 x2_2 = Option.bind (f_M_many_B4 p1 x1_1 x2_2) (lpk (fun s => f_M_many_L4 p1 n s.1 s.2)) := lp_s (fun s => f_M_many_B4 p1 s.1 s.2) n (x1_1, x2_2)
def f_M_many (p1 : Int32) : Option (Int32) := Option.bind (f_M_many_L4 p1 300 (0 : Int32) (0 : Int32)) (fun (u5, u6) => some (u5))
def f_M_least_B2 (p1 : Int32) (x1_1 : Int32) : Option ((Int32) ⊕ (Int32)) := (if (7 : Int32) ≤ x1_1 then some (.inr x1_1) else Option.bind (f_M_has p1 x1_1) (fun r3 => (if r3 = 0 then some (.inl (x1_1 + 1)) else some (.inr x1_1))))
def f_M_least_L2 (p1 : Int32) (n : Nat) (x1_1 : Int32) : Option (Int32) := lp (fun s => f_M_least_B2 p1 s) n x1_1
theorem f_M_least_L2_s (p1 : Int32) (n : Nat) (x1_1 : Int32) : f_M_least_L2 p1 (n + 1) x1_1 = Option.bind (f_M_least_B2 p1 x1_1) (lpk (fun s => f_M_least_L2 p1 n s)) := lp_s (fun s => f_M_least_B2 p1 s) n x1_1
def f_M_least (p1 : Int32) : Option (Int32) := Option.bind (f_M_least_L2 p1 300 (0 : Int32)) (fun u6 => some (u6))
def f_M_isState (sts : Int32) (p1 : Int32) : Option (Int32) := Option.bind (f_M_within p1 (0 : Int32) (sts - (1 : Int32))) (fun r1 => some (r1))
def f_M_w (wgt : Nat → Int32) (p1 : Int32) (p2 : Int32) : Option (Int32) := if ix (((7 : Int32) * p1) + p2) 49 = true then some ((wgt (((7 : Int32) * p1) + p2).toNatClampNeg)) else none
def f_M_total_B4 (sts : Int32) (wgt : Nat → Int32) (p1 : Int32) (x2_1 : Int32) (x3_2 : Int32) : Option ((Int32 × Int32) ⊕ (Int32 × Int32)) := (if sts ≤ x3_2 then some (.inr (x2_1, x3_2)) else Option.bind (f_M_w wgt p1 x3_2) (fun r4 => some (.inl ((x2_1 + r4), (x3_2 + 1)))))
def f_M_total_L4 (sts : Int32) (wgt : Nat → Int32) (p1 : Int32) (n : Nat) (x2_1 : Int32) (x3_2 : Int32) : Option (Int32 × Int32) := lp (fun s => f_M_total_B4 sts wgt p1 s.1 s.2) n (x2_1, x3_2)
theorem f_M_total_L4_s (sts : Int32) (wgt : Nat → Int32) (p1 : Int32) (n : Nat) (x2_1 : Int32) (x3_2 : Int32) : f_M_total_L4 sts wgt p1 (n + 1) x2_1 x3_2 = Option.bind (f_M_total_B4 sts wgt p1 x2_1 x3_2) (lpk (fun s => f_M_total_L4 sts wgt p1 n s.1 s.2)) := lp_s (fun s => f_M_total_B4 sts wgt p1 s.1 s.2) n (x2_1, x3_2)
def f_M_total (sts : Int32) (wgt : Nat → Int32) (p1 : Int32) : Option (Int32) := Option.bind (f_M_total_L4 sts wgt p1 300 (0 : Int32) (0 : Int32)) (fun (u6, u7) => some (u6))
def f_M_isEnd (sts : Int32) (wgt : Nat → Int32) (p1 : Int32) : Option (Int32) := Option.bind (f_M_total sts wgt p1) (fun r1 => (if r1 = 0 then some ((1 : Int32)) else some ((0 : Int32))))
def f_M_answer_B28  (x5_7 : Int64) (x7_8 : Int64) : Option ((Int64 × Int64) ⊕ (Int64 × Int64)) := (if (lg_cmp x7_8 (0 : Int64)) = 0 then some (.inr (x5_7, x7_8)) else if ¬ x7_8 = 0 then some (.inl (x7_8, (x5_7 - x5_7 / x7_8 * x7_8))) else none)
def f_M_answer_L28  (n : Nat) (x5_7 : Int64) (x7_8 : Int64) : Option (Int64 × Int64) := lp (fun s => f_M_answer_B28 s.1 s.2) n (x5_7, x7_8)
theorem f_M_answer_L28_s  (n : Nat) (x5_7 : Int64) (x7_8 : Int64) : f_M_answer_L28 (n + 1) x5_7 x7_8 = Option.bind (f_M_answer_B28 x5_7 x7_8) (lpk (fun s => f_M_answer_L28 n s.1 s.2)) := lp_s (fun s => f_M_answer_B28 s.1 s.2) n (x5_7, x7_8)
def f_M_answer (p1 : Int64) (p2 : Int64) : Option (Int32 × Int64 × Int64) := Option.bind (if 0 ≤ (lg_cmp p1 (0 : Int64)) then some p1 else some (-p1)) (fun j1 => Option.bind (if 0 ≤ (lg_cmp p2 (0 : Int64)) then some p2 else some (-p2)) (fun j4 => Option.bind (f_M_answer_L28 300 j1 j4) (fun (u12, u13) => Option.bind (if 0 ≤ (lg_cmp p2 (0 : Int64)) then if ¬ u12 = 0 then some (p1 / u12) else none else if ¬ u12 = 0 then some ((-p1) / u12) else none) (fun j14 => (if 0 ≤ (lg_cmp p2 (0 : Int64)) then if ¬ u12 = 0 then some ((1 : Int32), j14, (p2 / u12)) else none else if ¬ u12 = 0 then some ((1 : Int32), j14, ((-p2) / u12)) else none)))))
def f_M_clear_B22  (x1_1 : Int32) (wgt_4 : Nat → Int32) : Option ((Int32 × (Nat → Int32)) ⊕ (Int32 × (Nat → Int32))) := (if (49 : Int32) ≤ x1_1 then some (.inr (x1_1, wgt_4)) else if ix x1_1 49 = true then some (.inl ((x1_1 + 1), (upd wgt_4 x1_1.toNatClampNeg (0 : Int32)))) else none)
def f_M_clear_L22  (n : Nat) (x1_1 : Int32) (wgt_4 : Nat → Int32) : Option (Int32 × (Nat → Int32)) := lp (fun s => f_M_clear_B22 s.1 s.2) n (x1_1, wgt_4)
theorem f_M_clear_L22_s  (n : Nat) (x1_1 : Int32) (wgt_4 : Nat → Int32) : f_M_clear_L22 (n + 1) x1_1 wgt_4 = Option.bind (f_M_clear_B22 x1_1 wgt_4) (lpk (fun s => f_M_clear_L22 n s.1 s.2)) := lp_s (fun s => f_M_clear_B22 s.1 s.2) n (x1_1, wgt_4)
def f_M_clear_B43  (x1_12 : Int32) (rwd_15 : Nat → Int32) : Option ((Int32 × (Nat → Int32)) ⊕ (Int32 × (Nat → Int32))) := (if (7 : Int32) ≤ x1_12 then some (.inr (x1_12, rwd_15)) else if ix x1_12 7 = true then some (.inl ((x1_12 + 1), (upd rwd_15 x1_12.toNatClampNeg (0 : Int32)))) else none)
def f_M_clear_L43  (n : Nat) (x1_12 : Int32) (rwd_15 : Nat → Int32) : Option (Int32 × (Nat → Int32)) := lp (fun s => f_M_clear_B43 s.1 s.2) n (x1_12, rwd_15)
theorem f_M_clear_L43_s  (n : Nat) (x1_12 : Int32) (rwd_15 : Nat → Int32) : f_M_clear_L43 (n + 1) x1_12 rwd_15 = Option.bind (f_M_clear_B43 x1_12 rwd_15) (lpk (fun s => f_M_clear_L43 n s.1 s.2)) := lp_s (fun s => f_M_clear_B43 s.1 s.2) n (x1_12, rwd_15)
def f_M_clear (wgt : Nat → Int32) (rwd : Nat → Int32) : Option (Int32 × Int32 × (Nat → Int32) × (Nat → Int32) × Int64 × Int64) := Option.bind (f_M_clear_L22 300 (0 : Int32) wgt) (fun (u10, u11) => Option.bind (f_M_clear_L43 300 (0 : Int32) rwd) (fun (u21, u22) => some ((0 : Int32), (0 : Int32), u11, u22, (0 : Int64), (1 : Int64))))
def f_M_state (sts : Int32) : Option (Int32 × Int32 × Int32) := (if sts = (7 : Int32) then some ((-4 : Int32), (0 : Int32), sts) else some (((sts + (1 : Int32)) - (1 : Int32)), (0 : Int32), (sts + (1 : Int32))))
def f_M_arc (sts : Int32) (wgt : Nat → Int32) (p1 : Int32) (p2 : Int32) (p3 : Int32) : Option (Int32 × Int32 × (Nat → Int32)) := Option.bind (f_M_isState sts p1) (fun r1 => (if r1 = 0 then some ((-1 : Int32), (0 : Int32), wgt) else Option.bind (f_M_isState sts p2) (fun r3 => (if r3 = 0 then some ((-1 : Int32), (0 : Int32), wgt) else Option.bind (f_M_w wgt p1 p2) (fun r5 => Option.bind (f_M_within p3 (0 : Int32) (9 : Int32)) (fun r6 => (if r6 = 0 then some ((-2 : Int32), (0 : Int32), wgt) else Option.bind (f_M_total sts wgt p1) (fun r8 => (if ((r8 - r5) + p3) ≤ (12 : Int32) then if ix (((7 : Int32) * p1) + p2) 49 = true then some (r5, (0 : Int32), (upd wgt (((7 : Int32) * p1) + p2).toNatClampNeg p3)) else none else some ((-2 : Int32), (0 : Int32), wgt))))))))))
def f_M_reward (sts : Int32) (rwd : Nat → Int32) (p1 : Int32) (p2 : Int32) : Option (Int32 × Int32 × (Nat → Int32)) := Option.bind (f_M_isState sts p1) (fun r1 => (if r1 = 0 then some ((-1 : Int32), (0 : Int32), rwd) else Option.bind (f_M_within p2 (-100 : Int32) (100 : Int32)) (fun r3 => (if r3 = 0 then some ((-2 : Int32), (0 : Int32), rwd) else if ix p1 7 = true then if ix p1 7 = true then some (((rwd p1.toNatClampNeg) + (100 : Int32)), (0 : Int32), (upd rwd p1.toNatClampNeg p2)) else none else none))))
def f_M_reach_B28 (sts : Int32) (wgt : Nat → Int32) (p2 : Int32) (x3_1 : Int32) (x6_5 : Int32) (x5_7 : Int32) (x7_8 : Int32) : Option ((Int32 × Int32) ⊕ (Int32 × Int32)) := (if sts ≤ x7_8 then some (.inr (x5_7, x7_8)) else Option.bind (f_M_has x3_1 x6_5) (fun r10 => (if r10 = 0 then some (.inr (x5_7, x7_8)) else Option.bind (f_M_has p2 x6_5) (fun r12 => (if r12 = 0 then Option.bind (f_M_w wgt x6_5 x7_8) (fun r14 => (if r14 ≤ 0 then some (.inl (x5_7, (x7_8 + 1))) else some (.inl ((x5_7 ||| ((1 : Int32) <<< (x7_8 &&& 31))), (x7_8 + 1))))) else some (.inr (x5_7, x7_8)))))))
def f_M_reach_L28 (sts : Int32) (wgt : Nat → Int32) (p2 : Int32) (x3_1 : Int32) (x6_5 : Int32) (n : Nat) (x5_7 : Int32) (x7_8 : Int32) : Option (Int32 × Int32) := lp (fun s => f_M_reach_B28 sts wgt p2 x3_1 x6_5 s.1 s.2) n (x5_7, x7_8)
theorem f_M_reach_L28_s (sts : Int32) (wgt : Nat → Int32) (p2 : Int32) (x3_1 : Int32) (x6_5 : Int32) (n : Nat) (x5_7 : Int32) (x7_8 : Int32) : f_M_reach_L28 sts wgt p2 x3_1 x6_5 (n + 1) x5_7 x7_8 = Option.bind (f_M_reach_B28 sts wgt p2 x3_1 x6_5 x5_7 x7_8) (lpk (fun s => f_M_reach_L28 sts wgt p2 x3_1 x6_5 n s.1 s.2)) := lp_s (fun s => f_M_reach_B28 sts wgt p2 x3_1 x6_5 s.1 s.2) n (x5_7, x7_8)
def f_M_reach_B16 (sts : Int32) (wgt : Nat → Int32) (p2 : Int32) (x3_1 : Int32) (x5_4 : Int32) (x6_5 : Int32) : Option ((Int32 × Int32) ⊕ (Int32 × Int32)) := (if sts ≤ x6_5 then some (.inr (x5_4, x6_5)) else Option.bind (f_M_reach_L28 sts wgt p2 x3_1 x6_5 300 x5_4 (0 : Int32)) (fun (u17, u18) => some (.inl (u17, (x6_5 + 1)))))
def f_M_reach_L16 (sts : Int32) (wgt : Nat → Int32) (p2 : Int32) (x3_1 : Int32) (n : Nat) (x5_4 : Int32) (x6_5 : Int32) : Option (Int32 × Int32) := lp (fun s => f_M_reach_B16 sts wgt p2 x3_1 s.1 s.2) n (x5_4, x6_5)
theorem f_M_reach_L16_s (sts : Int32) (wgt : Nat → Int32) (p2 : Int32) (x3_1 : Int32) (n : Nat) (x5_4 : Int32) (x6_5 : Int32) : f_M_reach_L16 sts wgt p2 x3_1 (n + 1) x5_4 x6_5 = Option.bind (f_M_reach_B16 sts wgt p2 x3_1 x5_4 x6_5) (lpk (fun s => f_M_reach_L16 sts wgt p2 x3_1 n s.1 s.2)) := lp_s (fun s => f_M_reach_B16 sts wgt p2 x3_1 s.1 s.2) n (x5_4, x6_5)
def f_M_reach_B5 (sts : Int32) (wgt : Nat → Int32) (p2 : Int32) (x3_1 : Int32) (x4_2 : Int32) : Option ((Int32 × Int32) ⊕ (Int32 × Int32)) := (if x4_2 = 0 then some (.inr (x3_1, x4_2)) else Option.bind (f_M_reach_L16 sts wgt p2 x3_1 300 x3_1 (0 : Int32)) (fun (u20, u21) => (if u20 = x3_1 then some (.inl (u20, (0 : Int32))) else some (.inl (u20, (1 : Int32))))))
def f_M_reach_L5 (sts : Int32) (wgt : Nat → Int32) (p2 : Int32) (n : Nat) (x3_1 : Int32) (x4_2 : Int32) : Option (Int32 × Int32) := lp (fun s => f_M_reach_B5 sts wgt p2 s.1 s.2) n (x3_1, x4_2)
theorem f_M_reach_L5_s (sts : Int32) (wgt : Nat → Int32) (p2 : Int32) (n : Nat) (x3_1 : Int32) (x4_2 : Int32) : f_M_reach_L5 sts wgt p2 (n + 1) x3_1 x4_2 = Option.bind (f_M_reach_B5 sts wgt p2 x3_1 x4_2) (lpk (fun s => f_M_reach_L5 sts wgt p2 n s.1 s.2)) := lp_s (fun s => f_M_reach_B5 sts wgt p2 s.1 s.2) n (x3_1, x4_2)
def f_M_reach (sts : Int32) (wgt : Nat → Int32) (p1 : Int32) (p2 : Int32) : Option (Int32) := Option.bind (f_M_reach_L5 sts wgt p2 300 p1 (1 : Int32)) (fun (u24, u25) => some (u24))
def f_M_whence_B5 (sts : Int32) (wgt : Nat → Int32) (p1 : Int32) (p2 : Int32) (x3_1 : Int32) (x4_2 : Int32) : Option ((Int32 × Int32) ⊕ (Int32 × Int32)) := (if sts ≤ x4_2 then some (.inr (x3_1, x4_2)) else Option.bind (f_M_reach sts wgt ((1 : Int32) <<< (x4_2 &&& 31)) p2) (fun r4 => (if (r4 &&& p1) = 0 then some (.inl (x3_1, (x4_2 + 1))) else some (.inl ((x3_1 ||| ((1 : Int32) <<< (x4_2 &&& 31))), (x4_2 + 1))))))
def f_M_whence_L5 (sts : Int32) (wgt : Nat → Int32) (p1 : Int32) (p2 : Int32) (n : Nat) (x3_1 : Int32) (x4_2 : Int32) : Option (Int32 × Int32) := lp (fun s => f_M_whence_B5 sts wgt p1 p2 s.1 s.2) n (x3_1, x4_2)
theorem f_M_whence_L5_s (sts : Int32) (wgt : Nat → Int32) (p1 : Int32) (p2 : Int32) (n : Nat) (x3_1 : Int32) (x4_2 : Int32) : f_M_whence_L5 sts wgt p1 p2 (n + 1) x3_1 x4_2 = Option.bind (f_M_whence_B5 sts wgt p1 p2 x3_1 x4_2) (lpk (fun s => f_M_whence_L5 sts wgt p1 p2 n s.1 s.2)) := lp_s (fun s => f_M_whence_B5 sts wgt p1 p2 s.1 s.2) n (x3_1, x4_2)
def f_M_whence (sts : Int32) (wgt : Nat → Int32) (p1 : Int32) (p2 : Int32) : Option (Int32) := Option.bind (f_M_whence_L5 sts wgt p1 p2 300 (0 : Int32) (0 : Int32)) (fun (u7, u8) => some (u7))
def f_M_partOf (sts : Int32) (wgt : Nat → Int32) (p1 : Int32) : Option (Int32) := Option.bind (f_M_reach sts wgt ((1 : Int32) <<< (p1 &&& 31)) (0 : Int32)) (fun r1 => Option.bind (f_M_whence sts wgt ((1 : Int32) <<< (p1 &&& 31)) (0 : Int32)) (fun r2 => some ((r1 &&& r2))))
def f_M_isClosed (sts : Int32) (wgt : Nat → Int32) (p1 : Int32) : Option (Int32) := Option.bind (f_M_reach sts wgt ((1 : Int32) <<< (p1 &&& 31)) (0 : Int32)) (fun r1 => Option.bind (f_M_partOf sts wgt p1) (fun r2 => (if (r1 &&& (r2 ^^^ (-1 : Int32))) = 0 then some ((1 : Int32)) else some ((0 : Int32)))))
def f_M_part (sts : Int32) (wgt : Nat → Int32) (p1 : Int32) : Option (Int32 × Int32) := Option.bind (f_M_isState sts p1) (fun r1 => (if r1 = 0 then some ((-1 : Int32), (0 : Int32)) else Option.bind (f_M_partOf sts wgt p1) (fun r3 => Option.bind (f_M_least r3) (fun r4 => some (r4, (0 : Int32))))))
def f_M_closed (sts : Int32) (wgt : Nat → Int32) (p1 : Int32) : Option (Int32 × Int32) := Option.bind (f_M_isState sts p1) (fun r1 => (if r1 = 0 then some ((-1 : Int32), (0 : Int32)) else Option.bind (f_M_isClosed sts wgt p1) (fun r3 => (if r3 = 0 then some ((0 : Int32), (0 : Int32)) else some ((1 : Int32), (0 : Int32))))))
def f_M_period_B59 (sts : Int32) (wgt : Nat → Int32) (x2_5 : Int32) (x6_11 : Int32) (x5_13 : Int32) (x7_14 : Int32) : Option ((Int32 × Int32) ⊕ (Int32 × Int32)) := (if sts ≤ x7_14 then some (.inr (x5_13, x7_14)) else Option.bind (f_M_has x2_5 x6_11) (fun r16 => (if r16 = 0 then some (.inr (x5_13, x7_14)) else Option.bind (f_M_w wgt x6_11 x7_14) (fun r18 => (if r18 ≤ 0 then some (.inl (x5_13, (x7_14 + 1))) else some (.inl ((x5_13 ||| ((1 : Int32) <<< (x7_14 &&& 31))), (x7_14 + 1))))))))
def f_M_period_L59 (sts : Int32) (wgt : Nat → Int32) (x2_5 : Int32) (x6_11 : Int32) (n : Nat) (x5_13 : Int32) (x7_14 : Int32) : Option (Int32 × Int32) := lp (fun s => f_M_period_B59 sts wgt x2_5 x6_11 s.1 s.2) n (x5_13, x7_14)
theorem f_M_period_L59_s (sts : Int32) (wgt : Nat → Int32) (x2_5 : Int32) (x6_11 : Int32) (n : Nat) (x5_13 : Int32) (x7_14 : Int32) : f_M_period_L59 sts wgt x2_5 x6_11 (n + 1) x5_13 x7_14 = Option.bind (f_M_period_B59 sts wgt x2_5 x6_11 x5_13 x7_14) (lpk (fun s => f_M_period_L59 sts wgt x2_5 x6_11 n s.1 s.2)) := lp_s (fun s => f_M_period_B59 sts wgt x2_5 x6_11 s.1 s.2) n (x5_13, x7_14)
def f_M_period_B47 (sts : Int32) (wgt : Nat → Int32) (x2_5 : Int32) (x5_10 : Int32) (x6_11 : Int32) : Option ((Int32 × Int32) ⊕ (Int32 × Int32)) := (if sts ≤ x6_11 then some (.inr (x5_10, x6_11)) else Option.bind (f_M_period_L59 sts wgt x2_5 x6_11 300 x5_10 (0 : Int32)) (fun (u21, u22) => some (.inl (u21, (x6_11 + 1)))))
def f_M_period_L47 (sts : Int32) (wgt : Nat → Int32) (x2_5 : Int32) (n : Nat) (x5_10 : Int32) (x6_11 : Int32) : Option (Int32 × Int32) := lp (fun s => f_M_period_B47 sts wgt x2_5 s.1 s.2) n (x5_10, x6_11)
theorem f_M_period_L47_s (sts : Int32) (wgt : Nat → Int32) (x2_5 : Int32) (n : Nat) (x5_10 : Int32) (x6_11 : Int32) : f_M_period_L47 sts wgt x2_5 (n + 1) x5_10 x6_11 = Option.bind (f_M_period_B47 sts wgt x2_5 x5_10 x6_11) (lpk (fun s => f_M_period_L47 sts wgt x2_5 n s.1 s.2)) := lp_s (fun s => f_M_period_B47 sts wgt x2_5 s.1 s.2) n (x5_10, x6_11)
def f_M_period_B129  (x3_28 : Int32) (x6_29 : Int32) : Option ((Int32 × Int32) ⊕ (Int32 × Int32)) := (if x6_29 = 0 then some (.inr (x3_28, x6_29)) else if ¬ x6_29 = 0 then some (.inl (x6_29, (x3_28 - x3_28 / x6_29 * x6_29))) else none)
def f_M_period_L129  (n : Nat) (x3_28 : Int32) (x6_29 : Int32) : Option (Int32 × Int32) := lp (fun s => f_M_period_B129 s.1 s.2) n (x3_28, x6_29)
theorem f_M_period_L129_s  (n : Nat) (x3_28 : Int32) (x6_29 : Int32) : f_M_period_L129 (n + 1) x3_28 x6_29 = Option.bind (f_M_period_B129 x3_28 x6_29) (lpk (fun s => f_M_period_L129 n s.1 s.2)) := lp_s (fun s => f_M_period_B129 s.1 s.2) n (x3_28, x6_29)
def f_M_period_B34 (sts : Int32) (wgt : Nat → Int32) (p1 : Int32) (x2_5 : Int32) (x3_6 : Int32) (x4_7 : Int32) : Option ((Int32 × Int32 × Int32) ⊕ (Int32 × Int32 × Int32)) := (if (30 : Int32) < x4_7 then some (.inr (x2_5, x3_6, x4_7)) else Option.bind (f_M_period_L47 sts wgt x2_5 300 (0 : Int32) (0 : Int32)) (fun (u24, u25) => Option.bind (f_M_has u24 p1) (fun r26 => (if r26 = 0 then some (.inl (u24, x3_6, (x4_7 + 1))) else Option.bind (f_M_period_L129 300 x3_6 x4_7) (fun (u33, u34) => some (.inl (u24, u33, (x4_7 + 1))))))))
def f_M_period_L34 (sts : Int32) (wgt : Nat → Int32) (p1 : Int32) (n : Nat) (x2_5 : Int32) (x3_6 : Int32) (x4_7 : Int32) : Option (Int32 × Int32 × Int32) := lp (fun s => f_M_period_B34 sts wgt p1 s.1 s.2.1 s.2.2) n (x2_5, x3_6, x4_7)
theorem f_M_period_L34_s (sts : Int32) (wgt : Nat → Int32) (p1 : Int32) (n : Nat) (x2_5 : Int32) (x3_6 : Int32) (x4_7 : Int32) : f_M_period_L34 sts wgt p1 (n + 1) x2_5 x3_6 x4_7 = Option.bind (f_M_period_B34 sts wgt p1 x2_5 x3_6 x4_7) (lpk (fun s => f_M_period_L34 sts wgt p1 n s.1 s.2.1 s.2.2)) := lp_s (fun s => f_M_period_B34 sts wgt p1 s.1 s.2.1 s.2.2) n (x2_5, x3_6, x4_7)
def f_M_period (sts : Int32) (wgt : Nat → Int32) (p1 : Int32) : Option (Int32 × Int32) := Option.bind (f_M_isState sts p1) (fun r1 => (if r1 = 0 then some ((-1 : Int32), (0 : Int32)) else Option.bind (f_M_isEnd sts wgt p1) (fun r3 => (if r3 = 0 then Option.bind (f_M_period_L34 sts wgt p1 300 ((1 : Int32) <<< (p1 &&& 31)) (0 : Int32) (1 : Int32)) (fun (u36, u37, u38) => some (u37, (0 : Int32))) else some ((1 : Int32), (0 : Int32))))))
def f_M_fix_B3 (sts : Int32) (p1 : Int32) (x4_1 : Int32) (cel_2 : Nat → Int64) : Option ((Int32 × (Nat → Int64)) ⊕ (Int32 × (Nat → Int64))) := (if sts ≤ x4_1 then some (.inr (x4_1, cel_2)) else (if x4_1 = p1 then if ix (((7 : Int32) * p1) + x4_1) 49 = true then some (.inl ((x4_1 + 1), (vp_updL cel_2 (((7 : Int32) * p1) + x4_1).toNatClampNeg (1 : Int64)))) else none else if ix (((7 : Int32) * p1) + x4_1) 49 = true then some (.inl ((x4_1 + 1), (vp_updL cel_2 (((7 : Int32) * p1) + x4_1).toNatClampNeg (0 : Int64)))) else none))
def f_M_fix_L3 (sts : Int32) (p1 : Int32) (n : Nat) (x4_1 : Int32) (cel_2 : Nat → Int64) : Option (Int32 × (Nat → Int64)) := lp (fun s => f_M_fix_B3 sts p1 s.1 s.2) n (x4_1, cel_2)
theorem f_M_fix_L3_s (sts : Int32) (p1 : Int32) (n : Nat) (x4_1 : Int32) (cel_2 : Nat → Int64) : f_M_fix_L3 sts p1 (n + 1) x4_1 cel_2 = Option.bind (f_M_fix_B3 sts p1 x4_1 cel_2) (lpk (fun s => f_M_fix_L3 sts p1 n s.1 s.2)) := lp_s (fun s => f_M_fix_B3 sts p1 s.1 s.2) n (x4_1, cel_2)
def f_M_fix (sts : Int32) (cel : Nat → Int64) (rig : Nat → Int64) (p1 : Int32) (p2 : Int64) : Option ((Nat → Int64) × (Nat → Int64)) := Option.bind (f_M_fix_L3 sts p1 300 (0 : Int32) cel) (fun (u8, u9) => if ix p1 7 = true then some (u9, (vp_updL rig p1.toNatClampNeg p2)) else none)
def f_M_lay_B3 (sts : Int32) (wgt : Nat → Int32) (p1 : Int32) (x4_1 : Int32) (cel_2 : Nat → Int64) : Option ((Int32 × (Nat → Int64)) ⊕ (Int32 × (Nat → Int64))) := (if sts ≤ x4_1 then some (.inr (x4_1, cel_2)) else Option.bind (if x4_1 = p1 then Option.bind (f_M_total sts wgt p1) (fun r7 => some r7) else some (0 : Int32)) (fun j4 => Option.bind (f_M_w wgt p1 x4_1) (fun r8 => if ix (((7 : Int32) * p1) + x4_1) 49 = true then some (.inl ((x4_1 + 1), (vp_updL cel_2 (((7 : Int32) * p1) + x4_1).toNatClampNeg ((j4 - r8).toInt64)))) else none)))
def f_M_lay_L3 (sts : Int32) (wgt : Nat → Int32) (p1 : Int32) (n : Nat) (x4_1 : Int32) (cel_2 : Nat → Int64) : Option (Int32 × (Nat → Int64)) := lp (fun s => f_M_lay_B3 sts wgt p1 s.1 s.2) n (x4_1, cel_2)
theorem f_M_lay_L3_s (sts : Int32) (wgt : Nat → Int32) (p1 : Int32) (n : Nat) (x4_1 : Int32) (cel_2 : Nat → Int64) : f_M_lay_L3 sts wgt p1 (n + 1) x4_1 cel_2 = Option.bind (f_M_lay_B3 sts wgt p1 x4_1 cel_2) (lpk (fun s => f_M_lay_L3 sts wgt p1 n s.1 s.2)) := lp_s (fun s => f_M_lay_B3 sts wgt p1 s.1 s.2) n (x4_1, cel_2)
def f_M_lay (sts : Int32) (wgt : Nat → Int32) (cel : Nat → Int64) (rig : Nat → Int64) (p1 : Int32) (p2 : Int64) : Option ((Nat → Int64) × (Nat → Int64)) := Option.bind (f_M_lay_L3 sts wgt p1 300 (0 : Int32) cel) (fun (u11, u12) => if ix p1 7 = true then some (u12, (vp_updL rig p1.toNatClampNeg p2)) else none)
def f_M_all_B2  (x2_1 : Int32) (sum_2 : Nat → Int64) : Option ((Int32 × (Nat → Int64)) ⊕ (Int32 × (Nat → Int64))) := (if (128 : Int32) ≤ x2_1 then some (.inr (x2_1, sum_2)) else (if x2_1 = 0 then if ix x2_1 128 = true then some (.inl ((x2_1 + 1), (vp_updL sum_2 x2_1.toNatClampNeg (1 : Int64)))) else none else if ix x2_1 128 = true then some (.inl ((x2_1 + 1), (vp_updL sum_2 x2_1.toNatClampNeg (0 : Int64)))) else none))
def f_M_all_L2  (n : Nat) (x2_1 : Int32) (sum_2 : Nat → Int64) : Option (Int32 × (Nat → Int64)) := lp (fun s => f_M_all_B2 s.1 s.2) n (x2_1, sum_2)
theorem f_M_all_L2_s  (n : Nat) (x2_1 : Int32) (sum_2 : Nat → Int64) : f_M_all_L2 (n + 1) x2_1 sum_2 = Option.bind (f_M_all_B2 x2_1 sum_2) (lpk (fun s => f_M_all_L2 n s.1 s.2)) := lp_s (fun s => f_M_all_B2 s.1 s.2) n (x2_1, sum_2)
def f_M_all_B52 (sts : Int32) (cel : Nat → Int64) (rig : Nat → Int64) (p1 : Int32) (x2_10 : Int32) (r13 : Int32) (x4_14 : Int32) (sum_15 : Nat → Int64) : Option ((Int32 × (Nat → Int64)) ⊕ (Int32 × (Nat → Int64))) := (if sts ≤ x4_14 then some (.inr (x4_14, sum_15)) else Option.bind (f_M_has x2_10 x4_14) (fun r17 => (if r17 = 0 then if ix x2_10 128 = true then Option.bind (if x4_14 = p1 then if ix r13 7 = true then some (rig r13.toNatClampNeg) else none else if ix (((7 : Int32) * r13) + x4_14) 49 = true then some (cel (((7 : Int32) * r13) + x4_14).toNatClampNeg) else none) (fun j20 => Option.bind (f_M_many (x2_10 >>> (x4_14 &&& 31))) (fun r25 => if ¬ (2 : Int32) = 0 then Option.bind (if (r25 - r25 / (2 : Int32) * (2 : Int32)) = (1 : Int32) then some (1 : Int32) else some (0 : Int32)) (fun j27 => if ix (x2_10 ||| ((1 : Int32) <<< (x4_14 &&& 31))) 128 = true then (if j27 = 0 then if ix (x2_10 ||| ((1 : Int32) <<< (x4_14 &&& 31))) 128 = true then some (.inl ((x4_14 + 1), (vp_updL sum_15 (x2_10 ||| ((1 : Int32) <<< (x4_14 &&& 31))).toNatClampNeg ((sum_15 (x2_10 ||| ((1 : Int32) <<< (x4_14 &&& 31))).toNatClampNeg) + ((sum_15 x2_10.toNatClampNeg) * j20))))) else none else if ix (x2_10 ||| ((1 : Int32) <<< (x4_14 &&& 31))) 128 = true then some (.inl ((x4_14 + 1), (vp_updL sum_15 (x2_10 ||| ((1 : Int32) <<< (x4_14 &&& 31))).toNatClampNeg ((sum_15 (x2_10 ||| ((1 : Int32) <<< (x4_14 &&& 31))).toNatClampNeg) + (-((sum_15 x2_10.toNatClampNeg) * j20)))))) else none) else none) else none)) else none else some (.inl ((x4_14 + 1), sum_15)))))
def f_M_all_L52 (sts : Int32) (cel : Nat → Int64) (rig : Nat → Int64) (p1 : Int32) (x2_10 : Int32) (r13 : Int32) (n : Nat) (x4_14 : Int32) (sum_15 : Nat → Int64) : Option (Int32 × (Nat → Int64)) := lp (fun s => f_M_all_B52 sts cel rig p1 x2_10 r13 s.1 s.2) n (x4_14, sum_15)
theorem f_M_all_L52_s (sts : Int32) (cel : Nat → Int64) (rig : Nat → Int64) (p1 : Int32) (x2_10 : Int32) (r13 : Int32) (n : Nat) (x4_14 : Int32) (sum_15 : Nat → Int64) : f_M_all_L52 sts cel rig p1 x2_10 r13 (n + 1) x4_14 sum_15 = Option.bind (f_M_all_B52 sts cel rig p1 x2_10 r13 x4_14 sum_15) (lpk (fun s => f_M_all_L52 sts cel rig p1 x2_10 r13 n s.1 s.2)) := lp_s (fun s => f_M_all_B52 sts cel rig p1 x2_10 r13 s.1 s.2) n (x4_14, sum_15)
def f_M_all_B32 (sts : Int32) (cel : Nat → Int64) (rig : Nat → Int64) (p1 : Int32) (x2_10 : Int32) (sum_11 : Nat → Int64) : Option ((Int32 × (Nat → Int64)) ⊕ (Int32 × (Nat → Int64))) := (if (((1 : Int32) <<< (sts &&& 31)) - (1 : Int32)) ≤ x2_10 then some (.inr (x2_10, sum_11)) else Option.bind (f_M_many x2_10) (fun r13 => Option.bind (f_M_all_L52 sts cel rig p1 x2_10 r13 300 (0 : Int32) sum_11) (fun (u35, u36) => some (.inl ((x2_10 + 1), u36)))))
def f_M_all_L32 (sts : Int32) (cel : Nat → Int64) (rig : Nat → Int64) (p1 : Int32) (n : Nat) (x2_10 : Int32) (sum_11 : Nat → Int64) : Option (Int32 × (Nat → Int64)) := lp (fun s => f_M_all_B32 sts cel rig p1 s.1 s.2) n (x2_10, sum_11)
theorem f_M_all_L32_s (sts : Int32) (cel : Nat → Int64) (rig : Nat → Int64) (p1 : Int32) (n : Nat) (x2_10 : Int32) (sum_11 : Nat → Int64) : f_M_all_L32 sts cel rig p1 (n + 1) x2_10 sum_11 = Option.bind (f_M_all_B32 sts cel rig p1 x2_10 sum_11) (lpk (fun s => f_M_all_L32 sts cel rig p1 n s.1 s.2)) := lp_s (fun s => f_M_all_B32 sts cel rig p1 s.1 s.2) n (x2_10, sum_11)
def f_M_all (sts : Int32) (cel : Nat → Int64) (rig : Nat → Int64) (sum : Nat → Int64) (p1 : Int32) : Option (Int64 × (Nat → Int64)) := Option.bind (f_M_all_L2 300 (0 : Int32) sum) (fun (u8, u9) => Option.bind (f_M_all_L32 sts cel rig p1 300 (0 : Int32) u9) (fun (u38, u39) => if ix (((1 : Int32) <<< (sts &&& 31)) - (1 : Int32)) 128 = true then some ((u39 (((1 : Int32) <<< (sts &&& 31)) - (1 : Int32)).toNatClampNeg), u39) else none))
def f_M_solved (sts : Int32) (cel : Nat → Int64) (rig : Nat → Int64) (sum : Nat → Int64) (p1 : Int32) : Option (Int32 × Int64 × Int64 × (Nat → Int64)) := Option.bind (f_M_all sts cel rig sum p1) (fun (r1, sum_2) => Option.bind (f_M_all sts cel rig sum_2 (-1 : Int32)) (fun (r3, sum_4) => Option.bind (f_M_answer r1 r3) (fun (r5, up_6, dn_7) => some (r5, up_6, dn_7, sum_4))))
def f_M_layOdds_B16 (sts : Int32) (wgt : Nat → Int32) (p1 : Int32) (y3_2 : Int32) (x4_3 : Int32) (cel_4 : Nat → Int64) (rig_5 : Nat → Int64) : Option ((Int32 × (Nat → Int64) × (Nat → Int64)) ⊕ (Int32 × (Nat → Int64) × (Nat → Int64))) := (if sts ≤ x4_3 then some (.inr (x4_3, cel_4, rig_5)) else Option.bind (f_M_has p1 x4_3) (fun r7 => (if r7 = 0 then Option.bind (f_M_has y3_2 x4_3) (fun r15 => (if r15 = 0 then Option.bind (f_M_has p1 x4_3) (fun r19 => Option.bind (if r19 = 0 then some (0 : Int64) else some (1 : Int64)) (fun j20 => Option.bind (f_M_fix sts cel_4 rig_5 x4_3 j20) (fun (cel_23, rig_24) => some (.inl ((x4_3 + 1), cel_23, rig_24))))) else Option.bind (f_M_lay sts wgt cel_4 rig_5 x4_3 (0 : Int64)) (fun (cel_17, rig_18) => some (.inl ((x4_3 + 1), cel_17, rig_18))))) else Option.bind (f_M_has p1 x4_3) (fun r9 => Option.bind (if r9 = 0 then some (0 : Int64) else some (1 : Int64)) (fun j10 => Option.bind (f_M_fix sts cel_4 rig_5 x4_3 j10) (fun (cel_13, rig_14) => some (.inl ((x4_3 + 1), cel_13, rig_14))))))))
def f_M_layOdds_L16 (sts : Int32) (wgt : Nat → Int32) (p1 : Int32) (y3_2 : Int32) (n : Nat) (x4_3 : Int32) (cel_4 : Nat → Int64) (rig_5 : Nat → Int64) : Option (Int32 × (Nat → Int64) × (Nat → Int64)) := lp (fun s => f_M_layOdds_B16 sts wgt p1 y3_2 s.1 s.2.1 s.2.2) n (x4_3, cel_4, rig_5)
theorem f_M_layOdds_L16_s (sts : Int32) (wgt : Nat → Int32) (p1 : Int32) (y3_2 : Int32) (n : Nat) (x4_3 : Int32) (cel_4 : Nat → Int64) (rig_5 : Nat → Int64) : f_M_layOdds_L16 sts wgt p1 y3_2 (n + 1) x4_3 cel_4 rig_5 = Option.bind (f_M_layOdds_B16 sts wgt p1 y3_2 x4_3 cel_4 rig_5) (lpk (fun s => f_M_layOdds_L16 sts wgt p1 y3_2 n s.1 s.2.1 s.2.2)) := lp_s (fun s => f_M_layOdds_B16 sts wgt p1 y3_2 s.1 s.2.1 s.2.2) n (x4_3, cel_4, rig_5)
def f_M_layOdds (sts : Int32) (wgt : Nat → Int32) (cel : Nat → Int64) (rig : Nat → Int64) (p1 : Int32) (p2 : Int32) : Option ((Nat → Int64) × (Nat → Int64)) := Option.bind (f_M_whence sts wgt p1 (p1 ||| p2)) (fun r1 => Option.bind (f_M_layOdds_L16 sts wgt p1 (r1 &&& (p2 ^^^ (-1 : Int32))) 300 (0 : Int32) cel rig) (fun (u26, u27, u28) => some (u27, u28)))
def f_M_ever (sts : Int32) (wgt : Nat → Int32) (up : Int64) (dn : Int64) (cel : Nat → Int64) (rig : Nat → Int64) (sum : Nat → Int64) (p1 : Int32) (p2 : Int32) : Option (Int32 × Int32 × Int64 × Int64 × (Nat → Int64) × (Nat → Int64) × (Nat → Int64)) := Option.bind (f_M_isState sts p1) (fun r1 => (if r1 = 0 then some ((-1 : Int32), (0 : Int32), up, dn, cel, rig, sum) else Option.bind (f_M_isState sts p2) (fun r3 => (if r3 = 0 then some ((-1 : Int32), (0 : Int32), up, dn, cel, rig, sum) else Option.bind (f_M_layOdds sts wgt cel rig ((1 : Int32) <<< (p2 &&& 31)) (0 : Int32)) (fun (cel_5, rig_6) => Option.bind (f_M_solved sts cel_5 rig_6 sum p1) (fun (r7, up_8, dn_9, sum_10) => some (r7, (0 : Int32), up_8, dn_9, cel_5, rig_6, sum_10)))))))
def f_M_again_B50 (sts : Int32) (wgt : Nat → Int32) (cel_5 : Nat → Int64) (rig_6 : Nat → Int64) (p1 : Int32) (x4_9 : Int64) (x6_10 : Int32) (sum_12 : Nat → Int64) : Option ((Int64 × Int32 × (Nat → Int64)) ⊕ (Int64 × Int32 × (Nat → Int64))) := (if sts ≤ x6_10 then some (.inr (x4_9, x6_10, sum_12)) else Option.bind (f_M_w wgt p1 x6_10) (fun r14 => (if r14 ≤ 0 then some (.inl ((x4_9 + (0 : Int64)), (x6_10 + 1), sum_12)) else Option.bind (f_M_w wgt p1 x6_10) (fun r16 => Option.bind (f_M_all sts cel_5 rig_6 sum_12 x6_10) (fun (r17, sum_18) => some (.inl ((x4_9 + ((r16.toInt64) * r17)), (x6_10 + 1), sum_18)))))))
def f_M_again_L50 (sts : Int32) (wgt : Nat → Int32) (cel_5 : Nat → Int64) (rig_6 : Nat → Int64) (p1 : Int32) (n : Nat) (x4_9 : Int64) (x6_10 : Int32) (sum_12 : Nat → Int64) : Option (Int64 × Int32 × (Nat → Int64)) := lp (fun s => f_M_again_B50 sts wgt cel_5 rig_6 p1 s.1 s.2.1 s.2.2) n (x4_9, x6_10, sum_12)
theorem f_M_again_L50_s (sts : Int32) (wgt : Nat → Int32) (cel_5 : Nat → Int64) (rig_6 : Nat → Int64) (p1 : Int32) (n : Nat) (x4_9 : Int64) (x6_10 : Int32) (sum_12 : Nat → Int64) : f_M_again_L50 sts wgt cel_5 rig_6 p1 (n + 1) x4_9 x6_10 sum_12 = Option.bind (f_M_again_B50 sts wgt cel_5 rig_6 p1 x4_9 x6_10 sum_12) (lpk (fun s => f_M_again_L50 sts wgt cel_5 rig_6 p1 n s.1 s.2.1 s.2.2)) := lp_s (fun s => f_M_again_B50 sts wgt cel_5 rig_6 p1 s.1 s.2.1 s.2.2) n (x4_9, x6_10, sum_12)
def f_M_again (sts : Int32) (wgt : Nat → Int32) (up : Int64) (dn : Int64) (cel : Nat → Int64) (rig : Nat → Int64) (sum : Nat → Int64) (p1 : Int32) : Option (Int32 × Int32 × Int64 × Int64 × (Nat → Int64) × (Nat → Int64) × (Nat → Int64)) := Option.bind (f_M_isState sts p1) (fun r1 => (if r1 = 0 then some ((-1 : Int32), (0 : Int32), up, dn, cel, rig, sum) else Option.bind (f_M_isEnd sts wgt p1) (fun r3 => (if r3 = 0 then Option.bind (f_M_layOdds sts wgt cel rig ((1 : Int32) <<< (p1 &&& 31)) (0 : Int32)) (fun (cel_5, rig_6) => Option.bind (f_M_all sts cel_5 rig_6 sum (-1 : Int32)) (fun (r7, sum_8) => Option.bind (f_M_again_L50 sts wgt cel_5 rig_6 p1 300 (0 : Int64) (0 : Int32) sum_8) (fun (u20, u21, u22) => Option.bind (f_M_total sts wgt p1) (fun r23 => Option.bind (f_M_answer u20 ((r23.toInt64) * r7)) (fun (r24, up_25, dn_26) => some (r24, (0 : Int32), up_25, dn_26, cel_5, rig_6, u22)))))) else Option.bind (f_M_answer (1 : Int64) (1 : Int64)) (fun (r27, up_28, dn_29) => some (r27, (0 : Int32), up_28, dn_29, cel, rig, sum))))))
def f_M_before (sts : Int32) (wgt : Nat → Int32) (up : Int64) (dn : Int64) (cel : Nat → Int64) (rig : Nat → Int64) (sum : Nat → Int64) (p1 : Int32) (p2 : Int32) (p3 : Int32) : Option (Int32 × Int32 × Int64 × Int64 × (Nat → Int64) × (Nat → Int64) × (Nat → Int64)) := Option.bind (f_M_isState sts p1) (fun r1 => (if r1 = 0 then some ((-1 : Int32), (0 : Int32), up, dn, cel, rig, sum) else Option.bind (f_M_isState sts p2) (fun r3 => (if r3 = 0 then some ((-1 : Int32), (0 : Int32), up, dn, cel, rig, sum) else Option.bind (f_M_isState sts p3) (fun r5 => (if r5 = 0 then some ((-1 : Int32), (0 : Int32), up, dn, cel, rig, sum) else (if p2 = p3 then some ((-3 : Int32), (0 : Int32), up, dn, cel, rig, sum) else Option.bind (f_M_layOdds sts wgt cel rig ((1 : Int32) <<< (p2 &&& 31)) ((1 : Int32) <<< (p3 &&& 31))) (fun (cel_8, rig_9) => Option.bind (f_M_solved sts cel_8 rig_9 sum p1) (fun (r10, up_11, dn_12, sum_13) => some (r10, (0 : Int32), up_11, dn_12, cel_8, rig_9, sum_13))))))))))
def f_M_isSure (sts : Int32) (wgt : Nat → Int32) (p1 : Int32) (p2 : Int32) : Option (Int32) := Option.bind (f_M_reach sts wgt ((1 : Int32) <<< (p1 &&& 31)) p2) (fun r1 => Option.bind (f_M_whence sts wgt p2 p2) (fun r2 => (if (r1 &&& (r2 ^^^ (-1 : Int32))) = 0 then some ((1 : Int32)) else some ((0 : Int32)))))
def f_M_steps_B53 (sts : Int32) (wgt : Nat → Int32) (p2 : Int32) (r7 : Int32) (x4_8 : Int32) (cel_10 : Nat → Int64) (rig_11 : Nat → Int64) : Option ((Int32 × (Nat → Int64) × (Nat → Int64)) ⊕ (Int32 × (Nat → Int64) × (Nat → Int64))) := (if sts ≤ x4_8 then some (.inr (x4_8, cel_10, rig_11)) else Option.bind (f_M_has p2 x4_8) (fun r13 => (if r13 = 0 then Option.bind (f_M_has r7 x4_8) (fun r17 => (if r17 = 0 then Option.bind (f_M_fix sts cel_10 rig_11 x4_8 (0 : Int64)) (fun (cel_22, rig_23) => some (.inl ((x4_8 + 1), cel_22, rig_23))) else Option.bind (f_M_total sts wgt x4_8) (fun r19 => Option.bind (f_M_lay sts wgt cel_10 rig_11 x4_8 (r19.toInt64)) (fun (cel_20, rig_21) => some (.inl ((x4_8 + 1), cel_20, rig_21)))))) else Option.bind (f_M_fix sts cel_10 rig_11 x4_8 (0 : Int64)) (fun (cel_15, rig_16) => some (.inl ((x4_8 + 1), cel_15, rig_16))))))
def f_M_steps_L53 (sts : Int32) (wgt : Nat → Int32) (p2 : Int32) (r7 : Int32) (n : Nat) (x4_8 : Int32) (cel_10 : Nat → Int64) (rig_11 : Nat → Int64) : Option (Int32 × (Nat → Int64) × (Nat → Int64)) := lp (fun s => f_M_steps_B53 sts wgt p2 r7 s.1 s.2.1 s.2.2) n (x4_8, cel_10, rig_11)
theorem f_M_steps_L53_s (sts : Int32) (wgt : Nat → Int32) (p2 : Int32) (r7 : Int32) (n : Nat) (x4_8 : Int32) (cel_10 : Nat → Int64) (rig_11 : Nat → Int64) : f_M_steps_L53 sts wgt p2 r7 (n + 1) x4_8 cel_10 rig_11 = Option.bind (f_M_steps_B53 sts wgt p2 r7 x4_8 cel_10 rig_11) (lpk (fun s => f_M_steps_L53 sts wgt p2 r7 n s.1 s.2.1 s.2.2)) := lp_s (fun s => f_M_steps_B53 sts wgt p2 r7 s.1 s.2.1 s.2.2) n (x4_8, cel_10, rig_11)
def f_M_steps (sts : Int32) (wgt : Nat → Int32) (up : Int64) (dn : Int64) (cel : Nat → Int64) (rig : Nat → Int64) (sum : Nat → Int64) (p1 : Int32) (p2 : Int32) : Option (Int32 × Int32 × Int64 × Int64 × (Nat → Int64) × (Nat → Int64) × (Nat → Int64)) := Option.bind (f_M_isState sts p1) (fun r1 => (if r1 = 0 then some ((-1 : Int32), (0 : Int32), up, dn, cel, rig, sum) else (if p2 < 0 then some ((-1 : Int32), (0 : Int32), up, dn, cel, rig, sum) else (if p2 < ((1 : Int32) <<< (sts &&& 31)) then Option.bind (f_M_isSure sts wgt p1 p2) (fun r5 => (if r5 = 0 then some ((-3 : Int32), (0 : Int32), up, dn, cel, rig, sum) else Option.bind (f_M_reach sts wgt ((1 : Int32) <<< (p1 &&& 31)) p2) (fun r7 => Option.bind (f_M_steps_L53 sts wgt p2 r7 300 (0 : Int32) cel rig) (fun (u25, u26, u27) => Option.bind (f_M_solved sts u26 u27 sum p1) (fun (r28, up_29, dn_30, sum_31) => some (r28, (0 : Int32), up_29, dn_30, u26, u27, sum_31)))))) else some ((-1 : Int32), (0 : Int32), up, dn, cel, rig, sum)))))
def f_M_visits_B69 (sts : Int32) (wgt : Nat → Int32) (p2 : Int32) (r5 : Int32) (x4_10 : Int32) (cel_12 : Nat → Int64) (rig_13 : Nat → Int64) : Option ((Int32 × (Nat → Int64) × (Nat → Int64)) ⊕ (Int32 × (Nat → Int64) × (Nat → Int64))) := (if sts ≤ x4_10 then some (.inr (x4_10, cel_12, rig_13)) else Option.bind (f_M_has r5 x4_10) (fun r15 => (if r15 = 0 then Option.bind (f_M_fix sts cel_12 rig_13 x4_10 (0 : Int64)) (fun (cel_17, rig_18) => some (.inl ((x4_10 + 1), cel_17, rig_18))) else Option.bind (if x4_10 = p2 then Option.bind (f_M_total sts wgt x4_10) (fun r22 => some (r22.toInt64)) else some (0 : Int64)) (fun j19 => Option.bind (f_M_lay sts wgt cel_12 rig_13 x4_10 j19) (fun (cel_23, rig_24) => some (.inl ((x4_10 + 1), cel_23, rig_24)))))))
def f_M_visits_L69 (sts : Int32) (wgt : Nat → Int32) (p2 : Int32) (r5 : Int32) (n : Nat) (x4_10 : Int32) (cel_12 : Nat → Int64) (rig_13 : Nat → Int64) : Option (Int32 × (Nat → Int64) × (Nat → Int64)) := lp (fun s => f_M_visits_B69 sts wgt p2 r5 s.1 s.2.1 s.2.2) n (x4_10, cel_12, rig_13)
theorem f_M_visits_L69_s (sts : Int32) (wgt : Nat → Int32) (p2 : Int32) (r5 : Int32) (n : Nat) (x4_10 : Int32) (cel_12 : Nat → Int64) (rig_13 : Nat → Int64) : f_M_visits_L69 sts wgt p2 r5 (n + 1) x4_10 cel_12 rig_13 = Option.bind (f_M_visits_B69 sts wgt p2 r5 x4_10 cel_12 rig_13) (lpk (fun s => f_M_visits_L69 sts wgt p2 r5 n s.1 s.2.1 s.2.2)) := lp_s (fun s => f_M_visits_B69 sts wgt p2 r5 s.1 s.2.1 s.2.2) n (x4_10, cel_12, rig_13)
def f_M_visits_B69b (sts : Int32) (wgt : Nat → Int32) (p2 : Int32) (r5 : Int32) (x4_40 : Int32) (cel_42 : Nat → Int64) (rig_43 : Nat → Int64) : Option ((Int32 × (Nat → Int64) × (Nat → Int64)) ⊕ (Int32 × (Nat → Int64) × (Nat → Int64))) := (if sts ≤ x4_40 then some (.inr (x4_40, cel_42, rig_43)) else Option.bind (f_M_has r5 x4_40) (fun r45 => (if r45 = 0 then Option.bind (f_M_fix sts cel_42 rig_43 x4_40 (0 : Int64)) (fun (cel_47, rig_48) => some (.inl ((x4_40 + 1), cel_47, rig_48))) else Option.bind (if x4_40 = p2 then Option.bind (f_M_total sts wgt x4_40) (fun r52 => some (r52.toInt64)) else some (0 : Int64)) (fun j49 => Option.bind (f_M_lay sts wgt cel_42 rig_43 x4_40 j49) (fun (cel_53, rig_54) => some (.inl ((x4_40 + 1), cel_53, rig_54)))))))
def f_M_visits_L69b (sts : Int32) (wgt : Nat → Int32) (p2 : Int32) (r5 : Int32) (n : Nat) (x4_40 : Int32) (cel_42 : Nat → Int64) (rig_43 : Nat → Int64) : Option (Int32 × (Nat → Int64) × (Nat → Int64)) := lp (fun s => f_M_visits_B69b sts wgt p2 r5 s.1 s.2.1 s.2.2) n (x4_40, cel_42, rig_43)
theorem f_M_visits_L69b_s (sts : Int32) (wgt : Nat → Int32) (p2 : Int32) (r5 : Int32) (n : Nat) (x4_40 : Int32) (cel_42 : Nat → Int64) (rig_43 : Nat → Int64) : f_M_visits_L69b sts wgt p2 r5 (n + 1) x4_40 cel_42 rig_43 = Option.bind (f_M_visits_B69b sts wgt p2 r5 x4_40 cel_42 rig_43) (lpk (fun s => f_M_visits_L69b sts wgt p2 r5 n s.1 s.2.1 s.2.2)) := lp_s (fun s => f_M_visits_B69b sts wgt p2 r5 s.1 s.2.1 s.2.2) n (x4_40, cel_42, rig_43)
def f_M_visits (sts : Int32) (wgt : Nat → Int32) (up : Int64) (dn : Int64) (cel : Nat → Int64) (rig : Nat → Int64) (sum : Nat → Int64) (p1 : Int32) (p2 : Int32) : Option (Int32 × Int32 × Int64 × Int64 × (Nat → Int64) × (Nat → Int64) × (Nat → Int64)) := Option.bind (f_M_isState sts p1) (fun r1 => (if r1 = 0 then some ((-1 : Int32), (0 : Int32), up, dn, cel, rig, sum) else Option.bind (f_M_isState sts p2) (fun r3 => (if r3 = 0 then some ((-1 : Int32), (0 : Int32), up, dn, cel, rig, sum) else Option.bind (f_M_whence sts wgt ((1 : Int32) <<< (p2 &&& 31)) (0 : Int32)) (fun r5 => Option.bind (f_M_has r5 p1) (fun r6 => (if r6 = 0 then Option.bind (f_M_has r5 p1) (fun r8 => (if r8 = 0 then Option.bind (f_M_answer (0 : Int64) (1 : Int64)) (fun (r33, up_34, dn_35) => some (r33, (0 : Int32), up_34, dn_35, cel, rig, sum)) else Option.bind (f_M_visits_L69 sts wgt p2 r5 300 (0 : Int32) cel rig) (fun (u26, u27, u28) => Option.bind (f_M_solved sts u27 u28 sum p1) (fun (r29, up_30, dn_31, sum_32) => some (r29, (0 : Int32), up_30, dn_31, u27, u28, sum_32))))) else Option.bind (f_M_isClosed sts wgt p2) (fun r36 => (if r36 = 0 then Option.bind (f_M_has r5 p1) (fun r38 => (if r38 = 0 then Option.bind (f_M_answer (0 : Int64) (1 : Int64)) (fun (r63, up_64, dn_65) => some (r63, (0 : Int32), up_64, dn_65, cel, rig, sum)) else Option.bind (f_M_visits_L69b sts wgt p2 r5 300 (0 : Int32) cel rig) (fun (u56, u57, u58) => Option.bind (f_M_solved sts u57 u58 sum p1) (fun (r59, up_60, dn_61, sum_62) => some (r59, (0 : Int32), up_60, dn_61, u57, u58, sum_62))))) else some ((-3 : Int32), (0 : Int32), up, dn, cel, rig, sum))))))))))
def f_M_share_B115 (sts : Int32) (wgt : Nat → Int32) (r7 : Int32) (x12_18 : Int32) (x13_26 : Int32) (cel_27 : Nat → Int64) (rig_28 : Nat → Int64) : Option ((Int32 × (Nat → Int64) × (Nat → Int64)) ⊕ (Int32 × (Nat → Int64) × (Nat → Int64))) := (if sts ≤ x13_26 then some (.inr (x13_26, cel_27, rig_28)) else Option.bind (f_M_has r7 x13_26) (fun r30 => (if r30 = 0 then Option.bind (f_M_fix sts cel_27 rig_28 x13_26 (0 : Int64)) (fun (cel_32, rig_33) => some (.inl ((x13_26 + 1), cel_32, rig_33))) else (if x13_26 = x12_18 then Option.bind (f_M_fix sts cel_27 rig_28 x13_26 (0 : Int64)) (fun (cel_35, rig_36) => some (.inl ((x13_26 + 1), cel_35, rig_36))) else Option.bind (f_M_lay sts wgt cel_27 rig_28 x13_26 (0 : Int64)) (fun (cel_37, rig_38) => some (.inl ((x13_26 + 1), cel_37, rig_38)))))))
def f_M_share_L115 (sts : Int32) (wgt : Nat → Int32) (r7 : Int32) (x12_18 : Int32) (n : Nat) (x13_26 : Int32) (cel_27 : Nat → Int64) (rig_28 : Nat → Int64) : Option (Int32 × (Nat → Int64) × (Nat → Int64)) := lp (fun s => f_M_share_B115 sts wgt r7 x12_18 s.1 s.2.1 s.2.2) n (x13_26, cel_27, rig_28)
theorem f_M_share_L115_s (sts : Int32) (wgt : Nat → Int32) (r7 : Int32) (x12_18 : Int32) (n : Nat) (x13_26 : Int32) (cel_27 : Nat → Int64) (rig_28 : Nat → Int64) : f_M_share_L115 sts wgt r7 x12_18 (n + 1) x13_26 cel_27 rig_28 = Option.bind (f_M_share_B115 sts wgt r7 x12_18 x13_26 cel_27 rig_28) (lpk (fun s => f_M_share_L115 sts wgt r7 x12_18 n s.1 s.2.1 s.2.2)) := lp_s (fun s => f_M_share_B115 sts wgt r7 x12_18 s.1 s.2.1 s.2.2) n (x13_26, cel_27, rig_28)
def f_M_share_B166 (sts : Int32) (x12_18 : Int32) (x13_43 : Int32) (cel_44 : Nat → Int64) : Option ((Int32 × (Nat → Int64)) ⊕ (Int32 × (Nat → Int64))) := (if sts ≤ x13_43 then some (.inr (x13_43, cel_44)) else (if x13_43 = x12_18 then if ix (((7 : Int32) * x13_43) + x12_18) 49 = true then some (.inl ((x13_43 + 1), (vp_updL cel_44 (((7 : Int32) * x13_43) + x12_18).toNatClampNeg (1 : Int64)))) else none else if ix (((7 : Int32) * x13_43) + x12_18) 49 = true then some (.inl ((x13_43 + 1), (vp_updL cel_44 (((7 : Int32) * x13_43) + x12_18).toNatClampNeg (0 : Int64)))) else none))
def f_M_share_L166 (sts : Int32) (x12_18 : Int32) (n : Nat) (x13_43 : Int32) (cel_44 : Nat → Int64) : Option (Int32 × (Nat → Int64)) := lp (fun s => f_M_share_B166 sts x12_18 s.1 s.2) n (x13_43, cel_44)
theorem f_M_share_L166_s (sts : Int32) (x12_18 : Int32) (n : Nat) (x13_43 : Int32) (cel_44 : Nat → Int64) : f_M_share_L166 sts x12_18 (n + 1) x13_43 cel_44 = Option.bind (f_M_share_B166 sts x12_18 x13_43 cel_44) (lpk (fun s => f_M_share_L166 sts x12_18 n s.1 s.2)) := lp_s (fun s => f_M_share_B166 sts x12_18 s.1 s.2) n (x13_43, cel_44)
def f_M_share_B94 (sts : Int32) (wgt : Nat → Int32) (p2 : Int32) (r7 : Int32) (x8_16 : Int64) (x10_17 : Int64) (x12_18 : Int32) (cel_20 : Nat → Int64) (rig_21 : Nat → Int64) (sum_22 : Nat → Int64) : Option ((Int64 × Int64 × Int32 × (Nat → Int64) × (Nat → Int64) × (Nat → Int64)) ⊕ (Int64 × Int64 × Int32 × (Nat → Int64) × (Nat → Int64) × (Nat → Int64))) := (if sts ≤ x12_18 then some (.inr (x8_16, x10_17, x12_18, cel_20, rig_21, sum_22)) else Option.bind (f_M_has r7 x12_18) (fun r24 => (if r24 = 0 then some (.inl (x8_16, x10_17, (x12_18 + 1), cel_20, rig_21, sum_22)) else Option.bind (f_M_share_L115 sts wgt r7 x12_18 300 (0 : Int32) cel_20 rig_21) (fun (u40, u41, u42) => Option.bind (f_M_share_L166 sts x12_18 300 (0 : Int32) u41) (fun (u50, u51) => Option.bind (f_M_total sts wgt x12_18) (fun r52 => Option.bind (f_M_all sts u51 u42 sum_22 (-1 : Int32)) (fun (r53, sum_54) => (if x12_18 = p2 then some (.inl (((r52.toInt64) * r53), (x10_17 + ((r52.toInt64) * r53)), (x12_18 + 1), u51, u42, sum_54)) else some (.inl (x8_16, (x10_17 + ((r52.toInt64) * r53)), (x12_18 + 1), u51, u42, sum_54))))))))))
def f_M_share_L94 (sts : Int32) (wgt : Nat → Int32) (p2 : Int32) (r7 : Int32) (n : Nat) (x8_16 : Int64) (x10_17 : Int64) (x12_18 : Int32) (cel_20 : Nat → Int64) (rig_21 : Nat → Int64) (sum_22 : Nat → Int64) : Option (Int64 × Int64 × Int32 × (Nat → Int64) × (Nat → Int64) × (Nat → Int64)) := lp (fun s => f_M_share_B94 sts wgt p2 r7 s.1 s.2.1 s.2.2.1 s.2.2.2.1 s.2.2.2.2.1 s.2.2.2.2.2) n (x8_16, x10_17, x12_18, cel_20, rig_21, sum_22)
theorem f_M_share_L94_s (sts : Int32) (wgt : Nat → Int32) (p2 : Int32) (r7 : Int32) (n : Nat) (x8_16 : Int64) (x10_17 : Int64) (x12_18 : Int32) (cel_20 : Nat → Int64) (rig_21 : Nat → Int64) (sum_22 : Nat → Int64) : f_M_share_L94 sts wgt p2 r7 (n + 1) x8_16 x10_17 x12_18 cel_20 rig_21 sum_22 = Option.bind (f_M_share_B94 sts wgt p2 r7 x8_16 x10_17 x12_18 cel_20 rig_21 sum_22) (lpk (fun s => f_M_share_L94 sts wgt p2 r7 n s.1 s.2.1 s.2.2.1 s.2.2.2.1 s.2.2.2.2.1 s.2.2.2.2.2)) := lp_s (fun s => f_M_share_B94 sts wgt p2 r7 s.1 s.2.1 s.2.2.1 s.2.2.2.1 s.2.2.2.2.1 s.2.2.2.2.2) n (x8_16, x10_17, x12_18, cel_20, rig_21, sum_22)
def f_M_share (sts : Int32) (wgt : Nat → Int32) (up : Int64) (dn : Int64) (cel : Nat → Int64) (rig : Nat → Int64) (sum : Nat → Int64) (p1 : Int32) (p2 : Int32) : Option (Int32 × Int32 × Int64 × Int64 × (Nat → Int64) × (Nat → Int64) × (Nat → Int64)) := Option.bind (f_M_isState sts p1) (fun r1 => (if r1 = 0 then some ((-1 : Int32), (0 : Int32), up, dn, cel, rig, sum) else Option.bind (f_M_isState sts p2) (fun r3 => (if r3 = 0 then some ((-1 : Int32), (0 : Int32), up, dn, cel, rig, sum) else Option.bind (f_M_isClosed sts wgt p2) (fun r5 => (if r5 = 0 then Option.bind (f_M_answer (0 : Int64) (1 : Int64)) (fun (r72, up_73, dn_74) => some (r72, (0 : Int32), up_73, dn_74, cel, rig, sum)) else Option.bind (f_M_partOf sts wgt p2) (fun r7 => Option.bind (f_M_layOdds sts wgt cel rig r7 (0 : Int32)) (fun (cel_8, rig_9) => Option.bind (f_M_solved sts cel_8 rig_9 sum p1) (fun (r10, up_11, dn_12, sum_13) => Option.bind (f_M_isEnd sts wgt p2) (fun r14 => (if r14 = 0 then Option.bind (f_M_share_L94 sts wgt p2 r7 300 (0 : Int64) (0 : Int64) (0 : Int32) cel_8 rig_9 sum_13) (fun (u57, u58, u59, u60, u61, u62) => Option.bind (f_M_answer u57 u58) (fun (r63, up_64, dn_65) => Option.bind (f_M_answer (up_11 * up_64) (dn_12 * dn_65)) (fun (r66, up_67, dn_68) => some (r66, (0 : Int32), up_67, dn_68, u60, u61, u62)))) else Option.bind (f_M_answer up_11 dn_12) (fun (r69, up_70, dn_71) => some (r69, (0 : Int32), up_70, dn_71, cel_8, rig_9, sum_13)))))))))))))
def f_M_after_B41 (sts : Int32) (p1 : Int32) (x6_8 : Int32) (rig_10 : Nat → Int64) : Option ((Int32 × (Nat → Int64)) ⊕ (Int32 × (Nat → Int64))) := (if sts ≤ x6_8 then some (.inr (x6_8, rig_10)) else (if x6_8 = p1 then if ix x6_8 7 = true then some (.inl ((x6_8 + 1), (vp_updL rig_10 x6_8.toNatClampNeg (1 : Int64)))) else none else if ix x6_8 7 = true then some (.inl ((x6_8 + 1), (vp_updL rig_10 x6_8.toNatClampNeg (0 : Int64)))) else none))
def f_M_after_L41 (sts : Int32) (p1 : Int32) (n : Nat) (x6_8 : Int32) (rig_10 : Nat → Int64) : Option (Int32 × (Nat → Int64)) := lp (fun s => f_M_after_B41 sts p1 s.1 s.2) n (x6_8, rig_10)
theorem f_M_after_L41_s (sts : Int32) (p1 : Int32) (n : Nat) (x6_8 : Int32) (rig_10 : Nat → Int64) : f_M_after_L41 sts p1 (n + 1) x6_8 rig_10 = Option.bind (f_M_after_B41 sts p1 x6_8 rig_10) (lpk (fun s => f_M_after_L41 sts p1 n s.1 s.2)) := lp_s (fun s => f_M_after_B41 sts p1 s.1 s.2) n (x6_8, rig_10)
def f_M_after_B129 (sts : Int32) (wgt : Nat → Int32) (rig_22 : Nat → Int64) (x7_24 : Int32) (x8_33 : Int32) (cel_34 : Nat → Int64) : Option ((Int32 × (Nat → Int64)) ⊕ (Int32 × (Nat → Int64))) := (if sts ≤ x8_33 then some (.inr (x8_33, cel_34)) else if ix x7_24 49 = true then Option.bind (f_M_isEnd sts wgt x8_33) (fun r37 => (if r37 = 0 then if ix x8_33 7 = true then Option.bind (f_M_w wgt x8_33 x7_24) (fun r40 => Option.bind (f_M_total sts wgt x8_33) (fun r41 => if ¬ (r41.toInt64) = 0 then if ix x7_24 49 = true then some (.inl ((x8_33 + 1), (vp_updL cel_34 x7_24.toNatClampNeg ((cel_34 x7_24.toNatClampNeg) + (((rig_22 x8_33.toNatClampNeg) * (r40.toInt64)) * ((27720 : Int64) / (r41.toInt64))))))) else none else none)) else none else if ix x7_24 49 = true then some (.inl ((x8_33 + 1), (vp_updL cel_34 x7_24.toNatClampNeg ((cel_34 x7_24.toNatClampNeg) + (0 : Int64))))) else none)) else none)
def f_M_after_L129 (sts : Int32) (wgt : Nat → Int32) (rig_22 : Nat → Int64) (x7_24 : Int32) (n : Nat) (x8_33 : Int32) (cel_34 : Nat → Int64) : Option (Int32 × (Nat → Int64)) := lp (fun s => f_M_after_B129 sts wgt rig_22 x7_24 s.1 s.2) n (x8_33, cel_34)
theorem f_M_after_L129_s (sts : Int32) (wgt : Nat → Int32) (rig_22 : Nat → Int64) (x7_24 : Int32) (n : Nat) (x8_33 : Int32) (cel_34 : Nat → Int64) : f_M_after_L129 sts wgt rig_22 x7_24 (n + 1) x8_33 cel_34 = Option.bind (f_M_after_B129 sts wgt rig_22 x7_24 x8_33 cel_34) (lpk (fun s => f_M_after_L129 sts wgt rig_22 x7_24 n s.1 s.2)) := lp_s (fun s => f_M_after_B129 sts wgt rig_22 x7_24 s.1 s.2) n (x8_33, cel_34)
def f_M_after_B86 (sts : Int32) (wgt : Nat → Int32) (rig_22 : Nat → Int64) (x7_24 : Int32) (cel_25 : Nat → Int64) : Option ((Int32 × (Nat → Int64)) ⊕ (Int32 × (Nat → Int64))) := (if sts ≤ x7_24 then some (.inr (x7_24, cel_25)) else Option.bind (f_M_isEnd sts wgt x7_24) (fun r27 => Option.bind (if r27 = 0 then some (0 : Int64) else if ix x7_24 7 = true then some ((rig_22 x7_24.toNatClampNeg) * (27720 : Int64)) else none) (fun j28 => if ix x7_24 49 = true then Option.bind (f_M_after_L129 sts wgt rig_22 x7_24 300 (0 : Int32) (vp_updL cel_25 x7_24.toNatClampNeg j28)) (fun (u46, u47) => some (.inl ((x7_24 + 1), u47))) else none)))
def f_M_after_L86 (sts : Int32) (wgt : Nat → Int32) (rig_22 : Nat → Int64) (n : Nat) (x7_24 : Int32) (cel_25 : Nat → Int64) : Option (Int32 × (Nat → Int64)) := lp (fun s => f_M_after_B86 sts wgt rig_22 s.1 s.2) n (x7_24, cel_25)
theorem f_M_after_L86_s (sts : Int32) (wgt : Nat → Int32) (rig_22 : Nat → Int64) (n : Nat) (x7_24 : Int32) (cel_25 : Nat → Int64) : f_M_after_L86 sts wgt rig_22 (n + 1) x7_24 cel_25 = Option.bind (f_M_after_B86 sts wgt rig_22 x7_24 cel_25) (lpk (fun s => f_M_after_L86 sts wgt rig_22 n s.1 s.2)) := lp_s (fun s => f_M_after_B86 sts wgt rig_22 s.1 s.2) n (x7_24, cel_25)
def f_M_after_B205 (sts : Int32) (u50 : Nat → Int64) (x7_51 : Int32) (rig_52 : Nat → Int64) : Option ((Int32 × (Nat → Int64)) ⊕ (Int32 × (Nat → Int64))) := (if sts ≤ x7_51 then some (.inr (x7_51, rig_52)) else if ix x7_51 49 = true then if ix x7_51 7 = true then some (.inl ((x7_51 + 1), (vp_updL rig_52 x7_51.toNatClampNeg (u50 x7_51.toNatClampNeg)))) else none else none)
def f_M_after_L205 (sts : Int32) (u50 : Nat → Int64) (n : Nat) (x7_51 : Int32) (rig_52 : Nat → Int64) : Option (Int32 × (Nat → Int64)) := lp (fun s => f_M_after_B205 sts u50 s.1 s.2) n (x7_51, rig_52)
theorem f_M_after_L205_s (sts : Int32) (u50 : Nat → Int64) (n : Nat) (x7_51 : Int32) (rig_52 : Nat → Int64) : f_M_after_L205 sts u50 (n + 1) x7_51 rig_52 = Option.bind (f_M_after_B205 sts u50 x7_51 rig_52) (lpk (fun s => f_M_after_L205 sts u50 n s.1 s.2)) := lp_s (fun s => f_M_after_B205 sts u50 s.1 s.2) n (x7_51, rig_52)
def f_M_after_B77 (sts : Int32) (wgt : Nat → Int32) (p3 : Int32) (x4_18 : Int64) (x6_19 : Int32) (cel_21 : Nat → Int64) (rig_22 : Nat → Int64) : Option ((Int64 × Int32 × (Nat → Int64) × (Nat → Int64)) ⊕ (Int64 × Int32 × (Nat → Int64) × (Nat → Int64))) := (if p3 ≤ x6_19 then some (.inr (x4_18, x6_19, cel_21, rig_22)) else Option.bind (f_M_after_L86 sts wgt rig_22 300 (0 : Int32) cel_21) (fun (u49, u50) => Option.bind (f_M_after_L205 sts u50 300 (0 : Int32) rig_22) (fun (u57, u58) => some (.inl ((x4_18 * (27720 : Int64)), (x6_19 + 1), u50, u58)))))
def f_M_after_L77 (sts : Int32) (wgt : Nat → Int32) (p3 : Int32) (n : Nat) (x4_18 : Int64) (x6_19 : Int32) (cel_21 : Nat → Int64) (rig_22 : Nat → Int64) : Option (Int64 × Int32 × (Nat → Int64) × (Nat → Int64)) := lp (fun s => f_M_after_B77 sts wgt p3 s.1 s.2.1 s.2.2.1 s.2.2.2) n (x4_18, x6_19, cel_21, rig_22)
theorem f_M_after_L77_s (sts : Int32) (wgt : Nat → Int32) (p3 : Int32) (n : Nat) (x4_18 : Int64) (x6_19 : Int32) (cel_21 : Nat → Int64) (rig_22 : Nat → Int64) : f_M_after_L77 sts wgt p3 (n + 1) x4_18 x6_19 cel_21 rig_22 = Option.bind (f_M_after_B77 sts wgt p3 x4_18 x6_19 cel_21 rig_22) (lpk (fun s => f_M_after_L77 sts wgt p3 n s.1 s.2.1 s.2.2.1 s.2.2.2)) := lp_s (fun s => f_M_after_B77 sts wgt p3 s.1 s.2.1 s.2.2.1 s.2.2.2) n (x4_18, x6_19, cel_21, rig_22)
def f_M_after (sts : Int32) (wgt : Nat → Int32) (up : Int64) (dn : Int64) (cel : Nat → Int64) (rig : Nat → Int64) (p1 : Int32) (p2 : Int32) (p3 : Int32) : Option (Int32 × Int32 × Int64 × Int64 × (Nat → Int64) × (Nat → Int64)) := Option.bind (f_M_isState sts p1) (fun r1 => (if r1 = 0 then some ((-1 : Int32), (0 : Int32), up, dn, cel, rig) else Option.bind (f_M_isState sts p2) (fun r3 => (if r3 = 0 then some ((-1 : Int32), (0 : Int32), up, dn, cel, rig) else Option.bind (f_M_within p3 (0 : Int32) (4 : Int32)) (fun r5 => (if r5 = 0 then some ((-2 : Int32), (0 : Int32), up, dn, cel, rig) else Option.bind (f_M_after_L41 sts p1 300 (0 : Int32) rig) (fun (u16, u17) => Option.bind (f_M_after_L77 sts wgt p3 300 (1 : Int64) (0 : Int32) cel u17) (fun (u60, u61, u62, u63) => if ix p2 7 = true then Option.bind (f_M_answer (u63 p2.toNatClampNeg) u60) (fun (r65, up_66, dn_67) => some (r65, (0 : Int32), up_66, dn_67, u62, u63)) else none))))))))
def f_M_ends_B4 (sts : Int32) (wgt : Nat → Int32) (x1_1 : Int32) (x2_2 : Int32) : Option ((Int32 × Int32) ⊕ (Int32 × Int32)) := (if sts ≤ x2_2 then some (.inr (x1_1, x2_2)) else Option.bind (f_M_isEnd sts wgt x2_2) (fun r4 => (if r4 = 0 then some (.inl (x1_1, (x2_2 + 1))) else some (.inl ((x1_1 ||| ((1 : Int32) <<< (x2_2 &&& 31))), (x2_2 + 1))))))
def f_M_ends_L4 (sts : Int32) (wgt : Nat → Int32) (n : Nat) (x1_1 : Int32) (x2_2 : Int32) : Option (Int32 × Int32) := lp (fun s => f_M_ends_B4 sts wgt s.1 s.2) n (x1_1, x2_2)
theorem f_M_ends_L4_s (sts : Int32) (wgt : Nat → Int32) (n : Nat) (x1_1 : Int32) (x2_2 : Int32) : f_M_ends_L4 sts wgt (n + 1) x1_1 x2_2 = Option.bind (f_M_ends_B4 sts wgt x1_1 x2_2) (lpk (fun s => f_M_ends_L4 sts wgt n s.1 s.2)) := lp_s (fun s => f_M_ends_B4 sts wgt s.1 s.2) n (x1_1, x2_2)
def f_M_ends (sts : Int32) (wgt : Nat → Int32) : Option (Int32) := Option.bind (f_M_ends_L4 sts wgt 300 (0 : Int32) (0 : Int32)) (fun (u7, u8) => some (u7))
def f_M_worth_B41 (sts : Int32) (wgt : Nat → Int32) (rwd : Nat → Int32) (r6 : Int32) (x3_7 : Int32) (cel_9 : Nat → Int64) (rig_10 : Nat → Int64) : Option ((Int32 × (Nat → Int64) × (Nat → Int64)) ⊕ (Int32 × (Nat → Int64) × (Nat → Int64))) := (if sts ≤ x3_7 then some (.inr (x3_7, cel_9, rig_10)) else Option.bind (f_M_isEnd sts wgt x3_7) (fun r12 => (if r12 = 0 then Option.bind (f_M_has r6 x3_7) (fun r16 => (if r16 = 0 then Option.bind (f_M_fix sts cel_9 rig_10 x3_7 (0 : Int64)) (fun (cel_22, rig_23) => some (.inl ((x3_7 + 1), cel_22, rig_23))) else Option.bind (f_M_total sts wgt x3_7) (fun r18 => if ix x3_7 7 = true then Option.bind (f_M_lay sts wgt cel_9 rig_10 x3_7 ((r18.toInt64) * ((rwd x3_7.toNatClampNeg).toInt64))) (fun (cel_20, rig_21) => some (.inl ((x3_7 + 1), cel_20, rig_21))) else none))) else Option.bind (f_M_fix sts cel_9 rig_10 x3_7 (0 : Int64)) (fun (cel_14, rig_15) => some (.inl ((x3_7 + 1), cel_14, rig_15))))))
def f_M_worth_L41 (sts : Int32) (wgt : Nat → Int32) (rwd : Nat → Int32) (r6 : Int32) (n : Nat) (x3_7 : Int32) (cel_9 : Nat → Int64) (rig_10 : Nat → Int64) : Option (Int32 × (Nat → Int64) × (Nat → Int64)) := lp (fun s => f_M_worth_B41 sts wgt rwd r6 s.1 s.2.1 s.2.2) n (x3_7, cel_9, rig_10)
theorem f_M_worth_L41_s (sts : Int32) (wgt : Nat → Int32) (rwd : Nat → Int32) (r6 : Int32) (n : Nat) (x3_7 : Int32) (cel_9 : Nat → Int64) (rig_10 : Nat → Int64) : f_M_worth_L41 sts wgt rwd r6 (n + 1) x3_7 cel_9 rig_10 = Option.bind (f_M_worth_B41 sts wgt rwd r6 x3_7 cel_9 rig_10) (lpk (fun s => f_M_worth_L41 sts wgt rwd r6 n s.1 s.2.1 s.2.2)) := lp_s (fun s => f_M_worth_B41 sts wgt rwd r6 s.1 s.2.1 s.2.2) n (x3_7, cel_9, rig_10)
def f_M_worth (sts : Int32) (wgt : Nat → Int32) (rwd : Nat → Int32) (up : Int64) (dn : Int64) (cel : Nat → Int64) (rig : Nat → Int64) (sum : Nat → Int64) (p1 : Int32) : Option (Int32 × Int32 × Int64 × Int64 × (Nat → Int64) × (Nat → Int64) × (Nat → Int64)) := Option.bind (f_M_isState sts p1) (fun r1 => (if r1 = 0 then some ((-1 : Int32), (0 : Int32), up, dn, cel, rig, sum) else Option.bind (f_M_ends sts wgt) (fun r3 => Option.bind (f_M_isSure sts wgt p1 r3) (fun r4 => (if r4 = 0 then some ((-3 : Int32), (0 : Int32), up, dn, cel, rig, sum) else Option.bind (f_M_reach sts wgt ((1 : Int32) <<< (p1 &&& 31)) (0 : Int32)) (fun r6 => Option.bind (f_M_worth_L41 sts wgt rwd r6 300 (0 : Int32) cel rig) (fun (u25, u26, u27) => Option.bind (f_M_solved sts u26 u27 sum p1) (fun (r28, up_29, dn_30, sum_31) => some (r28, (0 : Int32), up_29, dn_30, u26, u27, sum_31)))))))))
def f_M_weightTo_B5 (sts : Int32) (wgt : Nat → Int32) (gp : Nat → Int32) (p1 : Int32) (p2 : Int32) (x3_1 : Int32) (x4_2 : Int32) : Option ((Int32 × Int32) ⊕ (Int32 × Int32)) := (if sts ≤ x4_2 then some (.inr (x3_1, x4_2)) else if ix x4_2 7 = true then (if (gp x4_2.toNatClampNeg) = p2 then Option.bind (f_M_w wgt p1 x4_2) (fun r6 => some (.inl ((x3_1 + r6), (x4_2 + 1)))) else some (.inl ((x3_1 + (0 : Int32)), (x4_2 + 1)))) else none)
def f_M_weightTo_L5 (sts : Int32) (wgt : Nat → Int32) (gp : Nat → Int32) (p1 : Int32) (p2 : Int32) (n : Nat) (x3_1 : Int32) (x4_2 : Int32) : Option (Int32 × Int32) := lp (fun s => f_M_weightTo_B5 sts wgt gp p1 p2 s.1 s.2) n (x3_1, x4_2)
theorem f_M_weightTo_L5_s (sts : Int32) (wgt : Nat → Int32) (gp : Nat → Int32) (p1 : Int32) (p2 : Int32) (n : Nat) (x3_1 : Int32) (x4_2 : Int32) : f_M_weightTo_L5 sts wgt gp p1 p2 (n + 1) x3_1 x4_2 = Option.bind (f_M_weightTo_B5 sts wgt gp p1 p2 x3_1 x4_2) (lpk (fun s => f_M_weightTo_L5 sts wgt gp p1 p2 n s.1 s.2)) := lp_s (fun s => f_M_weightTo_B5 sts wgt gp p1 p2 s.1 s.2) n (x3_1, x4_2)
def f_M_weightTo (sts : Int32) (wgt : Nat → Int32) (gp : Nat → Int32) (p1 : Int32) (p2 : Int32) : Option (Int32) := Option.bind (f_M_weightTo_L5 sts wgt gp p1 p2 300 (0 : Int32) (0 : Int32)) (fun (u8, u9) => some (u8))
def f_M_fits_B33 (sts : Int32) (wgt : Nat → Int32) (gp : Nat → Int32) (p1 : Int32) (p2 : Int32) (p3 : Int32) (x4_7 : Int32) : Option ((Int32) ⊕ ((Int32) ⊕ (Int32))) := (if p3 ≤ x4_7 then some (.inr (.inl x4_7)) else Option.bind (f_M_weightTo sts wgt gp p1 x4_7) (fun r9 => Option.bind (f_M_total sts wgt p2) (fun r10 => Option.bind (f_M_weightTo sts wgt gp p2 x4_7) (fun r11 => Option.bind (f_M_total sts wgt p1) (fun r12 => (if (r9 * r10) = (r11 * r12) then some (.inl (x4_7 + 1)) else some (.inr (.inr ((0 : Int32))))))))))
def f_M_fits_L33 (sts : Int32) (wgt : Nat → Int32) (gp : Nat → Int32) (p1 : Int32) (p2 : Int32) (p3 : Int32) (n : Nat) (x4_7 : Int32) : Option ((Int32) ⊕ (Int32)) := lp (fun s => f_M_fits_B33 sts wgt gp p1 p2 p3 s) n x4_7
theorem f_M_fits_L33_s (sts : Int32) (wgt : Nat → Int32) (gp : Nat → Int32) (p1 : Int32) (p2 : Int32) (p3 : Int32) (n : Nat) (x4_7 : Int32) : f_M_fits_L33 sts wgt gp p1 p2 p3 (n + 1) x4_7 = Option.bind (f_M_fits_B33 sts wgt gp p1 p2 p3 x4_7) (lpk (fun s => f_M_fits_L33 sts wgt gp p1 p2 p3 n s)) := lp_s (fun s => f_M_fits_B33 sts wgt gp p1 p2 p3 s) n x4_7
def f_M_fits (sts : Int32) (wgt : Nat → Int32) (rwd : Nat → Int32) (gp : Nat → Int32) (p1 : Int32) (p2 : Int32) (p3 : Int32) : Option (Int32) := Option.bind (f_M_isEnd sts wgt p1) (fun r1 => Option.bind (f_M_isEnd sts wgt p2) (fun r2 => (if r1 = r2 then if ix p1 7 = true then if ix p2 7 = true then (if (rwd p1.toNatClampNeg) = (rwd p2.toNatClampNeg) then Option.bind (f_M_fits_L33 sts wgt gp p1 p2 p3 300 (0 : Int32)) (fun | .inr r => some r | .inl u15 => some ((1 : Int32))) else some ((0 : Int32))) else none else none else some ((0 : Int32)))))
def f_M_isParting_B12 (sts : Int32) (wgt : Nat → Int32) (rwd : Nat → Int32) (gp : Nat → Int32) (p1 : Int32) (x2_1 : Int32) (x3_3 : Int32) : Option ((Int32) ⊕ ((Int32) ⊕ (Int32))) := (if x2_1 ≤ x3_3 then some (.inr (.inl x3_3)) else if ix x2_1 7 = true then if ix x3_3 7 = true then (if (gp x2_1.toNatClampNeg) = (gp x3_3.toNatClampNeg) then Option.bind (f_M_fits sts wgt rwd gp x2_1 x3_3 p1) (fun r8 => (if r8 = 0 then some (.inr (.inr ((0 : Int32)))) else some (.inl (x3_3 + 1)))) else some (.inl (x3_3 + 1))) else none else none)
def f_M_isParting_L12 (sts : Int32) (wgt : Nat → Int32) (rwd : Nat → Int32) (gp : Nat → Int32) (p1 : Int32) (x2_1 : Int32) (n : Nat) (x3_3 : Int32) : Option ((Int32) ⊕ (Int32)) := lp (fun s => f_M_isParting_B12 sts wgt rwd gp p1 x2_1 s) n x3_3
theorem f_M_isParting_L12_s (sts : Int32) (wgt : Nat → Int32) (rwd : Nat → Int32) (gp : Nat → Int32) (p1 : Int32) (x2_1 : Int32) (n : Nat) (x3_3 : Int32) : f_M_isParting_L12 sts wgt rwd gp p1 x2_1 (n + 1) x3_3 = Option.bind (f_M_isParting_B12 sts wgt rwd gp p1 x2_1 x3_3) (lpk (fun s => f_M_isParting_L12 sts wgt rwd gp p1 x2_1 n s)) := lp_s (fun s => f_M_isParting_B12 sts wgt rwd gp p1 x2_1 s) n x3_3
def f_M_isParting_B2 (sts : Int32) (wgt : Nat → Int32) (rwd : Nat → Int32) (gp : Nat → Int32) (p1 : Int32) (x2_1 : Int32) : Option ((Int32) ⊕ ((Int32) ⊕ (Int32))) := (if sts ≤ x2_1 then some (.inr (.inl x2_1)) else Option.bind (f_M_isParting_L12 sts wgt rwd gp p1 x2_1 300 (0 : Int32)) (fun | .inr r => some (.inr (.inr r)) | .inl u11 => some (.inl (x2_1 + 1))))
def f_M_isParting_L2 (sts : Int32) (wgt : Nat → Int32) (rwd : Nat → Int32) (gp : Nat → Int32) (p1 : Int32) (n : Nat) (x2_1 : Int32) : Option ((Int32) ⊕ (Int32)) := lp (fun s => f_M_isParting_B2 sts wgt rwd gp p1 s) n x2_1
theorem f_M_isParting_L2_s (sts : Int32) (wgt : Nat → Int32) (rwd : Nat → Int32) (gp : Nat → Int32) (p1 : Int32) (n : Nat) (x2_1 : Int32) : f_M_isParting_L2 sts wgt rwd gp p1 (n + 1) x2_1 = Option.bind (f_M_isParting_B2 sts wgt rwd gp p1 x2_1) (lpk (fun s => f_M_isParting_L2 sts wgt rwd gp p1 n s)) := lp_s (fun s => f_M_isParting_B2 sts wgt rwd gp p1 s) n x2_1
def f_M_isParting (sts : Int32) (wgt : Nat → Int32) (rwd : Nat → Int32) (gp : Nat → Int32) (p1 : Int32) : Option (Int32) := Option.bind (f_M_isParting_L2 sts wgt rwd gp p1 300 (0 : Int32)) (fun | .inr r => some r | .inl u14 => some ((1 : Int32)))
def f_M_next_B15 (gp_2 : Nat → Int32) (x1_1 : Int32) (x2_4 : Int32) (x3_5 : Int32) : Option ((Int32 × Int32) ⊕ (Int32 × Int32)) := (if x1_1 ≤ x3_5 then some (.inr (x2_4, x3_5)) else if ix x3_5 7 = true then (if (gp_2 x3_5.toNatClampNeg) < x2_4 then some (.inl (x2_4, (x3_5 + 1))) else if ix x3_5 7 = true then some (.inl (((gp_2 x3_5.toNatClampNeg) + (1 : Int32)), (x3_5 + 1))) else none) else none)
def f_M_next_L15 (gp_2 : Nat → Int32) (x1_1 : Int32) (n : Nat) (x2_4 : Int32) (x3_5 : Int32) : Option (Int32 × Int32) := lp (fun s => f_M_next_B15 gp_2 x1_1 s.1 s.2) n (x2_4, x3_5)
theorem f_M_next_L15_s (gp_2 : Nat → Int32) (x1_1 : Int32) (n : Nat) (x2_4 : Int32) (x3_5 : Int32) : f_M_next_L15 gp_2 x1_1 (n + 1) x2_4 x3_5 = Option.bind (f_M_next_B15 gp_2 x1_1 x2_4 x3_5) (lpk (fun s => f_M_next_L15 gp_2 x1_1 n s.1 s.2)) := lp_s (fun s => f_M_next_B15 gp_2 x1_1 s.1 s.2) n (x2_4, x3_5)
def f_M_next_B73 (sts : Int32) (x3_17 : Int32) (gp_18 : Nat → Int32) : Option ((Int32 × (Nat → Int32)) ⊕ (Int32 × (Nat → Int32))) := (if sts ≤ x3_17 then some (.inr (x3_17, gp_18)) else if ix x3_17 7 = true then some (.inl ((x3_17 + 1), (upd gp_18 x3_17.toNatClampNeg (0 : Int32)))) else none)
def f_M_next_L73 (sts : Int32) (n : Nat) (x3_17 : Int32) (gp_18 : Nat → Int32) : Option (Int32 × (Nat → Int32)) := lp (fun s => f_M_next_B73 sts s.1 s.2) n (x3_17, gp_18)
theorem f_M_next_L73_s (sts : Int32) (n : Nat) (x3_17 : Int32) (gp_18 : Nat → Int32) : f_M_next_L73 sts (n + 1) x3_17 gp_18 = Option.bind (f_M_next_B73 sts x3_17 gp_18) (lpk (fun s => f_M_next_L73 sts n s.1 s.2)) := lp_s (fun s => f_M_next_B73 sts s.1 s.2) n (x3_17, gp_18)
def f_M_next_B7 (sts : Int32) (x1_1 : Int32) (gp_2 : Nat → Int32) : Option ((Int32 × (Nat → Int32)) ⊕ ((Int32 × (Nat → Int32)) ⊕ (Int32 × (Nat → Int32)))) := (if x1_1 ≤ 0 then some (.inr (.inl (x1_1, gp_2))) else Option.bind (f_M_next_L15 gp_2 x1_1 300 (0 : Int32) (0 : Int32)) (fun (u11, u12) => if ix x1_1 7 = true then (if u11 ≤ (gp_2 x1_1.toNatClampNeg) then some (.inl ((x1_1 + (-1)), gp_2)) else if ix x1_1 7 = true then if ix x1_1 7 = true then Option.bind (f_M_next_L73 sts 300 (x1_1 + (1 : Int32)) (upd gp_2 x1_1.toNatClampNeg ((gp_2 x1_1.toNatClampNeg) + (1 : Int32)))) (fun (u22, u23) => some (.inr (.inr ((1 : Int32), u23)))) else none else none) else none))
def f_M_next_L7 (sts : Int32) (n : Nat) (x1_1 : Int32) (gp_2 : Nat → Int32) : Option ((Int32 × (Nat → Int32)) ⊕ (Int32 × (Nat → Int32))) := lp (fun s => f_M_next_B7 sts s.1 s.2) n (x1_1, gp_2)
theorem f_M_next_L7_s (sts : Int32) (n : Nat) (x1_1 : Int32) (gp_2 : Nat → Int32) : f_M_next_L7 sts (n + 1) x1_1 gp_2 = Option.bind (f_M_next_B7 sts x1_1 gp_2) (lpk (fun s => f_M_next_L7 sts n s.1 s.2)) := lp_s (fun s => f_M_next_B7 sts s.1 s.2) n (x1_1, gp_2)
def f_M_next (sts : Int32) (gp : Nat → Int32) : Option (Int32 × (Nat → Int32)) := Option.bind (f_M_next_L7 sts 300 (sts - (1 : Int32)) gp) (fun | .inr r => some r | .inl (u25, u26) => some ((0 : Int32), u26))
def f_M_layGroups_B12  (x1_1 : Int32) (gp_2 : Nat → Int32) : Option ((Int32 × (Nat → Int32)) ⊕ (Int32 × (Nat → Int32))) := (if (7 : Int32) ≤ x1_1 then some (.inr (x1_1, gp_2)) else if ix x1_1 7 = true then some (.inl ((x1_1 + 1), (upd gp_2 x1_1.toNatClampNeg (0 : Int32)))) else none)
def f_M_layGroups_L12  (n : Nat) (x1_1 : Int32) (gp_2 : Nat → Int32) : Option (Int32 × (Nat → Int32)) := lp (fun s => f_M_layGroups_B12 s.1 s.2) n (x1_1, gp_2)
theorem f_M_layGroups_L12_s  (n : Nat) (x1_1 : Int32) (gp_2 : Nat → Int32) : f_M_layGroups_L12 (n + 1) x1_1 gp_2 = Option.bind (f_M_layGroups_B12 x1_1 gp_2) (lpk (fun s => f_M_layGroups_L12 n s.1 s.2)) := lp_s (fun s => f_M_layGroups_B12 s.1 s.2) n (x1_1, gp_2)
def f_M_layGroups_B68 (sts : Int32) (gp_16 : Nat → Int32) (x2_20 : Int32) (x3_21 : Int32) : Option ((Int32 × Int32) ⊕ (Int32 × Int32)) := (if sts ≤ x3_21 then some (.inr (x2_20, x3_21)) else if ix x3_21 7 = true then (if (gp_16 x3_21.toNatClampNeg) < x2_20 then some (.inl (x2_20, (x3_21 + 1))) else if ix x3_21 7 = true then some (.inl (((gp_16 x3_21.toNatClampNeg) + (1 : Int32)), (x3_21 + 1))) else none) else none)
def f_M_layGroups_L68 (sts : Int32) (gp_16 : Nat → Int32) (n : Nat) (x2_20 : Int32) (x3_21 : Int32) : Option (Int32 × Int32) := lp (fun s => f_M_layGroups_B68 sts gp_16 s.1 s.2) n (x2_20, x3_21)
theorem f_M_layGroups_L68_s (sts : Int32) (gp_16 : Nat → Int32) (n : Nat) (x2_20 : Int32) (x3_21 : Int32) : f_M_layGroups_L68 sts gp_16 (n + 1) x2_20 x3_21 = Option.bind (f_M_layGroups_B68 sts gp_16 x2_20 x3_21) (lpk (fun s => f_M_layGroups_L68 sts gp_16 n s.1 s.2)) := lp_s (fun s => f_M_layGroups_B68 sts gp_16 s.1 s.2) n (x2_20, x3_21)
def f_M_layGroups_B128 (sts : Int32) (gp_16 : Nat → Int32) (x3_35 : Int32) (bst_36 : Nat → Int32) : Option ((Int32 × (Nat → Int32)) ⊕ (Int32 × (Nat → Int32))) := (if sts ≤ x3_35 then some (.inr (x3_35, bst_36)) else if ix x3_35 7 = true then if ix x3_35 7 = true then some (.inl ((x3_35 + 1), (upd bst_36 x3_35.toNatClampNeg (gp_16 x3_35.toNatClampNeg)))) else none else none)
def f_M_layGroups_L128 (sts : Int32) (gp_16 : Nat → Int32) (n : Nat) (x3_35 : Int32) (bst_36 : Nat → Int32) : Option (Int32 × (Nat → Int32)) := lp (fun s => f_M_layGroups_B128 sts gp_16 s.1 s.2) n (x3_35, bst_36)
theorem f_M_layGroups_L128_s (sts : Int32) (gp_16 : Nat → Int32) (n : Nat) (x3_35 : Int32) (bst_36 : Nat → Int32) : f_M_layGroups_L128 sts gp_16 (n + 1) x3_35 bst_36 = Option.bind (f_M_layGroups_B128 sts gp_16 x3_35 bst_36) (lpk (fun s => f_M_layGroups_L128 sts gp_16 n s.1 s.2)) := lp_s (fun s => f_M_layGroups_B128 sts gp_16 s.1 s.2) n (x3_35, bst_36)
def f_M_layGroups_B60 (sts : Int32) (wgt : Nat → Int32) (rwd : Nat → Int32) (x1_15 : Int32) (gp_16 : Nat → Int32) (bst_17 : Nat → Int32) (few_18 : Int32) : Option ((Int32 × (Nat → Int32) × (Nat → Int32) × Int32) ⊕ (Int32 × (Nat → Int32) × (Nat → Int32) × Int32)) := (if x1_15 = 0 then some (.inr (x1_15, gp_16, bst_17, few_18)) else Option.bind (f_M_layGroups_L68 sts gp_16 1000 (0 : Int32) (0 : Int32)) (fun (u27, u28) => Option.bind (if few_18 ≤ u27 then some (bst_17, few_18) else Option.bind (f_M_isParting sts wgt rwd gp_16 u27) (fun r33 => (if r33 = 0 then some (bst_17, few_18) else Option.bind (f_M_layGroups_L128 sts gp_16 1000 (0 : Int32) bst_17) (fun (u41, u42) => some (u42, u27))))) (fun (j29, j30) => Option.bind (f_M_next sts gp_16) (fun (r43, gp_44) => some (.inl (r43, gp_44, j29, j30))))))
def f_M_layGroups_L60 (sts : Int32) (wgt : Nat → Int32) (rwd : Nat → Int32) (n : Nat) (x1_15 : Int32) (gp_16 : Nat → Int32) (bst_17 : Nat → Int32) (few_18 : Int32) : Option (Int32 × (Nat → Int32) × (Nat → Int32) × Int32) := lp (fun s => f_M_layGroups_B60 sts wgt rwd s.1 s.2.1 s.2.2.1 s.2.2.2) n (x1_15, gp_16, bst_17, few_18)
theorem f_M_layGroups_L60_s (sts : Int32) (wgt : Nat → Int32) (rwd : Nat → Int32) (n : Nat) (x1_15 : Int32) (gp_16 : Nat → Int32) (bst_17 : Nat → Int32) (few_18 : Int32) : f_M_layGroups_L60 sts wgt rwd (n + 1) x1_15 gp_16 bst_17 few_18 = Option.bind (f_M_layGroups_B60 sts wgt rwd x1_15 gp_16 bst_17 few_18) (lpk (fun s => f_M_layGroups_L60 sts wgt rwd n s.1 s.2.1 s.2.2.1 s.2.2.2)) := lp_s (fun s => f_M_layGroups_B60 sts wgt rwd s.1 s.2.1 s.2.2.1 s.2.2.2) n (x1_15, gp_16, bst_17, few_18)
def f_M_layGroups (sts : Int32) (wgt : Nat → Int32) (rwd : Nat → Int32) (gp : Nat → Int32) (bst : Nat → Int32) : Option ((Nat → Int32) × (Nat → Int32) × Int32) := Option.bind (f_M_layGroups_L12 1000 (0 : Int32) gp) (fun (u7, u8) => Option.bind (if sts ≤ 0 then some (0 : Int32) else some (1 : Int32)) (fun j9 => Option.bind (if j9 = 0 then some (0 : Int32) else some (sts + (1 : Int32))) (fun j12 => Option.bind (f_M_layGroups_L60 sts wgt rwd 1000 j9 u8 bst j12) (fun (u46, u47, u48, u49) => some (u47, u48, u49)))))
def f_M_alike_B21 (bst_4 : Nat → Int32) (p1 : Int32) (x2_6 : Int32) : Option ((Int32) ⊕ (Int32)) := if ix x2_6 7 = true then if ix p1 7 = true then (if (bst_4 x2_6.toNatClampNeg) = (bst_4 p1.toNatClampNeg) then some (.inr x2_6) else some (.inl (x2_6 + 1))) else none else none
def f_M_alike_L21 (bst_4 : Nat → Int32) (p1 : Int32) (n : Nat) (x2_6 : Int32) : Option (Int32) := lp (fun s => f_M_alike_B21 bst_4 p1 s) n x2_6
theorem f_M_alike_L21_s (bst_4 : Nat → Int32) (p1 : Int32) (n : Nat) (x2_6 : Int32) : f_M_alike_L21 bst_4 p1 (n + 1) x2_6 = Option.bind (f_M_alike_B21 bst_4 p1 x2_6) (lpk (fun s => f_M_alike_L21 bst_4 p1 n s)) := lp_s (fun s => f_M_alike_B21 bst_4 p1 s) n x2_6
def f_M_alike (sts : Int32) (wgt : Nat → Int32) (rwd : Nat → Int32) (gp : Nat → Int32) (bst : Nat → Int32) (few : Int32) (p1 : Int32) : Option (Int32 × Int32 × (Nat → Int32) × (Nat → Int32) × Int32) := Option.bind (f_M_isState sts p1) (fun r1 => (if r1 = 0 then some ((-1 : Int32), (0 : Int32), gp, bst, few) else Option.bind (f_M_layGroups sts wgt rwd gp bst) (fun (gp_3, bst_4, few_5) => Option.bind (f_M_alike_L21 bst_4 p1 300 (0 : Int32)) (fun u12 => some (u12, (0 : Int32), gp_3, bst_4, few_5)))))
def f_M_upper (up : Int64) : Option (Int64 × Int32) := some (up, (0 : Int32))
def f_M_lower (dn : Int64) : Option (Int64 × Int32) := some (dn, (0 : Int32))
def f_M_told_B55 (wgt : Nat → Int32) (x2_3 : Int32) (x3_4 : Int32) : Option ((Int32 × Int32) ⊕ (Int32 × Int32)) := (if (49 : Int32) ≤ x3_4 then some (.inr (x2_3, x3_4)) else if ix x3_4 49 = true then (if (wgt x3_4.toNatClampNeg) ≤ 0 then some (.inl ((x2_3 + (0 : Int32)), (x3_4 + 1))) else some (.inl ((x2_3 + (1 : Int32)), (x3_4 + 1)))) else none)
def f_M_told_L55 (wgt : Nat → Int32) (n : Nat) (x2_3 : Int32) (x3_4 : Int32) : Option (Int32 × Int32) := lp (fun s => f_M_told_B55 wgt s.1 s.2) n (x2_3, x3_4)
theorem f_M_told_L55_s (wgt : Nat → Int32) (n : Nat) (x2_3 : Int32) (x3_4 : Int32) : f_M_told_L55 wgt (n + 1) x2_3 x3_4 = Option.bind (f_M_told_B55 wgt x2_3 x3_4) (lpk (fun s => f_M_told_L55 wgt n s.1 s.2)) := lp_s (fun s => f_M_told_B55 wgt s.1 s.2) n (x2_3, x3_4)
def f_M_told_B96 (sts : Int32) (wgt : Nat → Int32) (p1 : Int32) (x2_16 : Int32) (x3_17 : Int32) : Option ((Int32 × Int32) ⊕ (Int32 × Int32)) := (if sts ≤ x3_17 then some (.inr (x2_16, x3_17)) else Option.bind (f_M_partOf sts wgt x3_17) (fun r20 => Option.bind (f_M_least r20) (fun r21 => (if r21 = x3_17 then (if p1 = (3 : Int32) then some (.inl ((x2_16 + (1 : Int32)), (x3_17 + 1))) else Option.bind (f_M_isClosed sts wgt x3_17) (fun r24 => (if r24 = 0 then some (.inl ((x2_16 + (0 : Int32)), (x3_17 + 1))) else some (.inl ((x2_16 + (1 : Int32)), (x3_17 + 1)))))) else some (.inl ((x2_16 + (0 : Int32)), (x3_17 + 1)))))))
def f_M_told_L96 (sts : Int32) (wgt : Nat → Int32) (p1 : Int32) (n : Nat) (x2_16 : Int32) (x3_17 : Int32) : Option (Int32 × Int32) := lp (fun s => f_M_told_B96 sts wgt p1 s.1 s.2) n (x2_16, x3_17)
theorem f_M_told_L96_s (sts : Int32) (wgt : Nat → Int32) (p1 : Int32) (n : Nat) (x2_16 : Int32) (x3_17 : Int32) : f_M_told_L96 sts wgt p1 (n + 1) x2_16 x3_17 = Option.bind (f_M_told_B96 sts wgt p1 x2_16 x3_17) (lpk (fun s => f_M_told_L96 sts wgt p1 n s.1 s.2)) := lp_s (fun s => f_M_told_B96 sts wgt p1 s.1 s.2) n (x2_16, x3_17)
def f_M_told_B96b (sts : Int32) (wgt : Nat → Int32) (p1 : Int32) (x2_30 : Int32) (x3_31 : Int32) : Option ((Int32 × Int32) ⊕ (Int32 × Int32)) := (if sts ≤ x3_31 then some (.inr (x2_30, x3_31)) else Option.bind (f_M_partOf sts wgt x3_31) (fun r34 => Option.bind (f_M_least r34) (fun r35 => (if r35 = x3_31 then (if p1 = (3 : Int32) then some (.inl ((x2_30 + (1 : Int32)), (x3_31 + 1))) else Option.bind (f_M_isClosed sts wgt x3_31) (fun r38 => (if r38 = 0 then some (.inl ((x2_30 + (0 : Int32)), (x3_31 + 1))) else some (.inl ((x2_30 + (1 : Int32)), (x3_31 + 1)))))) else some (.inl ((x2_30 + (0 : Int32)), (x3_31 + 1)))))))
def f_M_told_L96b (sts : Int32) (wgt : Nat → Int32) (p1 : Int32) (n : Nat) (x2_30 : Int32) (x3_31 : Int32) : Option (Int32 × Int32) := lp (fun s => f_M_told_B96b sts wgt p1 s.1 s.2) n (x2_30, x3_31)
theorem f_M_told_L96b_s (sts : Int32) (wgt : Nat → Int32) (p1 : Int32) (n : Nat) (x2_30 : Int32) (x3_31 : Int32) : f_M_told_L96b sts wgt p1 (n + 1) x2_30 x3_31 = Option.bind (f_M_told_B96b sts wgt p1 x2_30 x3_31) (lpk (fun s => f_M_told_L96b sts wgt p1 n s.1 s.2)) := lp_s (fun s => f_M_told_B96b sts wgt p1 s.1 s.2) n (x2_30, x3_31)
def f_M_told (sts : Int32) (wgt : Nat → Int32) (rwd : Nat → Int32) (gp : Nat → Int32) (bst : Nat → Int32) (few : Int32) (p1 : Int32) : Option (Int32 × Int32 × (Nat → Int32) × (Nat → Int32) × Int32) := (if p1 = 0 then some (sts, (0 : Int32), gp, bst, few) else (if p1 = 1 then Option.bind (f_M_told_L55 wgt 300 (0 : Int32) (0 : Int32)) (fun (u10, u11) => some (u10, (0 : Int32), gp, bst, few)) else (if p1 = 2 then Option.bind (f_M_ends sts wgt) (fun r13 => Option.bind (f_M_many r13) (fun r14 => some (r14, (0 : Int32), gp, bst, few))) else (if p1 = 3 then Option.bind (f_M_told_L96 sts wgt p1 300 (0 : Int32) (0 : Int32)) (fun (u27, u28) => some (u27, (0 : Int32), gp, bst, few)) else (if p1 = 4 then Option.bind (f_M_told_L96b sts wgt p1 300 (0 : Int32) (0 : Int32)) (fun (u41, u42) => some (u41, (0 : Int32), gp, bst, few)) else (if p1 = 5 then Option.bind (f_M_layGroups sts wgt rwd gp bst) (fun (gp_44, bst_45, few_46) => some (few_46, (0 : Int32), gp_44, bst_45, few_46)) else some ((-2 : Int32), (0 : Int32), gp, bst, few)))))))
end
