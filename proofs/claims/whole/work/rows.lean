section
/-! DET: determinants by the first row, over lists of vectors (names to numbers) and lists of names; swaps, equal columns and rows, Cramer's rule, the identity of elimination without fractions -/
def dt_lap {α : Type} (g : α → Int) (F : List α → Int) (pre : List α) : List α → Int
  | [] => 0
  | c :: cs => g c * F (pre ++ cs) - dt_lap g F (pre ++ [c]) cs
def dt_D : List (Nat → Int) → List Nat → Int
  | [] => fun cs => if cs.isEmpty then 1 else 0
  | r :: rs => fun cs => dt_lap r (dt_D rs) [] cs
theorem dt_lap_pre {α : Type} (g : α → Int) (F : List α → Int) (k : α) (L : List α) : ∀ pre : List α, dt_lap g F (k :: pre) L = dt_lap g (fun l => F (k :: l)) pre L := by
  induction L with
  | nil => intro pre; rfl
  | cons c cs ih => intro pre; simp only [dt_lap, List.cons_append]; rw [ih (pre ++ [c])]
theorem dt_lap_zero {α : Type} (g : α → Int) (L : List α) : ∀ pre : List α, dt_lap g (fun _ => 0) pre L = 0 := by
  induction L with
  | nil => intro pre; rfl
  | cons c cs ih => intro pre; simp only [dt_lap]; rw [ih]; simp
theorem dt_lap_lin {α : Type} (g : α → Int) (a : Int) (F1 F2 : List α → Int) (L : List α) : ∀ pre : List α, dt_lap g (fun l => a * F1 l - F2 l) pre L = a * dt_lap g F1 pre L - dt_lap g F2 pre L := by
  induction L with
  | nil => intro pre; simp [dt_lap]
  | cons c cs ih => intro pre; simp only [dt_lap]; rw [ih]; grind
theorem dt_lap_smul {α : Type} (g : α → Int) (a : Int) (F : List α → Int) (L : List α) (pre : List α) : dt_lap g (fun l => a * F l) pre L = a * dt_lap g F pre L := by
  have h := dt_lap_lin g a F (fun _ => 0) L pre
  rw [dt_lap_zero] at h
  simpa using h
theorem dt_lap_swap2 {α β : Type} (g : α → Int) (h : β → Int) (F : List β → List α → Int) (L q : List α) (R0 : List β) : ∀ pre : List β, dt_lap g (fun l => dt_lap h (fun R => F R l) pre R0) q L = dt_lap h (fun R => dt_lap g (fun l => F R l) q L) pre R0 := by
  induction R0 with
  | nil => intro pre; exact dt_lap_zero g L q
  | cons r rs ih =>
    intro pre
    show dt_lap g (fun l => h r * F (pre ++ rs) l - dt_lap h (fun R => F R l) (pre ++ [r]) rs) q L = _
    rw [dt_lap_lin, ih]
    rfl
/-- a function of lists that changes its sign when two neighbours are swapped -/
def dt_alt {α : Type} (F : List α → Int) : Prop := ∀ (a b : α) (x y : List α), F (x ++ a :: b :: y) = - F (x ++ b :: a :: y)
theorem dt_lap_altp {α : Type} (g : α → Int) (F : List α → Int) (hF : dt_alt F) (a b : α) (x : List α) (L : List α) : ∀ y : List α, dt_lap g F (x ++ a :: b :: y) L = - dt_lap g F (x ++ b :: a :: y) L := by
  induction L with
  | nil => intro y; simp [dt_lap]
  | cons c cs ih =>
    intro y
    simp only [dt_lap]
    have h1 := hF a b x (y ++ cs)
    have h2 := ih (y ++ [c])
    simp only [List.append_assoc, List.cons_append] at h1 h2 ⊢
    rw [h1, h2]
    grind
theorem dt_lap_alt {α : Type} (g : α → Int) (F : List α → Int) (hF : dt_alt F) (a b : α) (y : List α) (x : List α) : ∀ pre : List α, dt_lap g F pre (x ++ a :: b :: y) = - dt_lap g F pre (x ++ b :: a :: y) := by
  induction x with
  | nil =>
    intro pre
    have h := dt_lap_altp g F hF a b pre y []
    simp only [dt_lap, List.nil_append, List.append_assoc, List.cons_append] at h ⊢
    rw [h]
    grind
  | cons c cs ih =>
    intro pre
    simp only [dt_lap, List.cons_append]
    have h1 := hF a b (pre ++ cs) y
    simp only [List.append_assoc] at h1
    rw [h1, ih (pre ++ [c])]
    grind
theorem dt_D_alt (rows : List (Nat → Int)) : dt_alt (dt_D rows) := by
  induction rows with
  | nil => intro a b x y; cases x <;> simp [dt_D]
  | cons r rs ih => intro a b x y; exact dt_lap_alt r (dt_D rs) ih a b y x []
/-- the expansion by the first column -/
theorem dt_D_col (c : Nat) (rows : List (Nat → Int)) : ∀ cs : List Nat, dt_D rows (c :: cs) = dt_lap (fun r => r c) (fun R => dt_D R cs) [] rows := by
  induction rows with
  | nil => intro cs; rfl
  | cons r rs ih =>
    intro cs
    show r c * dt_D rs ([] ++ cs) - dt_lap r (dt_D rs) ([] ++ [c]) cs = r c * dt_D ([] ++ rs) cs - dt_lap (fun r => r c) (fun R => dt_D R cs) ([] ++ [r]) rs
    simp only [List.nil_append]
    rw [dt_lap_pre r (dt_D rs) c cs [], dt_lap_pre (fun r => r c) (fun R => dt_D R cs) r rs []]
    have h1 : (fun l => dt_D rs (c :: l)) = fun l => dt_lap (fun r => r c) (fun R => dt_D R l) [] rs := funext fun l => ih l
    rw [h1, dt_lap_swap2 r (fun r => r c) (fun R l => dt_D R l) cs [] rs []]
    rfl
theorem dt_D_altr (cs : List Nat) : dt_alt (fun R => dt_D R cs) := by
  induction cs with
  | nil => intro a b x y; cases x <;> simp [dt_D, dt_lap]
  | cons c cs ih =>
    intro a b x y
    show dt_D (x ++ a :: b :: y) (c :: cs) = - dt_D (x ++ b :: a :: y) (c :: cs)
    rw [dt_D_col, dt_D_col]
    exact dt_lap_alt (fun r => r c) (fun R => dt_D R cs) ih a b y x []
theorem dt_alt_dup0 {α : Type} (F : List α → Int) (hF : dt_alt F) (a : α) (q : List α) (p : List α) : ∀ x : List α, F (x ++ a :: (p ++ a :: q)) = 0 := by
  induction p with
  | nil =>
    intro x
    have h := hF a a x q
    simp only [List.nil_append]
    omega
  | cons c p ih =>
    intro x
    have h := hF a c x (p ++ a :: q)
    have h2 := ih (x ++ [c])
    simp only [List.append_assoc, List.cons_append, List.nil_append] at h h2 ⊢
    rw [h, h2]
    rfl
theorem dt_alt_dup {α : Type} (F : List α → Int) (hF : dt_alt F) (a : α) (l : List α) (h : a ∈ l) : F (a :: l) = 0 := by
  obtain ⟨p, q, rfl⟩ := List.append_of_mem h
  exact dt_alt_dup0 F hF a q p []
def dt_sg (n : Nat) : Int := if n % 2 = 0 then 1 else -1
theorem dt_sg_s (n : Nat) : dt_sg (n + 1) = - dt_sg n := by
  unfold dt_sg
  by_cases h : n % 2 = 0
  · rw [if_pos h, if_neg (by omega)]
  · rw [if_neg h, if_pos (by omega)]; rfl
theorem dt_sg_sq (n : Nat) : dt_sg n * dt_sg n = 1 := by
  unfold dt_sg
  by_cases h : n % 2 = 0
  · rw [if_pos h]; rfl
  · rw [if_neg h]; rfl
theorem dt_alt_mv {α : Type} (F : List α → Int) (hF : dt_alt F) (a : α) (y : List α) (x : List α) : ∀ z : List α, F (z ++ (x ++ a :: y)) = dt_sg x.length * F (z ++ a :: (x ++ y)) := by
  induction x with
  | nil => intro z; simp [dt_sg]
  | cons c x ih =>
    intro z
    have h := ih (z ++ [c])
    have h2 := hF c a z (x ++ y)
    simp only [List.append_assoc, List.cons_append, List.nil_append, List.length_cons] at h h2 ⊢
    rw [h, h2, dt_sg_s]
    grind
/-- sums over pairs (number, name) -/
def dt_S (f : Nat → Int) : List (Int × Nat) → Int
  | [] => 0
  | k :: K => k.1 * f k.2 + dt_S f K
theorem dt_S_zero (K : List (Int × Nat)) (f : Nat → Int) (h : ∀ k ∈ K, f k.2 = 0) : dt_S f K = 0 := by
  induction K with
  | nil => rfl
  | cons k K ih =>
    simp only [dt_S]
    rw [h k List.mem_cons_self, ih (fun k' hk' => h k' (List.mem_cons_of_mem _ hk'))]
    simp
theorem dt_S_lin (K : List (Int × Nat)) (f1 f2 : Nat → Int) (a : Int) : dt_S (fun k => f1 k * a - f2 k) K = dt_S f1 K * a - dt_S f2 K := by
  induction K with
  | nil => simp [dt_S]
  | cons k K ih => simp only [dt_S]; rw [ih]; grind
theorem dt_S_lap (g : Nat → Int) (F : Nat → List Nat → Int) (L : List Nat) (K : List (Int × Nat)) : ∀ pre : List Nat, dt_S (fun k => dt_lap g (F k) pre L) K = dt_lap g (fun l => dt_S (fun k => F k l) K) pre L := by
  induction L with
  | nil =>
    intro pre
    exact dt_S_zero K _ (fun k _ => rfl)
  | cons c cs ih =>
    intro pre
    have h := dt_S_lin K (fun k => F k (pre ++ cs)) (fun k => dt_lap g (F k) (pre ++ [c]) cs) (g c)
    simp only [dt_lap]
    rw [ih] at h
    have e : (fun k => g c * F k (pre ++ cs) - dt_lap g (F k) (pre ++ [c]) cs) = fun k => F k (pre ++ cs) * g c - dt_lap g (F k) (pre ++ [c]) cs := funext fun k => by rw [Int.mul_comm]
    rw [e, h, Int.mul_comm]
/-- contraction -/
theorem dt_contr (K : List (Int × Nat)) (r : Nat → Int) (rows : List (Nat → Int)) (T : List Nat) : dt_S (fun k => dt_D (r :: rows) (k :: T)) K = dt_S r K * dt_D rows T - dt_lap r (fun l => dt_S (fun k => dt_D rows (k :: l)) K) [] T := by
  have e : (fun k => dt_D (r :: rows) (k :: T)) = fun k => r k * dt_D rows T - dt_lap r (fun l => dt_D rows (k :: l)) [] T := funext fun k => by
    show r k * dt_D rows ([] ++ T) - dt_lap r (dt_D rows) ([] ++ [k]) T = _
    simp only [List.nil_append]
    rw [dt_lap_pre]
  rw [e, dt_S_lin, dt_S_lap]
theorem dt_contr0 (K : List (Int × Nat)) (rows : List (Nat → Int)) (h : ∀ r ∈ rows, dt_S r K = 0) : ∀ T : List Nat, dt_S (fun k => dt_D rows (k :: T)) K = 0 := by
  induction rows with
  | nil => intro T; exact dt_S_zero K _ (fun k _ => rfl)
  | cons r rs ih =>
    intro T
    rw [dt_contr, h r List.mem_cons_self]
    have e : (fun l => dt_S (fun k => dt_D rs (k :: l)) K) = fun _ => 0 := funext fun l => ih (fun r' hr' => h r' (List.mem_cons_of_mem _ hr')) l
    rw [e, dt_lap_zero]
    simp
theorem dt_S_app (f : Nat → Int) (K1 K2 : List (Int × Nat)) : dt_S f (K1 ++ K2) = dt_S f K1 + dt_S f K2 := by
  induction K1 with
  | nil => simp [dt_S]
  | cons k K ih => simp only [dt_S, List.cons_append]; rw [ih]; omega
def dt_pr (X : Nat → Int) (L : List Nat) : List (Int × Nat) := L.map (fun k => (X k, k))
/-- Cramer's rule: rows . X = d * (column n) -/
theorem dt_cramer (rows : List (Nat → Int)) (X : Nat → Int) (d : Int) (x y : List Nat) (j n : Nat) (h : ∀ r ∈ rows, dt_S r (dt_pr X (x ++ j :: y)) = d * r n) : X j * dt_D rows (x ++ j :: y) = d * dt_D rows (x ++ n :: y) := by
  have h0 := dt_contr0 ((-d, n) :: dt_pr X (x ++ j :: y)) rows (fun r hr => by
    simp only [dt_S]; rw [h r hr]; grind) (x ++ y)
  have hz : ∀ L : List Nat, (∀ k ∈ L, k ∈ x ++ y) → dt_S (fun k => dt_D rows (k :: (x ++ y))) (dt_pr X L) = 0 := fun L hL => dt_S_zero _ _ (fun k hk => by
    obtain ⟨k', hk', rfl⟩ := List.mem_map.mp hk
    exact dt_alt_dup _ (dt_D_alt rows) k' _ (hL k' hk'))
  have e : dt_pr X (x ++ j :: y) = dt_pr X x ++ ((X j, j) :: dt_pr X y) := by simp [dt_pr]
  rw [e] at h0
  simp only [dt_S] at h0
  rw [dt_S_app] at h0
  simp only [dt_S] at h0
  rw [hz x (fun k hk => List.mem_append_left _ hk), hz y (fun k hk => List.mem_append_right _ hk)] at h0
  have m1 := dt_alt_mv _ (dt_D_alt rows) j y x []
  have m2 := dt_alt_mv _ (dt_D_alt rows) n y x []
  simp only [List.nil_append] at m1 m2
  rw [m1, m2]
  grind
/-- the linear form of the expansion by the first row -/
def dt_K (F : List Nat → Int) (pre : List Nat) : List Nat → List (Int × Nat)
  | [] => []
  | c :: cs => (F (pre ++ cs), c) :: (dt_K F (pre ++ [c]) cs).map (fun k => (-k.1, k.2))
theorem dt_S_neg (f : Nat → Int) (K : List (Int × Nat)) : dt_S f (K.map (fun k => (-k.1, k.2))) = - dt_S f K := by
  induction K with
  | nil => rfl
  | cons k K ih => simp only [dt_S, List.map_cons]; rw [ih]; grind
theorem dt_S_K (F : List Nat → Int) (r : Nat → Int) (L : List Nat) : ∀ pre : List Nat, dt_S r (dt_K F pre L) = dt_lap r F pre L := by
  induction L with
  | nil => intro pre; rfl
  | cons c cs ih => intro pre; simp only [dt_K, dt_S, dt_lap]; rw [dt_S_neg, ih]; grind
theorem dt_K_mem (F : List Nat → Int) (L : List Nat) : ∀ pre : List Nat, ∀ k ∈ dt_K F pre L, k.2 ∈ L := by
  induction L with
  | nil => intro pre k hk; cases hk
  | cons c cs ih =>
    intro pre k hk
    simp only [dt_K] at hk
    rcases List.mem_cons.mp hk with h | h
    · rw [h]; exact List.mem_cons_self
    · obtain ⟨k', hk', rfl⟩ := List.mem_map.mp h
      exact List.mem_cons_of_mem _ (ih _ k' hk')
/-- the identity of elimination without fractions -/
theorem dt_jacobi (V : List (Nat → Int)) (I : List Nat) (u z : Nat → Int) (a b : Nat) : dt_D V I * dt_D (z :: u :: V) (a :: b :: I) = dt_D (z :: V) (a :: I) * dt_D (u :: V) (b :: I) - dt_D (u :: V) (a :: I) * dt_D (z :: V) (b :: I) := by
  have hK : ∀ v : Nat → Int, dt_S v (dt_K (dt_D V) [] (a :: I)) = dt_D (v :: V) (a :: I) := fun v => dt_S_K (dt_D V) v (a :: I) []
  have hV : ∀ v ∈ V, dt_S v (dt_K (dt_D V) [] (a :: I)) = 0 := fun v hv => by
    rw [hK]; exact dt_alt_dup _ (dt_D_altr (a :: I)) v V hv
  have h1 := dt_contr (dt_K (dt_D V) [] (a :: I)) z (u :: V) (b :: I)
  have e : (fun l => dt_S (fun k => dt_D (u :: V) (k :: l)) (dt_K (dt_D V) [] (a :: I))) = fun l => dt_D (u :: V) (a :: I) * dt_D V l := funext fun l => by
    rw [dt_contr]
    have e2 : (fun l' => dt_S (fun k => dt_D V (k :: l')) (dt_K (dt_D V) [] (a :: I))) = fun _ => 0 := funext fun l' => dt_contr0 _ V hV l'
    rw [e2, dt_lap_zero, hK]
    simp
  rw [e, dt_lap_smul, hK z] at h1
  have h2 : dt_S (fun k => dt_D (z :: u :: V) (k :: b :: I)) (dt_K (dt_D V) [] (a :: I)) = dt_D V I * dt_D (z :: u :: V) (a :: b :: I) := by
    show dt_D V ([] ++ I) * dt_D (z :: u :: V) (a :: b :: I) + dt_S (fun k => dt_D (z :: u :: V) (k :: b :: I)) ((dt_K (dt_D V) ([] ++ [a]) I).map (fun k => (-k.1, k.2))) = _
    rw [dt_S_zero ((dt_K (dt_D V) ([] ++ [a]) I).map (fun k => (-k.1, k.2))) _ (fun k hk => by
      obtain ⟨k', hk', rfl⟩ := List.mem_map.mp hk
      exact dt_alt_dup _ (dt_D_alt (z :: u :: V)) k'.2 _ (List.mem_cons_of_mem _ (dt_K_mem _ I _ k' hk')))]
    simp
  rw [h2] at h1
  rw [h1]
  show _ = dt_D (z :: V) (a :: I) * dt_D (u :: V) (b :: I) - dt_D (u :: V) (a :: I) * dt_lap z (dt_D V) [] (b :: I)
  rfl
/-- existence: a repeated row -/
theorem dt_exists (rows : List (Nat → Int)) (r : Nat → Int) (hr : r ∈ rows) (L : List Nat) (n : Nat) : r n * dt_D rows L = dt_lap r (fun l => dt_D rows (n :: l)) [] L := by
  have h := dt_alt_dup _ (dt_D_altr (n :: L)) r rows hr
  have h2 : r n * dt_D rows ([] ++ L) - dt_lap r (dt_D rows) ([] ++ [n]) L = 0 := h
  simp only [List.nil_append] at h2
  rw [dt_lap_pre] at h2
  omega
/-- names may be changed -/
theorem dt_lap_map (g : Nat → Int) (F : List Nat → Int) (σ : Nat → Nat) (L : List Nat) : ∀ pre : List Nat, dt_lap (fun k => g (σ k)) (fun l => F (l.map σ)) pre L = dt_lap g F (pre.map σ) (L.map σ) := by
  induction L with
  | nil => intro pre; rfl
  | cons c cs ih => intro pre; simp only [dt_lap, List.map_cons]; rw [ih]; simp
theorem dt_D_map (σ : Nat → Nat) (rows : List (Nat → Int)) : ∀ L : List Nat, dt_D (rows.map (fun r k => r (σ k))) L = dt_D rows (L.map σ) := by
  induction rows with
  | nil => intro L; cases L <;> rfl
  | cons r rs ih =>
    intro L
    show dt_lap (fun k => r (σ k)) (dt_D (rs.map (fun r k => r (σ k)))) [] L = dt_lap r (dt_D rs) [] (L.map σ)
    have e : dt_D (rs.map (fun r k => r (σ k))) = fun l => dt_D rs (l.map σ) := funext fun l => ih l
    rw [e]
    exact dt_lap_map r (dt_D rs) σ L []
/-- the sum of r c * F (the list, b in the place of c) -/
def dt_rs (r : Nat → Int) (F : List Nat → Int) (b : Nat) (pre : List Nat) : List Nat → Int
  | [] => 0
  | c :: cs => r c * F (pre ++ b :: cs) + dt_rs r F b (pre ++ [c]) cs
theorem dt_rs_lap (r : Nat → Int) (F : List Nat → Int) (hF : dt_alt F) (b : Nat) (L : List Nat) : ∀ pre : List Nat, dt_sg pre.length * dt_lap r (fun l => F (b :: l)) pre L = dt_rs r F b pre L := by
  induction L with
  | nil => intro pre; simp [dt_lap, dt_rs]
  | cons c cs ih =>
    intro pre
    have mv := dt_alt_mv F hF b cs pre []
    have h := ih (pre ++ [c])
    simp only [List.nil_append] at mv
    rw [List.length_append, List.length_singleton, dt_sg_s] at h
    simp only [dt_lap, dt_rs]
    rw [mv, ← h]
    grind
def dt_at (c b k : Nat) : Nat := if k = c then b else k
theorem dt_at_map (c b : Nat) (l : List Nat) (h : c ∉ l) : l.map (dt_at c b) = l := by
  induction l with
  | nil => rfl
  | cons k l ih =>
    have h1 : k ≠ c := fun e => h (by rw [e]; exact List.mem_cons_self)
    simp only [List.map_cons]
    rw [ih (fun z => h (List.mem_cons_of_mem _ z))]
    unfold dt_at
    rw [if_neg h1]
theorem dt_rs_sum (r : Nat → Int) (F : List Nat → Int) (b : Nat) (L : List Nat) : ∀ pre : List Nat, (pre ++ L).Nodup → dt_rs r F b pre L = dt_S r (dt_pr (fun c => F ((pre ++ L).map (dt_at c b))) L) := by
  intro pre hN
  have key : ∀ (M : List Nat), M.Nodup → ∀ (L pre : List Nat), pre ++ L = M → dt_rs r F b pre L = dt_S r (dt_pr (fun c => F (M.map (dt_at c b))) L) := by
    intro M hM L
    induction L with
    | nil => intro pre _; rfl
    | cons c cs ih =>
      intro pre e
      have h1 := ih (pre ++ [c]) (by rw [← e]; simp)
      have h2 : M.map (dt_at c b) = pre ++ b :: cs := by
        rw [← e] at hM ⊢
        have h3 := List.nodup_append.mp hM
        have h4 : c ∉ pre := fun z => h3.2.2 c z c List.mem_cons_self rfl
        have h5 : c ∉ cs := (List.nodup_cons.mp h3.2.1).1
        rw [List.map_append, List.map_cons, dt_at_map c b pre h4, dt_at_map c b cs h5]
        simp [dt_at]
      simp only [dt_rs, dt_pr, List.map_cons, dt_S]
      rw [h1, h2, Int.mul_comm]
      rfl
  exact key (pre ++ L) hN L pre rfl
/-- Cramer's numbers solve the system, times the determinant -/
theorem dt_sol (rows : List (Nat → Int)) (L : List Nat) (hL : L.Nodup) (b : Nat) : ∀ r ∈ rows, dt_S r (dt_pr (fun c => dt_D rows (L.map (dt_at c b))) L) = dt_D rows L * r b := by
  intro r hr
  have h1 := dt_exists rows r hr L b
  have h2 := dt_rs_lap r (dt_D rows) (dt_D_alt rows) b L []
  have h3 := dt_rs_sum r (dt_D rows) b L [] (by simpa using hL)
  simp only [List.nil_append] at h3
  rw [← h3, ← h2, ← h1, Int.mul_comm (dt_D rows L)]
  simp [dt_sg]
end
section
/-! MM: matrices whose off-diagonal numbers are not above 0 and whose row sums (column s) are not below 0, from each row of which a row with a sum above 0 is come to: elimination without fractions goes through, no pivot is 0 -/
def mm_V (A : Nat → Nat → Int) : Nat → List (Nat → Int)
  | 0 => []
  | p + 1 => A p :: mm_V A p
def mm_I : Nat → List Nat
  | 0 => []
  | p + 1 => p :: mm_I p
def mm_M (A : Nat → Nat → Int) (p i j : Nat) : Int := dt_D (A i :: mm_V A p) (j :: mm_I p)
def mm_q (A : Nat → Nat → Int) (p : Nat) : Int := dt_D (mm_V A p) (mm_I p)
theorem mm_q_s (A : Nat → Nat → Int) (p : Nat) : mm_q A (p + 1) = mm_M A p p p := rfl
theorem mm_q_0 (A : Nat → Nat → Int) : mm_q A 0 = 1 := rfl
theorem mm_M_0 (A : Nat → Nat → Int) (i j : Nat) : mm_M A 0 i j = A i j := by
  simp [mm_M, mm_V, mm_I, dt_D, dt_lap]
theorem mm_step (A : Nat → Nat → Int) (p i j : Nat) : mm_q A p * mm_M A (p + 1) i j = mm_M A p p p * mm_M A p i j - mm_M A p i p * mm_M A p p j := by
  have h := dt_jacobi (mm_V A p) (mm_I p) (A p) (A i) p j
  have h2 := dt_D_alt (A i :: A p :: mm_V A p) p j [] (mm_I p)
  simp only [List.nil_append] at h2
  rw [h2] at h
  have e : mm_M A (p + 1) i j = dt_D (A i :: A p :: mm_V A p) (j :: p :: mm_I p) := rfl
  rw [e]
  unfold mm_M mm_q
  rw [Int.mul_neg] at h
  rw [Int.mul_comm (dt_D (A p :: mm_V A p) (p :: mm_I p))] at h ⊢
  omega
theorem mm_le0 {q x : Int} (hq : 0 < q) (h : q * x ≤ 0) : x ≤ 0 := by
  refine Int.not_lt.mp (fun hx => ?_)
  have := Int.mul_pos hq hx
  omega
theorem mm_ge0 {q x : Int} (hq : 0 < q) (h : 0 ≤ q * x) : 0 ≤ x := by
  refine Int.not_lt.mp (fun hx => ?_)
  have := Int.mul_neg_of_pos_of_neg hq hx
  omega
theorem mm_lt0 {q x : Int} (hq : 0 < q) (h : q * x < 0) : x < 0 := by
  refine Int.not_le.mp (fun hx => ?_)
  have := Int.mul_nonneg (Int.le_of_lt hq) hx
  omega
theorem mm_gt0 {q x : Int} (hq : 0 < q) (h : 0 < q * x) : 0 < x := by
  refine Int.not_le.mp (fun hx => ?_)
  have := Int.mul_nonpos_of_nonneg_of_nonpos (Int.le_of_lt hq) hx
  omega
def mm_T (f : Nat → Int) (p : Nat) : Nat → Int
  | 0 => 0
  | m + 1 => f p + mm_T f (p + 1) m
theorem mm_T_le0 (f : Nat → Int) (m : Nat) : ∀ p : Nat, (∀ k, p ≤ k → k < p + m → f k ≤ 0) → mm_T f p m ≤ 0 := by
  induction m with
  | zero => intro p _; exact Int.le_refl 0
  | succ m ih =>
    intro p h
    have h1 := h p (Nat.le_refl p) (by omega)
    have h2 := ih (p + 1) (fun k h1 h2 => h k (by omega) (by omega))
    simp only [mm_T]
    omega
theorem mm_T_le1 (f : Nat → Int) (i : Nat) (m : Nat) : ∀ p : Nat, (∀ k, p ≤ k → k < p + m → k ≠ i → f k ≤ 0) → p ≤ i → i < p + m → mm_T f p m ≤ f i := by
  induction m with
  | zero => intro p _ h1 h2; omega
  | succ m ih =>
    intro p h h1 h2
    simp only [mm_T]
    by_cases e : p = i
    · subst e
      have h3 := mm_T_le0 f m (p + 1) (fun k a b => h k (by omega) (by omega) (by omega))
      omega
    · have h3 := ih (p + 1) (fun k a b c => h k (by omega) (by omega) c) (by omega) (by omega)
      have h4 := h p (Nat.le_refl p) (by omega) e
      omega
theorem mm_T_le2 (f : Nat → Int) (i j : Nat) (hij : j ≠ i) (m : Nat) : ∀ p : Nat, (∀ k, p ≤ k → k < p + m → k ≠ i → f k ≤ 0) → p ≤ i → i < p + m → p ≤ j → j < p + m → mm_T f p m ≤ f i + f j := by
  induction m with
  | zero => intro p _ h1 h2; omega
  | succ m ih =>
    intro p h h1 h2 h5 h6
    simp only [mm_T]
    by_cases e : p = i
    · subst e
      have h3 := mm_T_le1 f j m (p + 1) (fun k a b _ => h k (by omega) (by omega) (by omega)) (by omega) (by omega)
      omega
    · by_cases e2 : p = j
      · subst e2
        have h3 := mm_T_le1 f i m (p + 1) (fun k a b c => h k (by omega) (by omega) c) (by omega) (by omega)
        omega
      · have h3 := ih (p + 1) (fun k a b c => h k (by omega) (by omega) c) (by omega) (by omega) (by omega) (by omega)
        have h4 := h p (Nat.le_refl p) (by omega) e
        omega
theorem mm_T_comb (f g h : Nat → Int) (q a b : Int) (e : ∀ k, q * h k = a * f k - b * g k) (m : Nat) : ∀ p : Nat, q * mm_T h p m = a * mm_T f p m - b * mm_T g p m := by
  induction m with
  | zero => intro p; simp [mm_T]
  | succ m ih =>
    intro p
    have h1 := e p
    have h2 := ih (p + 1)
    simp only [mm_T, Int.mul_add]
    omega
def mm_ok (A : Nat → Nat → Int) (n s : Nat) (ρ : Nat → Nat) (B : Int) (p : Nat) : Prop :=
  0 < mm_q A p ∧
  (∀ i j, p ≤ i → i < n → p ≤ j → j < n → j ≠ i → mm_M A p i j ≤ 0) ∧
  (∀ i, p ≤ i → i < n → 0 ≤ mm_M A p i s) ∧
  (∀ i, p ≤ i → i < n → mm_M A p i s = mm_T (mm_M A p i) p (n - p)) ∧
  (∀ i, p ≤ i → i < n → 0 < mm_M A p i s ∨ ∃ j, p ≤ j ∧ j < n ∧ j ≠ i ∧ mm_M A p i j < 0 ∧ ρ j < ρ i) ∧
  (∀ i, p ≤ i → i < n → mm_M A p i i ≤ B * mm_q A p)
theorem mm_pos {A : Nat → Nat → Int} {n s : Nat} {ρ : Nat → Nat} {B : Int} {p : Nat} (h : mm_ok A n s ρ B p) {i : Nat} (h1 : p ≤ i) (h2 : i < n) : 0 < mm_M A p i i := by
  obtain ⟨hq, ho, hs, ht, hr, hB⟩ := h
  have e := ht i h1 h2
  have hk : ∀ k, p ≤ k → k < p + (n - p) → k ≠ i → mm_M A p i k ≤ 0 := fun k a b c => ho i k h1 h2 a (by omega) c
  have h3 := mm_T_le1 (mm_M A p i) i (n - p) p hk h1 (by omega)
  rcases hr i h1 h2 with h4 | ⟨j, j1, j2, j3, j4, j5⟩
  · omega
  · have h5 := mm_T_le2 (mm_M A p i) i j j3 (n - p) p hk h1 (by omega) j1 (by omega)
    have h6 := hs i h1 h2
    omega
theorem mm_off {A : Nat → Nat → Int} {n s : Nat} {ρ : Nat → Nat} {B : Int} {p : Nat} (h : mm_ok A n s ρ B p) {i j : Nat} (h1 : p ≤ i) (h2 : i < n) (j1 : p ≤ j) (j2 : j < n) : (mm_M A p i j).natAbs ≤ (mm_M A p i i).natAbs := by
  have hp := mm_pos h h1 h2
  obtain ⟨hq, ho, hs, ht, hr, hB⟩ := h
  by_cases hj : j = i
  · subst hj; exact Nat.le_refl _
  · have e := ht i h1 h2
    have hk : ∀ k, p ≤ k → k < p + (n - p) → k ≠ i → mm_M A p i k ≤ 0 := fun k a b c => ho i k h1 h2 a (by omega) c
    have h5 := mm_T_le2 (mm_M A p i) i j hj (n - p) p hk h1 (by omega) j1 (by omega)
    have h6 := hs i h1 h2
    have h7 := ho i j h1 h2 j1 j2 hj
    omega
theorem mm_go {A : Nat → Nat → Int} {n s : Nat} {ρ : Nat → Nat} {B : Int} {p : Nat} (h : mm_ok A n s ρ B p) (hp : p < n) : mm_ok A n s ρ B (p + 1) := by
  have hP := mm_pos h (Nat.le_refl p) hp
  obtain ⟨hq, ho, hs, ht, hr, hB⟩ := h
  have st := fun i j => mm_step A p i j
  have hip : ∀ i, p + 1 ≤ i → i < n → mm_M A p i p ≤ 0 := fun i a b => ho i p (by omega) b (Nat.le_refl p) hp (by omega)
  have hpj : ∀ j, p + 1 ≤ j → j < n → mm_M A p p j ≤ 0 := fun j a b => ho p j (Nat.le_refl p) hp (by omega) b (by omega)
  have hps := hs p (Nat.le_refl p) hp
  refine ⟨hP, ?_, ?_, ?_, ?_, ?_⟩
  · intro i j a b c d e
    refine mm_le0 hq ?_
    rw [st]
    have h1 := Int.mul_nonpos_of_nonneg_of_nonpos (Int.le_of_lt hP) (ho i j (by omega) b (by omega) d e)
    have h2 := Int.mul_nonneg_of_nonpos_of_nonpos (hip i a b) (hpj j c d)
    omega
  · intro i a b
    refine mm_ge0 hq ?_
    rw [st]
    have h1 := Int.mul_nonneg (Int.le_of_lt hP) (hs i (by omega) b)
    have h2 := Int.mul_nonpos_of_nonpos_of_nonneg (hip i a b) hps
    omega
  · intro i a b
    refine Int.eq_of_mul_eq_mul_left (a := mm_q A p) (by omega) ?_
    rw [st]
    have h1 := mm_T_comb (mm_M A p i) (mm_M A p p) (mm_M A (p + 1) i) (mm_q A p) (mm_M A p p p) (mm_M A p i p) (fun k => st i k) (n - (p + 1)) (p + 1)
    rw [h1, ht i (by omega) b, ht p (Nat.le_refl p) hp]
    have e : n - p = (n - (p + 1)) + 1 := by omega
    rw [e]
    simp only [mm_T, Int.mul_add]
    rw [Int.mul_comm (mm_M A p p p) (mm_M A p i p)]
    omega
  · intro i a b
    rcases hr i (by omega) b with h4 | ⟨j, j1, j2, j3, j4, j5⟩
    · left
      refine mm_gt0 hq ?_
      rw [st]
      have h1 := Int.mul_pos hP h4
      have h2 := Int.mul_nonpos_of_nonpos_of_nonneg (hip i a b) hps
      omega
    · by_cases hjp : j = p
      · subst hjp
        rcases hr j (Nat.le_refl j) hp with h5 | ⟨k, k1, k2, k3, k4, k5⟩
        · left
          refine mm_gt0 hq ?_
          rw [st]
          have h1 := Int.mul_nonneg (Int.le_of_lt hP) (hs i (by omega) b)
          have h2 := Int.mul_neg_of_neg_of_pos j4 h5
          omega
        · right
          refine ⟨k, by omega, k2, by intro e; subst e; omega, ?_, by omega⟩
          refine mm_lt0 hq ?_
          rw [st]
          have h1 := Int.mul_nonpos_of_nonneg_of_nonpos (Int.le_of_lt hP) (ho i k (by omega) b (by omega) k2 (by intro e; subst e; omega))
          have h2 := Int.mul_pos_of_neg_of_neg j4 k4
          omega
      · right
        refine ⟨j, by omega, j2, j3, ?_, j5⟩
        refine mm_lt0 hq ?_
        rw [st]
        have h1 := Int.mul_neg_of_pos_of_neg hP j4
        have h2 := Int.mul_nonneg_of_nonpos_of_nonpos (hip i a b) (hpj j (by omega) j2)
        omega
  · intro i a b
    refine Int.le_of_mul_le_mul_left (a := mm_q A p) ?_ hq
    rw [st, mm_q_s]
    have h1 := Int.mul_le_mul_of_nonneg_left (hB i (by omega) b) (Int.le_of_lt hP)
    have h2 := Int.mul_nonneg_of_nonpos_of_nonpos (hip i a b) (hpj i a b)
    have e : mm_M A p p p * (B * mm_q A p) = mm_q A p * (B * mm_M A p p p) := by grind
    omega
theorem mm_all {A : Nat → Nat → Int} {n s : Nat} {ρ : Nat → Nat} {B : Int} (h : mm_ok A n s ρ B 0) : ∀ p, p ≤ n → mm_ok A n s ρ B p := by
  intro p
  induction p with
  | zero => intro _; exact h
  | succ p ih => intro hp; exact mm_go (ih (by omega)) (by omega)
/-- the start, in words of the matrix itself -/
theorem mm_start {A : Nat → Nat → Int} {n s : Nat} {ρ : Nat → Nat} {B : Int} (ho : ∀ i j, i < n → j < n → j ≠ i → A i j ≤ 0) (hs : ∀ i, i < n → 0 ≤ A i s) (ht : ∀ i, i < n → A i s = mm_T (A i) 0 n) (hr : ∀ i, i < n → 0 < A i s ∨ ∃ j, j < n ∧ j ≠ i ∧ A i j < 0 ∧ ρ j < ρ i) (hB : ∀ i, i < n → A i i ≤ B) : mm_ok A n s ρ B 0 := by
  have e : mm_M A 0 = A := funext fun i => funext fun j => mm_M_0 A i j
  refine ⟨by rw [mm_q_0]; decide, ?_, ?_, ?_, ?_, ?_⟩
  · intro i j _ b _ d f; rw [e]; exact ho i j b d f
  · intro i _ b; rw [e]; exact hs i b
  · intro i _ b; rw [e]; exact ht i b
  · intro i _ b; rw [e]
    rcases hr i b with h | ⟨j, j1, j2, j3, j4⟩
    · exact Or.inl h
    · exact Or.inr ⟨j, Nat.zero_le _, j1, j2, j3, j4⟩
  · intro i _ b; rw [e, mm_q_0, Int.mul_one]; exact hB i b
theorem mm_qB {A : Nat → Nat → Int} {n s : Nat} {ρ : Nat → Nat} {B : Int} (h : mm_ok A n s ρ B 0) (hB : 0 ≤ B) : ∀ p, p ≤ n → mm_q A p ≤ B ^ p := by
  intro p
  induction p with
  | zero => intro _; rw [mm_q_0, Int.pow_zero]; exact Int.le_refl 1
  | succ p ih =>
    intro hp
    obtain ⟨hq, ho, hs, ht, hr, hb⟩ := mm_all h p (by omega)
    have h1 := hb p (Nat.le_refl p) (by omega)
    have h2 := Int.mul_le_mul_of_nonneg_left (ih (by omega)) hB
    rw [mm_q_s, Int.pow_succ, Int.mul_comm]
    omega
/-! bounds by the sums of a row's numbers -/
def mm_L1 (r : Nat → Int) : List Nat → Nat
  | [] => 0
  | c :: cs => (r c).natAbs + mm_L1 r cs
theorem mm_L1_sub (r : Nat → Int) {l L : List Nat} (h : l.Sublist L) : mm_L1 r l ≤ mm_L1 r L := by
  induction h with
  | slnil => exact Nat.le_refl _
  | cons a _ ih => simp only [mm_L1]; omega
  | cons_cons a _ ih => simp only [mm_L1]; omega
theorem mm_lap_le {α : Type} (g : α → Int) (F : List α → Int) (m : Nat) (w : α → Nat) (L : List α) : ∀ pre : List α, (∀ c ∈ L, (g c).natAbs ≤ w c) → (∀ l, l.Sublist (pre ++ L) → (F l).natAbs ≤ m) → (dt_lap g F pre L).natAbs ≤ (L.map w).sum * m := by
  induction L with
  | nil => intro pre _ _; simp [dt_lap]
  | cons c cs ih =>
    intro pre hw h
    simp only [dt_lap, List.map_cons, List.sum_cons]
    have h1 := Int.natAbs_sub_le (g c * F (pre ++ cs)) (dt_lap g F (pre ++ [c]) cs)
    rw [Int.natAbs_mul] at h1
    have h2 := h (pre ++ cs) (List.Sublist.append (List.Sublist.refl pre) (List.sublist_cons_self c cs))
    have h3 := ih (pre ++ [c]) (fun c' hc' => hw c' (List.mem_cons_of_mem _ hc')) (fun l hl => h l (by simpa using hl))
    have h4 := Nat.mul_le_mul (hw c List.mem_cons_self) h2
    rw [Nat.add_mul]
    omega
theorem mm_L1_map (r : Nat → Int) (L : List Nat) : (L.map (fun c => (r c).natAbs)).sum = mm_L1 r L := by
  induction L with
  | nil => rfl
  | cons c cs ih => simp only [List.map_cons, List.sum_cons, mm_L1]; rw [ih]
def mm_Pr (L : List Nat) : List (Nat → Int) → Nat
  | [] => 1
  | r :: rs => mm_L1 r L * mm_Pr L rs
theorem mm_Pr_sub {l L : List Nat} (h : l.Sublist L) (rows : List (Nat → Int)) : mm_Pr l rows ≤ mm_Pr L rows := by
  induction rows with
  | nil => exact Nat.le_refl _
  | cons r rs ih => simp only [mm_Pr]; exact Nat.mul_le_mul (mm_L1_sub r h) ih
theorem mm_D_le (rows : List (Nat → Int)) : ∀ L : List Nat, (dt_D rows L).natAbs ≤ mm_Pr L rows := by
  induction rows with
  | nil => intro L; cases L <;> simp [dt_D, mm_Pr]
  | cons r rs ih =>
    intro L
    have h := mm_lap_le r (dt_D rs) (mm_Pr L rs) (fun c => (r c).natAbs) L [] (fun c _ => Nat.le_refl _) (fun l hl => Nat.le_trans (ih l) (mm_Pr_sub (by simpa using hl) rs))
    rw [mm_L1_map] at h
    exact h
end
section
/-! PURE BASE: loops by fuel; long numbers as lI z (z whole); Euclid's turns; fractions in lowest terms -/
/-- a loop by fuel: the body goes on (.inl) or ends (.inr) -/
def lp {σ τ : Type} (body : σ → Option (σ ⊕ τ)) : Nat → σ → Option τ
  | 0, _ => none
  | n + 1, s => Option.bind (body s) (fun y => match y with | .inl s => lp body n s | .inr t => some t)
theorem lp_mu {σ τ : Type} (body : σ → Option (σ ⊕ τ)) (P : σ → Prop) (μ : σ → Nat) (Q : τ → Prop) (hs : ∀ s, P s → ∃ y, body s = some y ∧ (match y with | .inl s' => P s' ∧ μ s' < μ s | .inr t => Q t)) : ∀ (fuel : Nat) (s : σ), P s → μ s < fuel → ∃ t, lp body fuel s = some t ∧ Q t := by
  intro fuel
  induction fuel with
  | zero => intro s _ h; omega
  | succ n ih =>
    intro s hP hm
    obtain ⟨y, e, h⟩ := hs s hP
    simp only [lp]
    rw [e]
    cases y with
    | inl s' =>
      obtain ⟨h1, h2⟩ := h
      exact ih s' h1 (by omega)
    | inr t => exact ⟨t, rfl, h⟩
theorem lp_run {σ τ : Type} (body : σ → Option (σ ⊕ τ)) (P : Nat → σ → Prop) (Q : τ → Prop) (N : Nat) (hs : ∀ k s, k < N → P k s → ∃ y, body s = some y ∧ (match y with | .inl s' => P (k + 1) s' | .inr t => Q t)) (he : ∀ s, P N s → ∃ t, body s = some (.inr t) ∧ Q t) : ∀ (fuel k : Nat) (s : σ), k ≤ N → N < k + fuel → P k s → ∃ t, lp body fuel s = some t ∧ Q t := by
  intro fuel
  induction fuel with
  | zero => intro k s h1 h2; omega
  | succ n ih =>
    intro k s h1 h2 hP
    simp only [lp]
    rcases Nat.lt_or_ge k N with h | h
    · obtain ⟨y, e, h3⟩ := hs k s h hP
      rw [e]
      cases y with
      | inl s' => exact ih (k + 1) s' h (by omega) h3
      | inr t => exact ⟨t, rfl, h3⟩
    · have hk : k = N := by omega
      subst hk
      obtain ⟨t, e, h3⟩ := he s hP
      rw [e]
      exact ⟨t, rfl, h3⟩
/-- from the first turn on, with enough fuel -/
theorem lp_run0 {σ τ : Type} (body : σ → Option (σ ⊕ τ)) (P : Nat → σ → Prop) (Q : τ → Prop) (N fuel : Nat) (s : σ) (hN : N < fuel) (h0 : P 0 s) (hs : ∀ k s, k < N → P k s → ∃ y, body s = some y ∧ (match y with | .inl s' => P (k + 1) s' | .inr t => Q t)) (he : ∀ s, P N s → ∃ t, body s = some (.inr t) ∧ Q t) : ∃ t, lp body fuel s = some t ∧ Q t :=
  lp_run body P Q N hs he fuel 0 s (Nat.zero_le N) (by omega) h0
def lI (z : Int) : Int64 := Int64.ofInt z
theorem lI_add (a b : Int) : lI a + lI b = lI (a + b) := (Int64.ofInt_add a b).symm
theorem lI_sub (a b : Int) : lI a - lI b = lI (a - b) := (Int64.ofInt_sub a b).symm
theorem lI_mul (a b : Int) : lI a * lI b = lI (a * b) := (Int64.ofInt_mul a b).symm
theorem lI_neg (a : Int) : - lI a = lI (-a) := (Int64.ofInt_neg a).symm
theorem lI_0 : (0 : Int64) = lI 0 := rfl
theorem lI_1 : (1 : Int64) = lI 1 := rfl
theorem lI_of (x : Int64) : lI x.toInt = x := Int64.ofInt_toInt x
/-- z is a long -/
def fitL (z : Int) : Prop := -9223372036854775808 ≤ z ∧ z < 9223372036854775808
theorem lI_toInt {z : Int} (h : fitL z) : (lI z).toInt = z := Int64.toInt_ofInt_of_le (by have := h.1; omega) (by have := h.2; omega)
theorem lI_inj {a b : Int} (ha : fitL a) (hb : fitL b) : lI a = lI b ↔ a = b :=
  ⟨fun h => by rw [← lI_toInt ha, h, lI_toInt hb], fun h => by rw [h]⟩
theorem lI_lt {a b : Int} (ha : fitL a) (hb : fitL b) : lI a < lI b ↔ a < b := by
  rw [Int64.lt_iff_toInt_lt, lI_toInt ha, lI_toInt hb]
theorem lI_le {a b : Int} (ha : fitL a) (hb : fitL b) : lI a ≤ lI b ↔ a ≤ b := by
  rw [Int64.le_iff_toInt_le, lI_toInt ha, lI_toInt hb]
theorem lI_div {a b : Int} (ha : fitL a) (hb : fitL b) : lI a / lI b = lI (a.tdiv b) :=
  (Int64.ofInt_tdiv (by have := ha.1; show (-9223372036854775808 : Int) ≤ a; omega) (by have := ha.2; show a ≤ (9223372036854775807 : Int); omega) (by have := hb.1; show (-9223372036854775808 : Int) ≤ b; omega) (by have := hb.2; show b ≤ (9223372036854775807 : Int); omega)).symm
theorem fit0 : fitL 0 := ⟨by decide, by decide⟩
theorem nI_long (k : Nat) (h : k < 2147483648) : (nI k).toInt64 = lI k := by
  have e : (nI k).toInt = (k : Int) := nI_toInt (by omega)
  rw [← Int64.ofInt_int32ToInt, e]
  rfl
/-- Euclid ends within k turns -/
def eu : Nat → Nat → Nat → Prop
  | 0, _, y => y = 0
  | k + 1, x, y => y = 0 ∨ eu k y (x % y)
def fb : Nat → Nat
  | 0 => 0
  | 1 => 1
  | n + 2 => fb n + fb (n + 1)
theorem eu_0 (k x : Nat) : eu k x 0 := by
  cases k with
  | zero => rfl
  | succ k => exact Or.inl rfl
theorem eu_mono (k : Nat) : ∀ x y, eu k x y → eu (k + 1) x y := by
  induction k with
  | zero => intro x y h; exact Or.inl h
  | succ k ih =>
    intro x y h
    rcases h with h | h
    · exact Or.inl h
    · exact Or.inr (ih _ _ h)
theorem eu_fb (k : Nat) : (∀ x y, y < x → y < fb (k + 1) → eu k x y) ∧ (∀ x y, y < x → y < fb (k + 2) → eu (k + 1) x y) := by
  induction k with
  | zero =>
    constructor
    · intro x y _ h; have h : y < 1 := h; show y = 0; omega
    · intro x y _ h; have h : y < 1 := h; exact Or.inl (by omega)
  | succ k ih =>
    refine ⟨ih.2, ?_⟩
    intro x y hxy h
    by_cases hy : y = 0
    · exact Or.inl hy
    refine Or.inr ?_
    have hr : x % y < y := Nat.mod_lt _ (by omega)
    have h : y < fb (k + 1) + fb (k + 2) := h
    by_cases hr0 : x % y = 0
    · rw [hr0]; exact eu_0 _ _
    · rcases Nat.lt_or_ge (x % y) (fb (k + 2)) with h1 | h1
      · exact ih.2 _ _ hr h1
      · refine Or.inr ?_
        have h2 : y % (x % y) < x % y := Nat.mod_lt _ (by omega)
        have h3 : y % (x % y) ≤ y - x % y := by
          have h4 := Nat.mod_add_div y (x % y)
          have h5 : 1 ≤ y / (x % y) := Nat.div_pos (by omega) (by omega)
          have h6 : (x % y) * 1 ≤ (x % y) * (y / (x % y)) := Nat.mul_le_mul (Nat.le_refl _) h5
          omega
        exact ih.1 _ _ h2 (by omega)
theorem eu_93 (x y : Nat) (hx : x < 9223372036854775808) (hy : y < 9223372036854775808) : eu 94 x y := by
  have hf : 9223372036854775808 < fb 93 := by decide +kernel
  by_cases h0 : y = 0
  · exact Or.inl h0
  refine Or.inr ?_
  exact (eu_fb 92).2 y (x % y) (Nat.mod_lt _ (by omega)) (by
    have h1 : x % y ≤ x := Nat.mod_le _ _
    show x % y < fb 92 + fb 93
    omega)
/-- one turn of Euclid, in longs -/
theorem lI_rem {a b : Nat} (ha : a < 9223372036854775808) (hb : b < 9223372036854775808) : lI a - lI a / lI b * lI b = lI ((a % b : Nat) : Int) := by
  rw [lI_div ⟨by omega, by omega⟩ ⟨by omega, by omega⟩, lI_mul, lI_sub]
  congr 1
  have h1 := Int.tmod_add_mul_tdiv (a : Int) (b : Int)
  have h2 : ((a : Int).tmod (b : Int)) = ((a % b : Nat) : Int) := by
    rw [Int.tmod_eq_emod_of_nonneg (by omega)]; rfl
  rw [h2, Int.mul_comm] at h1
  omega
/-- the fraction n / d in lowest terms, the lower number above 0 -/
def rdU (n d : Int) : Int := (if d < 0 then -n else n) / (Int.gcd n d : Int)
def rdL (n d : Int) : Int := (if d < 0 then -d else d) / (Int.gcd n d : Int)
theorem rd_pos (n d : Int) (hd : d ≠ 0) : 0 < (Int.gcd n d : Int) := by
  have h : Int.gcd n d ≠ 0 := fun h => hd (Int.gcd_eq_zero_iff.mp h).2
  omega
theorem rd_U (n d : Int) : rdU n d * (Int.gcd n d : Int) = if d < 0 then -n else n := by
  unfold rdU
  refine Int.ediv_mul_cancel ?_
  split
  · exact Int.dvd_neg.mpr (Int.gcd_dvd_left n d)
  · exact Int.gcd_dvd_left n d
theorem rd_L (n d : Int) : rdL n d * (Int.gcd n d : Int) = if d < 0 then -d else d := by
  unfold rdL
  refine Int.ediv_mul_cancel ?_
  split
  · exact Int.dvd_neg.mpr (Int.gcd_dvd_right n d)
  · exact Int.gcd_dvd_right n d
theorem rd_nat {a b a' b' : Nat} (h : a * b' = a' * b) (hb : 0 < b) (hb' : 0 < b') : b / Nat.gcd a b = b' / Nat.gcd a' b' := by
  have hg : 0 < Nat.gcd a b := Nat.gcd_pos_of_pos_right a hb
  have hg' : 0 < Nat.gcd a' b' := Nat.gcd_pos_of_pos_right a' hb'
  have e : b * Nat.gcd a' b' = b' * Nat.gcd a b := by
    rw [← Nat.gcd_mul_left, ← Nat.gcd_mul_left, Nat.mul_comm b a', ← h, Nat.mul_comm b' a, Nat.mul_comm b b']
  have h1 : b / Nat.gcd a b * Nat.gcd a b = b := Nat.div_mul_cancel (Nat.gcd_dvd_right a b)
  have h2 : b' / Nat.gcd a' b' * Nat.gcd a' b' = b' := Nat.div_mul_cancel (Nat.gcd_dvd_right a' b')
  refine Nat.eq_of_mul_eq_mul_right (Nat.mul_pos hg hg') ?_
  calc b / Nat.gcd a b * (Nat.gcd a b * Nat.gcd a' b') = (b / Nat.gcd a b * Nat.gcd a b) * Nat.gcd a' b' := by rw [Nat.mul_assoc]
    _ = b' * Nat.gcd a b := by rw [h1, e]
    _ = (b' / Nat.gcd a' b' * Nat.gcd a' b') * Nat.gcd a b := by rw [h2]
    _ = b' / Nat.gcd a' b' * (Nat.gcd a b * Nat.gcd a' b') := by rw [Nat.mul_assoc, Nat.mul_comm (Nat.gcd a' b')]
theorem rd_Lnat (n d : Int) : rdL n d = ((d.natAbs / Nat.gcd n.natAbs d.natAbs : Nat) : Int) := by
  unfold rdL
  have e : (if d < 0 then -d else d) = (d.natAbs : Int) := by split <;> omega
  rw [e]
  rfl
theorem rd_Lpos (n d : Int) (hd : d ≠ 0) : 0 < rdL n d := by
  rw [rd_Lnat]
  have h : 0 < d.natAbs / Nat.gcd n.natAbs d.natAbs := Nat.div_pos (Nat.gcd_le_right _ (by omega)) (Nat.gcd_pos_of_pos_right _ (by omega))
  omega
/-- equal fractions have the same lowest terms -/
theorem rd_eq {n d n' d' : Int} (h : n * d' = n' * d) (hd : d ≠ 0) (hd' : d' ≠ 0) : rdU n d = rdU n' d' ∧ rdL n d = rdL n' d' := by
  have hL : rdL n d = rdL n' d' := by
    rw [rd_Lnat, rd_Lnat]
    have h2 : n.natAbs * d'.natAbs = n'.natAbs * d.natAbs := by rw [← Int.natAbs_mul, ← Int.natAbs_mul, h]
    rw [rd_nat h2 (by omega) (by omega)]
  refine ⟨?_, hL⟩
  have g1 := rd_pos n d hd
  have g2 := rd_pos n' d' hd'
  have u1 := rd_U n d
  have u2 := rd_U n' d'
  have l1 := rd_L n d
  have l2 := rd_L n' d'
  have lp := rd_Lpos n d hd
  rw [← hL] at l2
  have hs : (if d < 0 then -n else n) * (if d' < 0 then -d' else d') = (if d' < 0 then -n' else n') * (if d < 0 then -d else d) := by
    by_cases c1 : d < 0
    · by_cases c2 : d' < 0
      · simp only [c1, c2, if_true]; rw [Int.neg_mul_neg, Int.neg_mul_neg, h]
      · simp only [c1, c2, if_true, if_false]; rw [Int.neg_mul, Int.mul_neg, h]
    · by_cases c2 : d' < 0
      · simp only [c1, c2, if_true, if_false]; rw [Int.mul_neg, Int.neg_mul, h]
      · simp only [c1, c2, if_false]; exact h
  rw [← u1, ← u2, ← l1, ← l2] at hs
  have hk : (rdL n d * (Int.gcd n d : Int) * (Int.gcd n' d' : Int)) ≠ 0 := by
    have := Int.mul_pos (Int.mul_pos lp g1) g2
    omega
  refine Int.eq_of_mul_eq_mul_left hk ?_
  generalize rdL n d = L at *
  generalize (Int.gcd n d : Int) = g at *
  generalize (Int.gcd n' d' : Int) = g' at *
  generalize rdU n d = U at *
  generalize rdU n' d' = U' at *
  grind
theorem rd_leL (n d : Int) (hd : d ≠ 0) : (rdL n d).natAbs ≤ d.natAbs := by
  rw [rd_Lnat, Int.natAbs_natCast]
  exact Nat.div_le_self d.natAbs (Nat.gcd n.natAbs d.natAbs)
theorem rd_leU (n d : Int) (hd : d ≠ 0) : (rdU n d).natAbs ≤ n.natAbs := by
  have h1 := rd_U n d
  have h2 := rd_pos n d hd
  have h3 : (rdU n d).natAbs * (Int.gcd n d : Int).natAbs = n.natAbs := by
    rw [← Int.natAbs_mul, h1]; split <;> omega
  have h4 : 1 ≤ (Int.gcd n d : Int).natAbs := by omega
  have h5 := Nat.mul_le_mul (Nat.le_refl (rdU n d).natAbs) h4
  omega
end
section
/-! BITS: sets of states as the bits of an int (bt and its rows are of the kit's laws, BITS.to-paste) -/
def bt (x : Int32) (i : Nat) : Bool := x.toBitVec.getLsbD i
theorem b_ext {x y : Int32} (h : ∀ i, i < 32 → bt x i = bt y i) : x = y := Int32.toBitVec_inj.mp (BitVec.eq_of_getLsbD_eq (fun i hi => h i hi))
theorem b_or (x y : Int32) (i : Nat) : bt (x ||| y) i = (bt x i || bt y i) := by unfold bt; rw [Int32.toBitVec_or, BitVec.getLsbD_or]
theorem b_and (x y : Int32) (i : Nat) : bt (x &&& y) i = (bt x i && bt y i) := by unfold bt; rw [Int32.toBitVec_and, BitVec.getLsbD_and]
theorem b_xor (x y : Int32) (i : Nat) : bt (x ^^^ y) i = (bt x i ^^ bt y i) := by unfold bt; rw [Int32.toBitVec_xor, BitVec.getLsbD_xor]
theorem b_big {x : Int32} {i : Nat} (h : 32 ≤ i) : bt x i = false := BitVec.getLsbD_of_ge _ _ h
theorem b_m1 : ∀ i, i < 32 → bt (-1) i = true := by decide +kernel
theorem b_0 (i : Nat) : bt 0 i = false := BitVec.getLsbD_zero
theorem b_1 : ∀ i, i < 32 → bt 1 i = decide (i = 0) := by decide +kernel
theorem s_l : ∀ n, n < 32 → ((nI n &&& 31).toBitVec.smod 32).toNat = n := by decide +kernel
theorem b_shl (n : Nat) (hn : n < 32) (x : Int32) {i : Nat} (hi : i < 32) : bt (x <<< (nI n &&& 31)) i = (decide (n ≤ i) && bt x (i - n)) := by
  unfold bt
  rw [Int32.toBitVec_shiftLeft]
  show (x.toBitVec <<< ((nI n &&& 31).toBitVec.smod 32).toNat).getLsbD i = _
  rw [s_l n hn, BitVec.getLsbD_shiftLeft]
  rcases Nat.lt_or_ge i n with h | h
  · simp [h, Nat.not_le.mpr h]
  · simp [hi, h, Nat.not_lt.mpr h]
theorem b_sshr (n : Nat) (hn : n < 32) (x : Int32) {i : Nat} (hi : i < 32) : bt (x >>> (nI n &&& 31)) i = if n + i < 32 then bt x (n + i) else bt x 31 := by
  unfold bt
  rw [Int32.toBitVec_shiftRight]
  show (x.toBitVec.sshiftRight ((nI n &&& 31).toBitVec.smod 32).toNat).getLsbD i = _
  rw [s_l n hn, BitVec.getLsbD_sshiftRight, BitVec.msb_eq_getLsbD_last]
  simp [hi]
/-- the set of one state -/
theorem b_one (k : Nat) (hk : k < 32) {i : Nat} (hi : i < 32) : bt ((1 : Int32) <<< (nI k &&& 31)) i = decide (i = k) := by
  rw [b_shl k hk 1 hi, b_1 (i - k) (by omega)]
  by_cases h : i = k
  · subst h; simp
  · by_cases h2 : k ≤ i
    · have h3 : ¬ (i - k = 0) := by omega
      simp [h, h2, h3]
    · simp [h, h2]
theorem b_not (x : Int32) {i : Nat} (hi : i < 32) : bt (x ^^^ (-1)) i = !bt x i := by
  rw [b_xor, b_m1 i hi]; simp
theorem b_and1 (y : Int32) : y &&& 1 = if bt y 0 = true then 1 else 0 := by
  apply b_ext
  intro i hi
  rw [b_and, b_1 i hi]
  by_cases h : i = 0
  · subst h
    cases hb : bt y 0
    · simp [b_0]
    · simp [b_1 0 (by omega)]
  · cases hb : bt y 0
    · simp [b_0, h]
    · simp [b_1 i hi, h]
theorem b_bit (x : Int32) (k : Nat) (hk : k < 32) : (x >>> (nI k &&& 31)) &&& 1 = if bt x k = true then 1 else 0 := by
  rw [b_and1, b_sshr k hk x (by omega : 0 < 32)]
  simp [hk]
/-- x is the set of the states i < n with P i -/
def isS (x : Int32) (n : Nat) (P : Nat → Prop) : Prop := ∀ i, i < 32 → (bt x i = true ↔ i < n ∧ P i)
theorem isS_in {x : Int32} {n : Nat} {P : Nat → Prop} (h : isS x n P) {i : Nat} (hi : i < n) (hn : n ≤ 7) : bt x i = true ↔ P i := by
  rw [h i (by omega)]; exact ⟨fun z => z.2, fun z => ⟨hi, z⟩⟩
theorem isS_eq {x y : Int32} {n : Nat} {P Q : Nat → Prop} (hx : isS x n P) (hy : isS y n Q) (h : ∀ i, i < n → (P i ↔ Q i)) : x = y := by
  apply b_ext
  intro i hi
  have h1 := hx i hi
  have h2 := hy i hi
  rw [Bool.eq_iff_iff, h1, h2]
  exact ⟨fun z => ⟨z.1, (h i z.1).mp z.2⟩, fun z => ⟨z.1, (h i z.1).mpr z.2⟩⟩
theorem isS_0 {n : Nat} : isS 0 n (fun _ => False) := fun i _ => by rw [b_0]; simp
theorem isS_one {n k : Nat} (hk : k < n) (hn : n ≤ 7) : isS ((1 : Int32) <<< (nI k &&& 31)) n (fun i => i = k) := fun i hi => by
  rw [b_one k (by omega) hi]
  simp only [decide_eq_true_eq]
  exact ⟨fun h => ⟨by omega, h⟩, fun h => h.2⟩
theorem isS_or {x y : Int32} {n : Nat} {P Q : Nat → Prop} (hx : isS x n P) (hy : isS y n Q) : isS (x ||| y) n (fun i => P i ∨ Q i) := fun i hi => by
  rw [b_or, Bool.or_eq_true, hx i hi, hy i hi]
  constructor
  · rintro (h | h)
    · exact ⟨h.1, Or.inl h.2⟩
    · exact ⟨h.1, Or.inr h.2⟩
  · rintro ⟨h1, h | h⟩
    · exact Or.inl ⟨h1, h⟩
    · exact Or.inr ⟨h1, h⟩
theorem isS_and {x y : Int32} {n : Nat} {P Q : Nat → Prop} (hx : isS x n P) (hy : isS y n Q) : isS (x &&& y) n (fun i => P i ∧ Q i) := fun i hi => by
  rw [b_and, Bool.and_eq_true, hx i hi, hy i hi]
  exact ⟨fun h => ⟨h.1.1, h.1.2, h.2.2⟩, fun h => ⟨⟨h.1, h.2.1⟩, h.1, h.2.2⟩⟩
theorem isS_diff {x y : Int32} {n : Nat} {P Q : Nat → Prop} (hx : isS x n P) (hy : isS y n Q) : isS (x &&& (y ^^^ (-1))) n (fun i => P i ∧ ¬ Q i) := fun i hi => by
  rw [b_and, b_not y hi, Bool.and_eq_true, Bool.not_eq_true', hx i hi, ← Bool.not_eq_true, hy i hi]
  exact ⟨fun h => ⟨h.1.1, h.1.2, fun q => h.2 ⟨h.1.1, q⟩⟩, fun h => ⟨⟨h.1, h.2.1⟩, fun q => h.2.2 q.2⟩⟩
theorem isS_congr {x : Int32} {n : Nat} {P Q : Nat → Prop} (hx : isS x n P) (h : ∀ i, i < n → (P i ↔ Q i)) : isS x n Q := fun i hi => by
  rw [hx i hi]
  exact ⟨fun z => ⟨z.1, (h i z.1).mp z.2⟩, fun z => ⟨z.1, (h i z.1).mpr z.2⟩⟩
theorem isS_nil {x : Int32} {n : Nat} {P : Nat → Prop} (hn : n ≤ 7) (hx : isS x n P) : x = 0 ↔ ∀ i, i < n → ¬ P i := by
  constructor
  · intro e i hi hp
    have := (hx i (by omega)).mpr ⟨hi, hp⟩
    rw [e, b_0] at this
    cases this
  · intro h
    exact isS_eq hx isS_0 (fun i hi => ⟨fun p => h i hi p, fun q => q.elim⟩)
end
section
/-! CH: the chain as numbers: W i j (0 where there is no arc), totals, the ways -/
def ch_T (W : Nat → Nat → Nat) (i : Nat) : Nat → Nat
  | 0 => 0
  | m + 1 => ch_T W i m + W i m
theorem ch_T_zero (W : Nat → Nat → Nat) (i n : Nat) (h : ∀ j, n ≤ j → W i j = 0) : ∀ m, ch_T W i (n + m) = ch_T W i n := by
  intro m
  induction m with
  | zero => rfl
  | succ m ih => show ch_T W i (n + m) + W i (n + m) = _; rw [ih, h (n + m) (by omega)]; rfl
theorem ch_T_le (W : Nat → Nat → Nat) (i j : Nat) : ∀ n, j < n → W i j ≤ ch_T W i n := by
  intro n
  induction n with
  | zero => intro h; omega
  | succ n ih =>
    intro h
    show W i j ≤ ch_T W i n + W i n
    by_cases e : j = n
    · subst e; omega
    · have := ih (by omega); omega
theorem ch_T_pos (W : Nat → Nat → Nat) (i : Nat) : ∀ n, 0 < ch_T W i n → ∃ j, j < n ∧ 0 < W i j := by
  intro n
  induction n with
  | zero => intro h; exact absurd h (Nat.lt_irrefl 0)
  | succ n ih =>
    intro h
    have h : 0 < ch_T W i n + W i n := h
    by_cases e : 0 < W i n
    · exact ⟨n, by omega, e⟩
    · obtain ⟨j, h1, h2⟩ := ih (by omega)
      exact ⟨j, by omega, h2⟩
theorem ch_T_add (W : Nat → Nat → Nat) (i m : Nat) : ∀ n, m ≤ n → ch_T W i m ≤ ch_T W i n := by
  intro n
  induction n with
  | zero => intro h; have : m = 0 := by omega
            subst this; exact Nat.le_refl _
  | succ n ih =>
    intro h
    by_cases e : m = n + 1
    · subst e; exact Nat.le_refl _
    · have := ih (by omega)
      show ch_T W i m ≤ ch_T W i n + W i n
      omega
/-- ways: from i to j by E, never going on from a state of S -/
def ch_rc (E : Nat → Nat → Prop) (S : Nat → Prop) : Nat → Nat → Nat → Prop
  | 0, i, j => i = j
  | k + 1, i, j => ∃ m, ¬ S i ∧ E i m ∧ ch_rc E S k m j
def ch_R (E : Nat → Nat → Prop) (S : Nat → Prop) (i j : Nat) : Prop := ∃ k, ch_rc E S k i j
theorem ch_R_refl (E : Nat → Nat → Prop) (S : Nat → Prop) (i : Nat) : ch_R E S i i := ⟨0, rfl⟩
theorem ch_R_left {E : Nat → Nat → Prop} {S : Nat → Prop} {i m j : Nat} (h1 : ¬ S i) (h2 : E i m) (h3 : ch_R E S m j) : ch_R E S i j := by
  obtain ⟨k, h⟩ := h3
  exact ⟨k + 1, m, h1, h2, h⟩
theorem ch_R_ind {E : Nat → Nat → Prop} {S : Nat → Prop} {j : Nat} (P : Nat → Prop) (h0 : P j) (hs : ∀ i m, ¬ S i → E i m → ch_R E S m j → P m → P i) : ∀ i, ch_R E S i j → P i := by
  intro i h
  obtain ⟨k, h⟩ := h
  induction k generalizing i with
  | zero => have e : i = j := h; rw [e]; exact h0
  | succ k ih =>
    obtain ⟨m, h1, h2, h3⟩ := h
    exact hs i m h1 h2 ⟨k, h3⟩ (ih m h3)
theorem ch_R_trans {E : Nat → Nat → Prop} {S : Nat → Prop} {i m j : Nat} (h1 : ch_R E S i m) (h2 : ch_R E S m j) : ch_R E S i j :=
  ch_R_ind (fun x => ch_R E S x j) h2 (fun _ _ a b _ c => ch_R_left a b c) i h1
theorem ch_R_right {E : Nat → Nat → Prop} {S : Nat → Prop} {i m j : Nat} (h1 : ch_R E S i m) (h2 : ¬ S m) (h3 : E m j) : ch_R E S i j :=
  ch_R_trans h1 (ch_R_left h2 h3 (ch_R_refl E S j))
/-- what is closed forwards holds all that is come to -/
theorem ch_R_fwd {E : Nat → Nat → Prop} {S C : Nat → Prop} (hc : ∀ x y, C x → ¬ S x → E x y → C y) {i j : Nat} (hi : C i) (h : ch_R E S i j) : C j := by
  obtain ⟨k, h⟩ := h
  induction k generalizing i with
  | zero => have e : i = j := h; rw [← e]; exact hi
  | succ k ih =>
    obtain ⟨m, h1, h2, h3⟩ := h
    exact ih (hc i m hi h1 h2) h3
/-- what is closed backwards holds all that leads to it -/
theorem ch_R_bwd {E : Nat → Nat → Prop} {S C : Nat → Prop} (hc : ∀ x y, C y → ¬ S x → E x y → C x) {i j : Nat} (hj : C j) (h : ch_R E S i j) : C i :=
  ch_R_ind C hj (fun x m a b _ c => hc x m c a b) i h
/-- the first hit -/
theorem ch_R_hit {E : Nat → Nat → Prop} {S G : Nat → Prop} {i g : Nat} (hg : G g) (h : ch_R E S i g) : ∃ g', G g' ∧ ch_R E (fun x => S x ∨ G x) i g' := by
  refine ch_R_ind (fun x => ∃ g', G g' ∧ ch_R E (fun x => S x ∨ G x) x g') ⟨g, hg, ch_R_refl _ _ g⟩ ?_ i h
  intro x m h1 h2 _ h3
  by_cases hx : G x
  · exact ⟨x, hx, ch_R_refl _ _ x⟩
  · obtain ⟨g', h4, h5⟩ := h3
    exact ⟨g', h4, ch_R_left (fun z => z.elim h1 hx) h2 h5⟩
theorem ch_R_weak {E : Nat → Nat → Prop} {S S' : Nat → Prop} (hs : ∀ x, S' x → S x) {i j : Nat} (h : ch_R E S i j) : ch_R E S' i j :=
  ch_R_ind (fun x => ch_R E S' x j) (ch_R_refl _ _ j) (fun _ _ a b _ c => ch_R_left (fun z => a (hs _ z)) b c) i h
/-- how many states a set has -/
def ch_cd (x : Int32) : Nat → Nat
  | 0 => 0
  | n + 1 => ch_cd x n + (if bt x n = true then 1 else 0)
theorem ch_cd_le (x : Int32) : ∀ n, ch_cd x n ≤ n := by
  intro n
  induction n with
  | zero => exact Nat.le_refl 0
  | succ n ih => simp only [ch_cd]; split <;> omega
theorem ch_cd_mono {x y : Int32} : ∀ n, (∀ i, i < n → bt x i = true → bt y i = true) → ch_cd x n ≤ ch_cd y n := by
  intro n
  induction n with
  | zero => intro _; exact Nat.le_refl 0
  | succ n ih =>
    intro h
    have h1 := ih (fun i hi => h i (by omega))
    have h2 := h n (by omega)
    simp only [ch_cd]
    by_cases hx : bt x n = true
    · rw [if_pos hx, if_pos (h2 hx)]; omega
    · rw [if_neg hx]; split <;> omega
theorem ch_cd_lt {x y : Int32} : ∀ n, (∀ i, i < n → bt x i = true → bt y i = true) → (∃ i, i < n ∧ bt y i = true ∧ ¬ bt x i = true) → ch_cd x n < ch_cd y n := by
  intro n
  induction n with
  | zero => intro _ h; obtain ⟨i, hi, _⟩ := h; omega
  | succ n ih =>
    intro h he
    have h2 := h n (by omega)
    simp only [ch_cd]
    obtain ⟨i, h3, h4, h5⟩ := he
    by_cases e : i = n
    · subst e
      have h1 := ch_cd_mono i (fun i' hi => h i' (by omega))
      rw [if_neg h5, if_pos h4]; omega
    · have h1 := ih (fun i hi => h i (by omega)) ⟨i, by omega, h4, h5⟩
      by_cases hx : bt x n = true
      · rw [if_pos hx, if_pos (h2 hx)]; omega
      · rw [if_neg hx]; split <;> omega
theorem ch_cd_pos {x : Int32} : ∀ n, (∃ i, i < n ∧ bt x i = true) → 1 ≤ ch_cd x n := by
  intro n
  induction n with
  | zero => intro h; obtain ⟨i, hi, _⟩ := h; omega
  | succ n ih =>
    intro h
    obtain ⟨i, h3, h4⟩ := h
    simp only [ch_cd]
    by_cases e : i = n
    · subst e; rw [if_pos h4]; omega
    · have := ih ⟨i, by omega, h4⟩; omega
end
