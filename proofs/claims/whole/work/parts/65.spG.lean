/-! SPG: class and reference solve the same equations -/
def ch_sC (x : Int32) (f : Nat → Int) : Nat → Int
  | 0 => 0
  | m + 1 => ch_sC x f m + (if bt x m = true then 0 else f m)
theorem ch_split (x : Int32) (f : Nat → Int) : ∀ m, mm_T f 0 m = ch_sI x f m + ch_sC x f m := by
  intro m
  induction m with
  | zero => rfl
  | succ m ih =>
    rw [mm_T_snoc, ih]
    simp only [ch_sI, ch_sC, Nat.zero_add]
    split <;> omega
theorem ch_sI_congr {x : Int32} {f g : Nat → Int} : ∀ m, (∀ l, l < m → bt x l = true → f l = g l) → ch_sI x f m = ch_sI x g m := by
  intro m
  induction m with
  | zero => intro _; rfl
  | succ m ih =>
    intro h
    simp only [ch_sI]
    rw [ih (fun l hl => h l (by omega))]
    by_cases hb : bt x m = true
    · rw [if_pos hb, if_pos hb, h m (by omega) hb]
    · rw [if_neg hb, if_neg hb]
theorem ch_sC_congr {x : Int32} {f g : Nat → Int} : ∀ m, (∀ l, l < m → ¬ bt x l = true → f l = g l) → ch_sC x f m = ch_sC x g m := by
  intro m
  induction m with
  | zero => intro _; rfl
  | succ m ih =>
    intro h
    simp only [ch_sC]
    rw [ih (fun l hl => h l (by omega))]
    by_cases hb : bt x m = true
    · rw [if_pos hb, if_pos hb]
    · rw [if_neg hb, if_neg hb, h m (by omega) hb]
theorem ch_sC_mul (x : Int32) (f : Nat → Int) (d : Int) : ∀ m, ch_sC x (fun l => d * f l) m = d * ch_sC x f m := by
  intro m
  induction m with
  | zero => simp [ch_sC]
  | succ m ih =>
    simp only [ch_sC]
    rw [ih]
    by_cases hb : bt x m = true
    · rw [if_pos hb, if_pos hb]; grind
    · rw [if_neg hb, if_neg hb]; grind
section
variable {n : Nat} {W : Nat → Nat → Nat} {x : Int32} {v : Nat → Int}
theorem md_fixN (h7 : n ≤ 7) {l : Nat} (hl : l < n) (ho : ¬ bt x l = true) : md_N n W (fun s => bt x s) v l = md_D n W (fun s => bt x s) v * v l := by
  have h := md_eq (W := W) (o := fun s => bt x s) (v := v) hl
  have e : mm_T (fun t => md_N n W (fun s => bt x s) v t * md_A n W (fun s => bt x s) v l t) 0 n = mm_T (fun t => if t = l then md_N n W (fun s => bt x s) v l else 0) 0 n := mm_T_congr _ 0 (fun t _ ht => by
    try dsimp only
    rw [md_AB (by omega)]
    unfold md_B
    rw [if_neg ho]
    by_cases e : t = l
    · subst e; rw [if_pos rfl, if_pos rfl]; omega
    · rw [if_neg e, if_neg e]; omega)
  rw [e, mm_T_one l _ n 0 (Nat.zero_le _) (by omega)] at h
  exact h
theorem md_WN (h7 : n ≤ 7) (k : Nat) : mm_T (fun l => (W k l : Int) * md_N n W (fun s => bt x s) v l) 0 n = ch_sI x (fun l => (W k l : Int) * md_N n W (fun s => bt x s) v l) n + md_D n W (fun s => bt x s) v * ch_sC x (fun l => (W k l : Int) * v l) n := by
  rw [ch_split x, ← ch_sC_mul]
  congr 1
  refine ch_sC_congr n (fun l hl hb => ?_)
  rw [md_fixN h7 hl hb]
  grind
theorem md_laidN (h7 : n ≤ 7) {k : Nat} (hk : k < n) (ho : bt x k = true) : (ch_T W k n : Int) * md_N n W (fun s => bt x s) v k - mm_T (fun l => (W k l : Int) * md_N n W (fun s => bt x s) v l) 0 n = md_D n W (fun s => bt x s) v * v k := by
  have h := md_eq (W := W) (o := fun s => bt x s) (v := v) hk
  rw [← h]
  have e : mm_T (fun t => md_N n W (fun s => bt x s) v t * md_A n W (fun s => bt x s) v k t) 0 n = mm_T (fun t => (if t = k then (ch_T W k n : Int) * md_N n W (fun s => bt x s) v k else 0) + -((W k t : Int) * md_N n W (fun s => bt x s) v t)) 0 n := mm_T_congr _ 0 (fun t _ ht => by
    try dsimp only
    rw [md_AB (by omega)]
    unfold md_B
    rw [if_pos ho]
    by_cases e : t = k
    · subst e; rw [if_pos rfl, if_pos rfl]; grind
    · rw [if_neg e, if_neg e]; grind)
  rw [e, mm_T_add, mm_T_one k _ n 0 (Nat.zero_le _) (by omega)]
  have e3 := mm_T_comb (fun t => (W k t : Int) * md_N n W (fun s => bt x s) v t) (fun _ => 0) (fun t => -((W k t : Int) * md_N n W (fun s => bt x s) v t)) 1 (-1) 0 (fun k => by omega) n 0
  omega
/-- an open state is no end -/
theorem ch_out_T (hout : ch_out n W x) {k : Nat} (hk : k < n) (ho : bt x k = true) : ch_T W k n ≠ 0 := by
  intro h0
  obtain ⟨m, hE, hrho, -⟩ := ch_rho_next (E := ch_E n W) (o := fun i => bt x i = true) ho (hout k hk ho)
  rcases E_mE hE with q | q
  · rw [q] at hrho; omega
  · have h1 := ch_T_le W k m n q.2.1
    have := q.2.2
    omega
theorem ch_pT {k : Nat} (h : ch_T W k n ≠ 0) : ch_p n W k = W k ∧ ch_t n W k = ch_T W k n := by
  refine ⟨funext fun j => ?_, ?_⟩
  · unfold ch_p; rw [if_neg h]
  · unfold ch_t; rw [if_neg h]
/-- the equations of the open states, solved by the reference's numbers -/
theorem tie_open (h7 : n ≤ 7) (hout : ch_out n W x) {g : Nat → Int} (hgv : ∀ k, k < n → bt x k = true → g k = v k + ch_sC x (fun l => (W k l : Int) * v l) n) (k : Nat) (hk : k < n) (ho : bt x k = true) : (ch_t n W k : Int) * md_N n W (fun s => bt x s) v k - ch_sI x (fun l => (ch_p n W k l : Int) * md_N n W (fun s => bt x s) v l) n = md_D n W (fun s => bt x s) v * g k := by
  have hT := ch_pT (ch_out_T hout hk ho)
  rw [hT.1, hT.2, hgv k hk ho, Int.mul_add, ← md_laidN h7 hk ho]
  have := md_WN (W := W) (x := x) (v := v) h7 k
  omega
theorem tie_in (hW : okW n W) {a : Nat} (ha : a < n) (hout : ch_out n W x) {g : Nat → Int} (hg : ∀ k, k < n → (g k).natAbs ≤ 1200) (hgv : ∀ k, k < n → bt x k = true → g k = v k + ch_sC x (fun l => (W k l : Int) * v l) n) (hao : bt x a = true) :
    rdU (mm_M (sl_A n W (sl_st x n a) (sl_L x n) g) (sl_L x n) (sl_L x n) (sl_L x n + 1)) (mm_q (sl_A n W (sl_st x n a) (sl_L x n) g) (sl_L x n + 1)) = rdU (md_N n W (fun s => bt x s) v a) (md_D n W (fun s => bt x s) v) ∧ rdL (mm_M (sl_A n W (sl_st x n a) (sl_L x n) g) (sl_L x n) (sl_L x n) (sl_L x n + 1)) (mm_q (sl_A n W (sl_st x n a) (sl_L x n) g) (sl_L x n + 1)) = rdL (md_N n W (fun s => bt x s) v a) (md_D n W (fun s => bt x s) v) := by
  have h7 := hW.1
  have hop := tie_open (v := v) h7 hout hgv
  have ht := sl_tie (x := x) (a := a) (g := g) h7 (md_N n W (fun s => bt x s) v) (md_N n W (fun s => bt x s) v a) (md_D n W (fun s => bt x s) v) hop (hop a ha hao)
  have hq := (sl_el hW ha hout hg).2.1 (sl_L x n + 1) (Nat.le_refl _)
  have hD := md_pos (v := v) (o := fun s => bt x s) hW hout
  refine rd_eq ?_ (by omega) (by omega)
  rw [ht, Int.mul_comm]
end
