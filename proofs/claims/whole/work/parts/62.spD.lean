/-! SPD: what solves the first-step equations is the class's answer -/
def ch_sI (x : Int32) (f : Nat → Int) : Nat → Int
  | 0 => 0
  | m + 1 => ch_sI x f m + (if bt x m = true then f m else 0)
theorem ch_sI_ol (x : Int32) (f : Nat → Int) : ∀ m, ((ch_ol x m).map f).sum = ch_sI x f m := by
  intro m
  induction m with
  | zero => rfl
  | succ m ih =>
    simp only [ch_ol, ch_sI, List.map_append, List.sum_append]
    rw [ih]
    by_cases h : bt x m = true
    · rw [if_pos h, if_pos h]; simp
    · rw [if_neg h, if_neg h]; simp
theorem sl_sI (x : Int32) (n a : Nat) (f : Nat → Int) : mm_T (fun c => f (sl_st x n a c)) 0 (sl_L x n) = ch_sI x f n := by
  have h2 := mm_T_list f (ch_ol x n)
  rw [ch_sI_ol] at h2
  rw [← h2]
  exact mm_T_congr _ 0 (fun k _ hk => by rw [sl_st_ol (by omega)])
theorem dt_S_I (r Y : Nat → Int) : ∀ p, dt_S r (dt_pr Y (mm_I p)) = mm_T (fun c => Y c * r c) 0 p := by
  intro p
  induction p with
  | zero => rfl
  | succ p ih =>
    rw [mm_T_snoc, ← ih]
    show Y p * r p + dt_S r (dt_pr Y (mm_I p)) = _
    rw [Nat.zero_add]
    omega
theorem sl_tie {n : Nat} {W : Nat → Nat → Nat} {x : Int32} {a : Nat} {g : Nat → Int} (h7 : n ≤ 7) (X : Nat → Int) (XL d : Int) (h1 : ∀ k, k < n → bt x k = true → (ch_t n W k : Int) * X k - ch_sI x (fun l => (ch_p n W k l : Int) * X l) n = d * g k) (h2 : (ch_t n W a : Int) * XL - ch_sI x (fun l => (ch_p n W a l : Int) * X l) n = d * g a) :
    XL * mm_q (sl_A n W (sl_st x n a) (sl_L x n) g) (sl_L x n + 1) = d * mm_M (sl_A n W (sl_st x n a) (sl_L x n) g) (sl_L x n) (sl_L x n) (sl_L x n + 1) := by
  have hLn : sl_L x n ≤ n := ch_ol_len x n
  have hk : ∀ i, i ≤ sl_L x n → mm_T (fun c => (fun c => if c < sl_L x n then X (sl_st x n a c) else XL) c * sl_A n W (sl_st x n a) (sl_L x n) g i c) 0 (sl_L x n + 1) = d * sl_A n W (sl_st x n a) (sl_L x n) g i (sl_L x n + 1) := fun i hi => by
    have e0 : sl_A n W (sl_st x n a) (sl_L x n) g i (sl_L x n + 1) = g (sl_st x n a i) := by
      rw [sl_AB (by omega)]; unfold sl_B; rw [if_pos rfl]
    rw [e0]
    have e1 : mm_T (fun c => (fun c => if c < sl_L x n then X (sl_st x n a c) else XL) c * sl_A n W (sl_st x n a) (sl_L x n) g i c) 0 (sl_L x n + 1) = mm_T (fun c => (if c < sl_L x n then -((ch_p n W (sl_st x n a i) (sl_st x n a c) : Int) * X (sl_st x n a c)) else 0) + (if c = i then (if i < sl_L x n then X (sl_st x n a i) else XL) * (ch_t n W (sl_st x n a i) : Int) else 0)) 0 (sl_L x n + 1) := mm_T_congr _ 0 (fun c _ hc => by
      dsimp only
      rw [sl_AB (by omega), sl_B_le (by omega)]
      by_cases c1 : c < sl_L x n
      · rw [if_pos c1, if_pos c1, if_pos c1]
        by_cases c2 : c = i
        · subst c2
          rw [if_pos rfl, if_pos rfl, if_pos c1]
          grind
        · rw [if_neg c2, if_neg c2]
          grind
      · rw [if_neg c1, if_neg c1, if_neg c1]
        by_cases c2 : c = i
        · subst c2
          rw [if_pos rfl, if_pos rfl, if_neg c1]
          grind
        · rw [if_neg c2, if_neg c2]
          grind)
    rw [e1, mm_T_add, mm_T_one i _ (sl_L x n + 1) 0 (Nat.zero_le _) (by omega), mm_T_snoc, if_neg (by omega)]
    have e2 : mm_T (fun c => if c < sl_L x n then -((ch_p n W (sl_st x n a i) (sl_st x n a c) : Int) * X (sl_st x n a c)) else 0) 0 (sl_L x n) = - ch_sI x (fun l => (ch_p n W (sl_st x n a i) l : Int) * X l) n := by
      have e3 := sl_sI x n a (fun l => (ch_p n W (sl_st x n a i) l : Int) * X l)
      have e4 := mm_T_comb (fun c => (ch_p n W (sl_st x n a i) (sl_st x n a c) : Int) * X (sl_st x n a c)) (fun _ => 0) (fun c => if c < sl_L x n then -((ch_p n W (sl_st x n a i) (sl_st x n a c) : Int) * X (sl_st x n a c)) else 0) 1 (-1) 0
      have e5 : mm_T (fun c => if c < sl_L x n then -((ch_p n W (sl_st x n a i) (sl_st x n a c) : Int) * X (sl_st x n a c)) else 0) 0 (sl_L x n) = mm_T (fun c => -((ch_p n W (sl_st x n a i) (sl_st x n a c) : Int) * X (sl_st x n a c))) 0 (sl_L x n) := mm_T_congr _ 0 (fun c _ hc => by rw [if_pos (by omega)])
      have e6 := mm_T_comb (fun c => (ch_p n W (sl_st x n a i) (sl_st x n a c) : Int) * X (sl_st x n a c)) (fun _ => 0) (fun c => -((ch_p n W (sl_st x n a i) (sl_st x n a c) : Int) * X (sl_st x n a c))) 1 (-1) 0 (fun k => by omega) (sl_L x n) 0
      rw [e5]
      omega
    rw [e2]
    by_cases hiL : i < sl_L x n
    · have hin := sl_st_in (a := a) hiL
      have := h1 _ hin.1 hin.2
      rw [if_pos hiL, Int.mul_comm (X _)]
      omega
    · have hie : i = sl_L x n := by omega
      rw [if_neg hiL, hie, sl_st_last, Int.mul_comm XL]
      omega
  have hc := dt_cramer (mm_V (sl_A n W (sl_st x n a) (sl_L x n) g) (sl_L x n + 1)) (fun c => if c < sl_L x n then X (sl_st x n a c) else XL) d [] (mm_I (sl_L x n)) (sl_L x n) (sl_L x n + 1) (fun r hr => by
    obtain ⟨i, hi, rfl⟩ := mm_V_mem _ _ r hr
    rw [← hk i (by omega), ← dt_S_I]
    rfl)
  rw [if_neg (by omega)] at hc
  exact hc
