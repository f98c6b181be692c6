/-! SPB: elimination goes through in the class's matrix -/
theorem sl_st_in {x : Int32} {n a k : Nat} (hk : k < sl_L x n) : sl_st x n a k < n ∧ bt x (sl_st x n a k) = true := by
  unfold sl_st sl_L at *
  rw [List.getD_eq_getElem?_getD, List.getElem?_append_left hk, List.getElem?_eq_getElem hk]
  exact (ch_ol_mem x n _).mp (List.getElem_mem hk)
theorem sl_st_last (x : Int32) (n a : Nat) : sl_st x n a (sl_L x n) = a := by
  unfold sl_st sl_L
  simp [List.getD_eq_getElem?_getD]
theorem sl_st_ol {x : Int32} {n a k : Nat} (hk : k < sl_L x n) : sl_st x n a k = (ch_ol x n).getD k 0 := by
  unfold sl_st sl_L at *
  rw [List.getD_eq_getElem?_getD, List.getD_eq_getElem?_getD, List.getElem?_append_left hk]
theorem sl_st_of {x : Int32} {n : Nat} (a : Nat) {m : Nat} (hm : m < n) (hb : bt x m = true) : ∃ c, c < sl_L x n ∧ sl_st x n a c = m := by
  have h := (ch_ol_mem x n m).mpr ⟨hm, hb⟩
  obtain ⟨c, hc, e⟩ := List.mem_iff_getElem.mp h
  refine ⟨c, hc, ?_⟩
  rw [sl_st_ol hc, List.getD_eq_getElem?_getD, List.getElem?_eq_getElem hc]
  exact e
theorem mm_T_nat (u : Nat → Nat) : ∀ m, mm_T (fun c => (u c : Int)) 0 m = (ch_al u m : Int) := by
  intro m
  induction m with
  | zero => rfl
  | succ m ih => rw [mm_T_snoc, ih]; simp [ch_al]
/-- sums over the rows' states are sums over the open states -/
theorem sl_al (x : Int32) (n a : Nat) (f : Nat → Nat) : ch_al (fun c => f (sl_st x n a c)) (sl_L x n) = ch_sm x f n := by
  have h1 := mm_T_nat (fun c => f (sl_st x n a c)) (sl_L x n)
  have h2 := mm_T_list (fun l => (f l : Int)) (ch_ol x n)
  rw [ch_ol_sum] at h2
  have h3 : mm_T (fun c => ((f (sl_st x n a c) : Nat) : Int)) 0 (sl_L x n) = mm_T (fun c => ((f ((ch_ol x n).getD c 0) : Nat) : Int)) 0 (ch_ol x n).length := mm_T_congr _ 0 (fun k _ hk => by rw [sl_st_ol (by unfold sl_L; unfold sl_L at hk; omega)])
  rw [h3, h2] at h1
  omega
section
variable {n : Nat} {W : Nat → Nat → Nat} {x : Int32} {a : Nat} {g : Nat → Int}
theorem sl_AB {r c : Nat} (hc : c ≠ 100) : sl_A n W (sl_st x n a) (sl_L x n) g r c = sl_B n W (sl_st x n a) (sl_L x n) g r c := by
  unfold sl_A; rw [if_neg hc]
theorem sl_B_le {r c : Nat} (hc : c ≤ sl_L x n) : sl_B n W (sl_st x n a) (sl_L x n) g r c = (if c < sl_L x n then -(ch_p n W (sl_st x n a r) (sl_st x n a c) : Int) else 0) + (if c = r then (ch_t n W (sl_st x n a r) : Int) else 0) := by
  unfold sl_B; rw [if_neg (by omega)]
theorem sl_sum {i : Nat} (hi : i ≤ sl_L x n) : mm_T (sl_B n W (sl_st x n a) (sl_L x n) g i) 0 (sl_L x n + 1) = (ch_t n W (sl_st x n a i) : Int) - (ch_sm x (ch_p n W (sl_st x n a i)) n : Int) := by
  have h1 : mm_T (sl_B n W (sl_st x n a) (sl_L x n) g i) 0 (sl_L x n + 1) = mm_T (fun c => (if c < sl_L x n then -(ch_p n W (sl_st x n a i) (sl_st x n a c) : Int) else 0) + (if c = i then (ch_t n W (sl_st x n a i) : Int) else 0)) 0 (sl_L x n + 1) := mm_T_congr _ 0 (fun k _ hk => sl_B_le (by omega))
  rw [h1, mm_T_add, mm_T_one i _ (sl_L x n + 1) 0 (Nat.zero_le _) (by omega), mm_T_snoc, if_neg (by omega)]
  have h2 : mm_T (fun c => if c < sl_L x n then -(ch_p n W (sl_st x n a i) (sl_st x n a c) : Int) else 0) 0 (sl_L x n) = -(ch_sm x (ch_p n W (sl_st x n a i)) n : Int) := by
    have e1 := sl_al x n a (ch_p n W (sl_st x n a i))
    have e2 := mm_T_nat (fun c => ch_p n W (sl_st x n a i) (sl_st x n a c)) (sl_L x n)
    have e3 := mm_T_comb (fun c => ((ch_p n W (sl_st x n a i) (sl_st x n a c) : Nat) : Int)) (fun _ => 0) (fun c => -(ch_p n W (sl_st x n a i) (sl_st x n a c) : Int)) 1 (-1) 0 (fun k => by omega) (sl_L x n) 0
    have e4 : mm_T (fun c => if c < sl_L x n then -(ch_p n W (sl_st x n a i) (sl_st x n a c) : Int) else 0) 0 (sl_L x n) = mm_T (fun c => -(ch_p n W (sl_st x n a i) (sl_st x n a c) : Int)) 0 (sl_L x n) := mm_T_congr _ 0 (fun k _ hk => by rw [if_pos (by omega)])
    rw [e4]
    rw [e1] at e2
    omega
  rw [h2]
  omega
/-- each open state can leave the open ones -/
def ch_out (n : Nat) (W : Nat → Nat → Nat) (x : Int32) : Prop := ∀ k, k < n → bt x k = true → ∃ j, ¬ (bt x j = true) ∧ ch_R (ch_E n W) (fun _ => False) k j
theorem ch_R_lt {S : Nat → Prop} {k j : Nat} (hk : k < n) (h : ch_R (ch_E n W) S k j) : j < n := ch_R_fwd (C := fun i => i < n) (fun _ _ _ _ e => e.2.1) hk h
theorem sl_mm (hW : okW n W) (ha : a < n) (hout : ch_out n W x) : ∃ ρ, mm_ok (sl_A n W (sl_st x n a) (sl_L x n) g) (sl_L x n + 1) 100 ρ 12 0 := by
  have h7 := hW.1
  have hLn : sl_L x n ≤ n := ch_ol_len x n
  have hpl := ch_p_le hW
  have htl := ch_t_le hW
  refine ⟨fun c => if c < sl_L x n then ch_rho (ch_E n W) (fun i => bt x i = true) (sl_st x n a c) else 1 + ch_sm x (ch_rho (ch_E n W) (fun i => bt x i = true)) n, mm_start ?_ ?_ ?_ ?_ ?_⟩
  · intro i j hi hj hij
    rw [sl_AB (by omega), sl_B_le (by omega), if_neg hij]
    split <;> omega
  · intro i hi
    have e : sl_A n W (sl_st x n a) (sl_L x n) g i 100 = mm_T (sl_B n W (sl_st x n a) (sl_L x n) g i) 0 (sl_L x n + 1) := by unfold sl_A; rw [if_pos rfl]
    have hst := sl_st_lt (x := x) ha (k := i) (by omega)
    rw [e, sl_sum (by omega)]
    have h1 := ch_sm_le x (ch_p n W (sl_st x n a i)) n
    rw [ch_al_p hst] at h1
    omega
  · intro i hi
    have e : sl_A n W (sl_st x n a) (sl_L x n) g i 100 = mm_T (sl_B n W (sl_st x n a) (sl_L x n) g i) 0 (sl_L x n + 1) := by unfold sl_A; rw [if_pos rfl]
    rw [e]
    exact mm_T_congr _ 0 (fun k _ hk => (sl_AB (by omega)).symm)
  · intro i hi
    have e : sl_A n W (sl_st x n a) (sl_L x n) g i 100 = mm_T (sl_B n W (sl_st x n a) (sl_L x n) g i) 0 (sl_L x n + 1) := by unfold sl_A; rw [if_pos rfl]
    have hst := sl_st_lt (x := x) ha (k := i) (by omega)
    have hsum := sl_sum (n := n) (W := W) (x := x) (a := a) (g := g) (i := i) (by omega)
    have hal := ch_al_p (W := W) hst
    by_cases hiL : i < sl_L x n
    · have hin := sl_st_in (a := a) hiL
      obtain ⟨m, hE, hrho, -⟩ := ch_rho_next (E := ch_E n W) (o := fun i => bt x i = true) hin.2 (hout _ hin.1 hin.2)
      by_cases hb : bt x m = true
      · right
        obtain ⟨c, hc1, hc2⟩ := sl_st_of a hE.2.1 hb
        refine ⟨c, by omega, ?_, ?_, ?_⟩
        · intro z; subst z; rw [hc2] at hrho; omega
        · have hci : c ≠ i := by intro z; subst z; rw [hc2] at hrho; omega
          rw [sl_AB (by omega), sl_B_le (by omega), if_pos hc1, if_neg hci, hc2]
          have := hE.2.2
          omega
        · rw [if_pos hc1, if_pos hiL, hc2]; exact hrho
      · left
        rw [e, hsum]
        have h1 := ch_sm_lt x (ch_p n W (sl_st x n a i)) m hb hE.2.2 n hE.2.1
        omega
    · by_cases hpos : ch_sm x (ch_p n W (sl_st x n a i)) n < ch_t n W (sl_st x n a i)
      · left; rw [e, hsum]; omega
      · right
        have ht := ch_t_pos n W (sl_st x n a i)
        obtain ⟨m, hm1, hm2, hm3⟩ := ch_sm_ex x (ch_p n W (sl_st x n a i)) n (by omega)
        obtain ⟨c, hc1, hc2⟩ := sl_st_of a hm1 hm2
        refine ⟨c, by omega, by omega, ?_, ?_⟩
        · rw [sl_AB (by omega), sl_B_le (by omega), if_pos hc1, if_neg (by omega), hc2]
          omega
        · rw [if_pos hc1, if_neg hiL, hc2]
          have key : ∀ (f : Nat → Nat) (q : Nat), m < q → f m ≤ ch_sm x f q := by
            intro f q
            induction q with
            | zero => intro h; omega
            | succ q ih =>
              intro h
              simp only [ch_sm]
              by_cases z : m = q
              · subst z; rw [if_pos hm2]; omega
              · have := ih (by omega); omega
          have := key (ch_rho (ch_E n W) (fun i => bt x i = true)) n hm1
          omega
  · intro i hi
    rw [sl_AB (by omega), sl_B_le (by omega), if_pos rfl]
    have := htl (sl_st x n a i)
    split <;> omega
theorem ch_ol_full (x : Int32) : ∀ k, (ch_ol x k).length = k → ∀ i, i < k → bt x i = true := by
  intro k
  induction k with
  | zero => intro _ i hi; omega
  | succ k ih =>
    intro h i hi
    have h1 := ch_ol_len x k
    simp only [ch_ol, List.length_append] at h
    by_cases hb : bt x k = true
    · rw [if_pos hb, List.length_singleton] at h
      by_cases e : i = k
      · subst e; exact hb
      · exact ih (by omega) i (by omega)
    · rw [if_neg hb, List.length_nil] at h; omega
theorem sl_L6 (hW : okW n W) (hout : ch_out n W x) : sl_L x n ≤ 6 := by
  have h7 := hW.1
  have hLn : sl_L x n ≤ n := ch_ol_len x n
  refine Nat.le_of_not_lt (fun h => ?_)
  have hn : sl_L x n = n := by omega
  have hall := ch_ol_full x n hn
  obtain ⟨j, hj1, hj2⟩ := hout 0 (by omega) (hall 0 (by omega))
  exact hj1 (hall j (ch_R_lt (by omega) hj2))
theorem mm_L1_I (r : Nat → Int) (u : Nat → Nat) (t i : Nat) : ∀ p, (∀ c, c < p → (r c).natAbs ≤ u c + (if c = i then t else 0)) → mm_L1 r (mm_I p) ≤ ch_al u p + (if i < p then t else 0) := by
  intro p
  induction p with
  | zero => intro _; exact Nat.zero_le _
  | succ p ih =>
    intro h
    have h1 := ih (fun c hc => h c (by omega))
    have h2 := h p (by omega)
    simp only [mm_I, mm_L1, ch_al]
    by_cases e1 : i < p
    · rw [if_pos e1] at h1
      rw [if_neg (by omega)] at h2
      rw [if_pos (by omega)]; omega
    · rw [if_neg e1] at h1
      by_cases e2 : p = i
      · rw [if_pos e2] at h2
        rw [if_pos (by omega)]; omega
      · rw [if_neg e2] at h2
        rw [if_neg (by omega)]; omega
theorem ch_al_mono (u : Nat → Nat) {p q : Nat} (h : p ≤ q) : ch_al u p ≤ ch_al u q := by
  induction q with
  | zero => have : p = 0 := by omega
            subst this; exact Nat.le_refl _
  | succ q ih =>
    by_cases e : p = q + 1
    · subst e; exact Nat.le_refl _
    · have := ih (by omega)
      simp only [ch_al]; omega
theorem sl_L1 (hW : okW n W) (ha : a < n) {k p : Nat} (hk : k ≤ sl_L x n) (hp : p ≤ sl_L x n) : mm_L1 (sl_A n W (sl_st x n a) (sl_L x n) g k) (mm_I p) ≤ 24 := by
  have h7 := hW.1
  have hLn : sl_L x n ≤ n := ch_ol_len x n
  have hst := sl_st_lt (x := x) ha hk
  have h1 := mm_L1_I (sl_A n W (sl_st x n a) (sl_L x n) g k) (fun c => ch_p n W (sl_st x n a k) (sl_st x n a c)) (ch_t n W (sl_st x n a k)) k p (fun c hc => by
    rw [sl_AB (by omega), sl_B_le (by omega), if_pos (by omega)]
    split <;> omega)
  have h2 := ch_al_mono (fun c => ch_p n W (sl_st x n a k) (sl_st x n a c)) hp
  have h3 := sl_al x n a (ch_p n W (sl_st x n a k))
  have h4 := ch_sm_le x (ch_p n W (sl_st x n a k)) n
  rw [ch_al_p hst] at h4
  have h5 := ch_t_le hW (sl_st x n a k)
  rw [h3] at h2
  have h6 : (if k < p then ch_t n W (sl_st x n a k) else 0) ≤ ch_t n W (sl_st x n a k) := by split <;> omega
  omega
theorem mm_Pr_le (L : List Nat) (B : Nat) (hB : 1 ≤ B) (N : Nat) : ∀ rows : List (Nat → Int), (∀ r ∈ rows, mm_L1 r L ≤ B) → rows.length ≤ N → mm_Pr L rows ≤ B ^ N := by
  intro rows
  induction rows generalizing N with
  | nil => intro _ _; exact Nat.one_le_pow _ _ hB
  | cons r rs ih =>
    intro h hl
    simp only [List.length_cons] at hl
    obtain ⟨N', rfl⟩ : ∃ N', N = N' + 1 := ⟨N - 1, by omega⟩
    have h1 := ih N' (fun r' hr' => h r' (List.mem_cons_of_mem _ hr')) (by omega)
    simp only [mm_Pr]
    rw [Nat.pow_succ, Nat.mul_comm]
    exact Nat.mul_le_mul h1 (h r List.mem_cons_self)
/-- a bound by the first column -/
theorem mm_col_le (rows : List (Nat → Int)) (c : Nat) (L : List Nat) (G B N : Nat) (hB : 1 ≤ B) (hG : ∀ r ∈ rows, (r c).natAbs ≤ G) (hL : ∀ r ∈ rows, mm_L1 r L ≤ B) (hN : rows.length ≤ N) : (dt_D rows (c :: L)).natAbs ≤ N * G * B ^ N := by
  rw [dt_D_col]
  have h := mm_lap_le (fun r : Nat → Int => r c) (fun R => dt_D R L) (B ^ N) (fun _ => G) rows [] hG (fun l hl => by
    have hl : l.Sublist rows := by simpa using hl
    exact Nat.le_trans (mm_D_le l L) (mm_Pr_le L B hB N l (fun r hr => hL r (hl.subset hr)) (Nat.le_trans hl.length_le hN)))
  refine Nat.le_trans h ?_
  refine Nat.mul_le_mul ?_ (Nat.le_refl _)
  have : ∀ l : List (Nat → Int), (l.map (fun _ => G)).sum = l.length * G := by
    intro l
    induction l with
    | nil => simp
    | cons r l ih => simp only [List.map_cons, List.sum_cons, List.length_cons]; rw [ih, Nat.add_mul]; omega
  rw [this]
  exact Nat.mul_le_mul hN (Nat.le_refl _)
theorem mm_V_mem (A : Nat → Nat → Int) : ∀ p, ∀ r ∈ mm_V A p, ∃ k, k < p ∧ r = A k := by
  intro p
  induction p with
  | zero => intro r hr; cases hr
  | succ p ih =>
    intro r hr
    rcases List.mem_cons.mp hr with h | h
    · exact ⟨p, by omega, h⟩
    · obtain ⟨k, h1, h2⟩ := ih r h
      exact ⟨k, by omega, h2⟩
theorem mm_V_len (A : Nat → Nat → Int) : ∀ p, (mm_V A p).length = p := by
  intro p
  induction p with
  | zero => rfl
  | succ p ih => simp only [mm_V, List.length_cons]; rw [ih]
end
