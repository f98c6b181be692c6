/-! SPT: share -/
theorem mm_between {A : Nat → Nat → Int} {n s : Nat} {ρ : Nat → Nat} {B : Int} (h : mm_ok A n s ρ B 0) {g : Nat} (h0 : ∀ i, i < n → 0 ≤ A i g ∧ A i g ≤ A i s) : ∀ p, p ≤ n → ∀ i, p ≤ i → i < n → 0 ≤ mm_M A p i g ∧ mm_M A p i g ≤ mm_M A p i s := by
  intro p
  induction p with
  | zero => intro _ i _ hi; rw [mm_M_0, mm_M_0]; exact h0 i hi
  | succ p ih =>
    intro hp i h1 h2
    have ho := mm_all h p (by omega)
    have hP := mm_pos ho (Nat.le_refl p) (show p < n by omega)
    have i1 := ih (by omega) i (by omega) h2
    have i2 := ih (by omega) p (Nat.le_refl p) (by omega)
    have hip := ho.2.1 i p (by omega) h2 (Nat.le_refl p) (by omega) (by omega)
    have st1 := mm_step A p i g
    have st2 := mm_step A p i s
    refine ⟨mm_ge0 ho.1 ?_, ?_⟩
    · rw [st1]
      have k1 := Int.mul_nonneg (Int.le_of_lt hP) i1.1
      have k2 := Int.mul_nonpos_of_nonpos_of_nonneg hip i2.1
      omega
    · have : 0 ≤ mm_M A (p + 1) i s - mm_M A (p + 1) i g := mm_ge0 ho.1 (by
        rw [Int.mul_sub, st1, st2]
        have k1 := Int.mul_nonneg (Int.le_of_lt hP) (show 0 ≤ mm_M A p i s - mm_M A p i g by omega)
        have k2 := Int.mul_nonpos_of_nonpos_of_nonneg hip (show 0 ≤ mm_M A p p s - mm_M A p p g by omega)
        rw [Int.mul_sub] at k1 k2
        omega)
      omega
theorem rd_le1 {m q : Int} (h0 : 0 ≤ m) (h1 : m ≤ q) (hq : 0 < q) : 0 ≤ rdU m q ∧ rdU m q ≤ rdL m q := by
  have u := rd_U m q
  have l := rd_L m q
  have g := rd_pos m q (by omega)
  rw [if_neg (by omega)] at u l
  constructor
  · refine mm_ge0 g ?_
    rw [Int.mul_comm, u]; exact h0
  · refine Int.le_of_mul_le_mul_left (a := (Int.gcd m q : Int)) ?_ g
    rw [Int.mul_comm, u, Int.mul_comm, l]; exact h1
theorem ch_sm_two {x G : Int32} {f : Nat → Nat} : ∀ m, (∀ l, l < m → bt x l = true → ¬ bt G l = true) → ch_sm G f m + ch_sm x f m ≤ ch_al f m := by
  intro m
  induction m with
  | zero => intro _; exact Nat.le_refl 0
  | succ m ih =>
    intro h
    have h1 := ih (fun l hl => h l (by omega))
    simp only [ch_sm, ch_al]
    by_cases hx : bt x m = true
    · rw [if_pos hx, if_neg (h m (by omega) hx)]; omega
    · rw [if_neg hx]; split <;> omega
section
variable {n : Nat} {W : Nat → Nat → Nat}
/-- odds lie between 0 and 1 -/
theorem odds_le (hW : okW n W) {a : Nat} (ha : a < n) {x G : Int32} (hout : ch_out n W x) (hxG : ∀ l, l < n → bt x l = true → ¬ bt G l = true) : 0 ≤ rdU (md_N n W (fun s => bt x s) (fun s => if bt G s = true then 1 else 0) a) (md_D n W (fun s => bt x s) (fun s => if bt G s = true then 1 else 0)) ∧ rdU (md_N n W (fun s => bt x s) (fun s => if bt G s = true then 1 else 0) a) (md_D n W (fun s => bt x s) (fun s => if bt G s = true then 1 else 0)) ≤ rdL (md_N n W (fun s => bt x s) (fun s => if bt G s = true then 1 else 0) a) (md_D n W (fun s => bt x s) (fun s => if bt G s = true then 1 else 0)) := by
  have h7 := hW.1
  have hD := md_pos (v := fun s => if bt G s = true then (1 : Int) else 0) (o := fun s => bt x s) hW hout
  by_cases hxa : bt x a = true
  · have hgb : ∀ k, k < n → ((fun i => ((ch_sm G (ch_p n W i) n : Nat) : Int)) k).natAbs ≤ 1200 := fun k hk => by
      dsimp only
      have q1 := ch_sm_le G (ch_p n W k) n
      rw [ch_al_p hk] at q1
      have q2 := ch_t_le hW k
      omega
    have hti := tie_in (v := fun s => if bt G s = true then (1 : Int) else 0) hW ha hout hgb (fun k hk hb => by
        try dsimp only
        rw [if_neg (hxG k hk hb), (ch_pT (ch_out_T hout hk hb)).1, ch_sC_goal n hxG]
        omega) hxa
    rw [← hti.1, ← hti.2]
    obtain ⟨ρ, hmm⟩ := sl_mm (g := fun i => ((ch_sm G (ch_p n W i) n : Nat) : Int)) hW ha hout
    have hL6 := sl_L6 hW hout
    have hb := mm_between hmm (g := sl_L x n + 1) (fun i hi => by
      have hst := sl_st_lt (x := x) ha (k := i) (by omega)
      have e1 : sl_A n W (sl_st x n a) (sl_L x n) (fun i => ((ch_sm G (ch_p n W i) n : Nat) : Int)) i 100 = mm_T (sl_B n W (sl_st x n a) (sl_L x n) (fun i => ((ch_sm G (ch_p n W i) n : Nat) : Int)) i) 0 (sl_L x n + 1) := by unfold sl_A; rw [if_pos rfl]
      have e2 : sl_A n W (sl_st x n a) (sl_L x n) (fun i => ((ch_sm G (ch_p n W i) n : Nat) : Int)) i (sl_L x n + 1) = ((ch_sm G (ch_p n W (sl_st x n a i)) n : Nat) : Int) := by
        rw [sl_AB (by omega)]; unfold sl_B; rw [if_pos rfl]
      rw [e1, e2, sl_sum (by omega)]
      have h2 := ch_sm_two (f := ch_p n W (sl_st x n a i)) n hxG
      rw [ch_al_p hst] at h2
      omega) (sl_L x n) (by omega) (sl_L x n) (Nat.le_refl _) (by omega)
    have hs := (mm_all hmm (sl_L x n) (by omega)).2.2.2.1 (sl_L x n) (Nat.le_refl _) (by omega)
    rw [show sl_L x n + 1 - sl_L x n = 1 by omega] at hs
    simp only [mm_T] at hs
    have hq := (mm_all hmm (sl_L x n + 1) (Nat.le_refl _)).1
    refine rd_le1 hb.1 ?_ hq
    rw [mm_q_s]
    omega
  · have hN := md_fixN (W := W) (x := x) (v := fun s => if bt G s = true then (1 : Int) else 0) h7 ha hxa
    by_cases hGa : bt G a = true
    · try dsimp only at hN
      rw [if_pos hGa, Int.mul_one] at hN
      rw [hN]
      exact rd_le1 (by omega) (Int.le_refl _) hD.1
    · try dsimp only at hN
      rw [if_neg hGa, Int.mul_zero] at hN
      rw [hN]
      exact rd_le1 (Int.le_refl 0) (by omega) hD.1
theorem R_end {k j : Nat} (h0 : ch_T W k n = 0) (h : ch_R (ch_E n W) (fun _ => False) k j) : j = k := by
  rw [R_mE] at h
  obtain ⟨m, hm⟩ := h
  cases m with
  | zero => exact (show k = j from hm).symm
  | succ m =>
    obtain ⟨i, -, h2, -⟩ := hm
    have := ch_T_le W k i n h2.2.1
    have := h2.2.2
    omega
/-- odds to meet b, or to come into the closed part of b -/
theorem odds_same (hW : okW n W) {a b : Nat} (ha : a < n) (hb : b < n) {x1 x2 G : Int32} (hcl : ∀ k, k < n → ch_R (ch_E n W) (fun _ => False) b k → ch_R (ch_E n W) (fun _ => False) k b) (hS : ∀ s, s < n → (bt G s = true ↔ ch_R (ch_E n W) (fun _ => False) b s)) (hx1 : ∀ s, s < n → (bt x1 s = true ↔ s ≠ b ∧ ch_R (ch_E n W) (fun _ => False) s b)) (hx2 : ∀ s, s < n → (bt x2 s = true ↔ ¬ bt G s = true ∧ ch_R (ch_E n W) (fun _ => False) s b)) (ho1 : ch_out n W x1) (ho2 : ch_out n W x2) :
    rdU (md_N n W (fun s => bt x1 s) (fun s => if bt ((1 : Int32) <<< (nI b &&& 31)) s = true then 1 else 0) a) (md_D n W (fun s => bt x1 s) (fun s => if bt ((1 : Int32) <<< (nI b &&& 31)) s = true then 1 else 0)) = rdU (md_N n W (fun s => bt x2 s) (fun s => if bt G s = true then 1 else 0) a) (md_D n W (fun s => bt x2 s) (fun s => if bt G s = true then 1 else 0)) ∧ rdL (md_N n W (fun s => bt x1 s) (fun s => if bt ((1 : Int32) <<< (nI b &&& 31)) s = true then 1 else 0) a) (md_D n W (fun s => bt x1 s) (fun s => if bt ((1 : Int32) <<< (nI b &&& 31)) s = true then 1 else 0)) = rdL (md_N n W (fun s => bt x2 s) (fun s => if bt G s = true then 1 else 0) a) (md_D n W (fun s => bt x2 s) (fun s => if bt G s = true then 1 else 0)) := by
  have h7 := hW.1
  have hone : ∀ s, s < n → (bt ((1 : Int32) <<< (nI b &&& 31)) s = true ↔ s = b) := fun s hs => by rw [b_one b (by omega) (by omega), decide_eq_true_eq]
  have hD1 := md_pos (v := fun s => if bt ((1 : Int32) <<< (nI b &&& 31)) s = true then (1 : Int) else 0) (o := fun s => bt x1 s) hW ho1
  have hD2 := md_pos (v := fun s => if bt G s = true then (1 : Int) else 0) (o := fun s => bt x2 s) hW ho2
  have hGb : bt G b = true := (hS b hb).mpr (ch_R_refl _ _ _)
  -- the numbers of the second system
  have n1 : ∀ l, l < n → bt G l = true → md_N n W (fun s => bt x2 s) (fun s => if bt G s = true then (1 : Int) else 0) l = md_D n W (fun s => bt x2 s) (fun s => if bt G s = true then (1 : Int) else 0) := fun l hl hg => by
    have hN := md_fixN (W := W) (x := x2) (v := fun s => if bt G s = true then (1 : Int) else 0) h7 hl (fun z => ((hx2 l hl).mp z).1 hg)
    try dsimp only at hN
    rw [if_pos hg, Int.mul_one] at hN
    exact hN
  have n0 : ∀ l, l < n → ¬ ch_R (ch_E n W) (fun _ => False) l b → md_N n W (fun s => bt x2 s) (fun s => if bt G s = true then (1 : Int) else 0) l = 0 := fun l hl hr => by
    have hg : ¬ bt G l = true := fun z => hr (hcl l hl ((hS l hl).mp z))
    have hN := md_fixN (W := W) (x := x2) (v := fun s => if bt G s = true then (1 : Int) else 0) h7 hl (fun z => hr ((hx2 l hl).mp z).2)
    try dsimp only at hN
    rw [if_neg hg, Int.mul_zero] at hN
    exact hN
  have hC1 : ∀ f : Nat → Int, (∀ l, l < n → ¬ ch_R (ch_E n W) (fun _ => False) l b → f l = 0) → ch_sC x1 f n = f b := fun f hf => by
    have : ∀ m, m ≤ n → ch_sC x1 f m = if b < m then f b else 0 := by
      intro m
      induction m with
      | zero => intro _; rfl
      | succ m ih =>
        intro hm
        simp only [ch_sC]
        rw [ih (by omega)]
        by_cases hx : bt x1 m = true
        · have hmb := ((hx1 m (by omega)).mp hx).1
          rw [if_pos hx]
          by_cases q : b < m
          · rw [if_pos q, if_pos (by omega)]; omega
          · rw [if_neg q, if_neg (by omega)]; omega
        · rw [if_neg hx]
          by_cases hmb : m = b
          · subst hmb; rw [if_neg (by omega), if_pos (by omega)]; omega
          · have hr : ¬ ch_R (ch_E n W) (fun _ => False) m b := fun z => hx ((hx1 m (by omega)).mpr ⟨hmb, z⟩)
            rw [hf m (by omega) hr]
            by_cases q : b < m
            · rw [if_pos q, if_pos (by omega)]; omega
            · rw [if_neg q, if_neg (by omega)]; omega
    have h9 := this n (Nat.le_refl n)
    rw [if_pos hb] at h9
    exact h9
  by_cases hxa : bt x1 a = true
  · have hgb : ∀ k, k < n → ((fun i => ((ch_sm ((1 : Int32) <<< (nI b &&& 31)) (ch_p n W i) n : Nat) : Int)) k).natAbs ≤ 1200 := fun k hk => by
      dsimp only
      have q1 := ch_sm_le ((1 : Int32) <<< (nI b &&& 31)) (ch_p n W k) n
      rw [ch_al_p hk] at q1
      have q2 := ch_t_le hW k
      omega
    have hxG : ∀ l, l < n → bt x1 l = true → ¬ bt ((1 : Int32) <<< (nI b &&& 31)) l = true := fun l hl hbl z => ((hx1 l hl).mp hbl).1 ((hone l hl).mp z)
    have hti := tie_in (v := fun s => if bt ((1 : Int32) <<< (nI b &&& 31)) s = true then (1 : Int) else 0) hW ha ho1 hgb (fun k hk hbk => by
        try dsimp only
        rw [if_neg (hxG k hk hbk), (ch_pT (ch_out_T ho1 hk hbk)).1, ch_sC_goal n hxG]
        omega) hxa
    rw [← hti.1, ← hti.2]
    have hop : ∀ k, k < n → bt x1 k = true → (ch_t n W k : Int) * md_N n W (fun s => bt x2 s) (fun s => if bt G s = true then (1 : Int) else 0) k - ch_sI x1 (fun l => (ch_p n W k l : Int) * md_N n W (fun s => bt x2 s) (fun s => if bt G s = true then (1 : Int) else 0) l) n = md_D n W (fun s => bt x2 s) (fun s => if bt G s = true then (1 : Int) else 0) * ((ch_sm ((1 : Int32) <<< (nI b &&& 31)) (ch_p n W k) n : Nat) : Int) := fun k hk hbk => by
      have hkb := (hx1 k hk).mp hbk
      have hT := ch_pT (ch_out_T ho1 hk hbk)
      rw [ch_sm_one (by omega) _ n (by omega), if_pos hb]
      by_cases hg : bt G k = true
      · rw [n1 k hk hg]
        have e1 : ch_sI x1 (fun l => (ch_p n W k l : Int) * md_N n W (fun s => bt x2 s) (fun s => if bt G s = true then (1 : Int) else 0) l) n = md_D n W (fun s => bt x2 s) (fun s => if bt G s = true then (1 : Int) else 0) * ch_sI x1 (fun l => (ch_p n W k l : Int)) n := by
          rw [← ch_sI_mul]
          refine ch_sI_congr n (fun l hl hbl => ?_)
          by_cases hgl : bt G l = true
          · rw [n1 l hl hgl, Int.mul_comm]
          · have hp : ch_p n W k l = 0 := by
              refine Nat.eq_zero_of_not_pos (fun z => hgl ((hS l hl).mpr ?_))
              exact ch_R_right ((hS k hk).mp hg) (fun q => q) ⟨hk, hl, z⟩
            rw [hp]; simp
        have e2 := mm_T_nat (ch_p n W k) n
        rw [ch_al_p hk, ch_split x1, hC1 (fun l => (ch_p n W k l : Int)) (fun l hl hr => by
          have hp : ch_p n W k l = 0 := by
            refine Nat.eq_zero_of_not_pos (fun z => hr (hcl l hl ?_))
            exact ch_R_right ((hS k hk).mp hg) (fun q => q) ⟨hk, hl, z⟩
          rw [hp]; rfl)] at e2
        rw [e1, ← e2]
        grind
      · have hx2k : bt x2 k = true := (hx2 k hk).mpr ⟨hg, hkb.2⟩
        have hl := md_laidN (W := W) (x := x2) (v := fun s => if bt G s = true then (1 : Int) else 0) h7 hk hx2k
        try dsimp only at hl
        rw [if_neg hg, Int.mul_zero, ch_split x1, hC1 _ (fun l hl hr => by rw [n0 l hl hr, Int.mul_zero]), n1 b hb hGb] at hl
        rw [hT.1, hT.2]
        rw [Int.mul_comm (md_D n W (fun s => bt x2 s) (fun s => if bt G s = true then (1 : Int) else 0))]
        omega
    have ht2 := sl_tie (x := x1) (a := a) (g := fun i => ((ch_sm ((1 : Int32) <<< (nI b &&& 31)) (ch_p n W i) n : Nat) : Int)) h7 _ (md_N n W (fun s => bt x2 s) (fun s => if bt G s = true then (1 : Int) else 0) a) _ hop (hop a ha hxa)
    have hq := (sl_el hW ha ho1 hgb).2.1 (sl_L x1 n + 1) (Nat.le_refl _)
    refine rd_eq ?_ (by omega) (by omega)
    rw [ht2, Int.mul_comm]
  · have hN := md_fixN (W := W) (x := x1) (v := fun s => if bt ((1 : Int32) <<< (nI b &&& 31)) s = true then (1 : Int) else 0) h7 ha hxa
    try dsimp only at hN
    by_cases hab : a = b
    · rw [if_pos ((hone a ha).mpr hab), Int.mul_one] at hN
      have hN2 := n1 a ha (by rw [hab]; exact hGb)
      refine rd_eq ?_ (by omega) (by omega)
      rw [hN, hN2, Int.mul_comm]
    · rw [if_neg (fun z => hab ((hone a ha).mp z)), Int.mul_zero] at hN
      have hN2 := n0 a ha (fun z => hxa ((hx1 a ha).mpr ⟨hab, z⟩))
      refine rd_eq ?_ (by omega) (by omega)
      rw [hN, hN2]; omega
end
