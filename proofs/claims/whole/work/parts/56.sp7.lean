/-! SP7: the class's rows: writeRow, solve -/
def sl_B (n : Nat) (W : Nat → Nat → Nat) (st : Nat → Nat) (L : Nat) (g : Nat → Int) (r c : Nat) : Int := if c = L + 1 then g (st r) else (if c < L then -(ch_p n W (st r) (st c) : Int) else 0) + (if c = r then (ch_t n W (st r) : Int) else 0)
def sl_A (n : Nat) (W : Nat → Nat → Nat) (st : Nat → Nat) (L : Nat) (g : Nat → Int) (r c : Nat) : Int := if c = 100 then mm_T (sl_B n W st L g r) 0 (L + 1) else sl_B n W st L g r c
theorem nI_negL (k : Nat) (h : k < 2147483648) : (-(nI k)).toInt64 = lI (-(k : Int)) := by
  have e : -(nI k) = Int32.ofInt (-(k : Int)) := by rw [Int32.ofInt_neg]; rfl
  rw [e, ← Int64.ofInt_int32ToInt, Int32.toInt_ofInt_of_le (by omega) (by omega)]
  rfl
section
variable {n : Nat} {W : Nat → Nat → Nat} {cnt : Int32} {w : Nat → Nat → Int32} {tot : Nat → Int32}
theorem ch_p_le (h : okW n W) (i j : Nat) : ch_p n W i j ≤ 9 := by
  unfold ch_p
  have := h.2.1 i j
  split
  · split <;> omega
  · omega
theorem ch_t_le (h : okW n W) (i : Nat) : ch_t n W i ≤ 12 := by
  unfold ch_t
  have := h.2.2.1 i
  split <;> omega
theorem ch_t_pos (n : Nat) (W : Nat → Nat → Nat) (i : Nat) : 0 < ch_t n W i := by
  unfold ch_t
  split <;> omega
theorem s_writeRow (h : repC n W cnt w tot) {gns : Nat → Int64} {g : Nat → Int} (hg : ∀ i, i < n → gns i = lI (g i)) {rst : Nat → Int32} {st : Nat → Nat} {L : Nat} (hL : L ≤ 7) (hst : ∀ k, k ≤ L → rst k = nI (st k) ∧ st k < n) (rws : Nat → Nat → Int64) {r0 : Nat} (hr : r0 ≤ L) :
    ∃ rws', f_FirstSteps_writeRow w tot gns rst rws (nI L) (nI r0) = some rws' ∧ (∀ r c, r ≠ r0 → rws' r c = rws r c) ∧ ∀ c, c ≤ L + 1 → rws' r0 c = lI (sl_A n W st L g r0 c) := by
  have h7 := h.1.1
  have hpul := fun i j (hi : i < 7) (hj : j < 7) => s_pull h hi hj
  have hall := fun i (hi : i < 7) => s_pullOfAll h hi
  have hpl := ch_p_le h.1
  have htl := ch_t_le h.1
  unfold f_FirstSteps_writeRow
  have hr0 := hst r0 hr
  rw [if_pos (ix_nI (by omega) (by omega)), nI_clamp (by omega), nI_clamp (show L < 2 ^ 31 by omega), hr0.1]
  unfold f_FirstSteps_writeRow_L9
  obtain ⟨t, e, hQ⟩ := lp_run0 (fun s => f_FirstSteps_writeRow_B9 w tot rst (nI L) (nI r0) (nI (st r0)) s.1 s.2)
    (fun k s => s.1 = nI k ∧ (∀ r c, r ≠ r0 → s.2 r c = rws r c) ∧ (∀ c, c < k → s.2 r0 c = lI (-(ch_p n W (st r0) (st c) : Int))))
    (fun t => (∀ r c, r ≠ r0 → t.2 r c = rws r c) ∧ (∀ c, c < L → t.2 r0 c = lI (-(ch_p n W (st r0) (st c) : Int)))) L 300 (0, rws) (by omega)
    ⟨rfl, fun _ _ _ => rfl, fun c a => by omega⟩
    (fun k s hk hs => by
      obtain ⟨s1, s2⟩ := s
      obtain ⟨e1, e2, e3⟩ := hs
      dsimp only at e1 e2 e3
      subst e1
      have hk2 := hst k (by omega)
      simp only [f_FirstSteps_writeRow_B9]
      rw [if_neg (nI_ge hk (by omega)), if_pos (ix_nI (by omega) (by omega)), if_pos (ix_nI (by omega) (by omega)), nI_clamp (by omega), nI_clamp (by omega), hk2.1, hpul _ _ (by omega) (by omega), Option.bind_some, if_pos (ix_nI (by omega) (by omega)), nI_negL _ (by have := hpl (st r0) (st k); omega)]
      refine ⟨_, rfl, nI_1 k, ?_, ?_⟩
      · intro r c hrr; dsimp only; rw [up_n hrr]; exact e2 r c hrr
      · intro c hc
        dsimp only
        rw [up_s]
        by_cases hck : c = k
        · subst hck; exact pk_uLs
        · rw [pk_uLn hck]; exact e3 c (by omega))
    (fun s hs => by
      obtain ⟨s1, s2⟩ := s
      obtain ⟨e1, e2, e3⟩ := hs
      dsimp only at e1 e2 e3
      subst e1
      simp only [f_FirstSteps_writeRow_B9]
      rw [if_pos (nI_le (Nat.le_refl L) (by omega))]
      exact ⟨_, rfl, e2, e3⟩)
  rw [e]
  obtain ⟨t1, t2⟩ := t
  obtain ⟨q1, q2⟩ := hQ
  dsimp only at q1 q2
  simp only [Option.bind_some]
  rw [hall _ (by omega)]
  simp only [Option.bind_some]
  rw [nI_1, nI_clamp (show L + 1 < 2 ^ 31 by omega), nI_clamp (show st r0 < 2 ^ 31 by omega)]
  iterate 8 rw [if_pos (ix_nI (by omega) (by omega))]
  refine ⟨_, rfl, ?_, ?_⟩
  · intro r c hrr
    rw [up_n hrr, up_n hrr, up_n hrr]; exact q1 r c hrr
  · intro c hc
    rw [up_s]
    simp only [up_s]
    unfold sl_A
    rw [if_neg (by omega)]
    unfold sl_B
    by_cases c1 : c = L + 1
    · rw [c1, pk_uLs, if_pos rfl, hg _ hr0.2]
    · rw [pk_uLn c1, if_neg c1, nI_long _ (by have := htl (st r0); omega)]
      by_cases c2 : c = r0
      · subst c2
        rw [pk_uLs, if_pos rfl]
        by_cases c3 : c = L
        · subst c3
          rw [pk_uLs, if_neg (by omega), lI_0, lI_add]
        · rw [pk_uLn c3, q2 c (by omega), if_pos (by omega), lI_add]
      · rw [pk_uLn c2, if_neg c2, Int.add_zero]
        by_cases c3 : c = L
        · subst c3
          rw [pk_uLs, if_neg (by omega)]; rfl
        · rw [pk_uLn c3, q2 c (by omega), if_pos (by omega)]
/-- the states of x below k, upwards -/
def ch_ol (x : Int32) : Nat → List Nat
  | 0 => []
  | k + 1 => ch_ol x k ++ (if bt x k = true then [k] else [])
theorem ch_ol_len (x : Int32) : ∀ k, (ch_ol x k).length ≤ k := by
  intro k
  induction k with
  | zero => exact Nat.le_refl 0
  | succ k ih => simp only [ch_ol, List.length_append]; split <;> simp <;> omega
theorem ch_ol_mem (x : Int32) : ∀ k i, i ∈ ch_ol x k ↔ i < k ∧ bt x i = true := by
  intro k
  induction k with
  | zero => intro i; simp [ch_ol]
  | succ k ih =>
    intro i
    simp only [ch_ol, List.mem_append, ih]
    by_cases hb : bt x k = true
    · rw [if_pos hb, List.mem_singleton]
      constructor
      · rintro (q | q)
        · exact ⟨by omega, q.2⟩
        · subst q; exact ⟨by omega, hb⟩
      · rintro ⟨q1, q2⟩
        by_cases e : i = k
        · exact Or.inr e
        · exact Or.inl ⟨by omega, q2⟩
    · rw [if_neg hb]
      constructor
      · rintro (q | q)
        · exact ⟨by omega, q.2⟩
        · cases q
      · rintro ⟨q1, q2⟩
        by_cases e : i = k
        · subst e; exact absurd q2 hb
        · exact Or.inl ⟨by omega, q2⟩
def sl_st (x : Int32) (n a : Nat) (k : Nat) : Nat := (ch_ol x n ++ [a]).getD k 0
def sl_L (x : Int32) (n : Nat) : Nat := (ch_ol x n).length
theorem sl_st_lt {x : Int32} {n a : Nat} (ha : a < n) {k : Nat} (hk : k ≤ sl_L x n) : sl_st x n a k < n := by
  unfold sl_st sl_L at *
  rw [List.getD_eq_getElem?_getD]
  have h1 : k < (ch_ol x n ++ [a]).length := by simp; omega
  rw [List.getElem?_eq_getElem h1]
  have h2 := List.getElem_mem h1
  simp only [Option.getD_some]
  rcases List.mem_append.mp h2 with q | q
  · exact ((ch_ol_mem x n _).mp q).1
  · rw [List.mem_singleton.mp q]; exact ha
theorem s_solve (h : repC n W cnt w tot) {gns : Nat → Int64} {g : Nat → Int} (hg : ∀ i, i < n → gns i = lI (g i)) (rst : Nat → Int32) (rws : Nat → Nat → Int64) {a : Nat} (ha : a < n) (x : Int32) (hel : el_ok (sl_A n W (sl_st x n a) (sl_L x n) g) (sl_L x n)) :
    ∃ rst' rws', f_FirstSteps_solveA cnt w tot gns rst rws (nI a) x = some (rst', rws', nI (sl_L x n), lI (rdU (mm_M (sl_A n W (sl_st x n a) (sl_L x n) g) (sl_L x n) (sl_L x n) (sl_L x n + 1)) (mm_q (sl_A n W (sl_st x n a) (sl_L x n) g) (sl_L x n + 1))), lI (rdL (mm_M (sl_A n W (sl_st x n a) (sl_L x n) g) (sl_L x n) (sl_L x n) (sl_L x n + 1)) (mm_q (sl_A n W (sl_st x n a) (sl_L x n) g) (sl_L x n + 1)))) := by
  have h7 := h.1.1
  have hwr := fun rst (hs : ∀ k, k ≤ sl_L x n → rst k = nI (sl_st x n a k) ∧ sl_st x n a k < n) rws r0 hr => s_writeRow h hg (rst := rst) (st := sl_st x n a) (L := sl_L x n) (by have := ch_ol_len x n; unfold sl_L; omega) hs rws (r0 := r0) hr
  obtain ⟨⟨-, h9, h12, hz⟩, hc, hw, ht⟩ := h
  have hLn : sl_L x n ≤ n := ch_ol_len x n
  unfold f_FirstSteps_solveA
  have hL8 : ∃ t, f_FirstSteps_solveA_L8 cnt x 300 (0 : Int32) rst (0 : Int32) = some t ∧ t.2.2 = nI (sl_L x n) ∧ ∀ j, j < sl_L x n → t.2.1 j = nI ((ch_ol x n).getD j 0) := by
    unfold f_FirstSteps_solveA_L8
    refine lp_run0 (fun s => f_FirstSteps_solveA_B8 cnt x s.1 s.2.1 s.2.2) (fun k s => s.1 = nI k ∧ s.2.2 = nI (ch_ol x k).length ∧ ∀ j, j < (ch_ol x k).length → s.2.1 j = nI ((ch_ol x k).getD j 0)) _ n 300 (0, rst, 0) (by omega) ⟨rfl, rfl, fun j hj => by cases hj⟩
      (fun k s hk hs => by
        obtain ⟨s1, s2, s3⟩ := s
        obtain ⟨e1, e2, e3⟩ := hs
        dsimp only at e1 e2 e3
        subst e1; subst e2
        have hlen := ch_ol_len x k
        simp only [f_FirstSteps_solveA_B8, hc]
        rw [if_neg (nI_ge hk (by omega)), s_holds x (by omega), Option.bind_some]
        by_cases hb : bt x k = true
        · rw [if_pos hb, if_neg (by decide), if_pos (ix_nI (by omega) (by omega)), nI_clamp (by omega)]
          refine ⟨_, rfl, nI_1 k, ?_, ?_⟩
          · simp only [ch_ol, if_pos hb, List.length_append, List.length_singleton]; exact nI_1 _
          · intro j hj
            simp only [ch_ol, if_pos hb, List.length_append, List.length_singleton] at hj ⊢
            by_cases hjl : j = (ch_ol x k).length
            · subst hjl
              rw [pk_us]; simp [List.getD_eq_getElem?_getD]
            · rw [pk_un hjl, e3 j (by omega)]
              rw [List.getD_eq_getElem?_getD, List.getD_eq_getElem?_getD, List.getElem?_append_left (by omega)]
        · rw [if_neg hb, if_pos rfl]
          refine ⟨_, rfl, nI_1 k, ?_, ?_⟩
          · simp only [ch_ol, if_neg hb, List.append_nil]
          · intro j hj
            simp only [ch_ol, if_neg hb, List.append_nil] at hj ⊢
            exact e3 j hj)
      (fun s hs => by
        obtain ⟨s1, s2, s3⟩ := s
        obtain ⟨e1, e2, e3⟩ := hs
        dsimp only at e1 e2 e3
        subst e1
        simp only [f_FirstSteps_solveA_B8, hc]
        rw [if_pos (nI_le (Nat.le_refl n) (by omega))]
        exact ⟨_, rfl, e2, e3⟩)
  obtain ⟨⟨t1, t2, t3⟩, e, hq1, hq2⟩ := hL8
  dsimp only at hq1 hq2
  rw [e]
  simp only [Option.bind_some]
  rw [hq1, if_pos (ix_nI (by omega) (by omega)), nI_clamp (by omega)]
  have hst : ∀ k, k ≤ sl_L x n → upd t2 (sl_L x n) (nI a) k = nI (sl_st x n a k) ∧ sl_st x n a k < n := fun k hk => by
    refine ⟨?_, sl_st_lt ha hk⟩
    unfold sl_st
    by_cases hkl : k = sl_L x n
    · subst hkl
      rw [pk_us]; simp [sl_L, List.getD_eq_getElem?_getD]
    · rw [pk_un hkl, hq2 k (by omega), List.getD_eq_getElem?_getD, List.getD_eq_getElem?_getD, List.getElem?_append_left (by unfold sl_L at *; omega)]
  have hL69 : ∃ t, f_FirstSteps_solveA_L69 w tot gns (upd t2 (sl_L x n) (nI a)) (nI (sl_L x n)) 300 (0 : Int32) rws = some t ∧ ∀ r c, r ≤ sl_L x n → c ≤ sl_L x n + 1 → t.2 r c = lI (sl_A n W (sl_st x n a) (sl_L x n) g r c) := by
    unfold f_FirstSteps_solveA_L69
    refine lp_run0 (fun s => f_FirstSteps_solveA_B69 w tot gns (upd t2 (sl_L x n) (nI a)) (nI (sl_L x n)) s.1 s.2) (fun k s => s.1 = nI k ∧ ∀ r c, r < k → c ≤ sl_L x n + 1 → s.2 r c = lI (sl_A n W (sl_st x n a) (sl_L x n) g r c)) _ (sl_L x n + 1) 300 (0, rws) (by omega) ⟨rfl, fun r c hr => by omega⟩
      (fun k s hk hs => by
        obtain ⟨s1, s2⟩ := s
        obtain ⟨e1, e2⟩ := hs
        dsimp only at e1 e2
        subst e1
        simp only [f_FirstSteps_solveA_B69]
        rw [if_neg (nI_nlt (by omega) (by omega))]
        obtain ⟨rws', e, g1, g2⟩ := hwr (upd t2 (sl_L x n) (nI a)) hst s2 k (by omega)
        rw [e]
        refine ⟨_, rfl, nI_1 k, fun r c hr hcc => ?_⟩
        dsimp only
        by_cases hrk : r = k
        · subst hrk; exact g2 c hcc
        · rw [g1 r c hrk]; exact e2 r c (by omega) hcc)
      (fun s hs => by
        obtain ⟨s1, s2⟩ := s
        obtain ⟨e1, e2⟩ := hs
        dsimp only at e1 e2
        subst e1
        simp only [f_FirstSteps_solveA_B69]
        rw [if_pos (nI_lt (by omega) (by omega))]
        exact ⟨_, rfl, fun r c hr hcc => e2 r c (by omega) hcc⟩)
  obtain ⟨⟨v1, v2⟩, e69, hv⟩ := hL69
  dsimp only at hv
  rw [e69]
  simp only [Option.bind_some]
  obtain ⟨rws', e4, hr4⟩ := s_eliminate hel v2 hv
  rw [e4]
  simp only [Option.bind_some]
  rw [nI_1, nI_clamp (by omega)]
  iterate 4 rw [if_pos (ix_nI (by omega) (by omega))]
  rw [hr4 _ (by omega) (Nat.le_refl _), hr4 _ (Nat.le_refl _) (by omega)]
  have hM1 := hel.2.2 (sl_L x n) (sl_L x n) (sl_L x n + 1) (Nat.le_refl _) (Nat.le_refl _) (Nat.le_refl _) (by omega) (Nat.le_refl _)
  have hM2 := hel.2.2 (sl_L x n) (sl_L x n) (sl_L x n) (Nat.le_refl _) (Nat.le_refl _) (Nat.le_refl _) (Nat.le_refl _) (by omega)
  have hq := hel.2.1 (sl_L x n + 1) (Nat.le_refl _)
  have hne : mm_M (sl_A n W (sl_st x n a) (sl_L x n) g) (sl_L x n) (sl_L x n) (sl_L x n) ≠ 0 := by
    have h9 := hq.1
    rw [mm_q_s] at h9
    omega
  rw [s_put hM1.1 hM2.1 hne]
  exact ⟨_, _, rfl⟩
end
