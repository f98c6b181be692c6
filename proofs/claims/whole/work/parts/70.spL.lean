/-! SPL: sets of both sides are the same ints -/
section
variable {n : Nat} {W : Nat → Nat → Nat} {cnt : Int32} {w : Nat → Nat → Int32} {tot : Nat → Int32} {sts : Int32} {wgt : Nat → Int32}
theorem bS0 (i : Nat) : bS 0 i ↔ False := by unfold bS; rw [b_0]; simp
theorem met_eq (hC : repC n W cnt w tot) (hM : repM n W sts wgt) {a : Nat} (ha : a < n) (P : Int32) : ∃ x, f_Ways_metFrom cnt w tot (nI a) P = some x ∧ f_M_reach sts wgt ((1 : Int32) <<< (nI a &&& 31)) P = some x ∧ isS x n (fun j => ch_R (ch_E n W) (bS P) a j) := by
  have h7 := hC.1.1
  obtain ⟨x, e1, h1⟩ := s_metFrom hC ha P
  obtain ⟨y, e2, h2⟩ := s_Mreach hM ((1 : Int32) <<< (nI a &&& 31)) P (one_lt h7 ha)
  have e : y = x := isS_eq h2 h1 (fun j hj => by
    constructor
    · rintro ⟨i, q1, q2⟩
      have hi : i < 32 := by
        rcases Nat.lt_or_ge i 32 with q | q
        · exact q
        · rw [b_big q] at q1; cases q1
      rw [b_one a (by omega) hi, decide_eq_true_eq] at q1
      subst q1
      exact R_mE.mpr q2
    · intro q
      exact ⟨a, by rw [b_one a (by omega) (by omega)]; simp, R_mE.mp q⟩)
  exact ⟨x, e1, by rw [e2, e], h1⟩
theorem lead_eq (hC : repC n W cnt w tot) (hM : repM n W sts wgt) (G : Int32) (hG : ∀ i, i < 32 → bt G i = true → i < n) : ∃ x, f_Ways_leadingTo cnt w tot G 0 = some x ∧ f_M_whence sts wgt G G = some x ∧ f_M_whence sts wgt G 0 = some x ∧ isS x n (fun i => ∃ g, bt G g = true ∧ ch_R (ch_E n W) (fun _ => False) i g) := by
  have h7 := hC.1.1
  obtain ⟨x, e1, h1⟩ := s_leadingTo hC G hG 0
  obtain ⟨y, e2, h2⟩ := s_Mwhence hM G G hG
  obtain ⟨z, e3, h3⟩ := s_Mwhence hM G 0 hG
  have ha : y = x := isS_eq h2 h1 (fun i hi => by
    constructor
    · rintro ⟨g, q1, q2⟩
      exact ⟨g, q1, ch_R_weak (fun j hj => ((bS0 j).mp hj).elim) (R_mE.mpr q2)⟩
    · rintro ⟨g, q1, q2⟩
      obtain ⟨g', q3, q4⟩ := ch_R_hit (G := bS G) q1 q2
      exact ⟨g', q3, R_mE.mp (ch_R_weak (fun j hj => Or.inr hj) q4)⟩)
  have hb : z = x := isS_eq h3 h1 (fun i hi => by
    constructor
    · rintro ⟨g, q1, q2⟩
      exact ⟨g, q1, R_mE.mpr q2⟩
    · rintro ⟨g, q1, q2⟩
      exact ⟨g, q1, R_mE.mp q2⟩)
  refine ⟨x, e1, by rw [e2, ha], by rw [e3, hb], isS_congr h1 (fun i hi => ?_)⟩
  constructor
  · rintro ⟨g, q1, q2⟩
    exact ⟨g, q1, ch_R_weak (fun _ z => z.elim) q2⟩
  · rintro ⟨g, q1, q2⟩
    exact ⟨g, q1, ch_R_weak (fun j hj => ((bS0 j).mp hj).elim) q2⟩
theorem sure_eq (hC : repC n W cnt w tot) (hM : repM n W sts wgt) {a : Nat} (ha : a < n) (P : Int32) (hP : ∀ i, i < 32 → bt P i = true → i < n) : (f_Ways_isSureToMeet cnt w tot (nI a) P = some 0 ∧ f_M_isSure sts wgt (nI a) P = some 0) ∨ (f_Ways_isSureToMeet cnt w tot (nI a) P = some 1 ∧ f_M_isSure sts wgt (nI a) P = some 1 ∧ ∀ k, k < n → ch_R (ch_E n W) (bS P) a k → ∃ g, bt P g = true ∧ ch_R (ch_E n W) (fun _ => False) k g) := by
  have h7 := hC.1.1
  obtain ⟨x, e1, e2, h1⟩ := met_eq hC hM ha P
  obtain ⟨y, e3, e4, e5, h2⟩ := lead_eq hC hM P hP
  have hnil := isS_nil h7 (isS_diff h1 h2)
  unfold f_Ways_isSureToMeet f_M_isSure
  rw [e1, e2, e3, e4]
  simp only [Option.bind_some]
  by_cases h0 : (x &&& (y ^^^ (-1))) = 0
  · rw [if_pos h0]
    refine Or.inr ⟨rfl, rfl, fun k hk hr => ?_⟩
    have := hnil.mp h0 k hk
    exact Classical.byContradiction (fun z => this ⟨hr, z⟩)
  · rw [if_neg h0]
    exact Or.inl ⟨rfl, rfl⟩
theorem one_iff {n a : Nat} (hn : n ≤ 7) (ha : a < n) (Q : Nat → Prop) : (∃ g, bt ((1 : Int32) <<< (nI a &&& 31)) g = true ∧ Q g) ↔ Q a := by
  constructor
  · rintro ⟨g, q1, q2⟩
    have hi : g < 32 := by
      rcases Nat.lt_or_ge g 32 with q | q
      · exact q
      · rw [b_big q] at q1; cases q1
    rw [b_one a (by omega) hi, decide_eq_true_eq] at q1
    subst q1
    exact q2
  · intro q
    exact ⟨a, by rw [b_one a (by omega) (by omega)]; simp, q⟩
theorem closed_eq (hC : repC n W cnt w tot) (hM : repM n W sts wgt) {b : Nat} (hb : b < n) : (f_Ways_isClosedAt cnt w tot (nI b) = some 0 ∧ f_M_isClosed sts wgt (nI b) = some 0 ∧ ∃ k, k < n ∧ ch_R (ch_E n W) (fun _ => False) b k ∧ ¬ ch_R (ch_E n W) (fun _ => False) k b) ∨ (f_Ways_isClosedAt cnt w tot (nI b) = some 1 ∧ f_M_isClosed sts wgt (nI b) = some 1 ∧ ∀ k, k < n → ch_R (ch_E n W) (fun _ => False) b k → ch_R (ch_E n W) (fun _ => False) k b) := by
  have h7 := hC.1.1
  obtain ⟨x, e1, e2, h1⟩ := met_eq hC hM hb 0
  obtain ⟨y, e3, e4, e5, h2⟩ := lead_eq hC hM ((1 : Int32) <<< (nI b &&& 31)) (one_lt h7 hb)
  have h1 : isS x n (fun j => ch_R (ch_E n W) (fun _ => False) b j) := isS_congr h1 (fun j _ => ⟨fun q => ch_R_weak (fun _ z => z.elim) q, fun q => ch_R_weak (fun i z => ((bS0 i).mp z).elim) q⟩)
  have h2 : isS y n (fun i => ch_R (ch_E n W) (fun _ => False) i b) := isS_congr h2 (fun i _ => one_iff h7 hb _)
  have hnil := isS_nil h7 (isS_diff h1 h2)
  have hnil2 := isS_nil h7 (isS_diff h1 (isS_and h1 h2))
  have hiff : (x &&& (y ^^^ (-1))) = 0 ↔ (x &&& ((x &&& y) ^^^ (-1))) = 0 := by
    rw [hnil, hnil2]
    exact ⟨fun h i hi q => h i hi ⟨q.1, fun z => q.2 ⟨q.1, z⟩⟩, fun h i hi q => h i hi ⟨q.1, fun z => q.2 z.2⟩⟩
  unfold f_Ways_isClosedAt f_M_isClosed f_M_partOf
  rw [e1, e2, e3, e5]
  simp only [Option.bind_some]
  by_cases h0 : (x &&& (y ^^^ (-1))) = 0
  · rw [if_pos h0, if_pos (hiff.mp h0)]
    refine Or.inr ⟨rfl, rfl, fun k hk hr => ?_⟩
    exact Classical.byContradiction (fun z => hnil.mp h0 k hk ⟨hr, z⟩)
  · rw [if_neg h0, if_neg (fun z => h0 (hiff.mpr z))]
    refine Or.inl ⟨rfl, rfl, ?_⟩
    refine Classical.byContradiction (fun hno => h0 (hnil.mpr (fun i hi q => hno ⟨i, hi, q.1, q.2⟩)))
/-! the argument of steps: a set of states -/
theorem st_all : ∀ n, n ≤ 7 → ∀ j, j < 2 ^ n → nI j &&& (nI (2 ^ n - 1) ^^^ (-1)) = 0 := by decide +kernel
theorem st_bits : ∀ n, n ≤ 7 → ∀ i, i < 32 → bt (nI (2 ^ n - 1)) i = decide (i < n) := by decide +kernel
theorem st_sh : ∀ n, n ≤ 7 → (1 : Int32) <<< (nI n &&& 31) = nI (2 ^ n) := by decide +kernel
theorem st_tn : ∀ n, n ≤ 7 → (nI (2 ^ n - 1)).toBitVec.toNat = 2 ^ n - 1 := by decide +kernel
theorem st_iff {n : Nat} (hn : n ≤ 7) (P : Int32) : ((P &&& (nI (2 ^ n - 1) ^^^ (-1))) = 0 ∧ ¬ P < 0 ∧ P < nI (2 ^ n) ∧ ∀ i, i < 32 → bt P i = true → i < n) ∨ (¬ (P &&& (nI (2 ^ n - 1) ^^^ (-1))) = 0 ∧ (P < 0 ∨ ¬ P < nI (2 ^ n))) := by
  have hp := dp_p7 n hn
  have hpos : 0 < 2 ^ n := Nat.two_pow_pos n
  by_cases h : (P &&& (nI (2 ^ n - 1) ^^^ (-1))) = 0
  · left
    have hb : ∀ i, i < 32 → bt P i = true → i < n := fun i hi hb => by
      have : bt (P &&& (nI (2 ^ n - 1) ^^^ (-1))) i = false := by rw [h, b_0]
      rw [b_and, b_not _ hi, st_bits n hn i hi, hb] at this
      simp at this
      exact this
    have e : P = P &&& nI (2 ^ n - 1) := by
      apply b_ext
      intro i hi
      rw [b_and, st_bits n hn i hi]
      cases hh : bt P i
      · rfl
      · have := hb i hi hh
        simp [this]
    rw [pk_and P n (st_tn n hn)] at e
    have hlt := Nat.mod_lt P.toBitVec.toNat hpos
    refine ⟨h, ?_, ?_, hb⟩
    · rw [e]; exact nI_pos (by omega)
    · rw [e]; exact nI_lt hlt (by omega)
  · right
    refine ⟨h, ?_⟩
    by_cases h0 : P < 0
    · exact Or.inl h0
    · right
      obtain ⟨j, hj, rfl⟩ := nI_of h0
      intro hlt
      exact h (st_all n hn j ((nI_ltI hj (by omega)).mp hlt))
end
