/-! SPV: period -/
theorem ph : ∀ (n : Nat) (f : Nat → Nat), (∀ m, m ≤ n → f m < n) → ∃ p q, p < q ∧ q ≤ n ∧ f p = f q := by
  intro n
  induction n with
  | zero => intro f h; have := h 0 (Nat.le_refl 0); omega
  | succ n ih =>
    intro f h
    by_cases he : ∃ m, m ≤ n ∧ f m = f (n + 1)
    · obtain ⟨m, h1, h2⟩ := he
      exact ⟨m, n + 1, by omega, Nat.le_refl _, h2⟩
    · have hne : ∀ m, m ≤ n → f m ≠ f (n + 1) := fun m hm e => he ⟨m, hm, e⟩
      obtain ⟨p, q, h1, h2, h3⟩ := ih (fun m => if f (n + 1) < f m then f m - 1 else f m) (fun m hm => by
        have a1 := h m (by omega)
        have a2 := h (n + 1) (Nat.le_refl _)
        have a3 := hne m hm
        (try dsimp only)
        split <;> omega)
      refine ⟨p, q, h1, by omega, ?_⟩
      have b1 := hne p (by omega)
      have b2 := hne q (by omega)
      (try dsimp only at h3)
      by_cases c1 : f (n + 1) < f p
      · by_cases c2 : f (n + 1) < f q
        · rw [if_pos c1, if_pos c2] at h3; omega
        · rw [if_pos c1, if_neg c2] at h3; omega
      · by_cases c2 : f (n + 1) < f q
        · rw [if_neg c1, if_pos c2] at h3; omega
        · rw [if_neg c1, if_neg c2] at h3; exact h3
def noS : Nat → Prop := fun _ => False
theorem rc_fun {E : Nat → Nat → Prop} : ∀ (k i j : Nat), ch_rc E noS k i j → ∃ f : Nat → Nat, f 0 = i ∧ f k = j ∧ ∀ m, m < k → E (f m) (f (m + 1)) := by
  intro k
  induction k with
  | zero => intro i j h; exact ⟨fun _ => i, rfl, h, fun m hm => by omega⟩
  | succ k ih =>
    intro i j h
    obtain ⟨m, -, h2, h3⟩ := h
    obtain ⟨f, f1, f2, f3⟩ := ih m j h3
    refine ⟨fun q => if q = 0 then i else f (q - 1), rfl, ?_, fun q hq => ?_⟩
    · show (if k + 1 = 0 then i else f (k + 1 - 1)) = j
      rw [if_neg (by omega)]; exact f2
    · show E (if q = 0 then i else f (q - 1)) (if q + 1 = 0 then i else f (q + 1 - 1))
      rw [if_neg (by omega : ¬ q + 1 = 0), Nat.add_sub_cancel]
      by_cases e : q = 0
      · subst e; rw [if_pos rfl, f1]; exact h2
      · rw [if_neg e]
        have := f3 (q - 1) (by omega)
        rw [show q - 1 + 1 = q by omega] at this
        exact this
theorem rc_seg {E : Nat → Nat → Prop} {f : Nat → Nat} {k : Nat} (h : ∀ m, m < k → E (f m) (f (m + 1))) : ∀ (c p : Nat), p + c ≤ k → ch_rc E noS c (f p) (f (p + c)) := by
  intro c
  induction c with
  | zero => intro p _; rfl
  | succ c ih =>
    intro p hp
    refine ⟨f (p + 1), fun z => z, h p (by omega), ?_⟩
    have := ih (p + 1) (by omega)
    rw [show p + 1 + c = p + (c + 1) by omega] at this
    exact this
theorem rc_app {E : Nat → Nat → Prop} : ∀ (a b i m j : Nat), ch_rc E noS a i m → ch_rc E noS b m j → ch_rc E noS (a + b) i j := by
  intro a
  induction a with
  | zero => intro b i m j h1 h2; rw [Nat.zero_add, (show i = m from h1)]; exact h2
  | succ a ih =>
    intro b i m j h1 h2
    obtain ⟨q, -, q2, q3⟩ := h1
    rw [show a + 1 + b = (a + b) + 1 by omega]
    exact ⟨q, fun z => z, q2, ih b q m j q3 h2⟩
theorem rc_snoc {E : Nat → Nat → Prop} (k i j : Nat) : ch_rc E noS (k + 1) i j ↔ ∃ m, ch_rc E noS k i m ∧ E m j := by
  constructor
  · intro h
    obtain ⟨f, f1, f2, f3⟩ := rc_fun (k + 1) i j h
    refine ⟨f k, ?_, ?_⟩
    · have := rc_seg f3 k 0 (by omega)
      rw [Nat.zero_add, f1] at this
      exact this
    · have := f3 k (by omega)
      rw [f2] at this
      exact this
  · rintro ⟨m, h1, h2⟩
    exact rc_app k 1 i m j h1 ⟨j, fun z => z, h2, rfl⟩
theorem rc_loop {E : Nat → Nat → Prop} {n : Nat} (hE : ∀ x y, E x y → y < n) {k i j : Nat} (hi : i < n) (hk : n ≤ k) (h : ch_rc E noS k i j) : ∃ u c v s, 1 ≤ c ∧ u + c ≤ n ∧ u + c + v = k ∧ ch_rc E noS u i s ∧ ch_rc E noS c s s ∧ ch_rc E noS v s j := by
  obtain ⟨f, f1, f2, f3⟩ := rc_fun k i j h
  have hf : ∀ m, m ≤ n → f m < n := fun m hm => by
    cases m with
    | zero => rw [f1]; exact hi
    | succ m => exact hE _ _ (f3 m (by omega))
  obtain ⟨p, q, h1, h2, h3⟩ := ph n f hf
  refine ⟨p, q - p, k - q, f p, by omega, by omega, by omega, ?_, ?_, ?_⟩
  · have := rc_seg f3 p 0 (by omega)
    rw [Nat.zero_add, f1] at this
    exact this
  · have := rc_seg f3 (q - p) p (by omega)
    rw [show p + (q - p) = q by omega, ← h3] at this
    exact this
  · have := rc_seg f3 (k - q) q (by omega)
    rw [show q + (k - q) = k by omega, f2, ← h3] at this
    exact this
theorem rc_short {E : Nat → Nat → Prop} {n : Nat} (hE : ∀ x y, E x y → y < n) : ∀ (k i j : Nat), i < n → ch_rc E noS k i j → ∃ k', k' ≤ n ∧ ch_rc E noS k' i j := by
  intro k
  induction k using Nat.strongRecOn with
  | ind k ih =>
    intro i j hi h
    rcases Nat.lt_or_ge k n with q | q
    · exact ⟨k, by omega, h⟩
    · obtain ⟨u, c, v, s, h1, h2, h3, h4, h5, h6⟩ := rc_loop hE hi q h
      exact ih (u + v) (by omega) i j hi (rc_app u v i s j h4 h6)
noncomputable def pg (P : Nat → Prop) : Nat → Nat
  | 0 => 0
  | k + 1 => if _ : (Classical.propDecidable (P (k + 1))).decide = true then Nat.gcd (pg P k) (k + 1) else pg P k
theorem pg_y {P : Nat → Prop} {k : Nat} (h : P (k + 1)) : pg P (k + 1) = Nat.gcd (pg P k) (k + 1) := by
  simp only [pg]
  rw [dif_pos (by simp [h])]
theorem pg_n {P : Nat → Prop} {k : Nat} (h : ¬ P (k + 1)) : pg P (k + 1) = pg P k := by
  simp only [pg]
  rw [dif_neg (by simp [h])]
theorem pg_dvd (P : Nat → Prop) : ∀ m k, k ≤ m → 1 ≤ k → P k → pg P m ∣ k := by
  intro m
  induction m with
  | zero => intro k h1 h2; omega
  | succ m ih =>
    intro k h1 h2 h3
    by_cases hp : P (m + 1)
    · rw [pg_y hp]
      by_cases e : k = m + 1
      · subst e; exact Nat.gcd_dvd_right _ _
      · exact Nat.dvd_trans (Nat.gcd_dvd_left _ _) (ih k (by omega) h2 h3)
    · rw [pg_n hp]
      have : k ≠ m + 1 := fun e => hp (by rw [← e]; exact h3)
      exact ih k (by omega) h2 h3
theorem pg_more (P : Nat → Prop) (m : Nat) (h : ∀ k, 1 ≤ k → P k → pg P m ∣ k) : ∀ d, pg P (m + d) = pg P m := by
  intro d
  induction d with
  | zero => rfl
  | succ d ih =>
    show pg P ((m + d) + 1) = _
    by_cases hp : P (m + d + 1)
    · rw [pg_y hp, ih]
      exact Nat.gcd_eq_left (h _ (by omega) hp)
    · rw [pg_n hp, ih]
theorem pg_all {E : Nat → Nat → Prop} {n a : Nat} (hE : ∀ x y, E x y → y < n) (ha : a < n) : ∀ k, 1 ≤ k → ch_rc E noS k a a → pg (fun k => ch_rc E noS k a a) (3 * n) ∣ k := by
  intro k
  induction k using Nat.strongRecOn with
  | ind k ih =>
    intro hk h
    rcases Nat.lt_or_ge (3 * n) k with q | q
    · obtain ⟨u, c, v, s, h1, h2, h3, h4, h5, h6⟩ := rc_loop hE ha (by omega) h
      have hsn : s < n := by
        cases u with
        | zero => rw [← (show a = s from h4)]; exact ha
        | succ u =>
          obtain ⟨m, -, hm⟩ := (rc_snoc u a s).mp h4
          exact hE _ _ hm
      obtain ⟨b, hb1, hb2⟩ := rc_short hE v s a hsn h6
      have g0 : ∀ m, m ≤ 3 * n → (m = 0 ∨ ch_rc E noS m a a) → pg (fun k => ch_rc E noS k a a) (3 * n) ∣ m := fun m hm hz => by
        rcases hz with z | z
        · rw [z]; exact Nat.dvd_zero _
        · by_cases e : m = 0
          · rw [e]; exact Nat.dvd_zero _
          · exact pg_dvd _ (3 * n) m hm (by omega) z
      have k1 := g0 (u + b) (by omega) (Or.inr (rc_app u b a s a h4 hb2))
      have k2 := g0 (u + (c + b)) (by omega) (Or.inr (rc_app u (c + b) a s a h4 (rc_app c b s s a h5 hb2)))
      have k3 : pg (fun k => ch_rc E noS k a a) (3 * n) ∣ c := by
        have := (Nat.dvd_add_right k1).mp (show pg (fun k => ch_rc E noS k a a) (3 * n) ∣ (u + b) + c by rw [show u + b + c = u + (c + b) by omega]; exact k2)
        exact this
      have k4 := ih (u + v) (by omega) (by omega) (rc_app u v a s a h4 h6)
      rw [show k = (u + v) + c by omega]
      exact Nat.dvd_add k4 k3
    · exact pg_dvd _ (3 * n) k q hk h
theorem pg_le (P : Nat → Prop) : ∀ m, pg P m ≤ m := by
  intro m
  induction m with
  | zero => exact Nat.le_refl 0
  | succ m ih =>
    by_cases hp : P (m + 1)
    · rw [pg_y hp]; exact Nat.gcd_le_right _ (by omega)
    · rw [pg_n hp]; omega
theorem pg_congr {P Q : Nat → Prop} (h : ∀ k, 1 ≤ k → (P k ↔ Q k)) : ∀ m, pg P m = pg Q m := by
  intro m
  induction m with
  | zero => rfl
  | succ m ih =>
    by_cases hp : P (m + 1)
    · rw [pg_y hp, pg_y ((h _ (by omega)).mp hp), ih]
    · rw [pg_n hp, pg_n (fun z => hp ((h _ (by omega)).mpr z)), ih]
section
variable {n : Nat} {W : Nat → Nat → Nat} {cnt : Int32} {w : Nat → Nat → Int32} {tot : Nat → Int32} {sts : Int32} {wgt : Nat → Int32}
theorem s_oneStep (h : repC n W cnt w tot) (x : Int32) : ∃ y, f_Ways_oneStepOn cnt w tot x = some y ∧ isS y n (fun j => ∃ i, bt x i = true ∧ ch_E n W i j) := by
  have hN := fun i (hi : i < 7) => s_nextOnes h hi
  obtain ⟨⟨h7, h9, h12, hz⟩, hc, hw, ht⟩ := h
  unfold f_Ways_oneStepOn f_Ways_oneStepOn_L4
  obtain ⟨t, e, hQ⟩ := lp_run0 (fun s => f_Ways_oneStepOn_B4 cnt w tot x s.1 s.2) (fun k s => s.2 = nI k ∧ isS s.1 n (fun j => ∃ i, i < k ∧ bt x i = true ∧ ch_E n W i j)) (fun t => isS t.1 n (fun j => ∃ i, bt x i = true ∧ ch_E n W i j)) n 300 (0, 0) (by omega) ⟨rfl, isS_congr isS_0 (fun j _ => ⟨fun z => z.elim, fun ⟨i, z, _⟩ => by omega⟩)⟩
    (fun k s hk hs => by
      obtain ⟨s1, s2⟩ := s
      obtain ⟨e1, e2⟩ := hs
      dsimp only at e1 e2
      subst e1
      simp only [f_Ways_oneStepOn_B4]
      rw [hc, if_neg (nI_ge hk (by omega)), s_holds _ (by omega), Option.bind_some]
      by_cases hb : bt x k = true
      · rw [if_pos hb, if_neg c10]
        obtain ⟨y, ey, hy⟩ := hN k (by omega)
        rw [← hc, ey, Option.bind_some]
        refine ⟨_, rfl, nI_1 k, isS_congr (isS_or e2 hy) (fun j hj => ⟨?_, ?_⟩)⟩
        · rintro (⟨i, z1, z2, z3⟩ | z)
          · exact ⟨i, by omega, z2, z3⟩
          · exact ⟨k, by omega, hb, hk, hj, z⟩
        · rintro ⟨i, z1, z2, z3⟩
          rcases Nat.lt_or_ge i k with q | q
          · exact Or.inl ⟨i, q, z2, z3⟩
          · have : i = k := by omega
            subst this
            exact Or.inr z3.2.2
      · rw [if_neg hb, if_pos rfl]
        refine ⟨_, rfl, nI_1 k, isS_congr e2 (fun j _ => ⟨fun ⟨i, z1, z2⟩ => ⟨i, by omega, z2⟩, fun ⟨i, z1, z2⟩ => ⟨i, ?_, z2⟩⟩)⟩
        rcases Nat.lt_or_ge i k with q | q
        · exact q
        · have : i = k := by omega
          subst this
          exact absurd z2.1 hb)
    (fun s hs => by
      obtain ⟨s1, s2⟩ := s
      obtain ⟨e1, e2⟩ := hs
      dsimp only at e1 e2
      subst e1
      simp only [f_Ways_oneStepOn_B4, hc]
      rw [if_pos (nI_le (Nat.le_refl n) (by omega))]
      exact ⟨_, rfl, isS_congr e2 (fun j hj => ⟨fun ⟨i, z⟩ => ⟨i, z.2⟩, fun ⟨i, z⟩ => ⟨i, z.2.1, z⟩⟩)⟩)
  exact ⟨t.1, by rw [e]; rfl, hQ⟩
theorem s_ring (h : repC n W cnt w tot) {a : Nat} (ha : a < n) : f_Ways_ringDivisor cnt w tot (nI a) = some (nI (pg (fun k => ch_rc (ch_E n W) noS k a a) (3 * n))) := by
  have hO := fun x => s_oneStep h x
  obtain ⟨⟨h7, h9, h12, hz⟩, hc, hw, ht⟩ := h
  have e3 : (3 : Int32) * nI n = nI (3 * n) := by rw [show (3 : Int32) = nI 3 by decide, pk_mul]
  unfold f_Ways_ringDivisor f_Ways_ringDivisor_L9
  obtain ⟨t, e, hQ⟩ := lp_run (fun s => f_Ways_ringDivisor_B9 cnt w tot (nI a) s.1 s.2.1 s.2.2)
    (fun k s => 1 ≤ k ∧ s.1 = nI (pg (fun k => ch_rc (ch_E n W) noS k a a) (k - 1)) ∧ isS s.2.1 n (fun j => ch_rc (ch_E n W) noS (k - 1) a j) ∧ s.2.2 = nI k)
    (fun t => t.1 = nI (pg (fun k => ch_rc (ch_E n W) noS k a a) (3 * n))) (3 * n + 1)
    (fun k s hk hs => by
      obtain ⟨s1, s2, s3⟩ := s
      obtain ⟨k0, e1, e2, e4⟩ := hs
      dsimp only at e1 e2 e4
      subst e1; subst e4
      obtain ⟨y, ey, hy⟩ := hO s2
      simp only [f_Ways_ringDivisor_B9]
      rw [ey]
      simp only [Option.bind_some]
      rw [hc, e3, if_neg (nI_nlt (by omega) (by omega)), s_holds _ (by omega), Option.bind_some]
      have hy2 : isS y n (fun j => ch_rc (ch_E n W) noS k a j) := isS_congr hy (fun j hj => by
        have hsn := rc_snoc (E := ch_E n W) (k - 1) a j
        rw [show k - 1 + 1 = k by omega] at hsn
        rw [hsn]
        constructor
        · rintro ⟨i, z1, z2⟩
          exact ⟨i, (isS_in e2 z2.1 h7).mp z1, z2⟩
        · rintro ⟨i, z1, z2⟩
          exact ⟨i, (isS_in e2 z2.1 h7).mpr z1, z2⟩)
      have hk1 : k = (k - 1) + 1 := by omega
      have hlek := pg_le (fun k => ch_rc (ch_E n W) noS k a a) (k - 1)
      by_cases hb : bt y a = true
      · have hP : ch_rc (ch_E n W) noS (k - 1 + 1) a a := by rw [← hk1]; exact (isS_in hy2 ha h7).mp hb
        have hpg := pg_y (P := fun k => ch_rc (ch_E n W) noS k a a) hP
        rw [← hk1] at hpg
        rw [if_pos hb, if_neg c10, nI_long _ (by omega), nI_long _ (by omega), s_gcd (smL.nat (by omega)) (smL.nat (by omega)), Option.bind_some]
        have hg : (lI (Int.gcd ((pg (fun k => ch_rc (ch_E n W) noS k a a) (k - 1) : Nat) : Int) ((k : Nat) : Int) : Nat)).toInt32 = nI (pg (fun k => ch_rc (ch_E n W) noS k a a) k) := by
          rw [hpg]
          exact lN_i _
        rw [hg]
        exact ⟨_, rfl, by omega, by rw [Nat.add_sub_cancel], by rw [Nat.add_sub_cancel]; exact hy2, nI_1 k⟩
      · have hP : ¬ ch_rc (ch_E n W) noS (k - 1 + 1) a a := by rw [← hk1]; exact fun z => hb ((isS_in hy2 ha h7).mpr z)
        have hpg := pg_n (P := fun k => ch_rc (ch_E n W) noS k a a) hP
        rw [← hk1] at hpg
        rw [if_neg hb, if_pos rfl]
        exact ⟨_, rfl, by omega, by rw [Nat.add_sub_cancel, hpg], by rw [Nat.add_sub_cancel]; exact hy2, nI_1 k⟩)
    (fun s hs => by
      obtain ⟨s1, s2, s3⟩ := s
      obtain ⟨k0, e1, e2, e4⟩ := hs
      dsimp only at e1 e2 e4
      subst e1; subst e4
      simp only [f_Ways_ringDivisor_B9]
      rw [hc, e3, if_pos (nI_lt (by omega) (by omega))]
      exact ⟨_, rfl, by rw [Nat.add_sub_cancel]⟩)
    300 1 (0, (1 : Int32) <<< (nI a &&& 31), 1) (by omega) (by omega) ⟨Nat.le_refl 1, rfl, isS_congr (isS_one ha h7) (fun j _ => ⟨fun z => z.symm, fun z => (show a = j from z).symm⟩), rfl⟩
  rw [e]
  obtain ⟨t1, t2, t3⟩ := t
  simp only [Option.bind_some]
  rw [show t1 = _ from hQ]
theorem s_Mp59 (h : repM n W sts wgt) (seen x : Int32) {a : Nat} (ha : a < n) : ∃ t, f_M_period_L59 sts wgt seen (nI a) 300 x 0 = some t ∧ ∀ i, i < 32 → (bt t.1 i = true ↔ bt x i = true ∨ (bt seen a = true ∧ mE n W a i)) := by
  have hp := fun j (hj : j < 7) => s_Mw h (i := a) (by have := h.1.1; omega) hj
  obtain ⟨⟨h7, h9, h12, hz⟩, hc, hw⟩ := h
  unfold f_M_period_L59
  refine lp_run0 (fun s => f_M_period_B59 sts wgt seen (nI a) s.1 s.2) (fun k s => s.2 = nI k ∧ ∀ i, i < 32 → (bt s.1 i = true ↔ bt x i = true ∨ (i < k ∧ bt seen a = true ∧ mE n W a i))) (fun t => ∀ i, i < 32 → (bt t.1 i = true ↔ bt x i = true ∨ (bt seen a = true ∧ mE n W a i))) n 300 (x, 0) (by omega) ⟨rfl, fun i _ => ⟨Or.inl, fun z => z.elim id (fun q => by omega)⟩⟩
    (fun k s hk hs => by
      obtain ⟨s1, s2⟩ := s
      obtain ⟨e1, e2⟩ := hs
      dsimp only at e1 e2
      subst e1
      simp only [f_M_period_B59, hc]
      rw [if_neg (nI_ge hk (by omega)), s_Mhas _ (by omega), Option.bind_some]
      by_cases hb : bt seen a = true
      · rw [if_pos hb, if_neg c10, hp k (by omega), Option.bind_some]
        by_cases hw0 : W a k = 0
        · rw [hw0, if_pos (by decide)]
          refine ⟨_, rfl, nI_1 k, fun i hi => ?_⟩
          rw [e2 i hi]
          constructor
          · rintro (q | q)
            · exact Or.inl q
            · exact Or.inr ⟨by omega, q.2⟩
          · rintro (q | q)
            · exact Or.inl q
            · refine Or.inr ⟨?_, q.2⟩
              rcases Nat.lt_or_ge i k with z | z
              · exact z
              · have : i = k := by omega
                subst this
                have := q.2.2.2.2
                omega
        · rw [if_neg (nI_nle (by omega) (by have := h9 a k; omega))]
          refine ⟨_, rfl, nI_1 k, fun i hi => ?_⟩
          dsimp only
          rw [b_or, Bool.or_eq_true, e2 i hi, b_one k (by omega) hi, decide_eq_true_eq]
          constructor
          · rintro ((q | q) | q)
            · exact Or.inl q
            · exact Or.inr ⟨by omega, q.2⟩
            · subst q
              exact Or.inr ⟨by omega, hb, ha, hk, by omega⟩
          · rintro (q | q)
            · exact Or.inl (Or.inl q)
            · rcases Nat.lt_or_ge i k with z | z
              · exact Or.inl (Or.inr ⟨z, q.2⟩)
              · exact Or.inr (by omega)
      · rw [if_neg hb, if_pos rfl]
        refine ⟨_, rfl, fun i hi => ?_⟩
        rw [e2 i hi]
        exact ⟨fun z => z.elim Or.inl (fun q => absurd q.2.1 hb), fun z => z.elim Or.inl (fun q => absurd q.1 hb)⟩)
    (fun s hs => by
      obtain ⟨s1, s2⟩ := s
      obtain ⟨e1, e2⟩ := hs
      dsimp only at e1 e2
      subst e1
      simp only [f_M_period_B59, hc]
      rw [if_pos (nI_le (Nat.le_refl n) (by omega))]
      refine ⟨_, rfl, fun i hi => ?_⟩
      rw [e2 i hi]
      exact ⟨fun z => z.elim Or.inl (fun q => Or.inr q.2), fun z => z.elim Or.inl (fun q => Or.inr ⟨q.2.2.1, q⟩)⟩)
theorem s_Mp47 (h : repM n W sts wgt) (seen : Int32) : ∃ t, f_M_period_L47 sts wgt seen 300 0 0 = some t ∧ isS t.1 n (fun j => ∃ i, bt seen i = true ∧ mE n W i j) := by
  have h59 := fun x a (ha : a < n) => s_Mp59 h seen x ha
  obtain ⟨⟨h7, h9, h12, hz⟩, hc, hw⟩ := h
  unfold f_M_period_L47
  refine lp_run0 (fun s => f_M_period_B47 sts wgt seen s.1 s.2) (fun k s => s.2 = nI k ∧ ∀ i, i < 32 → (bt s.1 i = true ↔ ∃ a, a < k ∧ bt seen a = true ∧ mE n W a i)) (fun t => isS t.1 n (fun j => ∃ i, bt seen i = true ∧ mE n W i j)) n 300 (0, 0) (by omega) ⟨rfl, fun i _ => by rw [b_0]; exact ⟨fun z => absurd z (by decide), fun ⟨a, q, _⟩ => absurd q (by omega)⟩⟩
    (fun k s hk hs => by
      obtain ⟨s1, s2⟩ := s
      obtain ⟨e1, e2⟩ := hs
      dsimp only at e1 e2
      subst e1
      obtain ⟨t, e, hQ⟩ := h59 s1 k hk
      simp only [f_M_period_B47]
      rw [e]
      simp only [hc]
      rw [if_neg (nI_ge hk (by omega))]
      refine ⟨_, rfl, nI_1 k, fun i hi => ?_⟩
      obtain ⟨t1, t2⟩ := t
      dsimp only at hQ ⊢
      rw [hQ i hi, e2 i hi]
      constructor
      · rintro (⟨a, q1, q2⟩ | q)
        · exact ⟨a, by omega, q2⟩
        · exact ⟨k, by omega, q⟩
      · rintro ⟨a, q1, q2⟩
        rcases Nat.lt_or_ge a k with z | z
        · exact Or.inl ⟨a, z, q2⟩
        · have : a = k := by omega
          subst this
          exact Or.inr q2)
    (fun s hs => by
      obtain ⟨s1, s2⟩ := s
      obtain ⟨e1, e2⟩ := hs
      dsimp only at e1 e2
      subst e1
      simp only [f_M_period_B47, hc]
      rw [if_pos (nI_le (Nat.le_refl n) (by omega))]
      refine ⟨_, rfl, fun i hi => ?_⟩
      rw [e2 i hi]
      exact ⟨fun ⟨a, q⟩ => ⟨q.2.2.2.1, a, q.2⟩, fun ⟨_, a, q⟩ => ⟨a, q.2.1, q⟩⟩)
theorem s_Mp129 : ∀ g, g < 31 → ∀ a, a < 31 → (f_M_period_L129 300 (nI g) (nI a)).map Prod.fst = some (nI (Nat.gcd g a)) := by decide +kernel
theorem s_Mring (h : repM n W sts wgt) {a : Nat} (ha : a < n) : ∃ t, f_M_period_L34 sts wgt (nI a) 300 ((1 : Int32) <<< (nI a &&& 31)) 0 1 = some t ∧ t.2.1 = nI (pg (fun k => ch_rc (mE n W) noS k a a) 30) := by
  have hO := fun x => s_Mp47 h x
  obtain ⟨⟨h7, h9, h12, hz⟩, hc, hw⟩ := h
  have e30 : (30 : Int32) = nI 30 := by decide
  unfold f_M_period_L34
  refine lp_run (fun s => f_M_period_B34 sts wgt (nI a) s.1 s.2.1 s.2.2)
    (fun k s => 1 ≤ k ∧ isS s.1 n (fun j => ch_rc (mE n W) noS (k - 1) a j) ∧ s.2.1 = nI (pg (fun k => ch_rc (mE n W) noS k a a) (k - 1)) ∧ s.2.2 = nI k)
    _ 31
    (fun k s hk hs => by
      obtain ⟨s1, s2, s3⟩ := s
      obtain ⟨k0, e2, e1, e4⟩ := hs
      dsimp only at e1 e2 e4
      subst e1; subst e4
      obtain ⟨⟨y, y2⟩, ey, hy⟩ := hO s1
      dsimp only at hy
      simp only [f_M_period_B34]
      rw [if_neg (show ¬ (30 : Int32) < nI k by rw [e30]; exact nI_nlt (by omega) (by omega)), ey]
      simp only [Option.bind_some]
      rw [s_Mhas _ (by omega), Option.bind_some]
      have hy2 : isS y n (fun j => ch_rc (mE n W) noS k a j) := isS_congr hy (fun j hj => by
        have hsn := rc_snoc (E := mE n W) (k - 1) a j
        rw [show k - 1 + 1 = k by omega] at hsn
        rw [hsn]
        constructor
        · rintro ⟨i, z1, z2⟩
          exact ⟨i, (isS_in e2 z2.1 h7).mp z1, z2⟩
        · rintro ⟨i, z1, z2⟩
          exact ⟨i, (isS_in e2 z2.1 h7).mpr z1, z2⟩)
      have hk1 : k = (k - 1) + 1 := by omega
      have hlek := pg_le (fun k => ch_rc (mE n W) noS k a a) (k - 1)
      by_cases hb : bt y a = true
      · have hP : ch_rc (mE n W) noS (k - 1 + 1) a a := by rw [← hk1]; exact (isS_in hy2 ha h7).mp hb
        have hpg := pg_y (P := fun k => ch_rc (mE n W) noS k a a) hP
        rw [← hk1] at hpg
        have hL := s_Mp129 (pg (fun k => ch_rc (mE n W) noS k a a) (k - 1)) (by omega) k (by omega)
        rw [if_pos hb, if_neg c10]
        cases hh : f_M_period_L129 300 (nI (pg (fun k => ch_rc (mE n W) noS k a a) (k - 1))) (nI k) with
        | none => rw [hh] at hL; cases hL
        | some q =>
          rw [hh] at hL
          obtain ⟨q1, q2⟩ := q
          have hq : q1 = nI (Nat.gcd (pg (fun k => ch_rc (mE n W) noS k a a) (k - 1)) k) := Option.some.inj hL
          simp only [Option.bind_some]
          refine ⟨_, rfl, by omega, by rw [Nat.add_sub_cancel]; exact hy2, ?_, nI_1 k⟩
          dsimp only
          rw [Nat.add_sub_cancel, hq, hpg]
      · have hP : ¬ ch_rc (mE n W) noS (k - 1 + 1) a a := by rw [← hk1]; exact fun z => hb ((isS_in hy2 ha h7).mpr z)
        have hpg := pg_n (P := fun k => ch_rc (mE n W) noS k a a) hP
        rw [← hk1] at hpg
        rw [if_neg hb, if_pos rfl]
        exact ⟨_, rfl, by omega, by rw [Nat.add_sub_cancel]; exact hy2, by rw [Nat.add_sub_cancel, hpg], nI_1 k⟩)
    (fun s hs => by
      obtain ⟨s1, s2, s3⟩ := s
      obtain ⟨k0, e2, e1, e4⟩ := hs
      dsimp only at e1 e2 e4
      subst e1; subst e4
      simp only [f_M_period_B34]
      rw [if_pos (show (30 : Int32) < nI 31 by decide)]
      exact ⟨_, rfl, rfl⟩)
    300 1 ((1 : Int32) <<< (nI a &&& 31), 0, 1) (by omega) (by omega) ⟨Nat.le_refl 1, isS_congr (isS_one ha h7) (fun j _ => ⟨fun z => z.symm, fun z => (show a = j from z).symm⟩), rfl, rfl⟩
theorem rc_mE {a : Nat} (hT : ch_T W a n ≠ 0) : ∀ k i, ch_rc (ch_E n W) noS k i a ↔ ch_rc (mE n W) noS k i a := by
  intro k
  induction k with
  | zero => intro i; exact Iff.rfl
  | succ k ih =>
    intro i
    constructor
    · rintro ⟨m, h1, h2, h3⟩
      refine ⟨m, h1, ?_, (ih m).mp h3⟩
      by_cases h0 : ch_T W i n = 0
      · exfalso
        have : a = i := R_end h0 ⟨k + 1, m, fun z => z, h2, h3⟩
        rw [← this] at h0
        exact hT h0
      · have := h2.2.2
        rw [(ch_pT h0).1] at this
        exact ⟨h2.1, h2.2.1, this⟩
    · rintro ⟨m, h1, h2, h3⟩
      exact ⟨m, h1, mE_E h2, (ih m).mpr h3⟩
theorem e_period (hC : repC n W cnt w tot) (hM : repM n W sts wgt) (p1 : Int32) : ∃ r, f_CS_period cnt w tot p1 = some r ∧ f_M_period sts wgt p1 = some (r, 0) := by
  have h7 := hC.1.1
  unfold f_CS_period f_M_period
  rcases has_both h7 hC.2.1 hM.2.1 p1 with ⟨a, ha, rfl, e1, e2⟩ | ⟨e1, e2⟩
  · simp only [e1, e2, Option.bind_some, if_neg c10]
    rw [s_ring hC ha, s_MisEnd hM (by omega)]
    simp only [Option.bind_some]
    by_cases hT : ch_T W a n = 0
    · rw [if_pos hT, if_neg c10]
      have hone : ∀ m, 1 ≤ m → pg (fun k => ch_rc (ch_E n W) noS k a a) m = 1 := by
        have hP : ∀ k, ch_rc (ch_E n W) noS k a a := by
          intro k
          induction k with
          | zero => rfl
          | succ k ih => exact ⟨a, fun z => z, ⟨ha, ha, by unfold ch_p; rw [if_pos hT, if_pos rfl]; omega⟩, ih⟩
        intro m
        induction m with
        | zero => intro h; omega
        | succ m ih =>
          intro _
          rw [pg_y (hP (m + 1))]
          by_cases hm : m = 0
          · subst hm
            show Nat.gcd 0 1 = 1
            decide
          · rw [ih (by omega)]; exact Nat.gcd_one_left _
      rw [hone (3 * n) (by omega)]
      exact ⟨_, rfl, rfl⟩
    · rw [if_neg hT]
      simp only [if_true]
      obtain ⟨⟨t1, t2, t3⟩, et, ht⟩ := s_Mring hM ha
      dsimp only at ht
      rw [et]
      simp only [Option.bind_some]
      have hd : pg (fun k => ch_rc (mE n W) noS k a a) 30 = pg (fun k => ch_rc (ch_E n W) noS k a a) (3 * n) := by
        have h1 := pg_more (fun k => ch_rc (ch_E n W) noS k a a) (3 * n) (pg_all (fun _ _ z => z.2.1) ha) (30 - 3 * n)
        rw [show 3 * n + (30 - 3 * n) = 30 by omega] at h1
        rw [← h1]
        exact pg_congr (fun k _ => (rc_mE hT k a).symm) 30
      rw [ht, hd]
      exact ⟨_, rfl, rfl⟩
  · simp only [e1, e2, Option.bind_some, if_true]
    exact ⟨_, rfl, rfl⟩
end
