/-! SPO: part, closed, told 0 to 4 -/
theorem s_Mleast (y : Int32) {k : Nat} (hk : k < 7) (h1 : bt y k = true) (h2 : ∀ j, j < k → ¬ bt y j = true) : f_M_least y = some (nI k) := by
  unfold f_M_least f_M_least_L2
  have e7 : (7 : Int32) = nI 7 := by decide
  obtain ⟨t, e, hQ⟩ := lp_run0 (fun s => f_M_least_B2 y s) (fun j s => s = nI j) (fun t => t = nI k) k 300 (0 : Int32) (by omega) rfl
    (fun j s hj hs => by
      subst hs
      simp only [f_M_least_B2]
      rw [if_neg (show ¬ (7 : Int32) ≤ nI j by rw [e7]; exact nI_ge (by omega) (by omega)), s_Mhas _ (by omega), Option.bind_some, if_neg (h2 j hj), if_pos rfl]
      exact ⟨_, rfl, nI_1 j⟩)
    (fun s hs => by
      subst hs
      simp only [f_M_least_B2]
      rw [if_neg (show ¬ (7 : Int32) ≤ nI k by rw [e7]; exact nI_ge hk (by omega)), s_Mhas _ (by omega), Option.bind_some, if_pos h1, if_neg c10]
      exact ⟨_, rfl, rfl⟩)
  rw [e, hQ]
  rfl
theorem s_leastL (y : Int32) {a k : Nat} (ha : a < 7) (hk : k ≤ a) (h1 : bt y k = true) (h2 : ∀ j, j < k → ¬ bt y j = true) : (k < a ∧ f_Ways_leastOfPart_L18 (nI a) y 300 (0 : Int32) = some (.inr (nI k))) ∨ (k = a ∧ ∃ u, f_Ways_leastOfPart_L18 (nI a) y 300 (0 : Int32) = some (.inl u)) := by
  unfold f_Ways_leastOfPart_L18
  obtain ⟨t, e, hQ⟩ := lp_run0 (fun s => f_Ways_leastOfPart_B18 (nI a) y s) (fun j s => s = nI j) (fun t => (k < a ∧ t = .inr (nI k)) ∨ (k = a ∧ ∃ u, t = .inl u)) k 300 (0 : Int32) (by omega) rfl
    (fun j s hj hs => by
      subst hs
      simp only [f_Ways_leastOfPart_B18]
      rw [if_neg (nI_ge (by omega) (by omega)), s_holds _ (by omega), Option.bind_some, if_neg (h2 j hj), if_pos rfl]
      exact ⟨_, rfl, nI_1 j⟩)
    (fun s hs => by
      subst hs
      simp only [f_Ways_leastOfPart_B18]
      by_cases hka : k = a
      · rw [if_pos (by rw [hka]; exact nI_le (Nat.le_refl a) (by omega))]
        exact ⟨_, rfl, Or.inr ⟨hka, _, rfl⟩⟩
      · rw [if_neg (nI_ge (by omega) (by omega)), s_holds _ (by omega), Option.bind_some, if_pos h1, if_neg c10]
        exact ⟨_, rfl, Or.inl ⟨by omega, rfl⟩⟩)
  rcases hQ with ⟨q1, q2⟩ | ⟨q1, u, q2⟩
  · exact Or.inl ⟨q1, by rw [e, q2]⟩
  · exact Or.inr ⟨q1, u, by rw [e, q2]⟩
section
variable {n : Nat} {W : Nat → Nat → Nat} {cnt : Int32} {w : Nat → Nat → Int32} {tot : Nat → Int32} {sts : Int32} {wgt : Nat → Int32}
theorem part_eq (hC : repC n W cnt w tot) (hM : repM n W sts wgt) {a : Nat} (ha : a < n) : ∃ k y, k < 7 ∧ f_Ways_leastOfPart cnt w tot (nI a) = some (nI k) ∧ f_M_partOf sts wgt (nI a) = some y ∧ f_M_least y = some (nI k) := by
  have h7 := hC.1.1
  obtain ⟨x, e1, e2, h1⟩ := met_eq hC hM ha 0
  obtain ⟨y, e3, e4, e5, h2⟩ := lead_eq hC hM ((1 : Int32) <<< (nI a &&& 31)) (one_lt h7 ha)
  have h2 : isS y n (fun i => ch_R (ch_E n W) (fun _ => False) i a) := isS_congr h2 (fun i _ => one_iff h7 ha _)
  have hxa : bt (x &&& y) a = true := by
    rw [b_and, (isS_in h1 ha h7).mpr (ch_R_refl _ _ _), (isS_in h2 ha h7).mpr (ch_R_refl _ _ _)]; rfl
  obtain ⟨k, hk1, hk2⟩ := ch_min (fun k => bt (x &&& y) k = true) ⟨a, hxa⟩
  have hka : k ≤ a := hk2 a hxa
  have hkn : ∀ j, j < k → ¬ bt (x &&& y) j = true := fun j hj z => by have := hk2 j z; omega
  refine ⟨k, x &&& y, by omega, ?_, ?_, s_Mleast _ (by omega) hk1 hkn⟩
  · unfold f_Ways_leastOfPart
    rw [e1, e3]
    simp only [Option.bind_some]
    rcases s_leastL (x &&& y) (a := a) (by omega) hka hk1 hkn with ⟨q1, q2⟩ | ⟨q1, u, q2⟩
    · rw [q2]; rfl
    · rw [q2, q1]; rfl
  · unfold f_M_partOf
    rw [e2, e5]
    rfl
theorem e_part (hC : repC n W cnt w tot) (hM : repM n W sts wgt) (p1 : Int32) : ∃ r, f_CS_part cnt w tot p1 = some r ∧ f_M_part sts wgt p1 = some (r, 0) := by
  unfold f_CS_part f_M_part
  rcases has_both hC.1.1 hC.2.1 hM.2.1 p1 with ⟨a, ha, rfl, e1, e2⟩ | ⟨e1, e2⟩
  · simp only [e1, e2, Option.bind_some, if_neg c10]
    obtain ⟨k, y, -, q1, q2, q3⟩ := part_eq hC hM ha
    simp only [q1, q2, q3, Option.bind_some]
    exact ⟨_, rfl, rfl⟩
  · simp only [e1, e2, Option.bind_some, if_true]
    exact ⟨_, rfl, rfl⟩
theorem e_closed (hC : repC n W cnt w tot) (hM : repM n W sts wgt) (p1 : Int32) : ∃ r, f_CS_closed cnt w tot p1 = some r ∧ f_M_closed sts wgt p1 = some (r, 0) := by
  unfold f_CS_closed f_M_closed
  rcases has_both hC.1.1 hC.2.1 hM.2.1 p1 with ⟨a, ha, rfl, e1, e2⟩ | ⟨e1, e2⟩
  · simp only [e1, e2, Option.bind_some, if_neg c10]
    rcases closed_eq hC hM ha with ⟨q1, q2, -⟩ | ⟨q1, q2, -⟩
    · simp only [q1, q2, Option.bind_some, if_true]
      exact ⟨_, rfl, rfl⟩
    · simp only [q1, q2, Option.bind_some, if_neg c10]
      exact ⟨_, rfl, rfl⟩
  · simp only [e1, e2, Option.bind_some, if_true]
    exact ⟨_, rfl, rfl⟩
theorem e_count (hC : repC n W cnt w tot) (hM : repM n W sts wgt) (q p : Int32) (hqp : (q = 0 ∧ p = 3) ∨ (¬ q = 0 ∧ ¬ p = 3)) : ∃ r t, f_Ways_countParts cnt w tot q = some r ∧ f_M_told_L96 sts wgt p 300 (0 : Int32) (0 : Int32) = some t ∧ t.1 = r := by
  have h7 := hC.1.1
  have hc := hC.2.1
  have hs := hM.2.1
  have hF : ∃ F : Nat → Nat, ∀ i, i < n → F i < 7 ∧ f_Ways_leastOfPart cnt w tot (nI i) = some (nI (F i)) ∧ ∃ y, f_M_partOf sts wgt (nI i) = some y ∧ f_M_least y = some (nI (F i)) := by
    refine ⟨fun i => if h : i < n then Classical.choose (part_eq hC hM h) else 0, fun i hi => ?_⟩
    dsimp only
    rw [dif_pos hi]
    obtain ⟨y, h0, h1, h2, h3⟩ := Classical.choose_spec (part_eq hC hM hi)
    exact ⟨h0, h1, y, h2, h3⟩
  obtain ⟨F, hF⟩ := hF
  have hcl : ∀ i, i < n → ∃ b : Bool, f_Ways_isClosedAt cnt w tot (nI i) = some (if b = true then 1 else 0) ∧ f_M_isClosed sts wgt (nI i) = some (if b = true then 1 else 0) := fun i hi => by
    rcases closed_eq hC hM hi with ⟨q1, q2, -⟩ | ⟨q1, q2, -⟩
    · exact ⟨false, by rw [q1]; rfl, by rw [q2]; rfl⟩
    · exact ⟨true, by rw [q1]; rfl, by rw [q2]; rfl⟩
  have hB : ∃ B : Nat → Bool, ∀ i, i < n → f_Ways_isClosedAt cnt w tot (nI i) = some (if B i = true then 1 else 0) ∧ f_M_isClosed sts wgt (nI i) = some (if B i = true then 1 else 0) := by
    refine ⟨fun i => if h : i < n then Classical.choose (hcl i h) else false, fun i hi => ?_⟩
    simp only [dif_pos hi]
    exact Classical.choose_spec (hcl i hi)
  obtain ⟨B, hB⟩ := hB
  have hb7 : ∀ (f : Nat → Nat) m, (∀ i, f i ≤ 1) → ch_al f m ≤ m := by
    intro f m hf
    induction m with
    | zero => exact Nat.le_refl 0
    | succ m ih => simp only [ch_al]; have := hf m; omega
  have hA : ∃ r, f_Ways_countParts cnt w tot q = some r ∧ r = nI (ch_al (fun i => if F i = i ∧ (q = 0 ∨ B i = true) then 1 else 0) n) := by
    unfold f_Ways_countParts f_Ways_countParts_L4
    obtain ⟨t, e, hQ⟩ := lp_run0 (fun s => f_Ways_countParts_B4 cnt w tot q s.1 s.2) (fun k s => s.2 = nI k ∧ s.1 = nI (ch_al (fun i => if F i = i ∧ (q = 0 ∨ B i = true) then 1 else 0) k)) (fun t => t.1 = nI (ch_al (fun i => if F i = i ∧ (q = 0 ∨ B i = true) then 1 else 0) n)) n 300 (0, 0) (by omega) ⟨rfl, rfl⟩
      (fun k s hk hs0 => by
        obtain ⟨s1, s2⟩ := s
        obtain ⟨e1, e2⟩ := hs0
        dsimp only at e1 e2
        subst e1; subst e2
        obtain ⟨f0, f1, -⟩ := hF k hk
        simp only [f_Ways_countParts_B4]
        rw [f1, (hB k hk).1]
        simp only [Option.bind_some, hc]
        rw [if_neg (nI_ge hk (by omega))]
        by_cases h1 : F k = k
        · rw [if_pos (by rw [h1])]
          by_cases h2 : q = 0
          · rw [if_pos h2]
            refine ⟨_, rfl, nI_1 k, ?_⟩
            simp only [ch_al]
            rw [if_pos ⟨h1, Or.inl h2⟩]; exact nI_1 _
          · rw [if_neg h2]
            by_cases h3 : B k = true
            · rw [if_pos h3, if_neg c10]
              refine ⟨_, rfl, nI_1 k, ?_⟩
              simp only [ch_al]
              rw [if_pos ⟨h1, Or.inr h3⟩]; exact nI_1 _
            · rw [if_neg h3, if_pos rfl]
              refine ⟨_, rfl, nI_1 k, ?_⟩
              simp only [ch_al]
              rw [if_neg (fun z => z.2.elim h2 h3)]; rfl
        · rw [if_neg (fun z => h1 ((nI_eq (by omega) (by omega)).mp z))]
          refine ⟨_, rfl, nI_1 k, ?_⟩
          simp only [ch_al]
          rw [if_neg (fun z => h1 z.1)]; rfl)
      (fun s hs0 => by
        obtain ⟨s1, s2⟩ := s
        obtain ⟨e1, e2⟩ := hs0
        dsimp only at e1 e2
        subst e1; subst e2
        simp only [f_Ways_countParts_B4, hc]
        rw [if_pos (nI_le (Nat.le_refl n) (by omega))]
        exact ⟨_, rfl, rfl⟩)
    exact ⟨t.1, by rw [e]; rfl, hQ⟩
  have hM2 : ∃ t, f_M_told_L96 sts wgt p 300 (0 : Int32) (0 : Int32) = some t ∧ t.1 = nI (ch_al (fun i => if F i = i ∧ (q = 0 ∨ B i = true) then 1 else 0) n) := by
    unfold f_M_told_L96
    refine lp_run0 (fun s => f_M_told_B96 sts wgt p s.1 s.2) (fun k s => s.2 = nI k ∧ s.1 = nI (ch_al (fun i => if F i = i ∧ (q = 0 ∨ B i = true) then 1 else 0) k)) _ n 300 (0, 0) (by omega) ⟨rfl, rfl⟩
      (fun k s hk hs0 => by
        obtain ⟨s1, s2⟩ := s
        obtain ⟨e1, e2⟩ := hs0
        dsimp only at e1 e2
        subst e1; subst e2
        obtain ⟨f0, -, y, f2, f3⟩ := hF k hk
        have z0 : ∀ c : Int32, c + 0 = c := fun c => Int32.add_zero c
        simp only [f_M_told_B96]
        rw [f2, (hB k hk).2]
        simp only [Option.bind_some]
        rw [f3]
        simp only [Option.bind_some, hs]
        rw [if_neg (nI_ge hk (by omega))]
        by_cases h1 : F k = k
        · rw [if_pos (by rw [h1])]
          by_cases h2 : p = 3
          · rw [if_pos h2]
            have hq0 : q = 0 := by rcases hqp with z | z; exact z.1; exact absurd h2 z.2
            refine ⟨_, rfl, nI_1 k, ?_⟩
            simp only [ch_al]
            rw [if_pos ⟨h1, Or.inl hq0⟩]; exact nI_1 _
          · rw [if_neg h2]
            have hq0 : ¬ q = 0 := by rcases hqp with z | z; exact absurd z.2 h2; exact z.1
            by_cases h3 : B k = true
            · rw [if_pos h3, if_neg c10]
              refine ⟨_, rfl, nI_1 k, ?_⟩
              simp only [ch_al]
              rw [if_pos ⟨h1, Or.inr h3⟩]; exact nI_1 _
            · rw [if_neg h3, if_pos rfl]
              refine ⟨_, rfl, nI_1 k, ?_⟩
              simp only [ch_al]
              rw [if_neg (fun z => z.2.elim hq0 h3), z0]; rfl
        · rw [if_neg (fun z => h1 ((nI_eq (by omega) (by omega)).mp z))]
          refine ⟨_, rfl, nI_1 k, ?_⟩
          simp only [ch_al]
          rw [if_neg (fun z => h1 z.1), z0]; rfl)
      (fun s hs0 => by
        obtain ⟨s1, s2⟩ := s
        obtain ⟨e1, e2⟩ := hs0
        dsimp only at e1 e2
        subst e1; subst e2
        simp only [f_M_told_B96, hs]
        rw [if_pos (nI_le (Nat.le_refl n) (by omega))]
        exact ⟨_, rfl, rfl⟩)
  obtain ⟨r, e1, h1⟩ := hA
  obtain ⟨t, e2, h2⟩ := hM2
  exact ⟨r, t, e1, e2, by rw [h2, h1]⟩
theorem told_b : @f_M_told_L96b = @f_M_told_L96 := rfl
theorem bc_eq : ∀ m, m < 128 → f_bitCount (nI m) = some (nI (dp_pc m)) := by decide +kernel
theorem isS_nI {x : Int32} {P : Nat → Prop} (h7 : n ≤ 7) (hx : isS x n P) : ∃ m, m < 128 ∧ x = nI m := by
  rcases st_iff (n := 7) (by omega) x with ⟨s1, s2, s3, -⟩ | ⟨s1, -⟩
  · obtain ⟨j, hj, rfl⟩ := nI_of s2
    exact ⟨j, (nI_ltI hj (by omega)).mp s3, rfl⟩
  · exfalso
    refine s1 (b_ext (fun i hi => ?_))
    rw [b_and, b_not _ hi, st_bits 7 (by omega) i hi, b_0]
    cases hb : bt x i
    · rfl
    · have := ((hx i hi).mp hb).1
      have : i < 7 := by omega
      simp [this]
theorem told2_eq (hC : repC n W cnt w tot) (hM : repM n W sts wgt) : ∃ x r, f_Chain_ends cnt tot = some x ∧ f_bitCount x = some r ∧ f_M_ends sts wgt = some x ∧ f_M_many x = some r := by
  obtain ⟨x, e1, e2, hx⟩ := ends_eq hC hM
  obtain ⟨m, hm, rfl⟩ := isS_nI hC.1.1 hx
  exact ⟨_, _, e1, bc_eq m hm, e2, dp_many m hm⟩
theorem told1_eq (hC : repC n W cnt w tot) (hM : repM n W sts wgt) : ∃ r t, f_Chain_countWeights cnt w = some r ∧ f_M_told_L55 wgt 300 (0 : Int32) (0 : Int32) = some t ∧ t.1 = r := by
  obtain ⟨⟨h7, h9, h12, hz⟩, hc, hw, ht⟩ := id hC
  have hwm := hM.2.2
  have hA : ∃ r, f_Chain_countWeights cnt w = some r ∧ r = nI (ch_al (fun i => ch_al (fun j => if W i j = 0 then 0 else 1) n) n) := by
    unfold f_Chain_countWeights f_Chain_countWeights_L4
    obtain ⟨t, e, hQ⟩ := lp_run0 (fun s => f_Chain_countWeights_B4 cnt w s.1 s.2) (fun k s => s.2 = nI k ∧ s.1 = nI (ch_al (fun i => ch_al (fun j => if W i j = 0 then 0 else 1) n) k)) (fun t => t.1 = nI (ch_al (fun i => ch_al (fun j => if W i j = 0 then 0 else 1) n) n)) n 300 (0, 0) (by omega) ⟨rfl, rfl⟩
      (fun k s hk hs0 => by
        obtain ⟨s1, s2⟩ := s
        obtain ⟨e1, e2⟩ := hs0
        dsimp only at e1 e2
        subst e1; subst e2
        simp only [f_Chain_countWeights_B4]
        unfold f_Chain_countWeights_L14
        obtain ⟨t, e, hQ⟩ := lp_run0 (fun s => f_Chain_countWeights_B14 cnt w (nI k) s.1 s.2) (fun m s => s.2 = nI m ∧ s.1 = nI (ch_al (fun i => ch_al (fun j => if W i j = 0 then 0 else 1) n) k + ch_al (fun j => if W k j = 0 then 0 else 1) m)) (fun t => t.1 = nI (ch_al (fun i => ch_al (fun j => if W i j = 0 then 0 else 1) n) k + ch_al (fun j => if W k j = 0 then 0 else 1) n)) n 300 (nI (ch_al (fun i => ch_al (fun j => if W i j = 0 then 0 else 1) n) k), 0) (by omega) ⟨rfl, rfl⟩
          (fun m q hm hq => by
            obtain ⟨q1, q2⟩ := q
            obtain ⟨g1, g2⟩ := hq
            dsimp only at g1 g2
            subst g1; subst g2
            simp only [f_Chain_countWeights_B14]
            rw [hc, if_neg (nI_ge hm (by omega)), if_pos (ix_nI (by omega) (by omega)), if_pos (ix_nI (by omega) (by omega)), nI_clamp (by omega), nI_clamp (by omega), hw k m (by omega) (by omega)]
            by_cases h0 : W k m = 0
            · rw [h0, if_pos nI_0]
              refine ⟨_, rfl, nI_1 m, ?_⟩
              simp only [ch_al]
              rw [if_pos h0]; rfl
            · rw [if_neg (nI_ne0 (by omega) (by have := h9 k m; omega))]
              refine ⟨_, rfl, nI_1 m, ?_⟩
              simp only [ch_al]
              rw [if_neg h0]; exact nI_1 _)
          (fun q hq => by
            obtain ⟨q1, q2⟩ := q
            obtain ⟨g1, g2⟩ := hq
            dsimp only at g1 g2
            subst g1; subst g2
            simp only [f_Chain_countWeights_B14]
            rw [hc, if_pos (nI_le (Nat.le_refl n) (by omega))]
            exact ⟨_, rfl, rfl⟩)
        rw [e, hc, if_neg (nI_ge hk (by omega))]
        exact ⟨_, rfl, nI_1 k, hQ⟩)
      (fun s hs0 => by
        obtain ⟨s1, s2⟩ := s
        obtain ⟨e1, e2⟩ := hs0
        dsimp only at e1 e2
        subst e1; subst e2
        simp only [f_Chain_countWeights_B4, hc]
        rw [if_pos (nI_le (Nat.le_refl n) (by omega))]
        exact ⟨_, rfl, rfl⟩)
    exact ⟨t.1, by rw [e]; rfl, hQ⟩
  have hB : ∃ t, f_M_told_L55 wgt 300 (0 : Int32) (0 : Int32) = some t ∧ t.1 = nI (ch_al (fun q => if W (q / 7) (q % 7) = 0 then 0 else 1) 49) := by
    unfold f_M_told_L55
    refine lp_run0 (fun s => f_M_told_B55 wgt s.1 s.2) (fun k s => s.2 = nI k ∧ s.1 = nI (ch_al (fun q => if W (q / 7) (q % 7) = 0 then 0 else 1) k)) _ 49 300 (0, 0) (by omega) ⟨rfl, rfl⟩
      (fun k s hk hs0 => by
        obtain ⟨s1, s2⟩ := s
        obtain ⟨e1, e2⟩ := hs0
        dsimp only at e1 e2
        subst e1; subst e2
        have e49 : (49 : Int32) = nI 49 := by decide
        have hwk : wgt k = nI (W (k / 7) (k % 7)) := by
          have := hwm (k / 7) (k % 7) (by omega) (by omega)
          rw [show 7 * (k / 7) + k % 7 = k by omega] at this
          exact this
        simp only [f_M_told_B55]
        rw [if_neg (show ¬ (49 : Int32) ≤ nI k by rw [e49]; exact nI_ge hk (by omega)), if_pos (ix_nI (by omega) (by omega)), nI_clamp (by omega), hwk]
        by_cases h0 : W (k / 7) (k % 7) = 0
        · rw [h0, if_pos (by decide)]
          refine ⟨_, rfl, nI_1 k, ?_⟩
          simp only [ch_al]
          rw [if_pos h0, Int32.add_zero]; rfl
        · rw [if_neg (nI_nle (by omega) (by have := h9 (k / 7) (k % 7); omega))]
          refine ⟨_, rfl, nI_1 k, ?_⟩
          simp only [ch_al]
          rw [if_neg h0]; exact nI_1 _)
      (fun s hs0 => by
        obtain ⟨s1, s2⟩ := s
        obtain ⟨e1, e2⟩ := hs0
        dsimp only at e1 e2
        subst e1; subst e2
        simp only [f_M_told_B55]
        rw [if_pos (show (49 : Int32) ≤ nI 49 by decide)]
        exact ⟨_, rfl, rfl⟩)
  obtain ⟨r, e1, h1⟩ := hA
  obtain ⟨t, e2, h2⟩ := hB
  refine ⟨r, t, e1, e2, ?_⟩
  rw [h2, h1]
  refine congrArg nI ?_
  have hext : ∀ (f : Nat → Nat) (m : Nat), (∀ i, n ≤ i → f i = 0) → ch_al f (n + m) = ch_al f n := by
    intro f m hf
    induction m with
    | zero => rfl
    | succ m ih => show ch_al f (n + m) + f (n + m) = _; rw [ih, hf (n + m) (by omega)]; rfl
  have hin : ∀ i, ch_al (fun j => if W i j = 0 then 0 else 1) 7 = ch_al (fun j => if W i j = 0 then 0 else 1) n := fun i => by
    have := hext (fun j => if W i j = 0 then 0 else 1) (7 - n) (fun j hj => by rw [hz i j (Or.inr hj)]; rfl)
    rw [show n + (7 - n) = 7 by omega] at this
    exact this
  have hout : ch_al (fun i => ch_al (fun j => if W i j = 0 then 0 else 1) n) 7 = ch_al (fun i => ch_al (fun j => if W i j = 0 then 0 else 1) n) n := by
    have := hext (fun i => ch_al (fun j => if W i j = 0 then 0 else 1) n) (7 - n) (fun i hi => by
      have : ∀ m, ch_al (fun j => if W i j = 0 then 0 else 1) m = 0 := by
        intro m
        induction m with
        | zero => rfl
        | succ m ih => simp only [ch_al]; rw [ih, hz i m (Or.inl hi)]; rfl
      exact this n)
    rw [show n + (7 - n) = 7 by omega] at this
    exact this
  rw [← hout]
  have e49 : ch_al (fun q => if W (q / 7) (q % 7) = 0 then 0 else 1) 49 = ch_al (fun i => ch_al (fun j => if W i j = 0 then 0 else 1) 7) 7 := by
    simp only [ch_al, Nat.reduceDiv, Nat.reduceMod, Nat.reduceAdd]
    omega
  rw [e49]
  simp only [hin]
end
