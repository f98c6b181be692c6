/-! LK6: the reference goes through all words, and keeps the coarsest parting -/
theorem rg_p_congr {h h' : Nat → Nat} : ∀ k, (∀ i, i < k → h i = h' i) → rg_p h k = rg_p h' k := by
  intro k
  induction k with
  | zero => intro _; rfl
  | succ k ih => intro q; simp only [rg_p, ih (fun i hi => q i (by omega)), q k (by omega)]
theorem rg_p_inj {h h' : Nat → Nat} : ∀ k, rg_p h k = rg_p h' k → ∀ i, i < k → h i = h' i := by
  intro k
  induction k with
  | zero => intro _ i hi; omega
  | succ k ih =>
    intro q i hi
    simp only [rg_p] at q
    injection q with q1 q2
    by_cases z : i = k
    · subst z; exact q1
    · exact ih q2 i (by omega)
theorem rg_p_0 : ∀ k, rg_p (fun _ => 0) k = List.replicate k 0 := by
  intro k
  induction k with
  | zero => rfl
  | succ k ih => simp only [rg_p, ih, List.replicate_succ]
theorem rg_chain : ∀ (E : List (List Nat)), rg_ch E = true → ∀ k L, E[k]? = some L → (k + 1 = E.length ∧ rg_n L = none) ∨ (∃ L', E[k + 1]? = some L' ∧ rg_n L = some L') := by
  intro E
  induction E with
  | nil => intro h; cases h
  | cons a r ih =>
    intro h k L e
    cases r with
    | nil =>
      cases k with
      | zero =>
        simp only [List.getElem?_cons_zero, Option.some.injEq] at e
        subst e
        simp only [rg_ch, Option.isNone_iff_eq_none] at h
        exact Or.inl ⟨rfl, h⟩
      | succ k => simp at e
    | cons b r =>
      simp only [rg_ch, Bool.and_eq_true, beq_iff_eq] at h
      cases k with
      | zero =>
        simp only [List.getElem?_cons_zero, Option.some.injEq] at e
        subst e
        exact Or.inr ⟨b, by simp, h.1⟩
      | succ k =>
        rw [List.getElem?_cons_succ] at e
        rcases ih h.2 k L e with ⟨q1, q2⟩ | ⟨L', q1, q2⟩
        · exact Or.inl ⟨by simp only [List.length_cons] at q1 ⊢; omega, q2⟩
        · exact Or.inr ⟨L', by rw [List.getElem?_cons_succ]; exact q1, q2⟩
section
variable {n : Nat} {W : Nat → Nat → Nat} {R : Nat → Int} {sts : Int32} {wgt rwd : Nat → Int32}
theorem s_next7 (hs : sts = nI n) (h7 : n ≤ 7) {gp : Nat → Int32} {h : Nat → Nat} (hg : ∀ i, i < n → gp i = nI (h i) ∧ h i ≤ 7) : ∀ k, k < n → ∀ fuel, k < fuel → (rg_n (rg_p h (k + 1)) = none ∧ ∃ u, f_M_next_L7 sts fuel (nI k) gp = some (.inl (u, gp))) ∨ (∃ h' gp', rg_n (rg_p h (k + 1)) = some (rg_p h' (k + 1)) ∧ f_M_next_L7 sts fuel (nI k) gp = some (.inr (1, gp')) ∧ (∀ i, i < n → gp' i = nI (h' i)) ∧ ∀ i, k < i → h' i = 0) := by
  intro k
  induction k with
  | zero =>
    intro _ fuel hf
    obtain ⟨fuel, rfl⟩ : ∃ f, fuel = f + 1 := ⟨fuel - 1, by omega⟩
    refine Or.inl ⟨rfl, nI 0, ?_⟩
    rw [f_M_next_L7_s]
    simp only [f_M_next_B7]
    rw [if_pos (by decide)]
    rfl
  | succ k ih =>
    intro hk fuel hf
    obtain ⟨fuel, rfl⟩ : ∃ f, fuel = f + 1 := ⟨fuel - 1, by omega⟩
    obtain ⟨u, e1, e2⟩ := s_next15 hg hk h7
    have b1 := (hg (k + 1) hk).2
    have hn : rg_n (rg_p h (k + 1 + 1)) = if rg_m (rg_p h (k + 1)) ≤ h (k + 1) then (rg_n (rg_p h (k + 1))).map (fun q => 0 :: q) else some ((h (k + 1) + 1) :: rg_p h (k + 1)) := rfl
    rw [f_M_next_L7_s]
    simp only [f_M_next_B7]
    rw [if_neg (nI_nle (by omega) (by omega)), e1, Option.bind_some]
    dsimp only
    rw [if_pos (ix_nI (by omega) (by omega)), nI_clamp (by omega), (hg (k + 1) hk).1, hn]
    by_cases q : rg_m (rg_p h (k + 1)) ≤ h (k + 1)
    · rw [if_pos (nI_le q (by omega)), if_pos q, Option.bind_some]
      have em : nI (k + 1) + (-1) = nI k := by rw [← Int32.sub_eq_add_neg]; exact nI_pred k
      rw [em]
      rcases ih (by omega) fuel (by omega) with ⟨q1, u', q2⟩ | ⟨h', gp', q1, q2, q3, q4⟩
      · exact Or.inl ⟨by rw [q1]; rfl, u', q2⟩
      · refine Or.inr ⟨h', gp', ?_, q2, q3, fun i hi => q4 i (by omega)⟩
        rw [q1]
        show some (0 :: rg_p h' (k + 1)) = some (h' (k + 1) :: rg_p h' (k + 1))
        rw [q4 (k + 1) (by omega)]
    · rw [if_neg (fun z => q ((nI_leI (by omega) (by omega)).mp z)), if_neg q, if_pos (ix_nI (by omega) (by omega)), if_pos (ix_nI (by omega) (by omega)), nI_1, nI_1]
      obtain ⟨u', g', e3, e4⟩ := s_next73 hs h7 (upd gp (k + 1) (nI (h (k + 1) + 1))) (k := k + 1 + 1) (by omega)
      rw [e3]
      refine Or.inr ⟨fun i => if k + 1 < i then 0 else if i = k + 1 then h (k + 1) + 1 else h i, g', ?_, rfl, fun i hi => ?_, fun i hi => if_pos hi⟩
      · show some ((h (k + 1) + 1) :: rg_p h (k + 1)) = some (_ :: rg_p _ (k + 1))
        dsimp only
        rw [if_neg (by omega), if_pos rfl]
        congr 2
        exact rg_p_congr _ (fun i hi => by rw [if_neg (by omega), if_neg (by omega)])
      · rw [e4 i hi]
        dsimp only
        by_cases z1 : k + 1 < i
        · rw [if_pos (by omega), if_pos z1]
        · rw [if_neg (by omega), if_neg z1]
          by_cases z2 : i = k + 1
          · rw [if_pos z2, z2]; exact upd_at _ _ _
          · rw [if_neg z2, upd_off _ _ z2]; exact (hg i hi).1
theorem s_Mnext (hs : sts = nI n) (h0 : 0 < n) (h7 : n ≤ 7) {gp : Nat → Int32} {h : Nat → Nat} (hg : ∀ i, i < n → gp i = nI (h i) ∧ h i ≤ 7) : (rg_n (rg_p h n) = none ∧ f_M_next sts gp = some (0, gp)) ∨ (∃ h' gp', rg_n (rg_p h n) = some (rg_p h' n) ∧ f_M_next sts gp = some (1, gp') ∧ ∀ i, i < n → gp' i = nI (h' i)) := by
  obtain ⟨k, rfl⟩ : ∃ k, n = k + 1 := ⟨n - 1, by omega⟩
  unfold f_M_next
  have em : sts - 1 = nI k := by rw [hs]; exact nI_pred k
  rw [em]
  rcases s_next7 hs h7 hg k (by omega) 300 (by omega) with ⟨q1, u', q2⟩ | ⟨h', gp', q1, q2, q3, q4⟩
  · rw [q2]; exact Or.inl ⟨q1, rfl⟩
  · rw [q2]; exact Or.inr ⟨h', gp', q1, rfl, q3⟩
theorem s_lay128 (hs : sts = nI n) (h7 : n ≤ 7) (src bst : Nat → Int32) : ∃ u b', f_M_layGroups_L128 sts src 1000 0 bst = some (u, b') ∧ ∀ i, i < n → b' i = src i := by
  unfold f_M_layGroups_L128
  obtain ⟨t, e, hQ⟩ := lp_run0 (fun s => f_M_layGroups_B128 sts src s.1 s.2) (fun k s => s.1 = nI k ∧ ∀ i, i < k → s.2 i = src i) (fun t => ∀ i, i < n → t.2 i = src i) n 1000 ((0 : Int32), bst) (by omega) ⟨rfl, fun i hi => by omega⟩
    (fun k s hk hs' => by
      obtain ⟨s1, s2⟩ := s
      obtain ⟨rfl, h2⟩ := hs'
      dsimp only at h2
      simp only [f_M_layGroups_B128]
      rw [if_neg (by rw [hs]; exact nI_ge hk (by omega)), if_pos (ix_nI (by omega) (by omega)), if_pos (ix_nI (by omega) (by omega)), nI_clamp (by omega)]
      refine ⟨_, rfl, nI_1 k, fun i hi => ?_⟩
      by_cases z : i = k
      · subst z; exact upd_at _ _ _
      · exact (upd_off _ _ z).trans (h2 i (by omega)))
    (fun s hs' => by
      obtain ⟨s1, s2⟩ := s
      obtain ⟨rfl, h2⟩ := hs'
      simp only [f_M_layGroups_B128]
      rw [if_pos (by rw [hs]; exact nI_le (Nat.le_refl n) (by omega))]
      exact ⟨_, rfl, h2⟩)
  obtain ⟨t1, t2⟩ := t
  exact ⟨t1, t2, e, hQ⟩
theorem s_lay12 (gp : Nat → Int32) : ∃ u g', f_M_layGroups_L12 1000 0 gp = some (u, g') ∧ ∀ i, i < 7 → g' i = nI 0 := by
  unfold f_M_layGroups_L12
  have e7 : (7 : Int32) = nI 7 := by decide
  obtain ⟨t, e, hQ⟩ := lp_run0 (fun s => f_M_layGroups_B12 s.1 s.2) (fun k s => s.1 = nI k ∧ ∀ i, i < k → s.2 i = nI 0) (fun t => ∀ i, i < 7 → t.2 i = nI 0) 7 1000 ((0 : Int32), gp) (by omega) ⟨rfl, fun i hi => by omega⟩
    (fun k s hk hs' => by
      obtain ⟨s1, s2⟩ := s
      obtain ⟨rfl, h2⟩ := hs'
      dsimp only at h2
      simp only [f_M_layGroups_B12]
      rw [if_neg (show ¬ (7 : Int32) ≤ nI k by rw [e7]; exact nI_ge hk (by omega)), if_pos (ix_nI (by omega) (by omega)), nI_clamp (by omega)]
      refine ⟨_, rfl, nI_1 k, fun i hi => ?_⟩
      by_cases z : i = k
      · subst z; exact upd_at _ _ _
      · exact (upd_off _ _ z).trans (h2 i (by omega)))
    (fun s hs' => by
      obtain ⟨s1, s2⟩ := s
      obtain ⟨rfl, h2⟩ := hs'
      simp only [f_M_layGroups_B12]
      rw [if_pos (by rw [e7]; exact nI_le (Nat.le_refl 7) (by omega))]
      exact ⟨_, rfl, h2⟩)
  obtain ⟨t1, t2⟩ := t
  exact ⟨t1, t2, e, hQ⟩
/-- what the reference has kept after the words before the k-th -/
def lk_A (n : Nat) (W : Nat → Nat → Nat) (R : Nat → Int) (E : List (List Nat)) (k : Nat) (bst : Nat → Int32) (few : Int32) : Prop :=
  ∃ f, few = nI f ∧ f ≤ n + 1 ∧ (f ≤ n → ∃ h, rg_ok h n ∧ (∀ i, i < n → bst i = nI (h i)) ∧ lk_sb n W R h f ∧ rg_m (rg_p h n) = f) ∧ ∀ j, j < k → ∀ h, E[j]? = some (rg_p h n) → lk_sb n W R h (rg_m (rg_p h n)) → f ≤ rg_m (rg_p h n)
theorem s_lay60 (hM : repM n W sts wgt) (hR : ∀ i, i < 7 → rwd i = Int32.ofInt (R i) ∧ (R i).natAbs ≤ 100) (h0 : 0 < n) {gp : Nat → Int32} (hg : ∀ i, i < 7 → gp i = nI 0) (bst : Nat → Int32) : ∃ u g' b' f', f_M_layGroups_L60 sts wgt rwd 1000 1 gp bst (nI (n + 1)) = some (u, g', b', f') ∧ lk_A n W R (rg_all n) (rg_all n).length b' f' := by
  have h7 := hM.1.1
  have hs := hM.2.1
  obtain ⟨c1, c2, c3⟩ := rg_chk n h0 h7
  have hch := rg_chain _ c1
  unfold f_M_layGroups_L60
  obtain ⟨t, e, hQ⟩ := lp_run0 (fun s => f_M_layGroups_B60 sts wgt rwd s.1 s.2.1 s.2.2.1 s.2.2.2) (fun k s => lk_A n W R (rg_all n) k s.2.2.1 s.2.2.2 ∧ ((k = (rg_all n).length ∧ s.1 = 0) ∨ (s.1 = 1 ∧ ∃ h, (rg_all n)[k]? = some (rg_p h n) ∧ ∀ i, i < n → s.2.1 i = nI (h i)))) (fun t => lk_A n W R (rg_all n) (rg_all n).length t.2.2.1 t.2.2.2) (rg_all n).length 1000 ((1 : Int32), gp, bst, nI (n + 1)) (by omega)
    ⟨⟨n + 1, rfl, Nat.le_refl _, fun q => by omega, fun j hj => by omega⟩, Or.inr ⟨rfl, fun _ => 0, by rw [rg_p_0, ← c2, List.head?_eq_getElem?], fun i hi => hg i (by omega)⟩⟩
    (fun k s hk hs' => by
      obtain ⟨s1, s2, s3, s4⟩ := s
      obtain ⟨hA, hB⟩ := hs'
      dsimp only at hA hB
      rcases hB with ⟨q, _⟩ | ⟨rfl, h, eE, hh⟩
      · omega
      · have hok : rg_ok h n := (rg_mem h n).mp (List.mem_of_getElem? eE)
        have hg' : ∀ i, i < n → s2 i = nI (h i) ∧ h i ≤ 7 := fun i hi => ⟨hh i hi, by have := rg_lt hok hi; omega⟩
        obtain ⟨u, e1⟩ := s_next68 (sts := sts) hg' hs h7
        have bm := rg_m_le hok (Nat.le_refl n)
        simp only [f_M_layGroups_B60]
        rw [if_neg c10, e1, Option.bind_some]
        dsimp only
        obtain ⟨f, rfl, f1, f2, f3⟩ := hA
        have stay : f ≤ rg_m (rg_p h n) ∨ ¬ lk_sb n W R h (rg_m (rg_p h n)) → lk_A n W R (rg_all n) (k + 1) s3 (nI f) := by
          intro q
          refine ⟨f, rfl, f1, f2, fun j hj h' e' z => ?_⟩
          by_cases ej : j = k
          · subst ej
            rw [eE] at e'
            have e'' : rg_p h n = rg_p h' n := Option.some.inj e'
            rw [← e'']
            rcases q with q | q
            · exact q
            · refine absurd ?_ q
              rw [e'']
              exact lk_sb_congr (fun i hi => (rg_p_inj n e'' i hi).symm) z
          · exact f3 j (by omega) h' e' z
        have key : ∃ b' f', (if nI f ≤ nI (rg_m (rg_p h n)) then some (s3, nI f) else Option.bind (f_M_isParting sts wgt rwd s2 (nI (rg_m (rg_p h n)))) (fun r33 => (if r33 = 0 then some (s3, nI f) else Option.bind (f_M_layGroups_L128 sts s2 1000 (0 : Int32) s3) (fun (u41, u42) => some (u42, nI (rg_m (rg_p h n))))))) = some (b', f') ∧ lk_A n W R (rg_all n) (k + 1) b' f' := by
          by_cases q : f ≤ rg_m (rg_p h n)
          · rw [if_pos (nI_le q (by omega))]
            exact ⟨_, _, rfl, stay (Or.inl q)⟩
          · rw [if_neg (fun z => q ((nI_leI (by omega) (by omega)).mp z))]
            rcases s_isParting hM hR hg' (m := rg_m (rg_p h n)) (by omega) with ⟨p1, p2⟩ | ⟨p1, p2⟩
            · obtain ⟨u', b', e3, e4⟩ := s_lay128 hs h7 s2 s3
              rw [p1, Option.bind_some, if_neg c10, e3]
              refine ⟨b', _, rfl, rg_m (rg_p h n), rfl, by omega, fun _ => ⟨h, hok, fun i hi => (e4 i hi).trans (hh i hi), p2, rfl⟩, fun j hj h' e' z => ?_⟩
              by_cases ej : j = k
              · subst ej
                rw [eE] at e'
                rw [← Option.some.inj e']
                exact Nat.le_refl _
              · have := f3 j (by omega) h' e' z
                omega
            · rw [p1, Option.bind_some, if_pos rfl]
              exact ⟨_, _, rfl, stay (Or.inr p2)⟩
        obtain ⟨b', f', k1, k2⟩ := key
        rw [k1, Option.bind_some]
        dsimp only
        rcases s_Mnext hs h0 h7 hg' with ⟨q1, q2⟩ | ⟨h', gp', q1, q2, q3⟩
        · rw [q2]
          refine ⟨_, rfl, k2, Or.inl ⟨?_, rfl⟩⟩
          rcases hch k _ eE with ⟨z, _⟩ | ⟨L', _, z⟩
          · exact z
          · rw [q1] at z; cases z
        · rw [q2]
          refine ⟨_, rfl, k2, Or.inr ⟨rfl, h', ?_, q3⟩⟩
          rcases hch k _ eE with ⟨_, z⟩ | ⟨L', z1, z⟩
          · rw [q1] at z; cases z
          · rw [z1]; rw [q1] at z; exact z.symm)
    (fun s hs' => by
      obtain ⟨s1, s2, s3, s4⟩ := s
      obtain ⟨hA, hB⟩ := hs'
      dsimp only at hA hB
      rcases hB with ⟨_, rfl⟩ | ⟨rfl, h, eE, hh⟩
      · simp only [f_M_layGroups_B60]
        rw [if_pos trivial]
        exact ⟨_, rfl, hA⟩
      · rw [List.getElem?_eq_none (Nat.le_refl _)] at eE
        cases eE)
  obtain ⟨t1, t2, t3, t4⟩ := t
  exact ⟨t1, t2, t3, t4, e, hQ⟩
theorem s_layGroups (hM : repM n W sts wgt) (hR : ∀ i, i < 7 → rwd i = Int32.ofInt (R i) ∧ (R i).natAbs ≤ 100) {g : Nat → Nat} (ht : lk_top n W R g) (gp bst : Nat → Int32) : ∃ g' b' h, f_M_layGroups sts wgt rwd gp bst = some (g', b', nI (lk_c g n)) ∧ (∀ i, i < n → b' i = nI (h i) ∧ h i ≤ 7) ∧ ∀ i, i < n → lk_g h i = g i := by
  have h7 := hM.1.1
  have hs := hM.2.1
  unfold f_M_layGroups
  obtain ⟨u, g0, e1, e2⟩ := s_lay12 gp
  rw [e1, Option.bind_some]
  dsimp only
  by_cases h0 : n = 0
  · subst h0
    rw [if_pos (by rw [hs]; decide), Option.bind_some, if_pos rfl, Option.bind_some]
    refine ⟨g0, bst, fun _ => 0, ?_, fun i hi => by omega, fun i hi => by omega⟩
    unfold f_M_layGroups_L60
    rw [show (1000 : Nat) = 999 + 1 from rfl, lp_s]
    simp only [f_M_layGroups_B60]
    rw [if_pos trivial]
    rfl
  · rw [if_neg (by rw [hs]; exact nI_nle (by omega) (by omega)), Option.bind_some, if_neg c10, Option.bind_some, hs, nI_1]
    obtain ⟨u2, g2, b2, f2, e3, f, rfl, q1, q2, q3⟩ := s_lay60 hM hR (by omega) e2 bst
    rw [hs] at e3
    rw [e3, Option.bind_some]
    obtain ⟨t1, t2, t3⟩ := ht
    have hgn : ∀ i, i < n → g i < n := fun i hi => by have := (t1 i hi).1; omega
    have hm := (rg_h_m t1 n (Nat.le_refl n)).1
    obtain ⟨j, hj, ej⟩ := List.getElem_of_mem ((rg_mem (rg_h g) n).mpr (rg_h_ok t1))
    have hle := q3 j hj (rg_h g) (by rw [List.getElem?_eq_getElem hj, ej]) (lk_sb_names hgn (fun a b ha hb => (rg_h_iff t1 ha hb).symm) t2)
    rw [hm] at hle
    have hcn := lk_c_le g n
    obtain ⟨h, p1, p2, p3, p4⟩ := q2 (by omega)
    obtain ⟨r1, r2, r3⟩ := rg_cnt p1 n (Nat.le_refl n)
    have hco := t3 h f (fun i hi => by rw [← p4]; exact r2 i hi) p3
    have hsame := lk_same t1 (lk_g_ok n h) (fun a b ha hb q => hco a b ha hb ((lk_g_iff h a b).mp q)) (by omega)
    refine ⟨g2, b2, h, ?_, fun i hi => ⟨p2 i hi, by have := rg_lt p1 hi; omega⟩, hsame⟩
    have : f = lk_c g n := by rw [← p4, r3]; exact lk_c_congr n hsame
    rw [this]
theorem s_Malike21 (h7 : n ≤ 7) {bst : Nat → Int32} {h : Nat → Nat} (hb : ∀ i, i < n → bst i = nI (h i) ∧ h i ≤ 7) {a : Nat} (ha : a < n) : f_M_alike_L21 bst (nI a) 300 0 = some (nI (lk_g h a)) := by
  obtain ⟨g1, g2, g3⟩ := lk_g_spec h a
  unfold f_M_alike_L21
  obtain ⟨t, e, hQ⟩ := lp_run0 (fun s => f_M_alike_B21 bst (nI a) s) (fun k s => s = nI k) (fun t => t = nI (lk_g h a)) (lk_g h a) 300 (0 : Int32) (by omega) rfl
    (fun k s hk hs' => by
      subst hs'
      simp only [f_M_alike_B21]
      rw [if_pos (ix_nI (by omega) (by omega)), if_pos (ix_nI (by omega) (by omega)), nI_clamp (by omega), nI_clamp (by omega), (hb k (by omega)).1, (hb a ha).1]
      have b1 := (hb k (by omega)).2
      have b2 := (hb a ha).2
      rw [if_neg (fun z => g3 k hk ((nI_eq (by omega) (by omega)).mp z))]
      exact ⟨_, rfl, nI_1 k⟩)
    (fun s hs' => by
      subst hs'
      simp only [f_M_alike_B21]
      rw [if_pos (ix_nI (by omega) (by omega)), if_pos (ix_nI (by omega) (by omega)), nI_clamp (by omega), nI_clamp (by omega), (hb _ (by omega)).1, (hb a ha).1, if_pos (by rw [g2])]
      exact ⟨_, rfl, rfl⟩)
  rw [e, hQ]
end
