/-! SP4: what the reference's small methods answer; its ways -/
def repM (n : Nat) (W : Nat → Nat → Nat) (sts : Int32) (wgt : Nat → Int32) : Prop := okW n W ∧ sts = nI n ∧ (∀ i j, i < 7 → j < 7 → wgt (7 * i + j) = nI (W i j))
theorem s_Mhas (x : Int32) {k : Nat} (hk : k < 32) : f_M_has x (nI k) = some (if bt x k = true then 1 else 0) := by
  unfold f_M_has
  rw [b_bit x k hk]
  cases bt x k <;> decide
theorem s_MisState {n : Nat} (hn : n ≤ 7) {sts : Int32} (hc : sts = nI n) (x : Int32) : (∃ k, k < n ∧ x = nI k ∧ f_M_isState sts x = some 1) ∨ (f_M_isState sts x = some 0 ∧ ∀ k, k < n → x ≠ nI k) := by
  unfold f_M_isState f_M_within
  subst hc
  by_cases h1 : x < 0
  · rw [if_pos h1]
    refine Or.inr ⟨rfl, fun k hk e => ?_⟩
    subst e
    exact nI_pos (by omega) h1
  · obtain ⟨j, hj, rfl⟩ := nI_of h1
    rw [if_neg h1]
    have key : nI n - 1 < nI j ↔ n ≤ j := by
      cases n with
      | zero =>
        constructor
        · intro _; omega
        · intro _
          have e : (nI 0 - 1 : Int32) = -1 := by decide
          rw [e, Int32.lt_iff_toInt_lt, nI_toInt hj]
          have : ((-1 : Int32).toInt) = -1 := by decide
          omega
      | succ n => rw [nI_pred, nI_ltI (by omega) hj]; omega
    by_cases h2 : nI n - 1 < nI j
    · rw [if_pos h2]
      refine Or.inr ⟨rfl, fun k hk e => ?_⟩
      have := key.mp h2
      have := (nI_eq hj (by omega)).mp e
      omega
    · rw [if_neg h2]
      refine Or.inl ⟨j, ?_, rfl, rfl⟩
      exact Nat.not_le.mp (fun h3 => h2 (key.mpr h3))
def mE (n : Nat) (W : Nat → Nat → Nat) (i j : Nat) : Prop := i < n ∧ j < n ∧ 0 < W i j
theorem mE_E {n : Nat} {W : Nat → Nat → Nat} {i j : Nat} (h : mE n W i j) : ch_E n W i j := by
  refine ⟨h.1, h.2.1, ?_⟩
  unfold ch_p
  have h1 := ch_T_le W i j n h.2.1
  have h2 := h.2.2
  rw [if_neg (by omega)]
  exact h2
theorem E_mE {n : Nat} {W : Nat → Nat → Nat} {i j : Nat} (h : ch_E n W i j) : i = j ∨ mE n W i j := by
  obtain ⟨h1, h2, h3⟩ := h
  unfold ch_p at h3
  by_cases e : ch_T W i n = 0
  · rw [if_pos e] at h3
    by_cases e2 : i = j
    · exact Or.inl e2
    · rw [if_neg e2] at h3; omega
  · rw [if_neg e] at h3
    exact Or.inr ⟨h1, h2, h3⟩
theorem R_mE {n : Nat} {W : Nat → Nat → Nat} {S : Nat → Prop} {i j : Nat} : ch_R (ch_E n W) S i j ↔ ch_R (mE n W) S i j := by
  constructor
  · intro h
    refine ch_R_ind (fun x => ch_R (mE n W) S x j) (ch_R_refl _ _ _) ?_ i h
    intro x m h1 h2 _ h3
    rcases E_mE h2 with e | e
    · subst e; exact h3
    · exact ch_R_left h1 e h3
  · intro h
    refine ch_R_ind (fun x => ch_R (ch_E n W) S x j) (ch_R_refl _ _ _) ?_ i h
    intro x m h1 h2 _ h3
    exact ch_R_left h1 (mE_E h2) h3
section
variable {n : Nat} {W : Nat → Nat → Nat} {sts : Int32} {wgt : Nat → Int32}
theorem s_Mw (h : repM n W sts wgt) {i j : Nat} (hi : i < 7) (hj : j < 7) : f_M_w wgt (nI i) (nI j) = some (nI (W i j)) := by
  obtain ⟨⟨h7, h9, h12, hz⟩, hc, hw⟩ := h
  unfold f_M_w
  have e : (7 : Int32) * nI i + nI j = nI (7 * i + j) := by
    have e7 : (7 : Int32) = nI 7 := by decide
    rw [e7, pk_mul, nI_add]
  rw [e, if_pos (ix_nI (by omega) (by omega)), nI_clamp (by omega), hw i j hi hj]
theorem s_Mtotal (h : repM n W sts wgt) {i : Nat} (hi : i < 7) : f_M_total sts wgt (nI i) = some (nI (ch_T W i n)) := by
  have hp := fun j (hj : j < 7) => s_Mw h hi hj
  obtain ⟨⟨h7, h9, h12, hz⟩, hc, hw⟩ := h
  unfold f_M_total f_M_total_L4
  obtain ⟨t, e, hQ⟩ := lp_run0 (fun s => f_M_total_B4 sts wgt (nI i) s.1 s.2) (fun k s => s = (nI (ch_T W i k), nI k)) (fun t => t.1 = nI (ch_T W i n)) n 300 (0, 0) (by omega) rfl
    (fun k s hk hs => by
      subst hs
      simp only [f_M_total_B4, hc]
      rw [if_neg (nI_ge hk (by omega)), hp k (by omega)]
      refine ⟨_, rfl, ?_⟩
      simp only [ch_T, nI_1, nI_add])
    (fun s hs => by
      subst hs
      simp only [f_M_total_B4, hc]
      rw [if_pos (nI_le (Nat.le_refl n) (by omega))]
      exact ⟨_, rfl, rfl⟩)
  rw [e]
  obtain ⟨t1, t2⟩ := t
  simp only [Option.bind_some]
  rw [show t1 = _ from hQ]
theorem s_MisEnd (h : repM n W sts wgt) {i : Nat} (hi : i < 7) : f_M_isEnd sts wgt (nI i) = some (if ch_T W i n = 0 then 1 else 0) := by
  have hp := s_Mtotal h hi
  obtain ⟨⟨h7, h9, h12, hz⟩, hc, hw⟩ := h
  unfold f_M_isEnd
  rw [hp, Option.bind_some]
  by_cases e : ch_T W i n = 0
  · rw [if_pos e, e, if_pos nI_0]
  · rw [if_neg e, if_neg (nI_ne0 (by omega) (by have := h12 i; omega))]
/-- one state's next ones, laid into x -/
theorem s_Mreach28 (h : repM n W sts wgt) (seen stops x : Int32) {a : Nat} (ha : a < n) : ∃ t, f_M_reach_L28 sts wgt stops seen (nI a) 300 x 0 = some t ∧ ∀ i, i < 32 → (bt t.1 i = true ↔ bt x i = true ∨ (bt seen a = true ∧ ¬ bS stops a ∧ mE n W a i)) := by
  have hp := fun j (hj : j < 7) => s_Mw h (i := a) (by have := h.1.1; omega) hj
  obtain ⟨⟨h7, h9, h12, hz⟩, hc, hw⟩ := h
  unfold f_M_reach_L28
  refine lp_run0 (fun s => f_M_reach_B28 sts wgt stops seen (nI a) s.1 s.2) (fun k s => s.2 = nI k ∧ ∀ i, i < 32 → (bt s.1 i = true ↔ bt x i = true ∨ (i < k ∧ bt seen a = true ∧ ¬ bS stops a ∧ mE n W a i))) (fun t => ∀ i, i < 32 → (bt t.1 i = true ↔ bt x i = true ∨ (bt seen a = true ∧ ¬ bS stops a ∧ mE n W a i))) n 300 (x, 0) (by omega) ⟨rfl, fun i _ => ⟨Or.inl, fun z => z.elim id (fun q => by omega)⟩⟩
    (fun k s hk hs => by
      obtain ⟨s1, s2⟩ := s
      obtain ⟨e1, e2⟩ := hs
      dsimp only at e1 e2
      subst e1
      simp only [f_M_reach_B28, hc]
      rw [if_neg (nI_ge hk (by omega)), s_Mhas _ (by omega), Option.bind_some]
      by_cases hb : bt seen a = true
      · rw [if_pos hb, if_neg (by decide), s_Mhas _ (by omega), Option.bind_some]
        by_cases hst : bt stops a = true
        · rw [if_pos hst, if_neg (by decide)]
          refine ⟨_, rfl, fun i hi => ?_⟩
          rw [e2 i hi]
          exact ⟨fun z => z.elim Or.inl (fun q => absurd hst q.2.2.1), fun z => z.elim Or.inl (fun q => absurd hst q.2.1)⟩
        · rw [if_neg hst, if_pos rfl, hp k (by omega), Option.bind_some]
          by_cases hw0 : W a k = 0
          · rw [hw0, if_pos (by decide)]
            refine ⟨_, rfl, nI_1 k, fun i hi => ?_⟩
            rw [e2 i hi]
            constructor
            · rintro (q | q)
              · exact Or.inl q
              · exact Or.inr ⟨by omega, q.2⟩
            · rintro (q | q)
              · exact Or.inl q
              · refine Or.inr ⟨?_, q.2⟩
                rcases Nat.lt_or_ge i k with z | z
                · exact z
                · have : i = k := by omega
                  subst this
                  have := q.2.2.2.2.2
                  omega
          · rw [if_neg (nI_nle (by omega) (by have := h9 a k; omega))]
            refine ⟨_, rfl, nI_1 k, fun i hi => ?_⟩
            dsimp only
            rw [b_or, Bool.or_eq_true, e2 i hi, b_one k (by omega) hi, decide_eq_true_eq]
            constructor
            · rintro ((q | q) | q)
              · exact Or.inl q
              · exact Or.inr ⟨by omega, q.2⟩
              · subst q
                exact Or.inr ⟨by omega, hb, hst, ha, hk, by omega⟩
            · rintro (q | q)
              · exact Or.inl (Or.inl q)
              · rcases Nat.lt_or_ge i k with z | z
                · exact Or.inl (Or.inr ⟨z, q.2⟩)
                · exact Or.inr (by omega)
      · rw [if_neg hb, if_pos rfl]
        refine ⟨_, rfl, fun i hi => ?_⟩
        rw [e2 i hi]
        exact ⟨fun z => z.elim Or.inl (fun q => absurd q.2.1 hb), fun z => z.elim Or.inl (fun q => absurd q.1 hb)⟩)
    (fun s hs => by
      obtain ⟨s1, s2⟩ := s
      obtain ⟨e1, e2⟩ := hs
      dsimp only at e1 e2
      subst e1
      simp only [f_M_reach_B28, hc]
      rw [if_pos (nI_le (Nat.le_refl n) (by omega))]
      refine ⟨_, rfl, fun i hi => ?_⟩
      rw [e2 i hi]
      exact ⟨fun z => z.elim Or.inl (fun q => Or.inr q.2), fun z => z.elim Or.inl (fun q => Or.inr ⟨q.2.2.2.1, q⟩)⟩)
theorem s_Mreach16 (h : repM n W sts wgt) (seen stops : Int32) : ∃ t, f_M_reach_L16 sts wgt stops seen 300 seen 0 = some t ∧ ∀ i, i < 32 → (bt t.1 i = true ↔ bt seen i = true ∨ ∃ a, bt seen a = true ∧ ¬ bS stops a ∧ mE n W a i) := by
  have h28 := fun x a (ha : a < n) => s_Mreach28 h seen stops x ha
  obtain ⟨⟨h7, h9, h12, hz⟩, hc, hw⟩ := h
  unfold f_M_reach_L16
  refine lp_run0 (fun s => f_M_reach_B16 sts wgt stops seen s.1 s.2) (fun k s => s.2 = nI k ∧ ∀ i, i < 32 → (bt s.1 i = true ↔ bt seen i = true ∨ ∃ a, a < k ∧ bt seen a = true ∧ ¬ bS stops a ∧ mE n W a i)) (fun t => ∀ i, i < 32 → (bt t.1 i = true ↔ bt seen i = true ∨ ∃ a, bt seen a = true ∧ ¬ bS stops a ∧ mE n W a i)) n 300 (seen, 0) (by omega) ⟨rfl, fun i _ => ⟨Or.inl, fun z => z.elim id (fun ⟨a, q, _⟩ => by omega)⟩⟩
    (fun k s hk hs => by
      obtain ⟨s1, s2⟩ := s
      obtain ⟨e1, e2⟩ := hs
      dsimp only at e1 e2
      subst e1
      obtain ⟨t, e, hQ⟩ := h28 s1 k hk
      simp only [f_M_reach_B16]
      rw [e]
      simp only [hc]
      rw [if_neg (nI_ge hk (by omega))]
      refine ⟨_, rfl, nI_1 k, fun i hi => ?_⟩
      obtain ⟨t1, t2⟩ := t
      dsimp only at hQ ⊢
      rw [hQ i hi, e2 i hi]
      constructor
      · rintro ((q | ⟨a, q1, q2⟩) | q)
        · exact Or.inl q
        · exact Or.inr ⟨a, by omega, q2⟩
        · exact Or.inr ⟨k, by omega, q⟩
      · rintro (q | ⟨a, q1, q2⟩)
        · exact Or.inl (Or.inl q)
        · rcases Nat.lt_or_ge a k with z | z
          · exact Or.inl (Or.inr ⟨a, z, q2⟩)
          · have : a = k := by omega
            subst this
            exact Or.inr q2)
    (fun s hs => by
      obtain ⟨s1, s2⟩ := s
      obtain ⟨e1, e2⟩ := hs
      dsimp only at e1 e2
      subst e1
      simp only [f_M_reach_B16, hc]
      rw [if_pos (nI_le (Nat.le_refl n) (by omega))]
      refine ⟨_, rfl, fun i hi => ?_⟩
      rw [e2 i hi]
      exact ⟨fun z => z.elim Or.inl (fun ⟨a, q⟩ => Or.inr ⟨a, q.2⟩), fun z => z.elim Or.inl (fun ⟨a, q⟩ => Or.inr ⟨a, q.2.2.1, q⟩)⟩)
theorem s_Mreach (h : repM n W sts wgt) (G stops : Int32) (hG : ∀ i, i < 32 → bt G i = true → i < n) : ∃ x, f_M_reach sts wgt G stops = some x ∧ isS x n (fun j => ∃ i, bt G i = true ∧ ch_R (mE n W) (bS stops) i j) := by
  have h16 := fun seen => s_Mreach16 h seen stops
  obtain ⟨⟨h7, h9, h12, hz⟩, hc, hw⟩ := h
  unfold f_M_reach f_M_reach_L5
  obtain ⟨t, e, hQ⟩ := lp_mu (fun s => f_M_reach_B5 sts wgt stops s.1 s.2)
    (fun s => (∀ i, bt G i = true → bt s.1 i = true) ∧ (∀ j, j < 32 → bt s.1 j = true → j < n ∧ ∃ i, bt G i = true ∧ ch_R (mE n W) (bS stops) i j) ∧ (s.2 = 0 → ∀ i j, bt s.1 i = true → ¬ bS stops i → mE n W i j → bt s.1 j = true))
    (fun s => 2 * (n - ch_cd s.1 n) + (if s.2 = 0 then 0 else 1))
    (fun t => isS t.1 n (fun j => ∃ i, bt G i = true ∧ ch_R (mE n W) (bS stops) i j))
    (fun s hs => by
      obtain ⟨s1, s2⟩ := s
      obtain ⟨e1, e2, e3⟩ := hs
      dsimp only at e1 e2 e3
      simp only [f_M_reach_B5]
      by_cases h0 : s2 = 0
      · rw [if_pos h0]
        refine ⟨_, rfl, fun j hj => ⟨e2 j hj, fun q => ?_⟩⟩
        obtain ⟨-, i, q1, q2⟩ := q
        exact ch_R_fwd (C := fun i => bt s1 i = true) (fun x y p1 p2 p3 => e3 h0 x y p1 p2 p3) (e1 i q1) q2
      · rw [if_neg h0]
        obtain ⟨t, e, hQ⟩ := h16 s1
        obtain ⟨t1, t2⟩ := t
        rw [e, Option.bind_some]
        dsimp only at hQ ⊢
        have hsub : ∀ i, i < n → bt s1 i = true → bt t1 i = true := fun i hi hb => (hQ i (by omega)).mpr (Or.inl hb)
        have hsound : ∀ j, j < 32 → bt t1 j = true → j < n ∧ ∃ i, bt G i = true ∧ ch_R (mE n W) (bS stops) i j := fun j hj hb => by
          rcases (hQ j hj).mp hb with q | ⟨a, q1, q2, q3⟩
          · exact e2 j hj q
          · obtain ⟨-, i, p1, p2⟩ := e2 a (by have := q3.1; omega) q1
            exact ⟨q3.2.1, i, p1, ch_R_right p2 q2 q3⟩
        have hG2 : ∀ i, bt G i = true → bt t1 i = true := fun i hb => by
          rcases Nat.lt_or_ge i 32 with q | q
          · exact (hQ i q).mpr (Or.inl (e1 i hb))
          · rw [b_big q] at hb; cases hb
        by_cases heq : t1 = s1
        · rw [if_pos heq]
          refine ⟨_, rfl, ⟨hG2, hsound, fun _ i j p1 p2 p3 => ?_⟩, ?_⟩
          · dsimp only at p1 ⊢
            rw [heq] at p1
            exact (hQ j (by have := p3.2.1; omega)).mpr (Or.inr ⟨i, p1, p2, p3⟩)
          · dsimp only
            rw [heq, if_pos rfl, if_neg h0]; omega
        · rw [if_neg heq]
          refine ⟨_, rfl, ⟨hG2, hsound, fun z => by cases z⟩, ?_⟩
          dsimp only
          rw [if_neg (by decide), if_neg h0]
          have hex : ∃ i, i < n ∧ bt t1 i = true ∧ ¬ bt s1 i = true := by
            refine Classical.byContradiction (fun hno => heq (b_ext (fun i hi => ?_)))
            cases hb : bt t1 i
            · cases hb2 : bt s1 i
              · rfl
              · have := (e2 i hi hb2).1
                rw [hsub i this hb2] at hb; cases hb
            · have h1 := (hsound i hi hb).1
              cases hb2 : bt s1 i
              · exact absurd ⟨i, h1, hb, by rw [hb2]; decide⟩ hno
              · rfl
          have := ch_cd_lt n hsub hex
          have := ch_cd_le t1 n
          omega)
    300 (G, 1) ⟨fun _ z => z, fun j hj hb => ⟨hG j hj hb, j, hb, ch_R_refl _ _ _⟩, fun z => by cases z⟩ (by
      dsimp only
      split <;> omega)
  obtain ⟨t1, t2⟩ := t
  exact ⟨t1, by rw [e]; rfl, hQ⟩
theorem s_Mwhence (h : repM n W sts wgt) (G stops : Int32) (hG : ∀ i, i < 32 → bt G i = true → i < n) : ∃ x, f_M_whence sts wgt G stops = some x ∧ isS x n (fun i => ∃ g, bt G g = true ∧ ch_R (mE n W) (bS stops) i g) := by
  have hr := fun k (hk : k < n) => s_Mreach h ((1 : Int32) <<< (nI k &&& 31)) stops (fun i hi hb => by
    rw [b_one k (by have := h.1.1; omega) hi, decide_eq_true_eq] at hb; omega)
  obtain ⟨⟨h7, h9, h12, hz⟩, hc, hw⟩ := h
  unfold f_M_whence f_M_whence_L5
  obtain ⟨t, e, hQ⟩ := lp_run0 (fun s => f_M_whence_B5 sts wgt G stops s.1 s.2) (fun k s => s.2 = nI k ∧ isS s.1 n (fun i => i < k ∧ ∃ g, bt G g = true ∧ ch_R (mE n W) (bS stops) i g)) (fun t => isS t.1 n (fun i => ∃ g, bt G g = true ∧ ch_R (mE n W) (bS stops) i g)) n 300 (0, 0) (by omega) ⟨rfl, isS_congr isS_0 (fun j _ => ⟨fun z => z.elim, fun z => by omega⟩)⟩
    (fun k s hk hs => by
      obtain ⟨s1, s2⟩ := s
      obtain ⟨e1, e2⟩ := hs
      dsimp only at e1 e2
      subst e1
      obtain ⟨x, hx, hxs⟩ := hr k hk
      simp only [f_M_whence_B5]
      rw [hx]
      simp only [hc]
      rw [if_neg (nI_ge hk (by omega)), Option.bind_some]
      have hiff : (x &&& G) = 0 ↔ ¬ ∃ g, bt G g = true ∧ ch_R (mE n W) (bS stops) k g := by
        constructor
        · rintro z ⟨g, q1, q2⟩
          have hg32 : g < 32 := by
            rcases Nat.lt_or_ge g 32 with q | q
            · exact q
            · rw [b_big q] at q1; cases q1
          have q3 : bt (x &&& G) g = true := by
            rw [b_and, q1, (hxs g hg32).mpr ⟨hG g hg32 q1, k, by rw [b_one k (by omega) (by omega)]; simp, q2⟩]; rfl
          rw [z, b_0] at q3; cases q3
        · intro z
          apply b_ext
          intro j hj
          rw [b_and, b_0]
          cases hgj : bt G j
          · simp
          · cases hxj : bt x j
            · rfl
            · obtain ⟨-, i, q1, q2⟩ := (hxs j hj).mp hxj
              have hi32 : i < 32 := by
                rcases Nat.lt_or_ge i 32 with q | q
                · exact q
                · rw [b_big q] at q1; cases q1
              rw [b_one k (by omega) hi32, decide_eq_true_eq] at q1
              subst q1
              exact absurd ⟨j, hgj, q2⟩ z
      by_cases hx0 : (x &&& G) = 0
      · rw [if_pos hx0]
        refine ⟨_, rfl, nI_1 k, isS_congr e2 (fun j _ => ⟨fun z => ⟨by omega, z.2⟩, fun z => ⟨?_, z.2⟩⟩)⟩
        rcases Nat.lt_or_ge j k with q | q
        · exact q
        · have : j = k := by omega
          subst this
          exact absurd z.2 (hiff.mp hx0)
      · rw [if_neg hx0]
        have hP : ∃ g, bt G g = true ∧ ch_R (mE n W) (bS stops) k g := Classical.byContradiction (fun z => hx0 (hiff.mpr z))
        refine ⟨_, rfl, nI_1 k, isS_congr (isS_or e2 (isS_one hk h7)) (fun j _ => ⟨?_, ?_⟩)⟩
        · rintro (z | z)
          · exact ⟨by omega, z.2⟩
          · subst z; exact ⟨by omega, hP⟩
        · rintro ⟨z1, z2⟩
          rcases Nat.lt_or_ge j k with q | q
          · exact Or.inl ⟨q, z2⟩
          · exact Or.inr (by omega))
    (fun s hs => by
      obtain ⟨s1, s2⟩ := s
      obtain ⟨e1, e2⟩ := hs
      dsimp only at e1 e2
      subst e1
      simp only [f_M_whence_B5, hc]
      rw [if_pos (nI_le (Nat.le_refl n) (by omega))]
      exact ⟨_, rfl, isS_congr e2 (fun j hj => ⟨fun z => z.2, fun z => ⟨hj, z⟩⟩)⟩)
  obtain ⟨t1, t2⟩ := t
  exact ⟨t1, by rw [e]; rfl, hQ⟩
end
