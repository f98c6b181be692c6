/-! SPH: gains; odds: ever, before -/
section
variable {n : Nat} {W : Nat → Nat → Nat} {cnt : Int32} {w : Nat → Nat → Int32} {tot : Nat → Int32}
theorem s_gainEnter (h : repC n W cnt w tot) (gns : Nat → Int64) (G : Int32) : ∃ gns', f_FirstSteps_gainByEntering cnt w tot gns G = some gns' ∧ ∀ i, i < n → gns' i = lI (ch_sm G (ch_p n W i) n : Nat) := by
  have hp := fun i (hi : i < 7) => s_pullInto h hi G
  have hW := h.1
  obtain ⟨⟨h7, h9, h12, hz⟩, hc, hw, ht⟩ := h
  have hsm : ∀ k, k < n → ch_sm G (ch_p n W k) n ≤ 12 := fun k hk => by
    have := ch_sm_le G (ch_p n W k) n
    rw [ch_al_p hk] at this
    have := ch_t_le hW k
    omega
  unfold f_FirstSteps_gainByEntering f_FirstSteps_gainByEntering_L2
  obtain ⟨t, e, hQ⟩ := lp_run0 (fun s => f_FirstSteps_gainByEntering_B2 cnt w tot G s.1 s.2) (fun k s => s.1 = nI k ∧ ∀ i, i < k → s.2 i = lI (ch_sm G (ch_p n W i) n : Nat)) (fun t => ∀ i, i < n → t.2 i = lI (ch_sm G (ch_p n W i) n : Nat)) n 300 (0, gns) (by omega) ⟨rfl, fun i hi => by omega⟩
    (fun k s hk hs => by
      obtain ⟨s1, s2⟩ := s
      obtain ⟨e1, e2⟩ := hs
      dsimp only at e1 e2
      subst e1
      simp only [f_FirstSteps_gainByEntering_B2]
      rw [hp k (by omega), hc, if_neg (nI_ge hk (by omega)), Option.bind_some, if_pos (ix_nI (by omega) (by omega)), nI_clamp (by omega), nI_long _ (by have := hsm k hk; omega)]
      refine ⟨_, rfl, nI_1 k, fun i hi => ?_⟩
      dsimp only
      by_cases e : i = k
      · subst e; rw [pk_uLs]
      · rw [pk_uLn e]; exact e2 i (by omega))
    (fun s hs => by
      obtain ⟨s1, s2⟩ := s
      obtain ⟨e1, e2⟩ := hs
      dsimp only at e1 e2
      subst e1
      simp only [f_FirstSteps_gainByEntering_B2]
      rw [hc, if_pos (nI_le (Nat.le_refl n) (by omega))]
      exact ⟨_, rfl, e2⟩)
  exact ⟨t.2, by rw [e]; rfl, hQ⟩
theorem s_gainStep (h : repC n W cnt w tot) (gns : Nat → Int64) : ∃ gns', f_FirstSteps_gainByStep cnt tot gns = some gns' ∧ ∀ i, i < n → gns' i = lI (ch_t n W i : Nat) := by
  have hp := fun i (hi : i < 7) => s_pullOfAll h hi
  have hW := h.1
  obtain ⟨⟨h7, h9, h12, hz⟩, hc, hw, ht⟩ := h
  unfold f_FirstSteps_gainByStep f_FirstSteps_gainByStep_L2
  obtain ⟨t, e, hQ⟩ := lp_run0 (fun s => f_FirstSteps_gainByStep_B2 cnt tot s.1 s.2) (fun k s => s.1 = nI k ∧ ∀ i, i < k → s.2 i = lI (ch_t n W i : Nat)) (fun t => ∀ i, i < n → t.2 i = lI (ch_t n W i : Nat)) n 300 (0, gns) (by omega) ⟨rfl, fun i hi => by omega⟩
    (fun k s hk hs => by
      obtain ⟨s1, s2⟩ := s
      obtain ⟨e1, e2⟩ := hs
      dsimp only at e1 e2
      subst e1
      simp only [f_FirstSteps_gainByStep_B2]
      rw [hp k (by omega), hc, if_neg (nI_ge hk (by omega)), Option.bind_some, if_pos (ix_nI (by omega) (by omega)), nI_clamp (by omega), nI_long _ (by have := ch_t_le hW k; omega)]
      refine ⟨_, rfl, nI_1 k, fun i hi => ?_⟩
      dsimp only
      by_cases e : i = k
      · subst e; rw [pk_uLs]
      · rw [pk_uLn e]; exact e2 i (by omega))
    (fun s hs => by
      obtain ⟨s1, s2⟩ := s
      obtain ⟨e1, e2⟩ := hs
      dsimp only at e1 e2
      subst e1
      simp only [f_FirstSteps_gainByStep_B2]
      rw [hc, if_pos (nI_le (Nat.le_refl n) (by omega))]
      exact ⟨_, rfl, e2⟩)
  exact ⟨t.2, by rw [e]; rfl, hQ⟩
theorem s_gainBeing (h : repC n W cnt w tot) (gns : Nat → Int64) {b : Nat} (hb : b < n) : ∃ gns', f_FirstSteps_gainByBeingIn cnt tot gns (nI b) = some gns' ∧ ∀ i, i < n → gns' i = lI (if i = b then (ch_t n W i : Int) else 0) := by
  have hp := fun i (hi : i < 7) => s_pullOfAll h hi
  have hW := h.1
  obtain ⟨⟨h7, h9, h12, hz⟩, hc, hw, ht⟩ := h
  unfold f_FirstSteps_gainByBeingIn f_FirstSteps_gainByBeingIn_L2
  obtain ⟨t, e, hQ⟩ := lp_run0 (fun s => f_FirstSteps_gainByBeingIn_B2 cnt tot (nI b) s.1 s.2) (fun k s => s.1 = nI k ∧ ∀ i, i < k → s.2 i = lI (if i = b then (ch_t n W i : Int) else 0)) (fun t => ∀ i, i < n → t.2 i = lI (if i = b then (ch_t n W i : Int) else 0)) n 300 (0, gns) (by omega) ⟨rfl, fun i hi => by omega⟩
    (fun k s hk hs => by
      obtain ⟨s1, s2⟩ := s
      obtain ⟨e1, e2⟩ := hs
      dsimp only at e1 e2
      subst e1
      have fin : ∀ v : Int64, v = lI (if k = b then (ch_t n W k : Int) else 0) → ∀ i, i < k + 1 → vp_updL s2 k v i = lI (if i = b then (ch_t n W i : Int) else 0) := fun v hv i hi => by
        by_cases e : i = k
        · subst e; rw [pk_uLs, hv]
        · rw [pk_uLn e]; exact e2 i (by omega)
      simp only [f_FirstSteps_gainByBeingIn_B2]
      rw [hp k (by omega), hc, if_neg (nI_ge hk (by omega)), Option.bind_some, if_pos (ix_nI (by omega) (by omega)), if_pos (ix_nI (by omega) (by omega)), nI_clamp (by omega), nI_long _ (by have := ch_t_le hW k; omega)]
      by_cases hkb : k = b
      · rw [if_pos (by rw [hkb])]
        exact ⟨_, rfl, nI_1 k, fin _ (by rw [if_pos hkb])⟩
      · rw [if_neg (fun z => hkb ((nI_eq (by omega) (by omega)).mp z))]
        exact ⟨_, rfl, nI_1 k, fin _ (by rw [if_neg hkb]; rfl)⟩)
    (fun s hs => by
      obtain ⟨s1, s2⟩ := s
      obtain ⟨e1, e2⟩ := hs
      dsimp only at e1 e2
      subst e1
      simp only [f_FirstSteps_gainByBeingIn_B2]
      rw [hc, if_pos (nI_le (Nat.le_refl n) (by omega))]
      exact ⟨_, rfl, e2⟩)
  exact ⟨t.2, by rw [e]; rfl, hQ⟩
theorem s_gainReward (h : repC n W cnt w tot) {rew : Nat → Int32} {R : Nat → Int} (hR : ∀ i, i < 7 → rew i = Int32.ofInt (R i) ∧ (R i).natAbs ≤ 100) (gns : Nat → Int64) : ∃ gns', f_FirstSteps_gainByReward cnt tot rew gns = some gns' ∧ ∀ i, i < n → gns' i = lI ((ch_t n W i : Int) * R i) := by
  have hp := fun i (hi : i < 7) => s_pullOfAll h hi
  have hW := h.1
  obtain ⟨⟨h7, h9, h12, hz⟩, hc, hw, ht⟩ := h
  have hrl : ∀ k, k < 7 → (rew k).toInt64 = lI (R k) := fun k hk => by
    have := (hR k hk).2
    rw [(hR k hk).1, ← Int64.ofInt_int32ToInt, Int32.toInt_ofInt_of_le (by omega) (by omega)]
    rfl
  unfold f_FirstSteps_gainByReward f_FirstSteps_gainByReward_L2
  obtain ⟨t, e, hQ⟩ := lp_run0 (fun s => f_FirstSteps_gainByReward_B2 cnt tot rew s.1 s.2) (fun k s => s.1 = nI k ∧ ∀ i, i < k → s.2 i = lI ((ch_t n W i : Int) * R i)) (fun t => ∀ i, i < n → t.2 i = lI ((ch_t n W i : Int) * R i)) n 300 (0, gns) (by omega) ⟨rfl, fun i hi => by omega⟩
    (fun k s hk hs => by
      obtain ⟨s1, s2⟩ := s
      obtain ⟨e1, e2⟩ := hs
      dsimp only at e1 e2
      subst e1
      simp only [f_FirstSteps_gainByReward_B2]
      rw [hp k (by omega), hc, if_neg (nI_ge hk (by omega)), Option.bind_some, if_pos (ix_nI (by omega) (by omega)), if_pos (ix_nI (by omega) (by omega)), nI_clamp (by omega), nI_long _ (by have := ch_t_le hW k; omega), hrl k (by omega), lI_mul]
      refine ⟨_, rfl, nI_1 k, fun i hi => ?_⟩
      dsimp only
      by_cases e : i = k
      · subst e; rw [pk_uLs]
      · rw [pk_uLn e]; exact e2 i (by omega))
    (fun s hs => by
      obtain ⟨s1, s2⟩ := s
      obtain ⟨e1, e2⟩ := hs
      dsimp only at e1 e2
      subst e1
      simp only [f_FirstSteps_gainByReward_B2]
      rw [hc, if_pos (nI_le (Nat.le_refl n) (by omega))]
      exact ⟨_, rfl, e2⟩)
  exact ⟨t.2, by rw [e]; rfl, hQ⟩
end
section
variable {n : Nat} {W : Nat → Nat → Nat} {sts : Int32} {wgt : Nat → Int32}
/-- rows of the odds: goal G, o the states that are laid -/
theorem s_layOddsL (h : repM n W sts wgt) (G y : Int32) {o : Nat → Bool} (ho : ∀ s, s < n → (o s = true ↔ ¬ bt G s = true ∧ bt y s = true)) (cel rig : Nat → Int64) : ∃ t, f_M_layOdds_L16 sts wgt G y 300 (0 : Int32) cel rig = some t ∧ md_ok n W o (fun s => if bt G s = true then 1 else 0) n t.2.1 t.2.2 := by
  have hfix := fun cel rig s (hs : s < n) v => s_fix h.1.1 cel rig hs v
  have hlay := fun cel rig s (hs : s < n) v => s_lay h cel rig hs v
  obtain ⟨⟨h7, h9, h12, hz⟩, hc, -⟩ := h
  unfold f_M_layOdds_L16
  refine lp_run0 (fun q => f_M_layOdds_B16 sts wgt G y q.1 q.2.1 q.2.2) (fun k q => q.1 = nI k ∧ md_ok n W o (fun s => if bt G s = true then 1 else 0) k q.2.1 q.2.2) _ n 300 (0, cel, rig) (by omega) ⟨rfl, fun s hs => by omega⟩
    (fun k q hk hq => by
      obtain ⟨q1, q2, q3⟩ := q
      obtain ⟨e1, e2⟩ := hq
      dsimp only at e1 e2
      subst e1
      simp only [f_M_layOdds_B16]
      rw [s_Mhas _ (by omega), s_Mhas _ (by omega)]
      simp only [Option.bind_some]
      rw [hc] at hlay ⊢
      rw [if_neg (nI_ge hk (by omega))]
      by_cases hb : bt G k = true
      · rw [if_pos hb, if_neg (by decide), if_neg (by decide)]
        simp only [Option.bind_some]
        obtain ⟨c', r', e, hrow⟩ := hfix q2 q3 k hk 1
        rw [e]
        refine ⟨_, rfl, nI_1 k, md_step h7 hk e2 hrow (fun t _ => md_fixed (fun z => ((ho k hk).mp z).1 hb) t) (by rw [if_pos hb]; rfl)⟩
      · rw [if_neg hb, if_pos rfl, if_pos rfl]
        simp only [Option.bind_some]
        by_cases hy : bt y k = true
        · rw [if_pos hy, if_neg (by decide)]
          obtain ⟨c', r', e, hrow⟩ := hlay q2 q3 k hk 0
          rw [e]
          refine ⟨_, rfl, nI_1 k, md_step h7 hk e2 hrow (fun t _ => md_laid ((ho k hk).mpr ⟨hb, hy⟩) t) (by rw [if_neg hb]; rfl)⟩
        · rw [if_neg hy, if_pos rfl]
          obtain ⟨c', r', e, hrow⟩ := hfix q2 q3 k hk 0
          rw [e]
          refine ⟨_, rfl, nI_1 k, md_step h7 hk e2 hrow (fun t _ => md_fixed (fun z => hy ((ho k hk).mp z).2) t) (by rw [if_neg hb]; rfl)⟩)
    (fun q hq => by
      obtain ⟨q1, q2, q3⟩ := q
      obtain ⟨e1, e2⟩ := hq
      dsimp only at e1 e2
      subst e1
      simp only [f_M_layOdds_B16]
      rw [hc, if_pos (nI_le (Nat.le_refl n) (by omega))]
      exact ⟨_, rfl, e2⟩)
end
