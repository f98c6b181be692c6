/-! SPS: share, the reference's loops -/
section
variable {n : Nat} {W : Nat → Nat → Nat} {sts : Int32} {wgt : Nat → Int32}
theorem s_share115 (h : repM n W sts wgt) (y : Int32) {t : Nat} (ht : t < n) (cel rig : Nat → Int64) : ∃ q, f_M_share_L115 sts wgt y (nI t) 300 (0 : Int32) cel rig = some q ∧ md_ok n W (fun s => bt y s && !decide (s = t)) (fun _ => 0) n q.2.1 q.2.2 := by
  have hfix := fun cel rig s (hs : s < n) v => s_fix h.1.1 cel rig hs v
  have hlay := fun cel rig s (hs : s < n) v => s_lay h cel rig hs v
  obtain ⟨⟨h7, h9, h12, hz⟩, hc, -⟩ := h
  unfold f_M_share_L115
  refine lp_run0 (fun q => f_M_share_B115 sts wgt y (nI t) q.1 q.2.1 q.2.2) (fun k q => q.1 = nI k ∧ md_ok n W (fun s => bt y s && !decide (s = t)) (fun _ => 0) k q.2.1 q.2.2) _ n 300 (0, cel, rig) (by omega) ⟨rfl, fun s hs => by omega⟩
    (fun k q hk hq => by
      obtain ⟨q1, q2, q3⟩ := q
      obtain ⟨e1, e2⟩ := hq
      dsimp only at e1 e2
      subst e1
      simp only [f_M_share_B115]
      rw [s_Mhas _ (by omega)]
      simp only [Option.bind_some]
      rw [hc] at hlay ⊢
      rw [if_neg (nI_ge hk (by omega))]
      by_cases hb : bt y k = true
      · rw [if_pos hb, if_neg c10]
        by_cases hkt : k = t
        · rw [if_pos (by rw [hkt])]
          obtain ⟨c', r', e, hrow⟩ := hfix q2 q3 k hk 0
          rw [e]
          exact ⟨_, rfl, nI_1 k, md_step h7 hk e2 hrow (fun u _ => md_fixed (by simp [hkt]) u) rfl⟩
        · rw [if_neg (fun z => hkt ((nI_eq (by omega) (by omega)).mp z))]
          obtain ⟨c', r', e, hrow⟩ := hlay q2 q3 k hk 0
          rw [e]
          exact ⟨_, rfl, nI_1 k, md_step h7 hk e2 hrow (fun u _ => md_laid (by simp [hkt, hb]) u) rfl⟩
      · rw [if_neg hb, if_pos rfl]
        obtain ⟨c', r', e, hrow⟩ := hfix q2 q3 k hk 0
        rw [e]
        exact ⟨_, rfl, nI_1 k, md_step h7 hk e2 hrow (fun u _ => md_fixed (by simp [hb]) u) rfl⟩)
    (fun q hq => by
      obtain ⟨q1, q2, q3⟩ := q
      obtain ⟨e1, e2⟩ := hq
      dsimp only at e1 e2
      subst e1
      simp only [f_M_share_B115]
      rw [hc, if_pos (nI_le (Nat.le_refl n) (by omega))]
      exact ⟨_, rfl, e2⟩)
theorem s_share166 (h7 : n ≤ 7) (hc : sts = nI n) {t : Nat} (ht : t < n) (cel : Nat → Int64) : ∃ q, f_M_share_L166 sts (nI t) 300 (0 : Int32) cel = some q ∧ (∀ s, s < n → q.2 (7 * s + t) = lI (if s = t then 1 else 0)) ∧ ∀ s c, s < n → c < n → c ≠ t → q.2 (7 * s + c) = cel (7 * s + c) := by
  unfold f_M_share_L166
  refine lp_run0 (fun q => f_M_share_B166 sts (nI t) q.1 q.2) (fun k q => q.1 = nI k ∧ (∀ s, s < k → q.2 (7 * s + t) = lI (if s = t then 1 else 0)) ∧ ∀ s c, s < n → c < n → c ≠ t → q.2 (7 * s + c) = cel (7 * s + c)) _ n 300 (0, cel) (by omega) ⟨rfl, fun s hs => by omega, fun _ _ _ _ _ => rfl⟩
    (fun k q hk hq => by
      obtain ⟨q1, q2⟩ := q
      obtain ⟨e1, e2, e3⟩ := hq
      dsimp only at e1 e2 e3
      subst e1
      have fin : ∀ x : Int64, x = lI (if k = t then 1 else 0) → (∀ s, s < k + 1 → vp_updL q2 (7 * k + t) x (7 * s + t) = lI (if s = t then 1 else 0)) ∧ ∀ s c, s < n → c < n → c ≠ t → vp_updL q2 (7 * k + t) x (7 * s + c) = cel (7 * s + c) := fun x hx => by
        refine ⟨fun s hs => ?_, fun s c h1 h2 h3 => ?_⟩
        · by_cases e : s = k
          · subst e; rw [pk_uLs, hx]
          · rw [pk_uLn (by omega)]; exact e2 s (by omega)
        · rw [pk_uLn (by omega)]; exact e3 s c h1 h2 h3
      simp only [f_M_share_B166, i7]
      rw [hc, if_neg (nI_ge hk (by omega)), if_pos (ix_nI (by omega) (by omega)), if_pos (ix_nI (by omega) (by omega)), nI_clamp (by omega)]
      by_cases hkt : k = t
      · rw [if_pos (by rw [hkt])]
        exact ⟨_, rfl, nI_1 k, fin _ (by rw [if_pos hkt]; rfl)⟩
      · rw [if_neg (fun z => hkt ((nI_eq (by omega) (by omega)).mp z))]
        exact ⟨_, rfl, nI_1 k, fin _ (by rw [if_neg hkt]; rfl)⟩)
    (fun q hq => by
      obtain ⟨q1, q2⟩ := q
      obtain ⟨e1, e2, e3⟩ := hq
      dsimp only at e1 e2 e3
      subst e1
      simp only [f_M_share_B166]
      rw [hc, if_pos (nI_le (Nat.le_refl n) (by omega))]
      exact ⟨_, rfl, e2, e3⟩)
theorem s_share94 (h : repM n W sts wgt) (y : Int32) {b : Nat} (hb : b < n) (hyb : bt y b = true) (cel rig sum : Nat → Int64) : ∃ q, f_M_share_L94 sts wgt (nI b) y 300 (0 : Int64) (0 : Int64) (0 : Int32) cel rig sum = some q ∧ q.1 = lI ((ch_T W b n : Int) * cof n (md_B n W (fun s => bt y s)) b) ∧ q.2.1 = lI (mm_T (fun k => (if bt y k = true then (ch_T W k n : Int) else 0) * cof n (md_B n W (fun s => bt y s)) k) 0 n) := by
  have h115 := fun t (ht : t < n) cel rig => s_share115 h y ht cel rig
  have htot := fun s (hs : s < n) => s_Mtotal h (i := s) (by have := h.1.1; omega)
  obtain ⟨⟨h7, h9, h12, hz⟩, hc, -⟩ := h
  unfold f_M_share_L94
  refine lp_run0 (fun q => f_M_share_B94 sts wgt (nI b) y q.1 q.2.1 q.2.2.1 q.2.2.2.1 q.2.2.2.2.1 q.2.2.2.2.2) (fun k q => (b < k → q.1 = lI ((ch_T W b n : Int) * cof n (md_B n W (fun s => bt y s)) b)) ∧ q.2.1 = lI (mm_T (fun k => (if bt y k = true then (ch_T W k n : Int) else 0) * cof n (md_B n W (fun s => bt y s)) k) 0 k) ∧ q.2.2.1 = nI k) _ n 300 (0, 0, 0, cel, rig, sum) (by omega) ⟨fun z => by omega, rfl, rfl⟩
    (fun k q hk hq => by
      obtain ⟨q1, q2, q3, q4, q5, q6⟩ := q
      obtain ⟨e1, e2, e3⟩ := hq
      dsimp only at e1 e2 e3
      subst e2; subst e3
      simp only [f_M_share_B94]
      rw [s_Mhas _ (by omega)]
      simp only [Option.bind_some]
      by_cases hy : bt y k = true
      · rw [if_pos hy, if_neg c10]
        obtain ⟨⟨a1, a2, a3⟩, ea, hmd⟩ := h115 k hk q4 q5
        dsimp only at hmd
        obtain ⟨⟨d1, d2⟩, ed, hd1, hd2⟩ := s_share166 h7 hc hk a2
        dsimp only at hd1 hd2
        obtain ⟨sum', es⟩ := s_all h7 (cel := d2) (rig := a3) (B := fun s c => if c = k then (if s = k then 1 else 0) else md_B n W (fun s => bt y s && !decide (s = k)) s c) (b := fun _ => 0) (fun s c hs hcc => by
          by_cases e : c = k
          · subst e; rw [hd1 s hs, if_pos rfl]
          · rw [hd2 s c hs hcc e, if_neg e]; exact (hmd s hs).1 c hcc) (fun s hs => (hmd s hs).2) (pl := -1) (c := 50) (fun u hu => ⟨fun z => by
            have h1 : ¬ nI u < 0 := nI_pos (by omega)
            rw [z] at h1
            exact absurd (by decide) h1, fun z => by omega⟩) q6
        have hcf : dt_D (mm_V (fun s c => if c = 50 then (fun _ => (0 : Int)) s else (fun s c => if c = k then (if s = k then (1 : Int) else 0) else md_B n W (fun s => bt y s && !decide (s = k)) s c) s c) n) (mm_I n) = cof n (md_B n W (fun s => bt y s)) k := cof_unit hk (fun c hcc => by
          dsimp only
          rw [if_neg (by omega)]
          by_cases e : c = k
          · rw [if_pos e, if_pos e, if_pos rfl]
          · rw [if_neg e, if_neg e]
            unfold md_B
            rw [if_neg (by simp), if_neg e]) (fun s c hs hcc hsk hck => by
          dsimp only
          rw [if_neg (by omega), if_neg hck]
          unfold md_B
          by_cases hS : bt y s = true
          · rw [if_pos hS, if_pos (by simp [hS, hsk])]
          · rw [if_neg hS, if_neg (by simp [hS])])
        rw [hcf] at es
        rw [ea]
        simp only [Option.bind_some]
        rw [ed]
        simp only [Option.bind_some]
        rw [htot k hk]
        simp only [Option.bind_some]
        rw [hc, es]
        simp only [Option.bind_some]
        rw [nI_long _ (by have := h12 k; omega), lI_mul, lI_add, if_neg (nI_ge hk (by omega))]
        have hw : mm_T (fun k => (if bt y k = true then (ch_T W k n : Int) else 0) * cof n (md_B n W (fun s => bt y s)) k) 0 (k + 1) = mm_T (fun k => (if bt y k = true then (ch_T W k n : Int) else 0) * cof n (md_B n W (fun s => bt y s)) k) 0 k + (ch_T W k n : Int) * cof n (md_B n W (fun s => bt y s)) k := by
          rw [mm_T_snoc, Nat.zero_add, if_pos hy]
        by_cases hkb : k = b
        · rw [if_pos (by rw [hkb])]
          refine ⟨_, rfl, fun _ => ?_, ?_, nI_1 k⟩
          · dsimp only; rw [hkb]
          · dsimp only; rw [hw]
        · rw [if_neg (fun z => hkb ((nI_eq (by omega) (by omega)).mp z))]
          refine ⟨_, rfl, fun z => e1 (by omega), ?_, nI_1 k⟩
          dsimp only; rw [hw]
      · rw [if_neg hy, if_pos rfl, hc, if_neg (nI_ge hk (by omega))]
        refine ⟨_, rfl, fun z => e1 (by
          rcases Nat.lt_or_ge b k with q | q
          · exact q
          · have : b = k := by omega
            subst this
            exact absurd hyb hy), ?_, nI_1 k⟩
        dsimp only
        rw [mm_T_snoc, Nat.zero_add, if_neg hy]
        refine congrArg lI ?_
        omega)
    (fun q hq => by
      obtain ⟨q1, q2, q3, q4, q5, q6⟩ := q
      obtain ⟨e1, e2, e3⟩ := hq
      dsimp only at e1 e2 e3
      subst e3
      simp only [f_M_share_B94]
      rw [hc, if_pos (nI_le (Nat.le_refl n) (by omega))]
      exact ⟨_, rfl, e1 hb, e2⟩)
end
