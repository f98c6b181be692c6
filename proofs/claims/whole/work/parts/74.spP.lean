/-! SPP: after -/
theorem ch_al_congr {f g : Nat → Nat} : ∀ m, (∀ i, i < m → f i = g i) → ch_al f m = ch_al g m := by
  intro m
  induction m with
  | zero => intro _; rfl
  | succ m ih => intro h; simp only [ch_al]; rw [ih (fun i hi => h i (by omega)), h m (by omega)]
theorem ch_al_add (f g : Nat → Nat) : ∀ m, ch_al (fun i => f i + g i) m = ch_al f m + ch_al g m := by
  intro m
  induction m with
  | zero => rfl
  | succ m ih => simp only [ch_al]; rw [ih]; omega
theorem ch_al_mul (k : Nat) (f : Nat → Nat) : ∀ m, ch_al (fun i => k * f i) m = k * ch_al f m := by
  intro m
  induction m with
  | zero => rfl
  | succ m ih => simp only [ch_al]; rw [ih, Nat.mul_add]
theorem ch_al_zero : ∀ m, ch_al (fun _ => 0) m = 0 := by
  intro m
  induction m with
  | zero => rfl
  | succ m ih => simp only [ch_al]; rw [ih]
theorem ch_al_swap (F : Nat → Nat → Nat) (n : Nat) : ∀ m, ch_al (fun t => ch_al (fun f => F f t) n) m = ch_al (fun f => ch_al (fun t => F f t) m) n := by
  intro m
  induction m with
  | zero => simp only [ch_al]; rw [ch_al_zero]
  | succ m ih => simp only [ch_al]; rw [ih, ← ch_al_add]
theorem ch_al_ge (f : Nat → Nat) {i : Nat} : ∀ m, i < m → f i ≤ ch_al f m := by
  intro m
  induction m with
  | zero => intro h; omega
  | succ m ih =>
    intro h
    simp only [ch_al]
    by_cases e : i = m
    · subst e; omega
    · have := ih (by omega); omega
def af (n : Nat) (W : Nat → Nat → Nat) (z : Nat → Nat) (t : Nat) : Nat := ch_al (fun f => z f * (27720 / ch_t n W f) * ch_p n W f t) n
theorem af_d : ∀ T, T < 13 → 0 < T → (27720 : Int64) / lN T = lN (27720 / T) ∧ ¬ lN T = 0 ∧ 27720 / T * T = 27720 := by decide +kernel
theorem af_sum {n : Nat} {W : Nat → Nat → Nat} (hW : okW n W) (z : Nat → Nat) : ch_al (af n W z) n = 27720 * ch_al z n := by
  unfold af
  rw [ch_al_swap (fun f t => z f * (27720 / ch_t n W f) * ch_p n W f t) n n, ← ch_al_mul]
  refine ch_al_congr n (fun f hf => ?_)
  rw [ch_al_mul, ch_al_p hf, Nat.mul_assoc, (af_d (ch_t n W f) (by have := ch_t_le hW f; omega) (ch_t_pos n W f)).2.2, Nat.mul_comm]
/-- the reference's sum -/
theorem af_ref {n : Nat} {W : Nat → Nat → Nat} (z : Nat → Nat) {t : Nat} (ht : t < n) : (if ch_T W t n = 0 then z t * 27720 else 0) + ch_al (fun s => if ch_T W s n = 0 then 0 else z s * W s t * (27720 / ch_T W s n)) n = af n W z t := by
  unfold af
  have e : ch_al (fun f => z f * (27720 / ch_t n W f) * ch_p n W f t) n = ch_al (fun f => (if f = t then (if ch_T W t n = 0 then z t * 27720 else 0) else 0) + (if ch_T W f n = 0 then 0 else z f * W f t * (27720 / ch_T W f n))) n := ch_al_congr n (fun f hf => by
    unfold ch_t ch_p
    by_cases h0 : ch_T W f n = 0
    · rw [if_pos h0, if_pos h0, if_pos h0]
      by_cases hft : f = t
      · subst hft; rw [if_pos rfl, if_pos rfl, if_pos h0]; simp
      · rw [if_neg hft, if_neg hft]; simp
    · rw [if_neg h0, if_neg h0, if_neg h0]
      by_cases hft : f = t
      · subst hft; rw [if_pos rfl, if_neg h0, Nat.mul_right_comm]; omega
      · rw [if_neg hft, Nat.mul_right_comm]; omega)
  rw [e, ch_al_add]
  congr 1
  have : ∀ (v m : Nat), ch_al (fun f => if f = t then v else 0) m = if t < m then v else 0 := by
    intro v m
    induction m with
    | zero => rfl
    | succ m ih =>
      simp only [ch_al]
      rw [ih]
      by_cases h1 : t < m
      · rw [if_pos h1, if_neg (by omega), if_pos (by omega)]; rfl
      · by_cases h2 : m = t
        · rw [if_neg h1, if_pos h2, if_pos (by omega)]; omega
        · rw [if_neg h1, if_neg h2, if_neg (by omega)]
  rw [this, if_pos ht]
section
variable {n : Nat} {W : Nat → Nat → Nat} {cnt : Int32} {w : Nat → Nat → Int32} {tot : Nat → Int32} {sts : Int32} {wgt : Nat → Int32}
theorem s_goOn (h : repC n W cnt w tot) {now : Nat → Int64} {z : Nat → Nat} (hz : ∀ i, i < n → now i = lN (z i)) (nxt : Nat → Int64) (whl : Int64) : ∃ now' nxt', f_Spread_goOn cnt w tot now nxt whl = some (now', nxt', whl * 27720) ∧ ∀ i, i < n → now' i = lN (af n W z i) := by
  have hW := h.1
  have hp := fun i j (hi : i < 7) (hj : j < 7) => s_pull h hi hj
  have hpa := fun i (hi : i < 7) => s_pullOfAll h hi
  have hpl := ch_p_le hW
  have htl := ch_t_le hW
  obtain ⟨⟨h7, h9, h12, hzz⟩, hc, hw, ht⟩ := h
  have h18 : ∀ t, t < n → ∃ q, f_Spread_goOn_L18 cnt w tot now (nI t) 300 (0 : Int64) (0 : Int32) = some q ∧ q.1 = lN (af n W z t) := fun t htn => by
    unfold f_Spread_goOn_L18 af
    refine lp_run0 (fun s => f_Spread_goOn_B18 cnt w tot now (nI t) s.1 s.2) (fun k s => s.2 = nI k ∧ s.1 = lN (ch_al (fun f => z f * (27720 / ch_t n W f) * ch_p n W f t) k)) _ n 300 (0, 0) (by omega) ⟨rfl, rfl⟩
      (fun k s hk hs => by
        obtain ⟨s1, s2⟩ := s
        obtain ⟨e1, e2⟩ := hs
        dsimp only at e1 e2
        subst e1; subst e2
        simp only [f_Spread_goOn_B18]
        have hd := af_d (ch_t n W k) (by have := htl k; omega) (ch_t_pos n W k)
        rw [hpa k (by omega), hp k t (by omega) (by omega), hc, if_neg (nI_ge hk (by omega)), if_pos (ix_nI (by omega) (by omega)), nI_clamp (by omega)]
        simp only [Option.bind_some]
        rw [nI_l (by have := htl k; omega), if_pos hd.2.1, hd.1, nI_l (by have := hpl k t; omega), hz k hk, lN_mul, lN_mul, lN_add]
        refine ⟨_, rfl, nI_1 k, ?_⟩
        simp only [ch_al])
      (fun s hs => by
        obtain ⟨s1, s2⟩ := s
        obtain ⟨e1, e2⟩ := hs
        dsimp only at e1 e2
        subst e1; subst e2
        simp only [f_Spread_goOn_B18, hc]
        rw [if_pos (nI_le (Nat.le_refl n) (by omega))]
        exact ⟨_, rfl, rfl⟩)
  unfold f_Spread_goOn
  have h2 : ∃ q, f_Spread_goOn_L2 cnt w tot now 300 (0 : Int32) nxt = some q ∧ ∀ i, i < n → q.2 i = lN (af n W z i) := by
    unfold f_Spread_goOn_L2
    refine lp_run0 (fun s => f_Spread_goOn_B2 cnt w tot now s.1 s.2) (fun k s => s.1 = nI k ∧ ∀ i, i < k → s.2 i = lN (af n W z i)) _ n 300 (0, nxt) (by omega) ⟨rfl, fun i hi => by omega⟩
      (fun k s hk hs => by
        obtain ⟨s1, s2⟩ := s
        obtain ⟨e1, e2⟩ := hs
        dsimp only at e1 e2
        subst e1
        obtain ⟨⟨q1, q2⟩, eq, hq⟩ := h18 k hk
        dsimp only at hq
        simp only [f_Spread_goOn_B2]
        rw [eq, hc, if_neg (nI_ge hk (by omega))]
        simp only [Option.bind_some]
        rw [if_pos (ix_nI (by omega) (by omega)), nI_clamp (by omega), hq]
        refine ⟨_, rfl, nI_1 k, fun i hi => ?_⟩
        dsimp only
        by_cases hik : i = k
        · subst hik; rw [pk_uLs]
        · rw [pk_uLn hik]; exact e2 i (by omega))
      (fun s hs => by
        obtain ⟨s1, s2⟩ := s
        obtain ⟨e1, e2⟩ := hs
        dsimp only at e1 e2
        subst e1
        simp only [f_Spread_goOn_B2, hc]
        rw [if_pos (nI_le (Nat.le_refl n) (by omega))]
        exact ⟨_, rfl, e2⟩)
  obtain ⟨⟨a1, a2⟩, ea, ha⟩ := h2
  dsimp only at ha
  rw [ea]
  simp only [Option.bind_some]
  have h88 : ∃ q, f_Spread_goOn_L88 cnt a2 300 (0 : Int32) now = some q ∧ ∀ i, i < n → q.2 i = lN (af n W z i) := by
    unfold f_Spread_goOn_L88
    refine lp_run0 (fun s => f_Spread_goOn_B88 cnt a2 s.1 s.2) (fun k s => s.1 = nI k ∧ ∀ i, i < k → s.2 i = lN (af n W z i)) _ n 300 (0, now) (by omega) ⟨rfl, fun i hi => by omega⟩
      (fun k s hk hs => by
        obtain ⟨s1, s2⟩ := s
        obtain ⟨e1, e2⟩ := hs
        dsimp only at e1 e2
        subst e1
        simp only [f_Spread_goOn_B88]
        rw [hc, if_neg (nI_ge hk (by omega)), if_pos (ix_nI (by omega) (by omega)), if_pos (ix_nI (by omega) (by omega)), nI_clamp (by omega), ha k hk]
        refine ⟨_, rfl, nI_1 k, fun i hi => ?_⟩
        dsimp only
        by_cases hik : i = k
        · subst hik; rw [pk_uLs]
        · rw [pk_uLn hik]; exact e2 i (by omega))
      (fun s hs => by
        obtain ⟨s1, s2⟩ := s
        obtain ⟨e1, e2⟩ := hs
        dsimp only at e1 e2
        subst e1
        simp only [f_Spread_goOn_B88, hc]
        rw [if_pos (nI_le (Nat.le_refl n) (by omega))]
        exact ⟨_, rfl, e2⟩)
  obtain ⟨⟨b1, b2⟩, eb, hb⟩ := h88
  rw [eb]
  exact ⟨_, _, rfl, hb⟩
theorem s_Mgo (h : repM n W sts wgt) {rig : Nat → Int64} {z : Nat → Nat} (hz : ∀ i, i < n → rig i = lN (z i)) (cel : Nat → Int64) : ∃ t q, f_M_after_L86 sts wgt rig 300 (0 : Int32) cel = some t ∧ f_M_after_L205 sts t.2 300 (0 : Int32) rig = some q ∧ ∀ i, i < n → q.2 i = lN (af n W z i) := by
  have hW := h.1
  have hww := fun i j (hi : i < 7) (hj : j < 7) => s_Mw h hi hj
  have htt := fun i (hi : i < 7) => s_Mtotal h hi
  have hee := fun i (hi : i < 7) => s_MisEnd h hi
  obtain ⟨⟨h7, h9, h12, hzz⟩, hc, -⟩ := h
  have h129 : ∀ t, t < n → ∀ (cel : Nat → Int64) (v : Nat), cel t = lN v → ∃ q, f_M_after_L129 sts wgt rig (nI t) 300 (0 : Int32) cel = some q ∧ q.2 t = lN (v + ch_al (fun s => if ch_T W s n = 0 then 0 else z s * W s t * (27720 / ch_T W s n)) n) ∧ ∀ i, i ≠ t → q.2 i = cel i := fun t htn cel v hv => by
    unfold f_M_after_L129
    refine lp_run0 (fun s => f_M_after_B129 sts wgt rig (nI t) s.1 s.2) (fun k s => s.1 = nI k ∧ s.2 t = lN (v + ch_al (fun s => if ch_T W s n = 0 then 0 else z s * W s t * (27720 / ch_T W s n)) k) ∧ ∀ i, i ≠ t → s.2 i = cel i) _ n 300 (0, cel) (by omega) ⟨rfl, hv, fun _ _ => rfl⟩
      (fun k s hk hs => by
        obtain ⟨s1, s2⟩ := s
        obtain ⟨e1, e2, e3⟩ := hs
        dsimp only at e1 e2 e3
        subst e1
        simp only [f_M_after_B129]
        have i49 : ix (nI t) 49 = true := ix_nI (by omega) (by omega)
        have i7' : ix (nI k) 7 = true := ix_nI (by omega) (by omega)
        rw [hee k (by omega), hww k t (by omega) (by omega), htt k (by omega)]
        simp only [Option.bind_some, if_pos i49, if_pos i7', hc]
        rw [if_neg (nI_ge hk (by omega)), nI_clamp (by omega), nI_clamp (by omega), e2]
        by_cases h0 : ch_T W k n = 0
        · rw [if_pos h0, if_neg c10]
          refine ⟨_, rfl, nI_1 k, ?_, fun i hi => ?_⟩
          · dsimp only
            rw [pk_uLs]
            simp only [ch_al]
            rw [if_pos h0]
            exact lN_add _ 0
          · dsimp only
            rw [pk_uLn hi]; exact e3 i hi
        · have hd := af_d (ch_T W k n) (by have := h12 k; omega) (by omega)
          rw [if_neg h0, if_pos rfl, nI_l (show ch_T W k n < 2 ^ 31 by have := h12 k; omega), nI_l (show W k t < 2 ^ 31 by have := h9 k t; omega), if_pos hd.2.1, hd.1, hz k hk, lN_mul, lN_mul, lN_add]
          refine ⟨_, rfl, nI_1 k, ?_, fun i hi => ?_⟩
          · dsimp only
            rw [pk_uLs]
            simp only [ch_al]
            rw [if_neg h0, Nat.add_assoc]
          · dsimp only
            rw [pk_uLn hi]; exact e3 i hi)
      (fun s hs => by
        obtain ⟨s1, s2⟩ := s
        obtain ⟨e1, e2, e3⟩ := hs
        dsimp only at e1 e2 e3
        subst e1
        simp only [f_M_after_B129, hc]
        rw [if_pos (nI_le (Nat.le_refl n) (by omega))]
        exact ⟨_, rfl, e2, e3⟩)
  have h86 : ∃ q, f_M_after_L86 sts wgt rig 300 (0 : Int32) cel = some q ∧ ∀ i, i < n → q.2 i = lN (af n W z i) := by
    unfold f_M_after_L86
    refine lp_run0 (fun s => f_M_after_B86 sts wgt rig s.1 s.2) (fun k s => s.1 = nI k ∧ ∀ i, i < k → s.2 i = lN (af n W z i)) _ n 300 (0, cel) (by omega) ⟨rfl, fun i hi => by omega⟩
      (fun k s hk hs => by
        obtain ⟨s1, s2⟩ := s
        obtain ⟨e1, e2⟩ := hs
        dsimp only at e1 e2
        subst e1
        simp only [f_M_after_B86]
        rw [hee k (by omega)]
        have hj : (if (if ch_T W k n = 0 then (1 : Int32) else 0) = 0 then some (0 : Int64) else if ix (nI k) 7 = true then some ((rig (nI k).toNatClampNeg) * (27720 : Int64)) else none) = some (lN (if ch_T W k n = 0 then z k * 27720 else 0)) := by
          by_cases h0 : ch_T W k n = 0
          · rw [if_pos h0, if_neg c10, if_pos (ix_nI (by omega) (by omega)), nI_clamp (by omega), hz k hk, if_pos h0]
            exact congrArg some (lN_mul (z k) 27720)
          · rw [if_neg h0, if_pos rfl, if_neg h0]; rfl
        simp only [Option.bind_some]
        rw [hj]
        simp only [Option.bind_some]
        have i49 : ix (nI k) 49 = true := ix_nI (by omega) (by omega)
        rw [if_pos i49, nI_clamp (by omega)]
        obtain ⟨⟨q1, q2⟩, eq, hq1, hq2⟩ := h129 k hk (vp_updL s2 k (lN (if ch_T W k n = 0 then z k * 27720 else 0))) _ pk_uLs
        dsimp only at hq1 hq2
        rw [eq]
        simp only [Option.bind_some]
        rw [hc, if_neg (nI_ge hk (by omega))]
        refine ⟨_, rfl, nI_1 k, fun i hi => ?_⟩
        dsimp only
        by_cases hik : i = k
        · subst hik; rw [hq1, af_ref z hk]
        · rw [hq2 i hik, pk_uLn hik]; exact e2 i (by omega))
      (fun s hs => by
        obtain ⟨s1, s2⟩ := s
        obtain ⟨e1, e2⟩ := hs
        dsimp only at e1 e2
        subst e1
        simp only [f_M_after_B86, hc]
        rw [if_pos (nI_le (Nat.le_refl n) (by omega))]
        exact ⟨_, rfl, e2⟩)
  obtain ⟨⟨a1, a2⟩, ea, ha⟩ := h86
  dsimp only at ha
  have h205 : ∃ q, f_M_after_L205 sts a2 300 (0 : Int32) rig = some q ∧ ∀ i, i < n → q.2 i = lN (af n W z i) := by
    unfold f_M_after_L205
    refine lp_run0 (fun s => f_M_after_B205 sts a2 s.1 s.2) (fun k s => s.1 = nI k ∧ ∀ i, i < k → s.2 i = lN (af n W z i)) _ n 300 (0, rig) (by omega) ⟨rfl, fun i hi => by omega⟩
      (fun k s hk hs => by
        obtain ⟨s1, s2⟩ := s
        obtain ⟨e1, e2⟩ := hs
        dsimp only at e1 e2
        subst e1
        simp only [f_M_after_B205]
        rw [hc, if_neg (nI_ge hk (by omega)), if_pos (ix_nI (by omega) (by omega)), if_pos (ix_nI (by omega) (by omega)), nI_clamp (by omega), ha k hk]
        refine ⟨_, rfl, nI_1 k, fun i hi => ?_⟩
        dsimp only
        by_cases hik : i = k
        · subst hik; rw [pk_uLs]
        · rw [pk_uLn hik]; exact e2 i (by omega))
      (fun s hs => by
        obtain ⟨s1, s2⟩ := s
        obtain ⟨e1, e2⟩ := hs
        dsimp only at e1 e2
        subst e1
        simp only [f_M_after_B205, hc]
        rw [if_pos (nI_le (Nat.le_refl n) (by omega))]
        exact ⟨_, rfl, e2⟩)
  obtain ⟨q, eq, hq⟩ := h205
  exact ⟨(a1, a2), q, ea, eq, hq⟩
def af_n (n : Nat) (W : Nat → Nat → Nat) (a : Nat) : Nat → Nat → Nat
  | 0 => fun i => if i = a then 1 else 0
  | k + 1 => af n W (af_n n W a k)
theorem af_tot (hW : okW n W) {a : Nat} (ha : a < n) : ∀ k, ch_al (af_n n W a k) n = 27720 ^ k := by
  intro k
  induction k with
  | zero =>
    have := ch_al_one a n
    rw [if_pos ha] at this
    rw [Nat.pow_zero, ← this]
    exact ch_al_congr n (fun i _ => by
      show (if i = a then 1 else 0) = if a = i then 1 else 0
      by_cases e : i = a
      · rw [if_pos e, if_pos e.symm]
      · rw [if_neg e, if_neg (fun z => e z.symm)])
  | succ k ih => show ch_al (af n W (af_n n W a k)) n = _; rw [af_sum hW, ih, Nat.pow_succ, Nat.mul_comm]
theorem e_after (hC : repC n W cnt w tot) (hM : repM n W sts wgt) (now nxt : Nat → Int64) (whl u v : Int64) (cel rig : Nat → Int64) (p1 p2 p3 : Int32) :
    ∃ r now' nxt' whl' u' v' cel' rig', f_CS_after cnt w tot now nxt whl u v p1 p2 p3 = some (r, now', nxt', whl', u', v') ∧ f_M_after sts wgt u v cel rig p1 p2 p3 = some (r, 0, u', v', cel', rig') := by
  have hW := hC.1
  have h7 := hC.1.1
  have hc := hC.2.1
  have hs := hM.2.1
  have e4' : (4 : Int32) = nI 4 := by decide
  have e7 : (7 : Int32) = nI 7 := by decide
  unfold f_CS_after f_M_after
  rcases has_both h7 hc hs p1 with ⟨a, ha, rfl, e1, e2⟩ | ⟨e1, e2⟩
  · simp only [e1, e2, Option.bind_some, if_neg c10]
    rcases has_both h7 hc hs p2 with ⟨b, hb, rfl, e3, e4⟩ | ⟨e3, e4⟩
    · simp only [e3, e4, Option.bind_some, if_neg c10]
      unfold f_M_within
      by_cases q1 : p3 < 0
      · simp only [if_pos q1, Option.bind_some, if_true]
        exact ⟨_, _, _, _, _, _, _, _, rfl, rfl⟩
      · obtain ⟨m, hm, rfl⟩ := nI_of q1
        simp only [if_neg q1]
        by_cases q2 : m ≤ 4
        · have l1 : nI m ≤ (4 : Int32) := by rw [e4']; exact nI_le q2 (by omega)
          have l2 : ¬ (4 : Int32) < nI m := by rw [e4']; exact nI_nlt q2 (by omega)
          simp only [if_pos l1, if_neg l2, Option.bind_some, if_neg c10]
          have hst : ∃ now1, f_Spread_start now (nI a) = some (now1, 1) ∧ ∀ i, i < n → now1 i = lN (af_n n W a 0 i) := by
            unfold f_Spread_start f_Spread_start_L2
            obtain ⟨t, e, hQ⟩ := lp_run0 (fun s => f_Spread_start_B2 (nI a) s.1 s.2) (fun k s => s.1 = nI k ∧ ∀ i, i < k → s.2 i = lN (if i = a then 1 else 0)) (fun t => ∀ i, i < 7 → t.2 i = lN (if i = a then 1 else 0)) 7 300 (0, now) (by omega) ⟨rfl, fun i hi => by omega⟩
              (fun k s hk hs => by
                obtain ⟨s1, s2⟩ := s
                obtain ⟨g1, g2⟩ := hs
                dsimp only at g1 g2
                subst g1
                have fin : ∀ x : Int64, x = lN (if k = a then 1 else 0) → ∀ i, i < k + 1 → vp_updL s2 k x i = lN (if i = a then 1 else 0) := fun x hx i hi => by
                  by_cases hik : i = k
                  · subst hik; rw [pk_uLs, hx]
                  · rw [pk_uLn hik]; exact g2 i (by omega)
                simp only [f_Spread_start_B2]
                rw [if_neg (show ¬ (7 : Int32) ≤ nI k by rw [e7]; exact nI_ge hk (by omega)), if_pos (ix_nI (by omega) (by omega)), if_pos (ix_nI (by omega) (by omega)), nI_clamp (by omega)]
                by_cases hka : k = a
                · rw [if_pos (by rw [hka])]
                  exact ⟨_, rfl, nI_1 k, fin _ (by rw [if_pos hka]; rfl)⟩
                · rw [if_neg (fun z => hka ((nI_eq (by omega) (by omega)).mp z))]
                  exact ⟨_, rfl, nI_1 k, fin _ (by rw [if_neg hka]; rfl)⟩)
              (fun s hs => by
                obtain ⟨s1, s2⟩ := s
                obtain ⟨g1, g2⟩ := hs
                dsimp only at g1 g2
                subst g1
                simp only [f_Spread_start_B2]
                rw [if_pos (show (7 : Int32) ≤ nI 7 by decide)]
                exact ⟨_, rfl, g2⟩)
            exact ⟨t.2, by rw [e]; rfl, fun i hi => hQ i (by omega)⟩
          obtain ⟨now1, es, hn1⟩ := hst
          have hL47 : ∃ t, f_CS_after_L47 cnt w tot (nI m) 300 (0 : Int32) now1 nxt 1 = some t ∧ (∀ i, i < n → t.2.1 i = lN (af_n n W a m i)) ∧ t.2.2.2 = lN (27720 ^ m) := by
            unfold f_CS_after_L47
            refine lp_run0 (fun s => f_CS_after_B47 cnt w tot (nI m) s.1 s.2.1 s.2.2.1 s.2.2.2) (fun k s => s.1 = nI k ∧ (∀ i, i < n → s.2.1 i = lN (af_n n W a k i)) ∧ s.2.2.2 = lN (27720 ^ k)) _ m 300 (0, now1, nxt, 1) (by omega) ⟨rfl, hn1, rfl⟩
              (fun k s hk hs => by
                obtain ⟨s1, s2, s3, s4⟩ := s
                obtain ⟨g1, g2, g3⟩ := hs
                dsimp only at g1 g2 g3
                subst g1; subst g3
                simp only [f_CS_after_B47]
                rw [if_neg (nI_ge hk (by omega))]
                obtain ⟨n1, n2, en, hn⟩ := s_goOn hC g2 s3 (lN (27720 ^ k))
                rw [en]
                refine ⟨_, rfl, nI_1 k, hn, ?_⟩
                dsimp only
                rw [Nat.pow_succ]
                exact lN_mul _ 27720)
              (fun s hs => by
                obtain ⟨s1, s2, s3, s4⟩ := s
                obtain ⟨g1, g2, g3⟩ := hs
                dsimp only at g1 g2 g3
                subst g1
                simp only [f_CS_after_B47]
                rw [if_pos (nI_le (Nat.le_refl m) (by omega))]
                exact ⟨_, rfl, g2, g3⟩)
          have hL41 : ∃ t, f_M_after_L41 sts (nI a) 300 (0 : Int32) rig = some t ∧ ∀ i, i < n → t.2 i = lN (af_n n W a 0 i) := by
            unfold f_M_after_L41
            refine lp_run0 (fun s => f_M_after_B41 sts (nI a) s.1 s.2) (fun k s => s.1 = nI k ∧ ∀ i, i < k → s.2 i = lN (af_n n W a 0 i)) _ n 300 (0, rig) (by omega) ⟨rfl, fun i hi => by omega⟩
              (fun k s hk hs0 => by
                obtain ⟨s1, s2⟩ := s
                obtain ⟨g1, g2⟩ := hs0
                dsimp only at g1 g2
                subst g1
                have fin : ∀ x : Int64, x = lN (if k = a then 1 else 0) → ∀ i, i < k + 1 → vp_updL s2 k x i = lN (af_n n W a 0 i) := fun x hx i hi => by
                  by_cases hik : i = k
                  · subst hik; rw [pk_uLs, hx]; rfl
                  · rw [pk_uLn hik]; exact g2 i (by omega)
                simp only [f_M_after_B41]
                rw [hs, if_neg (nI_ge hk (by omega)), if_pos (ix_nI (by omega) (by omega)), if_pos (ix_nI (by omega) (by omega)), nI_clamp (by omega)]
                by_cases hka : k = a
                · rw [if_pos (by rw [hka])]
                  exact ⟨_, rfl, nI_1 k, fin _ (by rw [if_pos hka]; rfl)⟩
                · rw [if_neg (fun z => hka ((nI_eq (by omega) (by omega)).mp z))]
                  exact ⟨_, rfl, nI_1 k, fin _ (by rw [if_neg hka]; rfl)⟩)
              (fun s hs0 => by
                obtain ⟨s1, s2⟩ := s
                obtain ⟨g1, g2⟩ := hs0
                dsimp only at g1 g2
                subst g1
                simp only [f_M_after_B41, hs]
                rw [if_pos (nI_le (Nat.le_refl n) (by omega))]
                exact ⟨_, rfl, g2⟩)
          obtain ⟨⟨r1, r2⟩, er, hr⟩ := hL41
          dsimp only at hr
          have hL77 : ∃ t, f_M_after_L77 sts wgt (nI m) 300 (1 : Int64) (0 : Int32) cel r2 = some t ∧ t.1 = lN (27720 ^ m) ∧ ∀ i, i < n → t.2.2.2 i = lN (af_n n W a m i) := by
            unfold f_M_after_L77
            refine lp_run0 (fun s => f_M_after_B77 sts wgt (nI m) s.1 s.2.1 s.2.2.1 s.2.2.2) (fun k s => s.1 = lN (27720 ^ k) ∧ s.2.1 = nI k ∧ ∀ i, i < n → s.2.2.2 i = lN (af_n n W a k i)) _ m 300 (1, 0, cel, r2) (by omega) ⟨rfl, rfl, hr⟩
              (fun k s hk hs0 => by
                obtain ⟨s1, s2, s3, s4⟩ := s
                obtain ⟨g1, g2, g3⟩ := hs0
                dsimp only at g1 g2 g3
                subst g1; subst g2
                simp only [f_M_after_B77]
                rw [if_neg (nI_ge hk (by omega))]
                obtain ⟨⟨x1, x2⟩, y, ex, ey, hy⟩ := s_Mgo hM g3 s3
                dsimp only at ey
                rw [ex]
                simp only [Option.bind_some]
                rw [ey]
                refine ⟨_, rfl, ?_, nI_1 k, hy⟩
                dsimp only
                rw [Nat.pow_succ]
                exact lN_mul _ 27720)
              (fun s hs0 => by
                obtain ⟨s1, s2, s3, s4⟩ := s
                obtain ⟨g1, g2, g3⟩ := hs0
                dsimp only at g1 g2 g3
                subst g2
                simp only [f_M_after_B77]
                rw [if_pos (nI_le (Nat.le_refl m) (by omega))]
                exact ⟨_, rfl, g1, g3⟩)
          obtain ⟨⟨x1, x2, x3, x4⟩, ex, hx1, hx2⟩ := hL47
          obtain ⟨⟨y1, y2, y3, y4⟩, ey, hy1, hy2⟩ := hL77
          dsimp only at hx1 hx2 hy1 hy2
          rw [es, er]
          simp only [Option.bind_some]
          rw [ex, ey]
          simp only [Option.bind_some]
          have i7' : ix (nI b) 7 = true := ix_nI (by omega) (by omega)
          rw [if_pos i7', if_pos i7', nI_clamp (by omega), hx1 b hb, hy2 b hb, hx2, hy1]
          have hle := ch_al_ge (af_n n W a m) n hb
          rw [af_tot hW ha m] at hle
          have hp4 : ∀ m, m ≤ 4 → 27720 ^ m ≤ 590436101122560000 ∧ 0 < 27720 ^ m := by decide +kernel
          have hp := hp4 m q2
          have k1 : lN (af_n n W a m b) = lI (af_n n W a m b : Nat) := rfl
          have k2 : lN (27720 ^ m) = lI (27720 ^ m : Nat) := rfl
          rw [k1, k2, s_put (smL.nat (by omega)) (smL.nat (by omega)) (by omega), s_answer (smL.nat (by omega)) (smL.nat (by omega)) (by omega)]
          exact ⟨_, _, _, _, _, _, _, _, rfl, rfl⟩
        · have l1 : ¬ nI m ≤ (4 : Int32) := by rw [e4']; exact nI_ge (by omega) (by omega)
          have l2 : (4 : Int32) < nI m := by rw [e4']; exact nI_lt (by omega) (by omega)
          simp only [if_neg l1, if_pos l2, Option.bind_some, if_true]
          exact ⟨_, _, _, _, _, _, _, _, rfl, rfl⟩
    · simp only [e3, e4, Option.bind_some, if_true]
      exact ⟨_, _, _, _, _, _, _, _, rfl, rfl⟩
  · simp only [e1, e2, Option.bind_some, if_true]
    exact ⟨_, _, _, _, _, _, _, _, rfl, rfl⟩
end
