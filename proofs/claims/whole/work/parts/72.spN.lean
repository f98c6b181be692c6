/-! SPN: clear, state, arc, reward -/
def Rel (n : Nat) (W : Nat → Nat → Nat) (R : Nat → Int) (cnt : Int32) (w : Nat → Nat → Int32) (tot rew : Nat → Int32) (sts : Int32) (wgt rwd : Nat → Int32) : Prop := repC n W cnt w tot ∧ repM n W sts wgt ∧ (∀ i, i < 7 → rew i = Int32.ofInt (R i) ∧ (R i).natAbs ≤ 100) ∧ (∀ i, i < 7 → rwd i = Int32.ofInt (R i) ∧ (R i).natAbs ≤ 100)
section
variable {n : Nat} {W : Nat → Nat → Nat} {R : Nat → Int} {cnt : Int32} {w : Nat → Nat → Int32} {tot rew : Nat → Int32} {sts : Int32} {wgt rwd : Nat → Int32}
theorem e_state (h : Rel n W R cnt w tot rew sts wgt rwd) : ∃ r cnt' sts' n', f_CS_state cnt = some (r, cnt') ∧ f_M_state sts = some (r, 0, sts') ∧ Rel n' W R cnt' w tot rew sts' wgt rwd := by
  obtain ⟨hC, hM, h3, h4⟩ := h
  obtain ⟨⟨h7, h9, h12, hz⟩, hc, hw, ht⟩ := id hC
  have hs := hM.2.1
  unfold f_CS_state f_M_state
  have e7 : (7 : Int32) = nI 7 := by decide
  by_cases hn : n < 7
  · rw [hc, hs, if_pos (by rw [e7]; exact nI_lt hn (by omega)), if_neg (by rw [e7]; intro z; have := (nI_eq (by omega) (by omega)).mp z; omega)]
    have hTn : ∀ i, ch_T W i (n + 1) = ch_T W i n := fun i => by
      show ch_T W i n + W i n = _
      rw [hz i n (Or.inr (Nat.le_refl n))]; rfl
    have hok : okW (n + 1) W := ⟨by omega, h9, fun i => by rw [hTn i]; exact h12 i, fun i j hij => hz i j (by omega)⟩
    exact ⟨_, _, _, n + 1, rfl, rfl, ⟨hok, nI_1 n, hw, fun i hi => by rw [hTn i]; exact ht i hi⟩, ⟨hok, nI_1 n, hM.2.2⟩, h3, h4⟩
  · have hn7 : n = 7 := by omega
    rw [if_neg (by rw [hc, e7, hn7]; exact nI_nlt (Nat.le_refl 7) (by omega)), if_pos (by rw [hs, e7, hn7])]
    exact ⟨_, _, _, n, rfl, rfl, hC, hM, h3, h4⟩
def ch_up (W : Nat → Nat → Nat) (a b p : Nat) (i j : Nat) : Nat := if i = a ∧ j = b then p else W i j
theorem ch_up_T (W : Nat → Nat → Nat) (a b p : Nat) : ∀ m, ch_T (ch_up W a b p) a m + (if b < m then W a b else 0) = ch_T W a m + (if b < m then p else 0) := by
  intro m
  induction m with
  | zero => rfl
  | succ m ih =>
    simp only [ch_T]
    by_cases h1 : b < m
    · rw [if_pos h1, if_pos h1] at ih
      rw [if_pos (by omega), if_pos (by omega)]
      have : ch_up W a b p a m = W a m := by unfold ch_up; rw [if_neg (by omega)]
      omega
    · rw [if_neg h1, if_neg h1] at ih
      by_cases h2 : m = b
      · subst h2
        rw [if_pos (by omega), if_pos (by omega)]
        have : ch_up W a m p a m = p := by unfold ch_up; rw [if_pos ⟨rfl, rfl⟩]
        omega
      · rw [if_neg (by omega), if_neg (by omega)]
        have : ch_up W a b p a m = W a m := by unfold ch_up; rw [if_neg (by omega)]
        omega
theorem ch_up_T' (W : Nat → Nat → Nat) (a b p : Nat) {i : Nat} (hi : i ≠ a) : ∀ m, ch_T (ch_up W a b p) i m = ch_T W i m := by
  intro m
  induction m with
  | zero => rfl
  | succ m ih =>
    simp only [ch_T]
    rw [ih]
    have : ch_up W a b p i m = W i m := by unfold ch_up; rw [if_neg (fun z => hi z.1)]
    omega
theorem e_arc (h : Rel n W R cnt w tot rew sts wgt rwd) (p1 p2 p3 : Int32) : ∃ r w' tot' wgt' W', f_CS_arc cnt w tot p1 p2 p3 = some (r, w', tot') ∧ f_M_arc sts wgt p1 p2 p3 = some (r, 0, wgt') ∧ Rel n W' R cnt w' tot' rew sts wgt' rwd := by
  obtain ⟨hC, hM, h3, h4⟩ := id h
  obtain ⟨⟨h7, h9, h12, hz⟩, hc, hw, ht⟩ := id hC
  have hs := hM.2.1
  unfold f_CS_arc f_M_arc
  rcases has_both h7 hc hs p1 with ⟨a, ha, rfl, e1, e2⟩ | ⟨e1, e2⟩
  · simp only [e1, e2, Option.bind_some, if_neg c10]
    rcases has_both h7 hc hs p2 with ⟨b, hb, rfl, e3, e4⟩ | ⟨e3, e4⟩
    · simp only [e3, e4, Option.bind_some, if_neg c10]
      rw [s_Mw hM (by omega) (by omega), s_Mtotal hM (by omega)]
      simp only [Option.bind_some]
      unfold f_M_within
      by_cases q1 : p3 < 0
      · rw [if_pos q1, if_pos q1]
        simp only [Option.bind_some, if_true]
        exact ⟨_, _, _, _, W, rfl, rfl, h⟩
      · obtain ⟨p, hp, rfl⟩ := nI_of q1
        rw [if_neg q1, if_neg q1]
        have e9 : (9 : Int32) = nI 9 := by decide
        have e12 : (12 : Int32) = nI 12 := by decide
        by_cases q2 : p ≤ 9
        · rw [if_pos (by rw [e9]; exact nI_le q2 (by omega)), if_neg (show ¬ (9 : Int32) < nI p by rw [e9]; exact nI_nlt q2 (by omega))]
          simp only [Option.bind_some, if_neg c10]
          have hle := ch_T_le W a b n hb
          have hTa := h12 a
          rw [nI_clamp (by omega), nI_clamp (by omega), ht a (by omega), hw a b (by omega) (by omega), pk_sub hle, nI_add, i7, nI_clamp (by omega)]
          have i_a : ix (nI a) 7 = true := ix_nI (by omega) (by omega)
          have i_b : ix (nI b) 7 = true := ix_nI (by omega) (by omega)
          have i_c : ix (nI (7 * a + b)) 49 = true := ix_nI (by omega) (by omega)
          simp only [if_pos i_a, if_pos i_b, if_pos i_c]
          by_cases q3 : ch_T W a n - W a b + p ≤ 12
          · have l12 : nI (ch_T W a n - W a b + p) ≤ (12 : Int32) := by rw [e12]; exact nI_le q3 (by omega)
            simp only [if_pos l12]
            have hT1 := ch_up_T W a b p n
            rw [if_pos hb, if_pos hb] at hT1
            have hok : okW n (ch_up W a b p) := by
              refine ⟨h7, fun i j => ?_, fun i => ?_, fun i j hij => ?_⟩
              · unfold ch_up; have := h9 i j; split <;> omega
              · by_cases hi : i = a
                · subst hi; omega
                · rw [ch_up_T' W a b p hi]; exact h12 i
              · unfold ch_up; rw [if_neg (by omega)]; exact hz i j hij
            refine ⟨_, _, _, _, ch_up W a b p, rfl, rfl, ⟨hok, hc, fun i j hi hj => ?_, fun i hi => ?_⟩, ⟨hok, hs, fun i j hi hj => ?_⟩, h3, h4⟩
            · unfold ch_up
              by_cases hia : i = a
              · subst hia
                rw [up_s]
                by_cases hjb : j = b
                · subst hjb; rw [pk_us, if_pos ⟨rfl, rfl⟩]
                · rw [pk_un hjb, if_neg (fun z => hjb z.2)]; exact hw i j hi hj
              · rw [up_n hia, if_neg (fun z => hia z.1)]; exact hw i j hi hj
            · by_cases hia : i = a
              · subst hia
                rw [pk_us]
                refine congrArg nI ?_
                omega
              · rw [pk_un hia, ch_up_T' W a b p hia]; exact ht i hi
            · unfold ch_up
              by_cases hij : i = a ∧ j = b
              · rw [if_pos hij, hij.1, hij.2, pk_us]
              · rw [if_neg hij, pk_un (by omega)]; exact hM.2.2 i j hi hj
          · have l12 : ¬ nI (ch_T W a n - W a b + p) ≤ (12 : Int32) := by rw [e12]; exact nI_ge (by omega) (by omega)
            simp only [if_neg l12]
            exact ⟨_, _, _, _, W, rfl, rfl, h⟩
        · rw [if_neg (by rw [e9]; exact nI_ge (by omega) (by omega)), if_pos (show (9 : Int32) < nI p by rw [e9]; exact nI_lt (by omega) (by omega))]
          simp only [Option.bind_some, if_true]
          exact ⟨_, _, _, _, W, rfl, rfl, h⟩
    · simp only [e3, e4, Option.bind_some, if_true]
      exact ⟨_, _, _, _, W, rfl, rfl, h⟩
  · simp only [e1, e2, Option.bind_some, if_true]
    exact ⟨_, _, _, _, W, rfl, rfl, h⟩
theorem e_reward (h : Rel n W R cnt w tot rew sts wgt rwd) (p1 p2 : Int32) : ∃ r rew' rwd' R', f_CS_reward cnt rew p1 p2 = some (r, rew') ∧ f_M_reward sts rwd p1 p2 = some (r, 0, rwd') ∧ Rel n W R' cnt w tot rew' sts wgt rwd' := by
  obtain ⟨hC, hM, h3, h4⟩ := id h
  have h7 := hC.1.1
  unfold f_CS_reward f_M_reward
  rcases has_both h7 hC.2.1 hM.2.1 p1 with ⟨a, ha, rfl, e1, e2⟩ | ⟨e1, e2⟩
  · simp only [e1, e2, Option.bind_some, if_neg c10]
    unfold f_M_within
    by_cases q1 : p2 < (-100 : Int32)
    · rw [if_pos q1, if_pos q1]
      simp only [Option.bind_some, if_true]
      exact ⟨_, _, _, R, rfl, rfl, h⟩
    · rw [if_neg q1, if_neg q1]
      by_cases q2 : p2 ≤ (100 : Int32)
      · rw [if_pos q2, if_neg (show ¬ (100 : Int32) < p2 by rw [Int32.lt_iff_toInt_lt]; rw [Int32.le_iff_toInt_le] at q2; omega)]
        simp only [Option.bind_some, if_neg c10]
        rw [nI_clamp (by omega)]
        iterate 4 rw [if_pos (ix_nI (by omega) (by omega))]
        rw [(h3 a (by omega)).1, (h4 a (by omega)).1]
        have hb : (p2.toInt).natAbs ≤ 100 := by
          rw [Int32.lt_iff_toInt_lt] at q1
          rw [Int32.le_iff_toInt_le] at q2
          have k1 : (-100 : Int32).toInt = -100 := by decide
          have k2 : (100 : Int32).toInt = 100 := by decide
          omega
        refine ⟨_, _, _, fun i => if i = a then p2.toInt else R i, rfl, rfl, hC, hM, fun i hi => ?_, fun i hi => ?_⟩
        · by_cases hia : i = a
          · subst hia
            dsimp only
            rw [pk_us, if_pos rfl]
            exact ⟨(Int32.ofInt_toInt p2).symm, hb⟩
          · dsimp only
            rw [pk_un hia, if_neg hia]; exact h3 i hi
        · by_cases hia : i = a
          · subst hia
            dsimp only
            rw [pk_us, if_pos rfl]
            exact ⟨(Int32.ofInt_toInt p2).symm, hb⟩
          · dsimp only
            rw [pk_un hia, if_neg hia]; exact h4 i hi
      · rw [if_neg q2, if_pos (show (100 : Int32) < p2 by rw [Int32.lt_iff_toInt_lt]; rw [Int32.le_iff_toInt_le] at q2; omega)]
        simp only [Option.bind_some, if_true]
        exact ⟨_, _, _, R, rfl, rfl, h⟩
  · simp only [e1, e2, Option.bind_some, if_true]
    exact ⟨_, _, _, R, rfl, rfl, h⟩
theorem s_removeAll (w : Nat → Nat → Int32) (tot rew : Nat → Int32) : ∃ w' tot' rew', f_Chain_removeAll w tot rew = some (0, w', tot', rew') ∧ (∀ i j, i < 7 → j < 7 → w' i j = nI 0) ∧ (∀ i, i < 7 → tot' i = nI 0) ∧ (∀ i, i < 7 → rew' i = 0) := by
  unfold f_Chain_removeAll f_Chain_removeAll_L2
  have e7 : (7 : Int32) = nI 7 := by decide
  obtain ⟨t, e, hQ⟩ := lp_run0 (fun s => f_Chain_removeAll_B2 s.1 s.2.1 s.2.2.1 s.2.2.2) (fun k s => s.1 = nI k ∧ (∀ i j, i < k → j < 7 → s.2.1 i j = nI 0) ∧ (∀ i, i < k → s.2.2.1 i = nI 0) ∧ (∀ i, i < k → s.2.2.2 i = 0)) (fun t => (∀ i j, i < 7 → j < 7 → t.2.1 i j = nI 0) ∧ (∀ i, i < 7 → t.2.2.1 i = nI 0) ∧ (∀ i, i < 7 → t.2.2.2 i = 0)) 7 300 (0, w, tot, rew) (by omega) ⟨rfl, fun i j hi => by omega, fun i hi => by omega, fun i hi => by omega⟩
    (fun k s hk hs => by
      obtain ⟨s1, s2, s3, s4⟩ := s
      obtain ⟨e1, e2, e3, e4⟩ := hs
      dsimp only at e1 e2 e3 e4
      subst e1
      simp only [f_Chain_removeAll_B2]
      rw [if_neg (show ¬ (7 : Int32) ≤ nI k by rw [e7]; exact nI_ge hk (by omega))]
      unfold f_Chain_removeAll_L10
      obtain ⟨t, e, hQ⟩ := lp_run0 (fun s => f_Chain_removeAll_B10 (nI k) s.1 s.2) (fun m q => q.1 = nI m ∧ (∀ i j, i < k → j < 7 → q.2 i j = nI 0) ∧ (∀ j, j < m → q.2 k j = nI 0)) (fun t => ∀ i j, i < k + 1 → j < 7 → t.2 i j = nI 0) 7 300 (0, s2) (by omega) ⟨rfl, e2, fun j hj => by omega⟩
        (fun m q hm hq => by
          obtain ⟨q1, q2⟩ := q
          obtain ⟨g1, g2, g3⟩ := hq
          dsimp only at g1 g2 g3
          subst g1
          simp only [f_Chain_removeAll_B10]
          rw [if_neg (show ¬ (7 : Int32) ≤ nI m by rw [e7]; exact nI_ge hm (by omega)), if_pos (ix_nI (by omega) (by omega)), if_pos (ix_nI (by omega) (by omega)), nI_clamp (by omega), nI_clamp (by omega)]
          refine ⟨_, rfl, nI_1 m, fun i j hi hj => ?_, fun j hj => ?_⟩
          · dsimp only
            rw [up_n (by omega)]; exact g2 i j hi hj
          · dsimp only
            rw [up_s]
            by_cases hjm : j = m
            · subst hjm; rw [pk_us]; rfl
            · rw [pk_un hjm]; exact g3 j (by omega))
        (fun q hq => by
          obtain ⟨q1, q2⟩ := q
          obtain ⟨g1, g2, g3⟩ := hq
          dsimp only at g1 g2 g3
          subst g1
          simp only [f_Chain_removeAll_B10]
          rw [if_pos (show (7 : Int32) ≤ nI 7 by decide)]
          refine ⟨_, rfl, fun i j hi hj => ?_⟩
          by_cases hik : i = k
          · subst hik; exact g3 j hj
          · exact g2 i j (by omega) hj)
      rw [e]
      obtain ⟨t1, t2⟩ := t
      dsimp only at hQ
      simp only [Option.bind_some]
      rw [if_pos (ix_nI (by omega) (by omega)), if_pos (ix_nI (by omega) (by omega)), nI_clamp (by omega)]
      refine ⟨_, rfl, nI_1 k, hQ, fun i hi => ?_, fun i hi => ?_⟩
      · dsimp only
        by_cases hik : i = k
        · subst hik; rw [pk_us]; rfl
        · rw [pk_un hik]; exact e3 i (by omega)
      · dsimp only
        by_cases hik : i = k
        · subst hik; rw [pk_us]
        · rw [pk_un hik]; exact e4 i (by omega))
    (fun s hs => by
      obtain ⟨s1, s2, s3, s4⟩ := s
      obtain ⟨e1, e2, e3, e4⟩ := hs
      dsimp only at e1 e2 e3 e4
      subst e1
      simp only [f_Chain_removeAll_B2]
      rw [if_pos (show (7 : Int32) ≤ nI 7 by decide)]
      exact ⟨_, rfl, e2, e3, e4⟩)
  obtain ⟨t1, t2, t3, t4⟩ := t
  rw [e]
  exact ⟨t2, t3, t4, rfl, hQ⟩
theorem s_Mclear (wgt rwd : Nat → Int32) : ∃ wgt' rwd', f_M_clear wgt rwd = some (0, 0, wgt', rwd', 0, 1) ∧ (∀ k, k < 49 → wgt' k = nI 0) ∧ (∀ i, i < 7 → rwd' i = 0) := by
  unfold f_M_clear f_M_clear_L22 f_M_clear_L43
  have e7 : (7 : Int32) = nI 7 := by decide
  have e49 : (49 : Int32) = nI 49 := by decide
  obtain ⟨t, e, hQ⟩ := lp_run0 (fun s => f_M_clear_B22 s.1 s.2) (fun k s => s.1 = nI k ∧ ∀ i, i < k → s.2 i = nI 0) (fun t => ∀ i, i < 49 → t.2 i = nI 0) 49 300 (0, wgt) (by omega) ⟨rfl, fun i hi => by omega⟩
    (fun k s hk hs => by
      obtain ⟨s1, s2⟩ := s
      obtain ⟨e1, e2⟩ := hs
      dsimp only at e1 e2
      subst e1
      simp only [f_M_clear_B22]
      rw [if_neg (show ¬ (49 : Int32) ≤ nI k by rw [e49]; exact nI_ge hk (by omega)), if_pos (ix_nI (by omega) (by omega)), nI_clamp (by omega)]
      refine ⟨_, rfl, nI_1 k, fun i hi => ?_⟩
      dsimp only
      by_cases hik : i = k
      · subst hik; rw [pk_us]; rfl
      · rw [pk_un hik]; exact e2 i (by omega))
    (fun s hs => by
      obtain ⟨s1, s2⟩ := s
      obtain ⟨e1, e2⟩ := hs
      dsimp only at e1 e2
      subst e1
      simp only [f_M_clear_B22]
      rw [if_pos (show (49 : Int32) ≤ nI 49 by decide)]
      exact ⟨_, rfl, e2⟩)
  obtain ⟨t', e', hQ'⟩ := lp_run0 (fun s => f_M_clear_B43 s.1 s.2) (fun k s => s.1 = nI k ∧ ∀ i, i < k → s.2 i = 0) (fun t => ∀ i, i < 7 → t.2 i = 0) 7 300 (0, rwd) (by omega) ⟨rfl, fun i hi => by omega⟩
    (fun k s hk hs => by
      obtain ⟨s1, s2⟩ := s
      obtain ⟨e1, e2⟩ := hs
      dsimp only at e1 e2
      subst e1
      simp only [f_M_clear_B43]
      rw [if_neg (show ¬ (7 : Int32) ≤ nI k by rw [e7]; exact nI_ge hk (by omega)), if_pos (ix_nI (by omega) (by omega)), nI_clamp (by omega)]
      refine ⟨_, rfl, nI_1 k, fun i hi => ?_⟩
      dsimp only
      by_cases hik : i = k
      · subst hik; rw [pk_us]
      · rw [pk_un hik]; exact e2 i (by omega))
    (fun s hs => by
      obtain ⟨s1, s2⟩ := s
      obtain ⟨e1, e2⟩ := hs
      dsimp only at e1 e2
      subst e1
      simp only [f_M_clear_B43]
      rw [if_pos (show (7 : Int32) ≤ nI 7 by decide)]
      exact ⟨_, rfl, e2⟩)
  rw [e, e']
  exact ⟨t.2, t'.2, rfl, hQ, hQ'⟩
/-- an empty chain -/
theorem Rel_0 {w : Nat → Nat → Int32} {tot rew wgt rwd : Nat → Int32} (h1 : ∀ i j, i < 7 → j < 7 → w i j = nI 0) (h2 : ∀ i, i < 7 → tot i = nI 0) (h3 : ∀ i, i < 7 → rew i = 0) (h4 : ∀ k, k < 49 → wgt k = nI 0) (h5 : ∀ i, i < 7 → rwd i = 0) : Rel 0 (fun _ _ => 0) (fun _ => 0) 0 w tot rew 0 wgt rwd := by
  have hok : okW 0 (fun _ _ => 0) := ⟨by omega, fun _ _ => Nat.zero_le 9, fun _ => by simp [ch_T], fun _ _ _ => rfl⟩
  refine ⟨⟨hok, rfl, h1, h2⟩, ⟨hok, rfl, fun i j hi hj => h4 _ (by omega)⟩, fun i hi => ⟨by rw [h3 i hi]; rfl, Nat.zero_le 100⟩, fun i hi => ⟨by rw [h5 i hi]; rfl, Nat.zero_le 100⟩⟩
theorem e_clear (w : Nat → Nat → Int32) (tot rew wgt rwd : Nat → Int32) : ∃ cnt' w' tot' rew' u' v' sts' wgt' rwd' n' W' R', f_CS_clear w tot rew = some (cnt', w', tot', rew', u', v') ∧ f_M_clear wgt rwd = some (0, sts', wgt', rwd', u', v') ∧ Rel n' W' R' cnt' w' tot' rew' sts' wgt' rwd' := by
  obtain ⟨w', tot', rew', e1, h1, h2, h3⟩ := s_removeAll w tot rew
  obtain ⟨wgt', rwd', e2, h4, h5⟩ := s_Mclear wgt rwd
  unfold f_CS_clear
  rw [e1, rp_01]
  have e3 : lI (rdU 0 1) = 0 := by decide
  have e4 : lI (rdL 0 1) = 1 := by decide
  exact ⟨0, w', tot', rew', 0, 1, 0, wgt', rwd', 0, fun _ _ => 0, fun _ => 0, by rw [e3, e4]; rfl, e2, Rel_0 h1 h2 h3 h4 h5⟩
end
