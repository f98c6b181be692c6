/-! SP9: all(place) is the determinant -/
theorem dp_in : ∀ n, n ≤ 7 → ∀ S, S < 2 ^ n → ∀ t, t < 7 → S.testBit t = true → t < n := by decide +kernel
theorem dp_pcpos : ∀ S, S < 128 → S ≠ 0 → 0 < dp_pc S := by decide +kernel
def dp_F (R : Nat → Nat → Int) (S : Nat) : Int := dt_D (mm_V R (dp_pc S)) (dp_l (fun i => S.testBit i) 0 7)
def dp_tm (R : Nat → Nat → Int) (S t : Nat) : Int := dt_sg (dp_l (fun i => S.testBit i) (t + 1) (7 - (t + 1))).length * (R (dp_pc S - 1) t * dp_F R (S - 2 ^ t))
theorem dp_F_0 (R : Nat → Nat → Int) : dp_F R 0 = 1 := by
  have h1 : dp_pc 0 = 0 := by decide
  have h2 : dp_l (fun i => (0 : Nat).testBit i) 0 7 = [] := by decide
  unfold dp_F
  rw [h1, h2]
  rfl
theorem dp_F_rec (R : Nat → Nat → Int) {S : Nat} (hS : S < 128) (h0 : S ≠ 0) : dp_F R S = dp_S (fun t => if S.testBit t = true then dp_tm R S t else 0) 7 := by
  have hp := dp_pcpos S hS h0
  obtain ⟨q, hq⟩ : ∃ q, dp_pc S = q + 1 := ⟨dp_pc S - 1, by omega⟩
  unfold dp_F
  rw [hq]
  show dt_D (R q :: mm_V R q) _ = _
  rw [dp_D]
  refine dp_S_congr 7 (fun t ht => ?_)
  by_cases hb : S.testBit t = true
  · rw [if_pos hb, if_pos hb]
    unfold dp_tm
    have hs := dp_sub S hS t ht hb
    have e1 : S - 2 ^ t + 2 ^ t = S := by omega
    have hlt : S - 2 ^ t < 128 := Nat.lt_of_le_of_lt (Nat.sub_le _ _) hS
    have hpc := dp_pcs (S - 2 ^ t) hlt t ht hs.2
    have hbi := dp_bits (S - 2 ^ t) hlt t ht hs.2
    rw [e1] at hpc hbi
    have e2 : dp_l (dp_w (fun i => S.testBit i) t) 0 7 = dp_l (fun i => (S - 2 ^ t).testBit i) 0 7 := dp_l_congr 7 (fun i _ hi => by
      have hi : i < 7 := by omega
      show (S.testBit i && !decide (i = t)) = _
      rw [hbi i hi]
      by_cases hit : i = t
      · subst hit; rw [hs.2]; simp
      · simp [hit])
    unfold dp_F
    rw [e2, hq, show dp_pc (S - 2 ^ t) = q by omega]
    rfl
  · rw [if_neg hb, if_neg hb]
def dp_I (R : Nat → Nat → Int) (m t0 S : Nat) : Int := if S = 0 then 1 else dp_S (fun t => if S.testBit t = true ∧ (S - 2 ^ t < m ∨ (S - 2 ^ t = m ∧ t < t0)) then dp_tm R S t else 0) 7
theorem dp_I_self (R : Nat → Nat → Int) {m t0 : Nat} (hm : m < 128) : dp_I R m t0 m = dp_F R m := by
  unfold dp_I
  by_cases h0 : m = 0
  · rw [if_pos h0, h0, dp_F_0]
  · rw [if_neg h0, dp_F_rec R hm h0]
    refine dp_S_congr 7 (fun t ht => ?_)
    by_cases hb : m.testBit t = true
    · have hs := dp_sub m hm t ht hb
      have hpw : 0 < 2 ^ t := Nat.two_pow_pos t
      rw [if_pos ⟨hb, Or.inl (by omega)⟩, if_pos hb]
    · rw [if_neg (fun z => hb z.1), if_neg hb]
theorem dp_S_add {f g : Nat → Int} {t0 : Nat} {v : Int} (hf : f t0 = 0) (hg : g t0 = v) (h : ∀ t, t ≠ t0 → f t = g t) : ∀ k, t0 < k → dp_S g k = dp_S f k + v := by
  intro k
  induction k with
  | zero => intro h; omega
  | succ k ih =>
    intro hk
    simp only [dp_S]
    by_cases e : t0 = k
    · subst e
      rw [hf, hg, dp_S_congr t0 (fun t ht => (h t (by omega)).symm)]; omega
    · rw [ih (by omega), h k (by omega)]; omega
theorem dp_I_same (R : Nat → Nat → Int) {m t0 S : Nat} (h : S.testBit t0 = true → S - 2 ^ t0 ≠ m) : dp_I R m (t0 + 1) S = dp_I R m t0 S := by
  unfold dp_I
  by_cases h0 : S = 0
  · rw [if_pos h0, if_pos h0]
  · rw [if_neg h0, if_neg h0]
    refine dp_S_congr 7 (fun t ht => ?_)
    by_cases hb : S.testBit t = true ∧ (S - 2 ^ t < m ∨ (S - 2 ^ t = m ∧ t < t0))
    · rw [if_pos hb, if_pos ⟨hb.1, hb.2.elim Or.inl (fun z => Or.inr ⟨z.1, by omega⟩)⟩]
    · have hno : ¬ (S.testBit t = true ∧ (S - 2 ^ t < m ∨ (S - 2 ^ t = m ∧ t < t0 + 1))) := by
        rintro ⟨z1, q | q⟩
        · exact hb ⟨z1, Or.inl q⟩
        · rcases Nat.lt_or_ge t t0 with q2 | q2
          · exact hb ⟨z1, Or.inr ⟨q.1, q2⟩⟩
          · have : t = t0 := by omega
            subst this
            exact h z1 q.1
      rw [if_neg hb, if_neg hno]
theorem dp_I_next (R : Nat → Nat → Int) {n m S : Nat} (hn : n ≤ 7) (hS : S < 2 ^ n) : dp_I R (m + 1) 0 S = dp_I R m n S := by
  have hp := dp_p7 n hn
  unfold dp_I
  by_cases h0 : S = 0
  · rw [if_pos h0, if_pos h0]
  · rw [if_neg h0, if_neg h0]
    refine dp_S_congr 7 (fun t ht => ?_)
    by_cases hb : S.testBit t = true
    · have htn := dp_in n hn S hS t ht hb
      by_cases hc : S - 2 ^ t < m + 1
      · rw [if_pos ⟨hb, Or.inl hc⟩, if_pos ⟨hb, by omega⟩]
      · rw [if_neg (fun z => by rcases z.2 with q | q <;> omega), if_neg (fun z => by rcases z.2 with q | q <;> omega)]
    · rw [if_neg (fun z => hb z.1), if_neg (fun z => hb z.1)]
theorem dp_I_add (R : Nat → Nat → Int) {m t0 : Nat} (hm : m < 128) (ht : t0 < 7) (hb : m.testBit t0 = false) (h128 : m + 2 ^ t0 < 128) : dp_I R m (t0 + 1) (m + 2 ^ t0) = dp_I R m t0 (m + 2 ^ t0) + dt_sg (dp_pc (m >>> t0)) * (R (dp_pc m) t0 * dp_F R m) := by
  have hpw : 0 < 2 ^ t0 := Nat.two_pow_pos t0
  have hbi := dp_bits m hm t0 ht hb
  have hbt : (m + 2 ^ t0).testBit t0 = true := by rw [hbi t0 ht]; simp
  have e0 : m + 2 ^ t0 - 2 ^ t0 = m := by omega
  have etm : dp_tm R (m + 2 ^ t0) t0 = dt_sg (dp_pc (m >>> t0)) * (R (dp_pc m) t0 * dp_F R m) := by
    unfold dp_tm
    rw [e0, dp_pcs m hm t0 ht hb, dp_par m hm t0 ht hb, Nat.add_sub_cancel]
    have e1 : dp_l (fun i => (m + 2 ^ t0).testBit i) (t0 + 1) (7 - (t0 + 1)) = dp_l (fun i => m.testBit i) (t0 + 1) (7 - (t0 + 1)) := dp_l_congr _ (fun i h1 h2 => by
      rw [hbi i (by omega)]
      have : i ≠ t0 := by omega
      simp [this])
    rw [e1]
  unfold dp_I
  rw [if_neg (by omega), if_neg (by omega), ← etm]
  refine dp_S_add (t0 := t0) ?_ ?_ ?_ 7 ht
  · rw [if_neg (fun z => by rcases z.2 with q | q <;> omega)]
  · rw [if_pos ⟨hbt, Or.inr ⟨e0, by omega⟩⟩]
  · intro t htt
    by_cases hc : (m + 2 ^ t0).testBit t = true ∧ (m + 2 ^ t0 - 2 ^ t < m ∨ (m + 2 ^ t0 - 2 ^ t = m ∧ t < t0))
    · rw [if_pos hc, if_pos ⟨hc.1, hc.2.elim Or.inl (fun z => Or.inr ⟨z.1, by omega⟩)⟩]
    · rw [if_neg hc, if_neg (fun z => hc ⟨z.1, z.2.elim Or.inl (fun q => Or.inr ⟨q.1, by omega⟩)⟩)]
set_option maxHeartbeats 4000000 in
theorem s_all {n : Nat} (hn : n ≤ 7) {cel rig : Nat → Int64} {B : Nat → Nat → Int} {b : Nat → Int} (hc : ∀ s t, s < n → t < n → cel (7 * s + t) = lI (B s t)) (hr : ∀ s, s < n → rig s = lI (b s)) {pl : Int32} {c : Nat} (hpl : ∀ t, t < n → (nI t = pl ↔ t = c)) (sum : Nat → Int64) :
    ∃ sum', f_M_all (nI n) cel rig sum pl = some (lI (dt_D (mm_V (fun s t => if t = c then b s else B s t) n) (mm_I n)), sum') := by
  generalize hR : (fun s t => if t = c then b s else B s t) = R
  have hp7 := dp_p7 n hn
  unfold f_M_all
  have hL2 : ∃ t, f_M_all_L2 300 (0 : Int32) sum = some t ∧ ∀ S, S < 128 → t.2 S = lI (if S = 0 then 1 else 0) := by
    unfold f_M_all_L2
    refine lp_run0 (fun s => f_M_all_B2 s.1 s.2) (fun k s => s.1 = nI k ∧ ∀ S, S < k → s.2 S = lI (if S = 0 then 1 else 0)) _ 128 300 (0, sum) (by omega) ⟨rfl, fun S h => by omega⟩
      (fun k s hk hs => by
        obtain ⟨s1, s2⟩ := s
        obtain ⟨e1, e2⟩ := hs
        dsimp only at e1 e2
        subst e1
        simp only [f_M_all_B2]
        rw [if_neg (show ¬ (128 : Int32) ≤ nI k from nI_ge (b := 128) hk (by omega)), nI_clamp (by omega), if_pos (ix_nI hk (by omega)), if_pos (ix_nI hk (by omega))]
        by_cases h0 : k = 0
        · subst h0
          rw [if_pos nI_0]
          refine ⟨_, rfl, rfl, fun S hS => ?_⟩
          have : S = 0 := by omega
          subst this
          dsimp only
          rw [pk_uLs, if_pos rfl]; rfl
        · rw [if_neg (nI_ne0 (by omega) (by omega))]
          refine ⟨_, rfl, nI_1 k, fun S hS => ?_⟩
          dsimp only
          by_cases hSk : S = k
          · subst hSk; rw [pk_uLs, if_neg h0]; rfl
          · rw [pk_uLn hSk]; exact e2 S (by omega))
      (fun s hs => by
        obtain ⟨s1, s2⟩ := s
        obtain ⟨e1, e2⟩ := hs
        dsimp only at e1 e2
        subst e1
        simp only [f_M_all_B2]
        rw [if_pos (show (128 : Int32) ≤ nI 128 by decide)]
        exact ⟨_, rfl, e2⟩)
  obtain ⟨⟨t1, t2⟩, e, hQ⟩ := hL2
  dsimp only at hQ
  rw [e]
  simp only [Option.bind_some]
  have hL32 : ∃ t, f_M_all_L32 (nI n) cel rig pl 300 (0 : Int32) t2 = some t ∧ ∀ S, S < 2 ^ n → t.2 S = lI (dp_I R (2 ^ n - 1) 0 S) := by
    unfold f_M_all_L32
    refine lp_run0 (fun s => f_M_all_B32 (nI n) cel rig pl s.1 s.2) (fun m s => s.1 = nI m ∧ ∀ S, S < 2 ^ n → s.2 S = lI (dp_I R m 0 S)) _ (2 ^ n - 1) 300 (0, t2) (by omega)
      ⟨rfl, fun S hS => by
        dsimp only
        rw [hQ S (by omega)]
        unfold dp_I
        by_cases h0 : S = 0
        · rw [if_pos h0, if_pos h0]
        · rw [if_neg h0, if_neg h0]
          have this : ∀ k, dp_S (fun t => if S.testBit t = true ∧ (S - 2 ^ t < 0 ∨ (S - 2 ^ t = 0 ∧ t < 0)) then dp_tm R S t else 0) k = 0 := by
            intro k
            induction k with
            | zero => rfl
            | succ k ih => simp only [dp_S]; rw [ih, if_neg (by omega)]; rfl
          rw [this 7]⟩
      (fun m s hm hs => by
        obtain ⟨s1, s2⟩ := s
        obtain ⟨e1, e2⟩ := hs
        dsimp only at e1 e2
        subst e1
        simp only [f_M_all_B32]
        rw [dp_top n hn, if_neg (nI_ge hm (by omega)), dp_many m (by omega), Option.bind_some]
        have hL52 : ∃ t, f_M_all_L52 (nI n) cel rig pl (nI m) (nI (dp_pc m)) 300 (0 : Int32) s2 = some t ∧ ∀ S, S < 2 ^ n → t.2 S = lI (dp_I R m n S) := by
          unfold f_M_all_L52
          have hfew := dp_few n hn m hm
          refine lp_run0 (fun s => f_M_all_B52 (nI n) cel rig pl (nI m) (nI (dp_pc m)) s.1 s.2) (fun t s => s.1 = nI t ∧ ∀ S, S < 2 ^ n → s.2 S = lI (dp_I R m t S)) _ n 300 (0, s2) (by omega) ⟨rfl, e2⟩
            (fun t r ht hr0 => by
              obtain ⟨r1, r2⟩ := r
              obtain ⟨g1, g2⟩ := hr0
              dsimp only at g1 g2
              subst g1
              simp only [f_M_all_B52]
              rw [if_neg (nI_ge ht (by omega)), s_Mhas _ (by omega), Option.bind_some, dp_bt m (by omega) t (by omega)]
              by_cases hb : m.testBit t = true
              · rw [if_pos hb, if_neg (by decide)]
                refine ⟨_, rfl, nI_1 t, fun S hS => ?_⟩
                dsimp only
                rw [g2 S hS, dp_I_same R (fun hSt heq => ?_)]
                have hs := dp_sub S (by omega) t (by omega) hSt
                rw [heq, hb] at hs
                exact absurd hs.2 (by decide)
              · have hbf : m.testBit t = false := by cases h : m.testBit t; rfl; exact absurd h hb
                rw [if_neg hb, if_pos rfl, if_pos (ix_nI (by omega) (by omega))]
                have hfit := dp_fit n hn m (by omega) t ht hbf
                have hj : (if nI t = pl then if ix (nI (dp_pc m)) 7 = true then some (rig (nI (dp_pc m)).toNatClampNeg) else none else if ix ((7 : Int32) * nI (dp_pc m) + nI t) 49 = true then some (cel ((7 : Int32) * nI (dp_pc m) + nI t).toNatClampNeg) else none) = some (lI (R (dp_pc m) t)) := by
                  have e7 : (7 : Int32) * nI (dp_pc m) + nI t = nI (7 * dp_pc m + t) := by
                    have e7 : (7 : Int32) = nI 7 := by decide
                    rw [e7, pk_mul, nI_add]
                  rw [e7, if_pos (ix_nI (by omega) (by omega)), if_pos (ix_nI (by omega) (by omega)), nI_clamp (by omega), nI_clamp (by omega), ← hR]
                  by_cases htc : t = c
                  · rw [if_pos ((hpl t ht).mpr htc)]
                    dsimp only
                    rw [if_pos htc, hr _ hfew]
                  · rw [if_neg (fun z => htc ((hpl t ht).mp z))]
                    dsimp only
                    rw [if_neg htc, hc _ _ hfew ht]
                rw [hj]
                simp only [Option.bind_some]
                rw [dp_shr m (by omega) t (by omega), dp_many _ (dp_shrlt m (by omega) t (by omega)), dp_or m (by omega) t (by omega) hbf]
                simp only [Option.bind_some]
                rw [if_pos (by decide)]
                have h2 : nI (dp_pc (m >>> t)) - nI (dp_pc (m >>> t)) / 2 * 2 = nI (dp_pc (m >>> t) % 2) := pk_rem (d := 2) (by
                  have : dp_pc (m >>> t) ≤ 7 := by
                    unfold dp_pc
                    exact Nat.le_trans (List.length_filter_le _ _) (by simp)
                  omega) (by omega) (by omega)
                rw [h2, nI_clamp (by omega), nI_clamp (by omega)]
                have hadd := dp_I_add R (m := m) (t0 := t) (by omega) (by omega) hbf (by omega)
                have hsm : r2 m = lI (dp_F R m) := by rw [g2 m (by omega), dp_I_self R (by omega)]
                have hupd : ∀ v : Int64, v = lI (dp_I R m (t + 1) (m + 2 ^ t)) → ∀ S, S < 2 ^ n → vp_updL r2 (m + 2 ^ t) v S = lI (dp_I R m (t + 1) S) := fun v hv S hS => by
                  by_cases hSm : S = m + 2 ^ t
                  · subst hSm; rw [pk_uLs, hv]
                  · rw [pk_uLn hSm, g2 S hS, dp_I_same R (fun hSt heq => hSm ?_)]
                    have := (dp_sub S (by omega) t (by omega) hSt).1
                    omega
                rw [hsm, g2 _ hfit, lI_mul]
                by_cases hodd : dp_pc (m >>> t) % 2 = 1
                · rw [hodd, if_pos (by decide)]
                  simp only [Option.bind_some]
                  rw [if_pos (ix_nI (by omega) (by omega)), if_neg (by decide), if_pos (ix_nI (by omega) (by omega))]
                  refine ⟨_, rfl, nI_1 t, hupd _ ?_⟩
                  rw [hadd, lI_neg, lI_add]
                  have hsg : dt_sg (dp_pc (m >>> t)) = -1 := by unfold dt_sg; rw [if_neg (by omega)]
                  refine congrArg lI ?_
                  rw [hsg, Int.mul_comm (dp_F R m)]
                  omega
                · rw [show dp_pc (m >>> t) % 2 = 0 by omega, if_neg (by decide)]
                  simp only [Option.bind_some]
                  rw [if_pos (ix_nI (by omega) (by omega)), if_pos (by decide), if_pos (ix_nI (by omega) (by omega))]
                  refine ⟨_, rfl, nI_1 t, hupd _ ?_⟩
                  rw [hadd, lI_add]
                  have hsg : dt_sg (dp_pc (m >>> t)) = 1 := by unfold dt_sg; rw [if_pos (by omega)]
                  refine congrArg lI ?_
                  rw [hsg, Int.mul_comm (dp_F R m)]
                  omega)
            (fun r hr0 => by
              obtain ⟨r1, r2⟩ := r
              obtain ⟨g1, g2⟩ := hr0
              dsimp only at g1 g2
              subst g1
              simp only [f_M_all_B52]
              rw [if_pos (nI_le (Nat.le_refl n) (by omega))]
              exact ⟨_, rfl, g2⟩)
        obtain ⟨⟨v1, v2⟩, e52, hv⟩ := hL52
        dsimp only at hv
        rw [e52]
        refine ⟨_, rfl, nI_1 m, fun S hS => ?_⟩
        dsimp only
        rw [hv S hS, dp_I_next R hn hS])
      (fun s hs => by
        obtain ⟨s1, s2⟩ := s
        obtain ⟨e1, e2⟩ := hs
        dsimp only at e1 e2
        subst e1
        simp only [f_M_all_B32]
        rw [dp_top n hn, if_pos (nI_le (Nat.le_refl _) (by omega))]
        exact ⟨_, rfl, e2⟩)
  obtain ⟨⟨u1, u2⟩, e32, hu⟩ := hL32
  dsimp only at hu
  rw [e32]
  simp only [Option.bind_some]
  have hpp : 0 < 2 ^ n := Nat.two_pow_pos n
  rw [dp_top n hn, if_pos (ix_nI (by omega) (by omega)), nI_clamp (by omega), hu _ (by omega), dp_I_self R (by omega)]
  have hfull := dp_full n hn
  have e9 : dp_F R (2 ^ n - 1) = dt_D (mm_V R n) (mm_I n) := by
    unfold dp_F
    rw [hfull.1, hfull.2]
  rw [e9]
  exact ⟨_, rfl⟩
