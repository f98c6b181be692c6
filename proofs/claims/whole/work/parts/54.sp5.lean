/-! SP5: Euclid and lowest terms, in the class and in the reference -/
def smL (z : Int) : Prop := z.natAbs < 9223372036854775808
theorem smL.fit {z : Int} (h : smL z) : fitL z := by unfold smL at h; exact ⟨by omega, by omega⟩
theorem smL.nat {x : Nat} (h : x < 9223372036854775808) : smL (x : Int) := by unfold smL; omega
theorem cmp0 {z : Int} (h : smL z) : lg_cmp (lI z) 0 = 0 ↔ z = 0 := by rw [lg_cmp_eq, lI_0, lI_inj h.fit fit0]
theorem cmp0ge {z : Int} (h : smL z) : 0 ≤ lg_cmp (lI z) 0 ↔ 0 ≤ z := by rw [lg_cmp_ge, lI_0, lI_le fit0 h.fit]
theorem lI_ne0 {z : Int} (h : smL z) (h0 : z ≠ 0) : ¬ lI z = 0 := fun e => h0 ((lI_inj h.fit fit0).mp e)
theorem s_gcdL : ∀ (k x y t fuel : Nat), eu k x y → t + k ≤ 100 → k < fuel → x < 9223372036854775808 → y < 9223372036854775808 → ∃ r, f_gcd_L15 fuel (lI x) (lI y) (nI t) = some r ∧ r.1 = lI (Nat.gcd x y : Nat) := by
  intro k
  induction k with
  | zero =>
    intro x y t fuel he ht hf hx hy
    obtain ⟨f, rfl⟩ : ∃ f, fuel = f + 1 := ⟨fuel - 1, by omega⟩
    have hy0 : y = 0 := he
    subst hy0
    rw [f_gcd_L15_s, f_gcd_B15]
    by_cases h1 : (100 : Int32) ≤ nI t
    · rw [if_pos h1]; exact ⟨_, rfl, by rw [Nat.gcd_zero_right]⟩
    · rw [if_neg h1, if_pos ((cmp0 (smL.nat (by omega))).mpr rfl)]; exact ⟨_, rfl, by rw [Nat.gcd_zero_right]⟩
  | succ k ih =>
    intro x y t fuel he ht hf hx hy
    obtain ⟨f, rfl⟩ : ∃ f, fuel = f + 1 := ⟨fuel - 1, by omega⟩
    rw [f_gcd_L15_s, f_gcd_B15]
    have h1 : ¬ (100 : Int32) ≤ nI t := nI_ge (b := 100) (by omega) (by omega)
    rw [if_neg h1]
    by_cases hy0 : y = 0
    · subst hy0
      rw [if_pos ((cmp0 (smL.nat (by omega))).mpr rfl)]; exact ⟨_, rfl, by rw [Nat.gcd_zero_right]⟩
    · rw [if_neg (fun z => hy0 (by have := (cmp0 (smL.nat hy)).mp z; omega)), if_pos (lI_ne0 (smL.nat hy) (by omega)), lI_rem hx hy, nI_1]
      have hm : x % y < y := Nat.mod_lt _ (by omega)
      obtain ⟨r, e, hr⟩ := ih y (x % y) (t + 1) f (he.resolve_left hy0) (by omega) (by omega) hy (by omega)
      refine ⟨r, e, ?_⟩
      rw [hr, Nat.gcd_comm x y, Nat.gcd_rec y x, Nat.gcd_comm]
theorem lI_abs {a : Int} (h : smL a) : (if 0 < lI a then lI a else - lI a) = lI (a.natAbs : Nat) := by
  rw [lI_0] 
  by_cases h0 : 0 < a
  · rw [if_pos ((lI_lt fit0 h.fit).mpr h0)]; congr 1; omega
  · rw [if_neg (fun z => h0 ((lI_lt fit0 h.fit).mp z)), lI_neg]; congr 1; omega
theorem s_gcd {a b : Int} (ha : smL a) (hb : smL b) : f_gcd (lI a) (lI b) = some (lI (Int.gcd a b : Nat)) := by
  unfold f_gcd
  rw [lI_abs ha, lI_abs hb]
  obtain ⟨r, e, hr⟩ := s_gcdL 94 a.natAbs b.natAbs 0 300 (eu_93 _ _ ha hb) (by omega) (by omega) ha hb
  have e2 : f_gcd_L15 300 (lI (a.natAbs : Nat)) (lI (b.natAbs : Nat)) (0 : Int32) = some r := e
  rw [e2]
  obtain ⟨r1, r2, r3⟩ := r
  simp only [Option.bind_some]
  rw [show r1 = _ from hr]
  rfl
theorem rd_tdU {n d : Int} (hd : 0 ≤ d) : n.tdiv (Int.gcd n d : Nat) = rdU n d := by
  unfold rdU
  rw [if_neg (by omega), Int.tdiv_eq_ediv_of_dvd (Int.gcd_dvd_left n d)]
theorem rd_tdL {n d : Int} (hd : 0 ≤ d) : d.tdiv (Int.gcd n d : Nat) = rdL n d := by
  unfold rdL
  rw [if_neg (by omega), Int.tdiv_eq_ediv_of_dvd (Int.gcd_dvd_right n d)]
theorem rd_tdU' {n d : Int} (hd : d < 0) : (-n).tdiv (Int.gcd n d : Nat) = rdU n d := by
  unfold rdU
  rw [if_pos hd, Int.tdiv_eq_ediv_of_dvd (Int.dvd_neg.mpr (Int.gcd_dvd_left n d))]
theorem rd_tdL' {n d : Int} (hd : d < 0) : (-d).tdiv (Int.gcd n d : Nat) = rdL n d := by
  unfold rdL
  rw [if_pos hd, Int.tdiv_eq_ediv_of_dvd (Int.dvd_neg.mpr (Int.gcd_dvd_right n d))]
theorem gcd_sm {n d : Int} (hn : smL n) (hd : smL d) (h0 : d ≠ 0) : smL (Int.gcd n d : Nat) := by
  have : Int.gcd n d ≤ d.natAbs := Nat.gcd_le_right _ (by omega)
  unfold smL at *
  omega
theorem s_put {n d : Int} (hn : smL n) (hd : smL d) (h0 : d ≠ 0) : f_Fraction_put (lI n) (lI d) = some (lI (rdU n d), lI (rdL n d)) := by
  unfold f_Fraction_put
  have hg := gcd_sm hn hd h0
  have hg0 : ((Int.gcd n d : Nat) : Int) ≠ 0 := by have := rd_pos n d h0; omega
  have hng : smL (-((Int.gcd n d : Nat) : Int)) := by unfold smL at *; omega
  rw [s_gcd hn hd, Option.bind_some, if_neg (fun z => h0 ((cmp0 hd).mp z)), if_neg (fun z => hg0 ((cmp0 hg).mp z))]
  by_cases hs : 0 ≤ d
  · rw [if_pos ((cmp0ge hd).mpr hs), if_pos (lI_ne0 hg hg0), if_pos (lI_ne0 hg hg0), lI_div hn.fit hg.fit, lI_div hd.fit hg.fit, rd_tdU hs, rd_tdL hs]
  · have hs : d < 0 := by omega
    rw [if_neg (fun z => by have := (cmp0ge hd).mp z; omega), lI_neg, if_pos (lI_ne0 hng (by omega)), if_pos (lI_ne0 hng (by omega)), lI_div hn.fit hng.fit, lI_div hd.fit hng.fit, Int.tdiv_neg, Int.tdiv_neg, ← Int.neg_tdiv, ← Int.neg_tdiv, rd_tdU' hs, rd_tdL' hs]
theorem s_ansL : ∀ (k x y fuel : Nat), eu k x y → k < fuel → x < 9223372036854775808 → y < 9223372036854775808 → ∃ r, f_M_answer_L28 fuel (lI x) (lI y) = some r ∧ r.1 = lI (Nat.gcd x y : Nat) := by
  intro k
  induction k with
  | zero =>
    intro x y fuel he hf hx hy
    obtain ⟨f, rfl⟩ : ∃ f, fuel = f + 1 := ⟨fuel - 1, by omega⟩
    have hy0 : y = 0 := he
    subst hy0
    rw [f_M_answer_L28_s, f_M_answer_B28, if_pos ((cmp0 (smL.nat (by omega))).mpr rfl)]; exact ⟨_, rfl, by rw [Nat.gcd_zero_right]⟩
  | succ k ih =>
    intro x y fuel he hf hx hy
    obtain ⟨f, rfl⟩ : ∃ f, fuel = f + 1 := ⟨fuel - 1, by omega⟩
    rw [f_M_answer_L28_s, f_M_answer_B28]
    by_cases hy0 : y = 0
    · subst hy0
      rw [if_pos ((cmp0 (smL.nat (by omega))).mpr rfl)]; exact ⟨_, rfl, by rw [Nat.gcd_zero_right]⟩
    · rw [if_neg (fun z => hy0 (by have := (cmp0 (smL.nat hy)).mp z; omega)), if_pos (lI_ne0 (smL.nat hy) (by omega)), lI_rem hx hy]
      have hm : x % y < y := Nat.mod_lt _ (by omega)
      obtain ⟨r, e, hr⟩ := ih y (x % y) f (he.resolve_left hy0) (by omega) hy (by omega)
      refine ⟨r, e, ?_⟩
      rw [hr, Nat.gcd_comm x y, Nat.gcd_rec y x, Nat.gcd_comm]
theorem ans_abs {a : Int} (h : smL a) : (if 0 ≤ lg_cmp (lI a) 0 then some (lI a) else some (- lI a)) = some (lI (a.natAbs : Nat)) := by
  by_cases h0 : 0 ≤ a
  · rw [if_pos ((cmp0ge h).mpr h0)]; congr 2; omega
  · rw [if_neg (fun z => h0 ((cmp0ge h).mp z)), lI_neg]; congr 2; omega
theorem s_answer {n d : Int} (hn : smL n) (hd : smL d) (h0 : d ≠ 0) : f_M_answer (lI n) (lI d) = some (1, lI (rdU n d), lI (rdL n d)) := by
  unfold f_M_answer
  have hg := gcd_sm hn hd h0
  have hg0 : ((Int.gcd n d : Nat) : Int) ≠ 0 := by have := rd_pos n d h0; omega
  have hnn : smL (-n) := by unfold smL at *; omega
  have hnd : smL (-d) := by unfold smL at *; omega
  rw [ans_abs hn, ans_abs hd, Option.bind_some, Option.bind_some]
  obtain ⟨r, e, hr⟩ := s_ansL 94 n.natAbs d.natAbs 300 (eu_93 _ _ hn hd) (by omega) hn hd
  rw [e]
  obtain ⟨r1, r2⟩ := r
  simp only [Option.bind_some]
  rw [show r1 = lI (Int.gcd n d : Nat) from hr]
  by_cases hs : 0 ≤ d
  · rw [if_pos ((cmp0ge hd).mpr hs), if_pos (lI_ne0 hg hg0), Option.bind_some, if_pos ((cmp0ge hd).mpr hs), if_pos (lI_ne0 hg hg0), lI_div hn.fit hg.fit, lI_div hd.fit hg.fit, rd_tdU hs, rd_tdL hs]
  · have hs : d < 0 := by omega
    have hz : ¬ (0 ≤ lg_cmp (lI d) 0) := fun z => by have := (cmp0ge hd).mp z; omega
    rw [if_neg hz, if_pos (lI_ne0 hg hg0), Option.bind_some, if_neg hz, if_pos (lI_ne0 hg hg0), lI_neg, lI_neg, lI_div hnn.fit hg.fit, lI_div hnd.fit hg.fit, rd_tdU' hs, rd_tdL' hs]
