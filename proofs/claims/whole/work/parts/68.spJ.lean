/-! SPJ: ever, before, again -/
theorem odds_base {n : Nat} {W : Nat → Nat → Nat} {cnt : Int32} {w : Nat → Nat → Int32} {tot : Nat → Int32} {sts : Int32} {wgt : Nat → Int32} (hC : repC n W cnt w tot) (hM : repM n W sts wgt) (G B : Int32) (hG : ∀ i, i < 32 → bt G i = true → i < n) (cel rig : Nat → Int64) :
    ∃ r1 cel' rig', f_Ways_leadingTo cnt w tot G B = some r1 ∧ f_M_layOdds sts wgt cel rig G B = some (cel', rig') ∧ ch_out n W (r1 &&& (G ^^^ (-1))) ∧ (∀ s, s < n → (bt (r1 &&& (G ^^^ (-1))) s = true ↔ ¬ bt G s = true ∧ ∃ g, bt G g = true ∧ ch_R (ch_E n W) (bS B) s g)) ∧ md_ok n W (fun s => bt (r1 &&& (G ^^^ (-1))) s) (fun s => if bt G s = true then 1 else 0) n cel' rig' := by
  have hW := hC.1
  have h7 := hW.1
  obtain ⟨r1, e1, hs1⟩ := s_leadingTo hC G hG B
  obtain ⟨y0, ey, hy0⟩ := s_Mwhence hM G (G ||| B) hG
  have hx : ∀ s, s < n → (bt (r1 &&& (G ^^^ (-1))) s = true ↔ ¬ bt G s = true ∧ ∃ g, bt G g = true ∧ ch_R (ch_E n W) (bS B) s g) := fun s hs => by
    rw [b_and, b_not G (by omega), Bool.and_eq_true, Bool.not_eq_true', hs1 s (by omega)]
    constructor
    · rintro ⟨⟨_, q1⟩, q2⟩
      exact ⟨by rw [q2]; decide, q1⟩
    · rintro ⟨q1, q2⟩
      exact ⟨⟨hs, q2⟩, by cases hh : bt G s; rfl; exact absurd hh q1⟩
  have hout : ch_out n W (r1 &&& (G ^^^ (-1))) := fun k hk hb => by
    obtain ⟨-, g, h1, h2⟩ := (hx k hk).mp hb
    refine ⟨g, fun z => ?_, ch_R_weak (fun _ z => z.elim) h2⟩
    have hgn := ch_R_lt hk h2
    exact ((hx g hgn).mp z).1 h1
  have ho : ∀ s, s < n → ((fun s => bt (r1 &&& (G ^^^ (-1))) s) s = true ↔ ¬ bt G s = true ∧ bt (y0 &&& (B ^^^ (-1))) s = true) := fun s hs => by
    dsimp only
    rw [hx s hs, b_and, b_not B (by omega), Bool.and_eq_true, Bool.not_eq_true', hy0 s (by omega)]
    constructor
    · rintro ⟨q1, q2⟩
      have q3 := (way_iff q1).mp q2
      exact ⟨q1, ⟨hs, q3.1⟩, by cases hh : bt B s; rfl; exact absurd hh q3.2⟩
    · rintro ⟨q1, ⟨_, q2⟩, q3⟩
      exact ⟨q1, (way_iff q1).mpr ⟨q2, by rw [q3]; decide⟩⟩
  obtain ⟨⟨t1, t2, t3⟩, eL, hmd⟩ := s_layOddsL hM G (y0 &&& (B ^^^ (-1))) ho cel rig
  dsimp only at hmd
  have eM : f_M_layOdds sts wgt cel rig G B = some (t2, t3) := by
    unfold f_M_layOdds
    rw [ey]
    simp only [Option.bind_some]
    rw [eL]
    rfl
  exact ⟨r1, t2, t3, e1, eM, hout, hx, hmd⟩
theorem has_both {n : Nat} (hn : n ≤ 7) {cnt sts : Int32} (hc : cnt = nI n) (hs : sts = nI n) (x : Int32) : (∃ k, k < n ∧ x = nI k ∧ f_Chain_has cnt x = some 1 ∧ f_M_isState sts x = some 1) ∨ (f_Chain_has cnt x = some 0 ∧ f_M_isState sts x = some 0) := by
  rcases s_has hn hc x with ⟨k, h1, h2, h3⟩ | ⟨h1, h2⟩
  · rcases s_MisState hn hs x with ⟨k', h1', h2', h3'⟩ | ⟨h1', h2'⟩
    · exact Or.inl ⟨k, h1, h2, h3, h3'⟩
    · exact absurd h2 (h2' k h1)
  · rcases s_MisState hn hs x with ⟨k', h1', h2', h3'⟩ | ⟨h1', h2'⟩
    · exact absurd h2' (h2 k' h1')
    · exact Or.inr ⟨h1, h1'⟩
theorem c10 : ¬ (1 : Int32) = 0 := by decide
theorem one_lt {n k : Nat} (hn : n ≤ 7) (hk : k < n) : ∀ i, i < 32 → bt ((1 : Int32) <<< (nI k &&& 31)) i = true → i < n := fun i hi hb => by
  rw [b_one k (by omega) hi, decide_eq_true_eq] at hb; omega
section
variable {n : Nat} {W : Nat → Nat → Nat} {cnt : Int32} {w : Nat → Nat → Int32} {tot : Nat → Int32} {sts : Int32} {wgt : Nat → Int32}
theorem e_ever (hC : repC n W cnt w tot) (hM : repM n W sts wgt) (gns : Nat → Int64) (rst : Nat → Int32) (rws : Nat → Nat → Int64) (last : Int32) (u v : Int64) (cel rig sum : Nat → Int64) (p1 p2 : Int32) :
    ∃ r gns' rst' rws' last' u' v' cel' rig' sum', f_CS_ever cnt w tot gns rst rws last u v p1 p2 = some (r, gns', rst', rws', last', u', v') ∧ f_M_ever sts wgt u v cel rig sum p1 p2 = some (r, 0, u', v', cel', rig', sum') := by
  have h7 := hC.1.1
  have hc := hC.2.1
  have hs := hM.2.1
  unfold f_CS_ever f_M_ever
  rcases has_both h7 hc hs p1 with ⟨a, ha, rfl, e1, e2⟩ | ⟨e1, e2⟩
  · simp only [e1, e2, Option.bind_some, if_neg c10]
    rcases has_both h7 hc hs p2 with ⟨b, hb, rfl, e3, e4⟩ | ⟨e3, e4⟩
    · simp only [e3, e4, Option.bind_some, if_neg c10]
      obtain ⟨gns', rst', rws', last', cel', rig', sum', x, q1, q2, q3, -, -, -⟩ := e_odds hC hM ha ((1 : Int32) <<< (nI b &&& 31)) 0 (one_lt h7 hb) gns rst rws last cel rig sum
      rw [q1, q2]
      simp only [Option.bind_some]
      rw [q3]
      exact ⟨_, _, _, _, _, _, _, _, _, _, rfl, rfl⟩
    · simp only [e3, e4, Option.bind_some, if_true]
      exact ⟨_, _, _, _, _, _, _, _, _, _, rfl, rfl⟩
  · simp only [e1, e2, Option.bind_some, if_true]
    exact ⟨_, _, _, _, _, _, _, _, _, _, rfl, rfl⟩
theorem e_before (hC : repC n W cnt w tot) (hM : repM n W sts wgt) (gns : Nat → Int64) (rst : Nat → Int32) (rws : Nat → Nat → Int64) (last : Int32) (u v : Int64) (cel rig sum : Nat → Int64) (p1 p2 p3 : Int32) :
    ∃ r gns' rst' rws' last' u' v' cel' rig' sum', f_CS_before cnt w tot gns rst rws last u v p1 p2 p3 = some (r, gns', rst', rws', last', u', v') ∧ f_M_before sts wgt u v cel rig sum p1 p2 p3 = some (r, 0, u', v', cel', rig', sum') := by
  have h7 := hC.1.1
  have hc := hC.2.1
  have hs := hM.2.1
  unfold f_CS_before f_M_before
  rcases has_both h7 hc hs p1 with ⟨a, ha, rfl, e1, e2⟩ | ⟨e1, e2⟩
  · simp only [e1, e2, Option.bind_some, if_neg c10]
    rcases has_both h7 hc hs p2 with ⟨b, hb, rfl, e3, e4⟩ | ⟨e3, e4⟩
    · simp only [e3, e4, Option.bind_some, if_neg c10]
      rcases has_both h7 hc hs p3 with ⟨c, hcc, rfl, e5, e6⟩ | ⟨e5, e6⟩
      · simp only [e5, e6, Option.bind_some, if_neg c10]
        by_cases hbc : nI b = nI c
        · rw [if_pos hbc, if_pos hbc]
          exact ⟨_, _, _, _, _, _, _, _, _, _, rfl, rfl⟩
        · rw [if_neg hbc, if_neg hbc]
          obtain ⟨gns', rst', rws', last', cel', rig', sum', x, q1, q2, q3, -, -, -⟩ := e_odds hC hM ha ((1 : Int32) <<< (nI b &&& 31)) ((1 : Int32) <<< (nI c &&& 31)) (one_lt h7 hb) gns rst rws last cel rig sum
          rw [q1, q2]
          simp only [Option.bind_some]
          rw [q3]
          exact ⟨_, _, _, _, _, _, _, _, _, _, rfl, rfl⟩
      · simp only [e5, e6, Option.bind_some, if_true]
        exact ⟨_, _, _, _, _, _, _, _, _, _, rfl, rfl⟩
    · simp only [e3, e4, Option.bind_some, if_true]
      exact ⟨_, _, _, _, _, _, _, _, _, _, rfl, rfl⟩
  · simp only [e1, e2, Option.bind_some, if_true]
    exact ⟨_, _, _, _, _, _, _, _, _, _, rfl, rfl⟩
theorem ch_sI_mul (x : Int32) (f : Nat → Int) (d : Int) : ∀ m, ch_sI x (fun l => d * f l) m = d * ch_sI x f m := by
  intro m
  induction m with
  | zero => simp [ch_sI]
  | succ m ih =>
    simp only [ch_sI]
    rw [ih]
    by_cases hb : bt x m = true
    · rw [if_pos hb, if_pos hb]; grind
    · rw [if_neg hb, if_neg hb]; grind
theorem mm_T_bd (u : Nat → Nat) (N : Nat → Int) (K : Nat) : ∀ m, (∀ t, t < m → (N t).natAbs ≤ K) → (mm_T (fun t => (u t : Int) * N t) 0 m).natAbs ≤ ch_al u m * K := by
  intro m
  induction m with
  | zero => intro _; simp [mm_T, ch_al]
  | succ m ih =>
    intro h
    rw [mm_T_snoc, Nat.zero_add]
    have h1 := ih (fun t ht => h t (by omega))
    have h2 := Int.natAbs_add_le (mm_T (fun t => (u t : Int) * N t) 0 m) ((u m : Int) * N m)
    rw [Int.natAbs_mul, Int.natAbs_natCast] at h2
    have h3 := Nat.mul_le_mul (Nat.le_refl (u m)) (h m (by omega))
    simp only [ch_al, Nat.add_mul]
    omega
theorem s_againL (hM : repM n W sts wgt) {o : Nat → Bool} {v : Nat → Int} {cel rig : Nat → Int64} (h : md_ok n W o v n cel rig) {a : Nat} (ha : a < n) (sum : Nat → Int64) : ∃ t, f_M_again_L50 sts wgt cel rig (nI a) 300 (0 : Int64) (0 : Int32) sum = some t ∧ t.1 = lI (mm_T (fun t => (W a t : Int) * md_N n W o v t) 0 n) := by
  have hw := fun j (hj : j < 7) => s_Mw hM (i := a) (by have := hM.1.1; omega) hj
  obtain ⟨⟨h7, h9, h12, hz⟩, hc, -⟩ := hM
  unfold f_M_again_L50
  refine lp_run0 (fun q => f_M_again_B50 sts wgt cel rig (nI a) q.1 q.2.1 q.2.2) (fun k q => q.1 = lI (mm_T (fun t => (W a t : Int) * md_N n W o v t) 0 k) ∧ q.2.1 = nI k) _ n 300 (0, 0, sum) (by omega) ⟨rfl, rfl⟩
    (fun k q hk hq => by
      obtain ⟨q1, q2, q3⟩ := q
      obtain ⟨e1, e2⟩ := hq
      dsimp only at e1 e2
      subst e1; subst e2
      simp only [f_M_again_B50]
      rw [hw k (by omega)]
      simp only [Option.bind_some, hc]
      rw [if_neg (nI_ge hk (by omega))]
      by_cases h0 : W a k = 0
      · rw [h0, if_pos (by decide)]
        refine ⟨_, rfl, ?_, nI_1 k⟩
        dsimp only
        rw [mm_T_snoc, Nat.zero_add, h0, lI_0, lI_add]
        refine congrArg lI ?_
        simp
      · rw [if_neg (nI_nle (by omega) (by have := h9 a k; omega))]
        obtain ⟨sum', e⟩ := md_all h7 h q3 hk
        rw [e]
        refine ⟨_, rfl, ?_, nI_1 k⟩
        dsimp only
        rw [mm_T_snoc, Nat.zero_add, nI_long _ (by have := h9 a k; omega), lI_mul, lI_add])
    (fun q hq => by
      obtain ⟨q1, q2, q3⟩ := q
      obtain ⟨e1, e2⟩ := hq
      dsimp only at e1 e2
      subst e1; subst e2
      simp only [f_M_again_B50, hc]
      rw [if_pos (nI_le (Nat.le_refl n) (by omega))]
      exact ⟨_, rfl, rfl⟩)
end
