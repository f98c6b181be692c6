/-! SPI: the odds to meet a goal: class and reference -/
theorem way_iff {n : Nat} {W : Nat → Nat → Nat} {G B : Int32} {s : Nat} (hs : ¬ bt G s = true) : (∃ g, bt G g = true ∧ ch_R (ch_E n W) (bS B) s g) ↔ (∃ g, bt G g = true ∧ ch_R (mE n W) (bS (G ||| B)) s g) ∧ ¬ bt B s = true := by
  have hor : ∀ i, bS (G ||| B) i ↔ bS G i ∨ bS B i := fun i => by unfold bS; rw [b_or, Bool.or_eq_true]
  constructor
  · rintro ⟨g, h1, h2⟩
    refine ⟨?_, ?_⟩
    · obtain ⟨g', h3, h4⟩ := ch_R_hit (G := bS G) h1 h2
      refine ⟨g', h3, R_mE.mp (ch_R_weak (fun i hi => ?_) h4)⟩
      exact ((hor i).mp hi).elim Or.inr Or.inl
    · intro hB
      obtain ⟨k, hk⟩ := h2
      cases k with
      | zero => have e : s = g := hk
                rw [e] at hs; exact hs h1
      | succ k => obtain ⟨m, h3, -⟩ := hk
                  exact h3 hB
  · rintro ⟨⟨g, h1, h2⟩, -⟩
    exact ⟨g, h1, ch_R_weak (fun i hi => (hor i).mpr (Or.inr hi)) (R_mE.mpr h2)⟩
theorem ch_sC_goal {x G : Int32} {f : Nat → Nat} : ∀ m, (∀ l, l < m → bt x l = true → ¬ bt G l = true) → ch_sC x (fun l => (f l : Int) * (if bt G l = true then 1 else 0)) m = (ch_sm G f m : Int) := by
  intro m
  induction m with
  | zero => intro _; rfl
  | succ m ih =>
    intro h
    simp only [ch_sC, ch_sm]
    rw [ih (fun l hl => h l (by omega))]
    by_cases hb : bt x m = true
    · rw [if_pos hb, if_neg (h m (by omega) hb)]; simp
    · rw [if_neg hb]
      by_cases hg : bt G m = true
      · rw [if_pos hg, if_pos hg]; simp
      · rw [if_neg hg, if_neg hg]; simp
theorem e_odds {n : Nat} {W : Nat → Nat → Nat} {cnt : Int32} {w : Nat → Nat → Int32} {tot : Nat → Int32} {sts : Int32} {wgt : Nat → Int32} (hC : repC n W cnt w tot) (hM : repM n W sts wgt) {a : Nat} (ha : a < n) (G B : Int32) (hG : ∀ i, i < 32 → bt G i = true → i < n) (gns : Nat → Int64) (rst : Nat → Int32) (rws : Nat → Nat → Int64) (last : Int32) (cel rig sum : Nat → Int64) :
    ∃ gns' rst' rws' last' cel' rig' sum' x, f_CS_answerOddsToMeet cnt w tot gns rst rws last (nI a) G B = some (gns', rst', rws', last', lI (rdU (md_N n W (fun s => bt x s) (fun s => if bt G s = true then 1 else 0) a) (md_D n W (fun s => bt x s) (fun s => if bt G s = true then 1 else 0))), lI (rdL (md_N n W (fun s => bt x s) (fun s => if bt G s = true then 1 else 0) a) (md_D n W (fun s => bt x s) (fun s => if bt G s = true then 1 else 0)))) ∧ f_M_layOdds sts wgt cel rig G B = some (cel', rig') ∧ f_M_solved sts cel' rig' sum (nI a) = some (1, lI (rdU (md_N n W (fun s => bt x s) (fun s => if bt G s = true then 1 else 0) a) (md_D n W (fun s => bt x s) (fun s => if bt G s = true then 1 else 0))), lI (rdL (md_N n W (fun s => bt x s) (fun s => if bt G s = true then 1 else 0) a) (md_D n W (fun s => bt x s) (fun s => if bt G s = true then 1 else 0))), sum')
      ∧ ch_out n W x ∧ (∀ s, s < n → (bt x s = true ↔ ¬ bt G s = true ∧ ∃ g, bt G g = true ∧ ch_R (ch_E n W) (bS B) s g)) ∧ md_ok n W (fun s => bt x s) (fun s => if bt G s = true then 1 else 0) n cel' rig' := by
  have hW := hC.1
  have h7 := hW.1
  obtain ⟨r1, e1, hs1⟩ := s_leadingTo hC G hG B
  obtain ⟨y0, ey, hy0⟩ := s_Mwhence hM G (G ||| B) hG
  have hx : ∀ s, s < n → (bt (r1 &&& (G ^^^ (-1))) s = true ↔ ¬ bt G s = true ∧ ∃ g, bt G g = true ∧ ch_R (ch_E n W) (bS B) s g) := fun s hs => by
    rw [b_and, b_not G (by omega), Bool.and_eq_true, Bool.not_eq_true', hs1 s (by omega)]
    constructor
    · rintro ⟨⟨_, q1⟩, q2⟩
      exact ⟨by rw [q2]; decide, q1⟩
    · rintro ⟨q1, q2⟩
      exact ⟨⟨hs, q2⟩, by cases hh : bt G s; rfl; exact absurd hh q1⟩
  have hout : ch_out n W (r1 &&& (G ^^^ (-1))) := fun k hk hb => by
    obtain ⟨-, g, h1, h2⟩ := (hx k hk).mp hb
    refine ⟨g, fun z => ?_, ch_R_weak (fun _ z => z.elim) h2⟩
    have hgn := ch_R_lt hk h2
    exact ((hx g hgn).mp z).1 h1
  have ho : ∀ s, s < n → ((fun s => bt (r1 &&& (G ^^^ (-1))) s) s = true ↔ ¬ bt G s = true ∧ bt (y0 &&& (B ^^^ (-1))) s = true) := fun s hs => by
    dsimp only
    rw [hx s hs, b_and, b_not B (by omega), Bool.and_eq_true, Bool.not_eq_true', hy0 s (by omega)]
    constructor
    · rintro ⟨q1, q2⟩
      have q3 := (way_iff q1).mp q2
      exact ⟨q1, ⟨hs, q3.1⟩, by cases hh : bt B s; rfl; exact absurd hh q3.2⟩
    · rintro ⟨q1, ⟨_, q2⟩, q3⟩
      exact ⟨q1, (way_iff q1).mpr ⟨q2, by rw [q3]; decide⟩⟩
  obtain ⟨⟨t1, t2, t3⟩, eL, hmd⟩ := s_layOddsL hM G (y0 &&& (B ^^^ (-1))) ho cel rig
  dsimp only at hmd
  have hv : ∀ s, s < n → ((fun s => if bt G s = true then (1 : Int) else 0) s).natAbs ≤ 1200 := fun s _ => by
    dsimp only
    split <;> decide
  obtain ⟨sum', eS⟩ := s_solved hW (o := fun s => bt (r1 &&& (G ^^^ (-1))) s) hout hv hmd sum ha
  have hD := md_pos (v := fun s => if bt G s = true then (1 : Int) else 0) (o := fun s => bt (r1 &&& (G ^^^ (-1))) s) hW hout
  have hcs : sts = nI n := hM.2.1
  have eM : f_M_layOdds sts wgt cel rig G B = some (t2, t3) := by
    unfold f_M_layOdds
    rw [ey]
    simp only [Option.bind_some]
    rw [eL]
    rfl
  unfold f_CS_answerOddsToMeet
  rw [e1]
  simp only [Option.bind_some]
  rw [s_holds G (by omega), s_holds r1 (by omega)]
  simp only [Option.bind_some]
  by_cases hGa : bt G a = true
  · rw [if_pos hGa, if_neg (by decide)]
    have hN := md_fixN (W := W) (x := r1 &&& (G ^^^ (-1))) (v := fun s => if bt G s = true then (1 : Int) else 0) h7 ha (fun z => ((hx a ha).mp z).1 hGa)
    try dsimp only at hN
    rw [if_pos hGa, Int.mul_one] at hN
    have hrd := rd_eq (n := 1) (d := 1) (n' := md_N n W (fun s => bt (r1 &&& (G ^^^ (-1))) s) (fun s => if bt G s = true then (1 : Int) else 0) a) (d' := md_D n W (fun s => bt (r1 &&& (G ^^^ (-1))) s) (fun s => if bt G s = true then (1 : Int) else 0)) (by rw [hN]; omega) (by decide) (by omega)
    have hput : f_Fraction_put (1 : Int64) (1 : Int64) = some (lI (rdU 1 1), lI (rdL 1 1)) := s_put (n := 1) (d := 1) (by unfold smL; decide) (by unfold smL; decide) (by decide)
    rw [hput]
    simp only [Option.bind_some]
    rw [hrd.1, hrd.2]
    exact ⟨_, _, _, _, _, _, _, _, rfl, eM, by rw [hcs]; exact eS, hout, hx, hmd⟩
  · rw [if_neg hGa, if_pos rfl]
    by_cases hra : bt r1 a = true
    · rw [if_pos hra, if_neg (by decide)]
      have hxa : bt (r1 &&& (G ^^^ (-1))) a = true := (hx a ha).mpr ⟨hGa, ((hs1 a (by omega)).mp hra).2⟩
      obtain ⟨gns', eg, hg⟩ := s_gainEnter hC gns G
      rw [eg]
      simp only [Option.bind_some]
      have hgb : ∀ k, k < n → ((fun i => ((ch_sm G (ch_p n W i) n : Nat) : Int)) k).natAbs ≤ 1200 := fun k hk => by
        try dsimp only
        have q1 := ch_sm_le G (ch_p n W k) n
        rw [ch_al_p hk] at q1
        have q2 := ch_t_le hW k
        omega
      obtain ⟨rst', rws', es⟩ := s_solve hC hg rst rws ha (r1 &&& (G ^^^ (-1))) (sl_el hW ha hout hgb)
      rw [es]
      simp only [Option.bind_some]
      have hti := tie_in (v := fun s => if bt G s = true then (1 : Int) else 0) hW ha hout hgb (fun k hk hb => by
        try dsimp only
        rw [if_neg ((hx k hk).mp hb).1, (ch_pT (ch_out_T hout hk hb)).1, ch_sC_goal n (fun l hl hbl => ((hx l hl).mp hbl).1)]
        omega) hxa
      rw [hti.1, hti.2]
      exact ⟨_, _, _, _, _, _, _, _, rfl, eM, by rw [hcs]; exact eS, hout, hx, hmd⟩
    · rw [if_neg hra, if_pos rfl]
      have hxa : ¬ bt (r1 &&& (G ^^^ (-1))) a = true := fun z => hra ((hs1 a (by omega)).mpr ⟨ha, ((hx a ha).mp z).2⟩)
      have hN := md_fixN (W := W) (x := r1 &&& (G ^^^ (-1))) (v := fun s => if bt G s = true then (1 : Int) else 0) h7 ha hxa
      try dsimp only at hN
      rw [if_neg hGa, Int.mul_zero] at hN
      have hrd := rd_eq (n := 0) (d := 1) (n' := md_N n W (fun s => bt (r1 &&& (G ^^^ (-1))) s) (fun s => if bt G s = true then (1 : Int) else 0) a) (d' := md_D n W (fun s => bt (r1 &&& (G ^^^ (-1))) s) (fun s => if bt G s = true then (1 : Int) else 0)) (by rw [hN]; omega) (by decide) (by omega)
      have hput : f_Fraction_put (0 : Int64) (1 : Int64) = some (lI (rdU 0 1), lI (rdL 0 1)) := s_put (n := 0) (d := 1) (by unfold smL; decide) (by unfold smL; decide) (by decide)
      rw [hput]
      simp only [Option.bind_some]
      rw [hrd.1, hrd.2]
      exact ⟨_, _, _, _, _, _, _, _, rfl, eM, by rw [hcs]; exact eS, hout, hx, hmd⟩
