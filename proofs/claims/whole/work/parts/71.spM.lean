/-! SPM: steps, visits, worth -/
section
variable {n : Nat} {W : Nat → Nat → Nat} {cnt : Int32} {w : Nat → Nat → Int32} {tot : Nat → Int32} {sts : Int32} {wgt : Nat → Int32}
theorem ch_sC_zero {x : Int32} {f : Nat → Int} : ∀ m, (∀ l, l < m → ¬ bt x l = true → f l = 0) → ch_sC x f m = 0 := by
  intro m
  induction m with
  | zero => intro _; rfl
  | succ m ih =>
    intro h
    simp only [ch_sC]
    rw [ih (fun l hl => h l (by omega))]
    by_cases hb : bt x m = true
    · rw [if_pos hb]; rfl
    · rw [if_neg hb, h m (by omega) hb]; rfl
/-- class and reference at the same open states -/
theorem e_solve (hC : repC n W cnt w tot) (hM : repM n W sts wgt) {a : Nat} (ha : a < n) {x : Int32} (hout : ch_out n W x) (hxa : bt x a = true) {gns : Nat → Int64} {g v : Nat → Int} (hgn : ∀ i, i < n → gns i = lI (g i)) (hg : ∀ k, k < n → (g k).natAbs ≤ 1200) (hv : ∀ k, k < n → (v k).natAbs ≤ 1200) (hgv : ∀ k, k < n → bt x k = true → g k = v k + ch_sC x (fun l => (W k l : Int) * v l) n) (rst : Nat → Int32) (rws : Nat → Nat → Int64) {cel rig : Nat → Int64} (hmd : md_ok n W (fun s => bt x s) v n cel rig) (sum : Nat → Int64) :
    ∃ rst' rws' last' u' v' sum', f_FirstSteps_solveA cnt w tot gns rst rws (nI a) x = some (rst', rws', last', u', v') ∧ f_M_solved sts cel rig sum (nI a) = some (1, u', v', sum') := by
  have hW := hC.1
  obtain ⟨rst', rws', es⟩ := s_solve hC hgn rst rws ha x (sl_el hW ha hout hg)
  obtain ⟨sum', eS⟩ := s_solved hW (o := fun s => bt x s) hout hv hmd sum ha
  have hti := tie_in (v := v) hW ha hout hg hgv hxa
  rw [hti.1, hti.2] at es
  rw [hM.2.1]
  exact ⟨_, _, _, _, _, _, es, eS⟩
/-- a state whose row is fixed at 0 -/
theorem e_zero (hM : repM n W sts wgt) {a : Nat} (ha : a < n) {x : Int32} (hout : ch_out n W x) (hxa : ¬ bt x a = true) {v : Nat → Int} (hv : ∀ k, k < n → (v k).natAbs ≤ 1200) (hva : v a = 0) {cel rig : Nat → Int64} (hmd : md_ok n W (fun s => bt x s) v n cel rig) (sum : Nat → Int64) : ∃ sum', f_M_solved sts cel rig sum (nI a) = some (1, lI (rdU 0 1), lI (rdL 0 1), sum') := by
  have hW := hM.1
  obtain ⟨sum', eS⟩ := s_solved hW (o := fun s => bt x s) hout hv hmd sum ha
  have hN := md_fixN (W := W) (x := x) (v := v) hW.1 ha hxa
  rw [hva, Int.mul_zero] at hN
  have hD := md_pos (v := v) (o := fun s => bt x s) hW hout
  have hrd := rd_eq (n := 0) (d := 1) (n' := md_N n W (fun s => bt x s) v a) (d' := md_D n W (fun s => bt x s) v) (by rw [hN]; omega) (by decide) (by omega)
  rw [hM.2.1, hrd.1, hrd.2]
  exact ⟨sum', eS⟩
theorem s_stepsL (h : repM n W sts wgt) (P y : Int32) {x : Int32} (ho : ∀ s, s < n → (bt x s = true ↔ ¬ bt P s = true ∧ bt y s = true)) (cel rig : Nat → Int64) : ∃ t, f_M_steps_L53 sts wgt P y 300 (0 : Int32) cel rig = some t ∧ md_ok n W (fun s => bt x s) (fun s => if bt x s = true then (ch_T W s n : Int) else 0) n t.2.1 t.2.2 := by
  have hfix := fun cel rig s (hs : s < n) v => s_fix h.1.1 cel rig hs v
  have hlay := fun cel rig s (hs : s < n) v => s_lay h cel rig hs v
  have htot := fun s (hs : s < n) => s_Mtotal h (i := s) (by have := h.1.1; omega)
  obtain ⟨⟨h7, h9, h12, hz⟩, hc, -⟩ := h
  unfold f_M_steps_L53
  refine lp_run0 (fun q => f_M_steps_B53 sts wgt P y q.1 q.2.1 q.2.2) (fun k q => q.1 = nI k ∧ md_ok n W (fun s => bt x s) (fun s => if bt x s = true then (ch_T W s n : Int) else 0) k q.2.1 q.2.2) _ n 300 (0, cel, rig) (by omega) ⟨rfl, fun s hs => by omega⟩
    (fun k q hk hq => by
      obtain ⟨q1, q2, q3⟩ := q
      obtain ⟨e1, e2⟩ := hq
      dsimp only at e1 e2
      subst e1
      simp only [f_M_steps_B53]
      rw [s_Mhas _ (by omega), s_Mhas _ (by omega), htot k hk]
      simp only [Option.bind_some]
      rw [hc] at hlay ⊢
      rw [if_neg (nI_ge hk (by omega))]
      by_cases hb : bt P k = true
      · have hno : ¬ bt x k = true := fun z => ((ho k hk).mp z).1 hb
        rw [if_pos hb, if_neg c10]
        obtain ⟨c', r', e, hrow⟩ := hfix q2 q3 k hk 0
        rw [e]
        exact ⟨_, rfl, nI_1 k, md_step h7 hk e2 hrow (fun t _ => md_fixed hno t) (by rw [if_neg hno]; rfl)⟩
      · rw [if_neg hb, if_pos rfl]
        by_cases hy : bt y k = true
        · have hyes : bt x k = true := (ho k hk).mpr ⟨hb, hy⟩
          rw [if_pos hy, if_neg c10, nI_long _ (by have := h12 k; omega)]
          obtain ⟨c', r', e, hrow⟩ := hlay q2 q3 k hk (lI (ch_T W k n : Nat))
          rw [e]
          exact ⟨_, rfl, nI_1 k, md_step h7 hk e2 hrow (fun t _ => md_laid hyes t) (by rw [if_pos hyes])⟩
        · have hno : ¬ bt x k = true := fun z => hy ((ho k hk).mp z).2
          rw [if_neg hy, if_pos rfl]
          obtain ⟨c', r', e, hrow⟩ := hfix q2 q3 k hk 0
          rw [e]
          exact ⟨_, rfl, nI_1 k, md_step h7 hk e2 hrow (fun t _ => md_fixed hno t) (by rw [if_neg hno]; rfl)⟩)
    (fun q hq => by
      obtain ⟨q1, q2, q3⟩ := q
      obtain ⟨e1, e2⟩ := hq
      dsimp only at e1 e2
      subst e1
      simp only [f_M_steps_B53]
      rw [hc, if_pos (nI_le (Nat.le_refl n) (by omega))]
      exact ⟨_, rfl, e2⟩)
theorem e_steps (hC : repC n W cnt w tot) (hM : repM n W sts wgt) (gns : Nat → Int64) (rst : Nat → Int32) (rws : Nat → Nat → Int64) (last : Int32) (u v : Int64) (cel rig sum : Nat → Int64) (p1 P : Int32) :
    ∃ r gns' rst' rws' last' u' v' cel' rig' sum', f_CS_steps cnt w tot gns rst rws last u v p1 P = some (r, gns', rst', rws', last', u', v') ∧ f_M_steps sts wgt u v cel rig sum p1 P = some (r, 0, u', v', cel', rig', sum') := by
  have hW := hC.1
  have h7 := hC.1.1
  have hc := hC.2.1
  have hs := hM.2.1
  unfold f_CS_steps f_M_steps f_Chain_all
  rcases has_both h7 hc hs p1 with ⟨a, ha, rfl, e1, e2⟩ | ⟨e1, e2⟩
  · simp only [e1, e2, Option.bind_some, if_neg c10]
    have eq1 : ((1 : Int32) <<< (cnt &&& 31)) - 1 = nI (2 ^ n - 1) := by rw [hc]; exact dp_top n h7
    have eq2 : (1 : Int32) <<< (sts &&& 31) = nI (2 ^ n) := by rw [hs]; exact st_sh n h7
    rw [eq1, eq2]
    rcases st_iff h7 P with ⟨s1, s2, s3, s4⟩ | ⟨s1, s2⟩
    · rw [if_pos s1, if_neg s2, if_pos s3]
      rcases sure_eq hC hM ha P s4 with ⟨q1, q2⟩ | ⟨q1, q2, q3⟩
      · simp only [q1, q2, Option.bind_some, if_true]
        exact ⟨_, _, _, _, _, _, _, _, _, _, rfl, rfl⟩
      · simp only [q1, q2, Option.bind_some, if_neg c10]
        obtain ⟨y, m1, m2, hy⟩ := met_eq hC hM ha P
        have ho : ∀ s, s < n → (bt (y &&& (P ^^^ (-1))) s = true ↔ ¬ bt P s = true ∧ bt y s = true) := fun s hs => by
          rw [b_and, b_not P (by omega)]
          cases bt y s <;> cases bt P s <;> decide
        have hout : ch_out n W (y &&& (P ^^^ (-1))) := fun k hk hb => by
          have z := (ho k hk).mp hb
          obtain ⟨g, g1, g2⟩ := q3 k hk ((isS_in hy hk h7).mp z.2)
          exact ⟨g, fun q => ((ho g (ch_R_lt hk g2)).mp q).1 g1, g2⟩
        obtain ⟨⟨t1, t2, t3⟩, eL, hmd⟩ := s_stepsL hM P y ho cel rig
        dsimp only at hmd
        have hvb : ∀ k, k < n → ((fun s => if bt (y &&& (P ^^^ (-1))) s = true then (ch_T W s n : Int) else 0) k).natAbs ≤ 1200 := fun k _ => by
          have := hW.2.2.1 k
          dsimp only
          split <;> omega
        rw [s_holds P (by omega), m2]
        simp only [Option.bind_some]
        rw [eL]
        simp only [Option.bind_some]
        by_cases hPa : bt P a = true
        · rw [if_pos hPa, if_neg c10, rp_01]
          have hxa : ¬ bt (y &&& (P ^^^ (-1))) a = true := fun z => ((ho a ha).mp z).1 hPa
          obtain ⟨sum', eS⟩ := e_zero hM ha hout hxa hvb (by (try dsimp only); rw [if_neg hxa]) hmd sum
          rw [eS]
          exact ⟨_, _, _, _, _, _, _, _, _, _, rfl, rfl⟩
        · rw [if_neg hPa, if_pos rfl]
          have hxa : bt (y &&& (P ^^^ (-1))) a = true := (ho a ha).mpr ⟨hPa, (isS_in hy ha h7).mpr (ch_R_refl _ _ _)⟩
          obtain ⟨gns', eg, hg⟩ := s_gainStep hC gns
          rw [eg, m1]
          simp only [Option.bind_some]
          obtain ⟨rst', rws', last', u', v', sum', k1, k2⟩ := e_solve hC hM ha hout hxa (g := fun i => ((ch_t n W i : Nat) : Int)) hg (fun k _ => by
            have := ch_t_le hW k
            (try dsimp only); omega) hvb (fun k hk hb => by
            (try dsimp only)
            rw [if_pos hb, (ch_pT (ch_out_T hout hk hb)).2, ch_sC_zero n (fun l _ hl => by rw [if_neg hl]; simp)]
            omega) rst rws hmd sum
          rw [k1, k2]
          exact ⟨_, _, _, _, _, _, _, _, _, _, rfl, rfl⟩
    · rw [if_neg s1]
      rcases s2 with s2 | s2
      · rw [if_pos s2]
        exact ⟨_, _, _, _, _, _, _, _, _, _, rfl, rfl⟩
      · by_cases s3 : P < 0
        · rw [if_pos s3]
          exact ⟨_, _, _, _, _, _, _, _, _, _, rfl, rfl⟩
        · rw [if_neg s3, if_neg s2]
          exact ⟨_, _, _, _, _, _, _, _, _, _, rfl, rfl⟩
  · simp only [e1, e2, Option.bind_some, if_true]
    exact ⟨_, _, _, _, _, _, _, _, _, _, rfl, rfl⟩
theorem s_visitsL (h : repM n W sts wgt) {x : Int32} {b : Nat} (hb : b < n) (hxb : bt x b = true) (cel rig : Nat → Int64) : ∃ t, f_M_visits_L69 sts wgt (nI b) x 300 (0 : Int32) cel rig = some t ∧ md_ok n W (fun s => bt x s) (fun s => if s = b then (ch_T W s n : Int) else 0) n t.2.1 t.2.2 := by
  have hfix := fun cel rig s (hs : s < n) v => s_fix h.1.1 cel rig hs v
  have hlay := fun cel rig s (hs : s < n) v => s_lay h cel rig hs v
  have htot := fun s (hs : s < n) => s_Mtotal h (i := s) (by have := h.1.1; omega)
  obtain ⟨⟨h7, h9, h12, hz⟩, hc, -⟩ := h
  unfold f_M_visits_L69
  refine lp_run0 (fun q => f_M_visits_B69 sts wgt (nI b) x q.1 q.2.1 q.2.2) (fun k q => q.1 = nI k ∧ md_ok n W (fun s => bt x s) (fun s => if s = b then (ch_T W s n : Int) else 0) k q.2.1 q.2.2) _ n 300 (0, cel, rig) (by omega) ⟨rfl, fun s hs => by omega⟩
    (fun k q hk hq => by
      obtain ⟨q1, q2, q3⟩ := q
      obtain ⟨e1, e2⟩ := hq
      dsimp only at e1 e2
      subst e1
      simp only [f_M_visits_B69]
      rw [s_Mhas _ (by omega), htot k hk]
      simp only [Option.bind_some]
      rw [hc] at hlay ⊢
      rw [if_neg (nI_ge hk (by omega))]
      by_cases hx : bt x k = true
      · rw [if_pos hx, if_neg c10]
        by_cases hkb : k = b
        · rw [if_pos (by rw [hkb]), nI_long _ (by have := h12 k; omega)]
          simp only [Option.bind_some]
          obtain ⟨c', r', e, hrow⟩ := hlay q2 q3 k hk (lI (ch_T W k n : Nat))
          rw [e]
          exact ⟨_, rfl, nI_1 k, md_step h7 hk e2 hrow (fun t _ => md_laid hx t) (by rw [if_pos hkb])⟩
        · rw [if_neg (fun z => hkb ((nI_eq (by omega) (by omega)).mp z))]
          simp only [Option.bind_some]
          obtain ⟨c', r', e, hrow⟩ := hlay q2 q3 k hk 0
          rw [e]
          exact ⟨_, rfl, nI_1 k, md_step h7 hk e2 hrow (fun t _ => md_laid hx t) (by rw [if_neg hkb]; rfl)⟩
      · have hkb : k ≠ b := fun z => hx (by rw [z]; exact hxb)
        rw [if_neg hx, if_pos rfl]
        obtain ⟨c', r', e, hrow⟩ := hfix q2 q3 k hk 0
        rw [e]
        exact ⟨_, rfl, nI_1 k, md_step h7 hk e2 hrow (fun t _ => md_fixed hx t) (by rw [if_neg hkb]; rfl)⟩)
    (fun q hq => by
      obtain ⟨q1, q2, q3⟩ := q
      obtain ⟨e1, e2⟩ := hq
      dsimp only at e1 e2
      subst e1
      simp only [f_M_visits_B69]
      rw [hc, if_pos (nI_le (Nat.le_refl n) (by omega))]
      exact ⟨_, rfl, e2⟩)
theorem visits_b : @f_M_visits_L69b = @f_M_visits_L69 := rfl
theorem e_visits (hC : repC n W cnt w tot) (hM : repM n W sts wgt) (gns : Nat → Int64) (rst : Nat → Int32) (rws : Nat → Nat → Int64) (last : Int32) (u v : Int64) (cel rig sum : Nat → Int64) (p1 p2 : Int32) :
    ∃ r gns' rst' rws' last' u' v' cel' rig' sum', f_CS_visits cnt w tot gns rst rws last u v p1 p2 = some (r, gns', rst', rws', last', u', v') ∧ f_M_visits sts wgt u v cel rig sum p1 p2 = some (r, 0, u', v', cel', rig', sum') := by
  have hW := hC.1
  have h7 := hC.1.1
  have hc := hC.2.1
  have hs := hM.2.1
  unfold f_CS_visits f_M_visits
  rcases has_both h7 hc hs p1 with ⟨a, ha, rfl, e1, e2⟩ | ⟨e1, e2⟩
  · simp only [e1, e2, Option.bind_some, if_neg c10]
    rcases has_both h7 hc hs p2 with ⟨b, hb, rfl, e3, e4⟩ | ⟨e3, e4⟩
    · simp only [e3, e4, Option.bind_some, if_neg c10]
      obtain ⟨x, l1, l2, l3, hx⟩ := lead_eq hC hM ((1 : Int32) <<< (nI b &&& 31)) (one_lt h7 hb)
      have hx : isS x n (fun i => ch_R (ch_E n W) (fun _ => False) i b) := isS_congr hx (fun i _ => one_iff h7 hb _)
      simp only [l1, l3, Option.bind_some]
      rw [s_holds x (by omega), s_Mhas x (by omega)]
      simp only [Option.bind_some]
      by_cases hxa : bt x a = true
      · simp only [if_pos hxa, if_neg c10]
        rcases closed_eq hC hM hb with ⟨q1, q2, k0, k1, k2, k3⟩ | ⟨q1, q2, -⟩
        · simp only [q1, q2, Option.bind_some, if_true]
          have hxb : bt x b = true := (isS_in hx hb h7).mpr (ch_R_refl _ _ _)
          have hout : ch_out n W x := fun k hk hbk => by
            have z := (isS_in hx hk h7).mp hbk
            exact ⟨k0, fun q => k3 ((isS_in hx k1 h7).mp q), ch_R_trans z k2⟩
          obtain ⟨⟨t1, t2, t3⟩, eL, hmd⟩ := s_visitsL hM hb hxb cel rig
          dsimp only at hmd
          rw [visits_b, eL]
          simp only [Option.bind_some]
          obtain ⟨gns', eg, hg⟩ := s_gainBeing hC gns hb
          rw [eg]
          simp only [Option.bind_some]
          obtain ⟨rst', rws', last', u', v', sum', g1, g2⟩ := e_solve hC hM ha hout hxa (g := fun i => if i = b then (ch_t n W i : Int) else 0) (v := fun s => if s = b then (ch_T W s n : Int) else 0) hg (fun k _ => by
            have := ch_t_le hW k
            (try dsimp only); split <;> omega) (fun k _ => by
            have := hW.2.2.1 k
            (try dsimp only); split <;> omega) (fun k hk hbk => by
            (try dsimp only)
            rw [(ch_pT (ch_out_T hout hk hbk)).2, ch_sC_zero n (fun l _ hl => by
              rw [if_neg (fun z => hl (by rw [z]; exact hxb))]; simp)]
            omega) rst rws hmd sum
          rw [g1, g2]
          exact ⟨_, _, _, _, _, _, _, _, _, _, rfl, rfl⟩
        · simp only [q1, q2, Option.bind_some, if_neg c10]
          exact ⟨_, _, _, _, _, _, _, _, _, _, rfl, rfl⟩
      · simp only [if_neg hxa, if_true]
        rw [rp_01, rd_01]
        exact ⟨_, _, _, _, _, _, _, _, _, _, rfl, rfl⟩
    · simp only [e3, e4, Option.bind_some, if_true]
      exact ⟨_, _, _, _, _, _, _, _, _, _, rfl, rfl⟩
  · simp only [e1, e2, Option.bind_some, if_true]
    exact ⟨_, _, _, _, _, _, _, _, _, _, rfl, rfl⟩
theorem ends_eq (hC : repC n W cnt w tot) (hM : repM n W sts wgt) : ∃ x, f_Chain_ends cnt tot = some x ∧ f_M_ends sts wgt = some x ∧ isS x n (fun i => ch_T W i n = 0) := by
  have h7 := hC.1.1
  have hc := hC.2.1
  have hs := hM.2.1
  have he := fun i (hi : i < 7) => s_isEnd hC hi
  have hm := fun i (hi : i < 7) => s_MisEnd hM hi
  have hA : ∃ x, f_Chain_ends cnt tot = some x ∧ isS x n (fun i => ch_T W i n = 0) := by
    unfold f_Chain_ends f_Chain_ends_L4
    obtain ⟨t, e, hQ⟩ := lp_run0 (fun s => f_Chain_ends_B4 cnt tot s.1 s.2) (fun k s => s.2 = nI k ∧ isS s.1 n (fun j => j < k ∧ ch_T W j n = 0)) (fun t => isS t.1 n (fun j => ch_T W j n = 0)) n 300 (0, 0) (by omega) ⟨rfl, isS_congr isS_0 (fun j _ => ⟨fun z => z.elim, fun z => by omega⟩)⟩
      (fun k s hk hs => by
        obtain ⟨s1, s2⟩ := s
        obtain ⟨e1, e2⟩ := hs
        dsimp only at e1 e2
        subst e1
        simp only [f_Chain_ends_B4]
        rw [he k (by omega), hc, if_neg (nI_ge hk (by omega)), Option.bind_some]
        by_cases h0 : ch_T W k n = 0
        · rw [if_pos h0, if_neg c10]
          refine ⟨_, rfl, nI_1 k, isS_congr (isS_or e2 (isS_one hk h7)) (fun j _ => ⟨?_, ?_⟩)⟩
          · rintro (z | z)
            · exact ⟨by omega, z.2⟩
            · subst z; exact ⟨by omega, h0⟩
          · rintro ⟨z1, z2⟩
            rcases Nat.lt_or_ge j k with q | q
            · exact Or.inl ⟨q, z2⟩
            · exact Or.inr (by omega)
        · rw [if_neg h0, if_pos rfl]
          refine ⟨_, rfl, nI_1 k, isS_congr e2 (fun j _ => ⟨fun z => ⟨by omega, z.2⟩, fun z => ⟨?_, z.2⟩⟩)⟩
          rcases Nat.lt_or_ge j k with q | q
          · exact q
          · have : j = k := by omega
            subst this
            exact absurd z.2 h0)
      (fun s hs => by
        obtain ⟨s1, s2⟩ := s
        obtain ⟨e1, e2⟩ := hs
        dsimp only at e1 e2
        subst e1
        simp only [f_Chain_ends_B4, hc]
        rw [if_pos (nI_le (Nat.le_refl n) (by omega))]
        exact ⟨_, rfl, isS_congr e2 (fun j hj => ⟨fun z => z.2, fun z => ⟨hj, z⟩⟩)⟩)
    exact ⟨t.1, by rw [e]; rfl, hQ⟩
  have hB : ∃ x, f_M_ends sts wgt = some x ∧ isS x n (fun i => ch_T W i n = 0) := by
    unfold f_M_ends f_M_ends_L4
    obtain ⟨t, e, hQ⟩ := lp_run0 (fun s => f_M_ends_B4 sts wgt s.1 s.2) (fun k s => s.2 = nI k ∧ isS s.1 n (fun j => j < k ∧ ch_T W j n = 0)) (fun t => isS t.1 n (fun j => ch_T W j n = 0)) n 300 (0, 0) (by omega) ⟨rfl, isS_congr isS_0 (fun j _ => ⟨fun z => z.elim, fun z => by omega⟩)⟩
      (fun k s hk hs0 => by
        obtain ⟨s1, s2⟩ := s
        obtain ⟨e1, e2⟩ := hs0
        dsimp only at e1 e2
        subst e1
        simp only [f_M_ends_B4]
        rw [hm k (by omega), hs, if_neg (nI_ge hk (by omega)), Option.bind_some]
        by_cases h0 : ch_T W k n = 0
        · rw [if_pos h0, if_neg c10]
          refine ⟨_, rfl, nI_1 k, isS_congr (isS_or e2 (isS_one hk h7)) (fun j _ => ⟨?_, ?_⟩)⟩
          · rintro (z | z)
            · exact ⟨by omega, z.2⟩
            · subst z; exact ⟨by omega, h0⟩
          · rintro ⟨z1, z2⟩
            rcases Nat.lt_or_ge j k with q | q
            · exact Or.inl ⟨q, z2⟩
            · exact Or.inr (by omega)
        · rw [if_neg h0, if_pos rfl]
          refine ⟨_, rfl, nI_1 k, isS_congr e2 (fun j _ => ⟨fun z => ⟨by omega, z.2⟩, fun z => ⟨?_, z.2⟩⟩)⟩
          rcases Nat.lt_or_ge j k with q | q
          · exact q
          · have : j = k := by omega
            subst this
            exact absurd z.2 h0)
      (fun s hs0 => by
        obtain ⟨s1, s2⟩ := s
        obtain ⟨e1, e2⟩ := hs0
        dsimp only at e1 e2
        subst e1
        simp only [f_M_ends_B4, hs]
        rw [if_pos (nI_le (Nat.le_refl n) (by omega))]
        exact ⟨_, rfl, isS_congr e2 (fun j hj => ⟨fun z => z.2, fun z => ⟨hj, z⟩⟩)⟩)
    exact ⟨t.1, by rw [e]; rfl, hQ⟩
  obtain ⟨x, ex, hx⟩ := hA
  obtain ⟨y, ey, hy⟩ := hB
  have : y = x := isS_eq hy hx (fun _ _ => Iff.rfl)
  exact ⟨x, ex, by rw [ey, this], hx⟩
theorem s_worthL (h : repM n W sts wgt) (y : Int32) {x : Int32} (ho : ∀ s, s < n → (bt x s = true ↔ ¬ ch_T W s n = 0 ∧ bt y s = true)) {rwd : Nat → Int32} {R : Nat → Int} (hR : ∀ i, i < 7 → rwd i = Int32.ofInt (R i) ∧ (R i).natAbs ≤ 100) (cel rig : Nat → Int64) : ∃ t, f_M_worth_L41 sts wgt rwd y 300 (0 : Int32) cel rig = some t ∧ md_ok n W (fun s => bt x s) (fun s => if bt x s = true then (ch_T W s n : Int) * R s else 0) n t.2.1 t.2.2 := by
  have hfix := fun cel rig s (hs : s < n) v => s_fix h.1.1 cel rig hs v
  have hlay := fun cel rig s (hs : s < n) v => s_lay h cel rig hs v
  have htot := fun s (hs : s < n) => s_Mtotal h (i := s) (by have := h.1.1; omega)
  have hend := fun s (hs : s < n) => s_MisEnd h (i := s) (by have := h.1.1; omega)
  obtain ⟨⟨h7, h9, h12, hz⟩, hc, -⟩ := h
  have hrl : ∀ k, k < 7 → (rwd k).toInt64 = lI (R k) := fun k hk => by
    have := (hR k hk).2
    rw [(hR k hk).1, ← Int64.ofInt_int32ToInt, Int32.toInt_ofInt_of_le (by omega) (by omega)]
    rfl
  unfold f_M_worth_L41
  refine lp_run0 (fun q => f_M_worth_B41 sts wgt rwd y q.1 q.2.1 q.2.2) (fun k q => q.1 = nI k ∧ md_ok n W (fun s => bt x s) (fun s => if bt x s = true then (ch_T W s n : Int) * R s else 0) k q.2.1 q.2.2) _ n 300 (0, cel, rig) (by omega) ⟨rfl, fun s hs => by omega⟩
    (fun k q hk hq => by
      obtain ⟨q1, q2, q3⟩ := q
      obtain ⟨e1, e2⟩ := hq
      dsimp only at e1 e2
      subst e1
      simp only [f_M_worth_B41]
      rw [s_Mhas _ (by omega), htot k hk, hend k hk]
      simp only [Option.bind_some]
      rw [hc] at hlay ⊢
      rw [if_neg (nI_ge hk (by omega)), if_pos (ix_nI (by omega) (by omega)), nI_clamp (by omega), hrl k (by omega), nI_long _ (by have := h12 k; omega), lI_mul]
      by_cases hb : ch_T W k n = 0
      · have hno : ¬ bt x k = true := fun z => ((ho k hk).mp z).1 hb
        rw [if_pos hb, if_neg c10]
        obtain ⟨c', r', e, hrow⟩ := hfix q2 q3 k hk 0
        rw [e]
        exact ⟨_, rfl, nI_1 k, md_step h7 hk e2 hrow (fun t _ => md_fixed hno t) (by rw [if_neg hno]; rfl)⟩
      · rw [if_neg hb, if_pos rfl]
        by_cases hy : bt y k = true
        · have hyes : bt x k = true := (ho k hk).mpr ⟨hb, hy⟩
          rw [if_pos hy, if_neg c10]
          obtain ⟨c', r', e, hrow⟩ := hlay q2 q3 k hk (lI ((ch_T W k n : Nat) * R k))
          rw [e]
          exact ⟨_, rfl, nI_1 k, md_step h7 hk e2 hrow (fun t _ => md_laid hyes t) (by rw [if_pos hyes])⟩
        · have hno : ¬ bt x k = true := fun z => hy ((ho k hk).mp z).2
          rw [if_neg hy, if_pos rfl]
          obtain ⟨c', r', e, hrow⟩ := hfix q2 q3 k hk 0
          rw [e]
          exact ⟨_, rfl, nI_1 k, md_step h7 hk e2 hrow (fun t _ => md_fixed hno t) (by rw [if_neg hno]; rfl)⟩)
    (fun q hq => by
      obtain ⟨q1, q2, q3⟩ := q
      obtain ⟨e1, e2⟩ := hq
      dsimp only at e1 e2
      subst e1
      simp only [f_M_worth_B41]
      rw [hc, if_pos (nI_le (Nat.le_refl n) (by omega))]
      exact ⟨_, rfl, e2⟩)
theorem R_ends {x : Int32} (hx : isS x n (fun i => ch_T W i n = 0)) {i j : Nat} : ch_R (ch_E n W) (bS x) i j ↔ ch_R (ch_E n W) (fun _ => False) i j := by
  constructor
  · exact fun q => ch_R_weak (fun _ z => z.elim) q
  · intro q
    rw [R_mE] at q ⊢
    refine ch_R_ind (fun k => ch_R (mE n W) (bS x) k j) (ch_R_refl _ _ _) ?_ i q
    intro k m _ h2 _ h3
    refine ch_R_left (fun z => ?_) h2 h3
    have hk : k < 32 := by
      rcases Nat.lt_or_ge k 32 with q | q
      · exact q
      · have z : bt x k = true := z
        rw [b_big q] at z; cases z
    have h4 := ((hx k hk).mp z).2
    have h5 := ch_T_le W k m n h2.2.1
    have := h2.2.2
    omega
theorem e_worth (hC : repC n W cnt w tot) (hM : repM n W sts wgt) {rew rwd : Nat → Int32} {R : Nat → Int} (hR : ∀ i, i < 7 → rew i = Int32.ofInt (R i) ∧ (R i).natAbs ≤ 100) (hR2 : ∀ i, i < 7 → rwd i = Int32.ofInt (R i) ∧ (R i).natAbs ≤ 100) (gns : Nat → Int64) (rst : Nat → Int32) (rws : Nat → Nat → Int64) (last : Int32) (u v : Int64) (cel rig sum : Nat → Int64) (p1 : Int32) :
    ∃ r gns' rst' rws' last' u' v' cel' rig' sum', f_CS_worth cnt w tot rew gns rst rws last u v p1 = some (r, gns', rst', rws', last', u', v') ∧ f_M_worth sts wgt rwd u v cel rig sum p1 = some (r, 0, u', v', cel', rig', sum') := by
  have hW := hC.1
  have h7 := hC.1.1
  have hc := hC.2.1
  have hs := hM.2.1
  unfold f_CS_worth f_M_worth
  rcases has_both h7 hc hs p1 with ⟨a, ha, rfl, e1, e2⟩ | ⟨e1, e2⟩
  · simp only [e1, e2, Option.bind_some, if_neg c10]
    obtain ⟨P, n1, n2, hP⟩ := ends_eq hC hM
    simp only [n1, n2, Option.bind_some]
    rcases sure_eq hC hM ha P (fun i hi hb => ((hP i hi).mp hb).1) with ⟨q1, q2⟩ | ⟨q1, q2, q3⟩
    · simp only [q1, q2, Option.bind_some, if_true]
      exact ⟨_, _, _, _, _, _, _, _, _, _, rfl, rfl⟩
    · simp only [q1, q2, Option.bind_some, if_neg c10]
      obtain ⟨y, m1, m2, hy⟩ := met_eq hC hM ha 0
      have hy : isS y n (fun j => ch_R (ch_E n W) (fun _ => False) a j) := isS_congr hy (fun j _ => ⟨fun q => ch_R_weak (fun _ z => z.elim) q, fun q => ch_R_weak (fun i z => ((bS0 i).mp z).elim) q⟩)
      have ho : ∀ s, s < n → (bt (y &&& (P ^^^ (-1))) s = true ↔ ¬ ch_T W s n = 0 ∧ bt y s = true) := fun s hs => by
        rw [b_and, b_not P (by omega), Bool.and_eq_true, Bool.not_eq_true']
        have hPs := isS_in hP hs h7
        constructor
        · rintro ⟨z1, z2⟩
          exact ⟨fun z => by { rw [hPs.mpr z] at z2; cases z2 }, z1⟩
        · rintro ⟨z1, z2⟩
          exact ⟨z2, by cases hh : bt P s; rfl; exact absurd (hPs.mp hh) z1⟩
      have hout : ch_out n W (y &&& (P ^^^ (-1))) := fun k hk hb => by
        have z := (ho k hk).mp hb
        obtain ⟨g, g1, g2⟩ := q3 k hk ((R_ends hP).mpr ((isS_in hy hk h7).mp z.2))
        have hgn := ch_R_lt hk g2
        exact ⟨g, fun q => ((ho g hgn).mp q).1 ((isS_in hP hgn h7).mp g1), g2⟩
      obtain ⟨⟨t1, t2, t3⟩, eL, hmd⟩ := s_worthL hM y ho hR2 cel rig
      dsimp only at hmd
      have hmul : ∀ k, k < n → (((ch_T W k n : Nat) : Int) * R k).natAbs ≤ 1200 := fun k hk => by
        rw [Int.natAbs_mul, Int.natAbs_natCast]
        exact Nat.le_trans (Nat.mul_le_mul (hW.2.2.1 k) (hR k (by omega)).2) (by decide)
      have hvb : ∀ k, k < n → ((fun s => if bt (y &&& (P ^^^ (-1))) s = true then (ch_T W s n : Int) * R s else 0) k).natAbs ≤ 1200 := fun k hk => by
        have := hmul k hk
        dsimp only
        split
        · exact this
        · decide
      rw [s_holds P (by omega), m2]
      simp only [Option.bind_some]
      rw [eL]
      simp only [Option.bind_some]
      by_cases hPa : bt P a = true
      · rw [if_pos hPa, if_neg c10, rp_01]
        have hxa : ¬ bt (y &&& (P ^^^ (-1))) a = true := fun z => ((ho a ha).mp z).1 ((isS_in hP ha h7).mp hPa)
        obtain ⟨sum', eS⟩ := e_zero hM ha hout hxa hvb (by (try dsimp only); rw [if_neg hxa]) hmd sum
        rw [eS]
        exact ⟨_, _, _, _, _, _, _, _, _, _, rfl, rfl⟩
      · rw [if_neg hPa, if_pos rfl]
        have hxa : bt (y &&& (P ^^^ (-1))) a = true := (ho a ha).mpr ⟨fun z => hPa ((isS_in hP ha h7).mpr z), (isS_in hy ha h7).mpr (ch_R_refl _ _ _)⟩
        obtain ⟨gns', eg, hg⟩ := s_gainReward hC hR gns
        rw [eg, m1]
        simp only [Option.bind_some]
        obtain ⟨rst', rws', last', u', v', sum', k1, k2⟩ := e_solve hC hM ha hout hxa (g := fun i => ((ch_t n W i : Nat) : Int) * R i) hg (fun k hk => by
          (try dsimp only)
          rw [Int.natAbs_mul, Int.natAbs_natCast]
          exact Nat.le_trans (Nat.mul_le_mul (ch_t_le hW k) (hR k (by omega)).2) (by decide)) hvb (fun k hk hb => by
          (try dsimp only)
          rw [if_pos hb, (ch_pT (ch_out_T hout hk hb)).2, ch_sC_zero n (fun l _ hl => by rw [if_neg hl]; simp)]
          omega) rst rws hmd sum
        rw [k1, k2]
        exact ⟨_, _, _, _, _, _, _, _, _, _, rfl, rfl⟩
  · simp only [e1, e2, Option.bind_some, if_true]
    exact ⟨_, _, _, _, _, _, _, _, _, _, rfl, rfl⟩
end
