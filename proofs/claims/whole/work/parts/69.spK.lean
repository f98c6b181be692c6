/-! SPK: again -/
section
variable {n : Nat} {W : Nat → Nat → Nat} {cnt : Int32} {w : Nat → Nat → Int32} {tot : Nat → Int32} {sts : Int32} {wgt : Nat → Int32}
theorem rd_11 : f_M_answer (1 : Int64) (1 : Int64) = some (1, lI (rdU 1 1), lI (rdL 1 1)) := s_answer (n := 1) (d := 1) (by unfold smL; decide) (by unfold smL; decide) (by decide)
theorem rd_01 : f_M_answer (0 : Int64) (1 : Int64) = some (1, lI (rdU 0 1), lI (rdL 0 1)) := s_answer (n := 0) (d := 1) (by unfold smL; decide) (by unfold smL; decide) (by decide)
theorem rp_01 : f_Fraction_put (0 : Int64) (1 : Int64) = some (lI (rdU 0 1), lI (rdL 0 1)) := s_put (n := 0) (d := 1) (by unfold smL; decide) (by unfold smL; decide) (by decide)
theorem ch_sm_one {k : Nat} (hk : k < 32) (f : Nat → Nat) : ∀ m, m ≤ 32 → ch_sm ((1 : Int32) <<< (nI k &&& 31)) f m = if k < m then f k else 0 := by
  intro m
  induction m with
  | zero => intro _; rfl
  | succ m ih =>
    intro hm
    simp only [ch_sm]
    rw [ih (by omega), b_one k hk (by omega)]
    by_cases h1 : k < m
    · rw [if_pos h1, if_neg (by simp; omega), if_pos (by omega)]; rfl
    · by_cases h2 : m = k
      · subst h2
        rw [if_neg h1, if_pos (by simp), if_pos (by omega)]; omega
      · rw [if_neg h1, if_neg (by simp; omega), if_neg (by omega)]
theorem ch_sI_zero {x : Int32} {f : Nat → Int} : ∀ m, (∀ l, l < m → bt x l = true → f l = 0) → ch_sI x f m = 0 := by
  intro m
  induction m with
  | zero => intro _; rfl
  | succ m ih =>
    intro h
    simp only [ch_sI]
    rw [ih (fun l hl => h l (by omega))]
    by_cases hb : bt x m = true
    · rw [if_pos hb, h m (by omega) hb]; rfl
    · rw [if_neg hb]; rfl
theorem e_again (hC : repC n W cnt w tot) (hM : repM n W sts wgt) (gns : Nat → Int64) (rst : Nat → Int32) (rws : Nat → Nat → Int64) (last : Int32) (u v : Int64) (cel rig sum : Nat → Int64) (p1 : Int32) :
    ∃ r gns' rst' rws' last' u' v' cel' rig' sum', f_CS_again cnt w tot gns rst rws last u v p1 = some (r, gns', rst', rws', last', u', v') ∧ f_M_again sts wgt u v cel rig sum p1 = some (r, 0, u', v', cel', rig', sum') := by
  have hW := hC.1
  have h7 := hC.1.1
  have hc := hC.2.1
  have hs := hM.2.1
  unfold f_CS_again f_M_again
  rcases has_both h7 hc hs p1 with ⟨a, ha, rfl, e1, e2⟩ | ⟨e1, e2⟩
  · simp only [e1, e2, Option.bind_some, if_neg c10]
    rw [s_MisEnd hM (by omega)]
    simp only [Option.bind_some]
    obtain ⟨r1, cel1, rig1, q1, q2, hout, hx, hmd⟩ := odds_base hC hM ((1 : Int32) <<< (nI a &&& 31)) 0 (one_lt h7 ha) cel rig
    obtain ⟨gns', eg, hg⟩ := s_gainEnter hC gns ((1 : Int32) <<< (nI a &&& 31))
    have hgb : ∀ k, k < n → ((fun i => ((ch_sm ((1 : Int32) <<< (nI a &&& 31)) (ch_p n W i) n : Nat) : Int)) k).natAbs ≤ 1200 := fun k hk => by
      dsimp only
      have q1 := ch_sm_le ((1 : Int32) <<< (nI a &&& 31)) (ch_p n W k) n
      rw [ch_al_p hk] at q1
      have q2 := ch_t_le hW k
      omega
    have hel := sl_el hW ha hout hgb
    obtain ⟨rst', rws', es⟩ := s_solve hC hg rst rws ha (r1 &&& (((1 : Int32) <<< (nI a &&& 31)) ^^^ (-1))) hel
    rw [eg]
    simp only [Option.bind_some]
    rw [q1]
    simp only [Option.bind_some]
    rw [es]
    simp only [Option.bind_some]
    have hop := tie_open (v := fun s => if bt ((1 : Int32) <<< (nI a &&& 31)) s = true then (1 : Int) else 0) (g := fun i => ((ch_sm ((1 : Int32) <<< (nI a &&& 31)) (ch_p n W i) n : Nat) : Int)) h7 hout (fun k hk hb => by
        try dsimp only
        rw [if_neg ((hx k hk).mp hb).1, (ch_pT (ch_out_T hout hk hb)).1, ch_sC_goal n (fun l hl hbl => ((hx l hl).mp hbl).1)]
        omega)
    have hq := hel.2.1 _ (Nat.le_refl _)
    have hD := md_pos (v := fun s => if bt ((1 : Int32) <<< (nI a &&& 31)) s = true then (1 : Int) else 0) (o := fun s => bt (r1 &&& (((1 : Int32) <<< (nI a &&& 31)) ^^^ (-1))) s) hW hout
    have hGa : bt ((1 : Int32) <<< (nI a &&& 31)) a = true := by rw [b_one a (by omega) (by omega)]; simp
    by_cases hT : ch_T W a n = 0
    · rw [if_pos hT, if_neg c10, rd_11]
      simp only [Option.bind_some]
      have hti := sl_tie (x := r1 &&& (((1 : Int32) <<< (nI a &&& 31)) ^^^ (-1))) (a := a) (g := fun i => ((ch_sm ((1 : Int32) <<< (nI a &&& 31)) (ch_p n W i) n : Nat) : Int)) h7 _ (md_D n W (fun s => bt (r1 &&& (((1 : Int32) <<< (nI a &&& 31)) ^^^ (-1))) s) (fun s => if bt ((1 : Int32) <<< (nI a &&& 31)) s = true then (1 : Int) else 0)) _ hop (by
        have et : ch_t n W a = 1 := by unfold ch_t; rw [if_pos hT]
        have ep : ∀ l, ch_p n W a l = if a = l then 1 else 0 := fun l => by unfold ch_p; rw [if_pos hT]
        rw [et, ch_sm_one (by omega) _ n (by omega), if_pos ha, ep a, if_pos rfl, ch_sI_zero n (fun l hl hb => by
          rw [ep l, if_neg (fun z => by subst z; exact ((hx a hl).mp hb).1 hGa)]; simp)]
        simp)
      have hrd := rd_eq (n := 1) (d := 1) (n' := mm_M (sl_A n W (sl_st (r1 &&& (((1 : Int32) <<< (nI a &&& 31)) ^^^ (-1))) n a) (sl_L (r1 &&& (((1 : Int32) <<< (nI a &&& 31)) ^^^ (-1))) n) (fun i => ((ch_sm ((1 : Int32) <<< (nI a &&& 31)) (ch_p n W i) n : Nat) : Int))) (sl_L (r1 &&& (((1 : Int32) <<< (nI a &&& 31)) ^^^ (-1))) n) (sl_L (r1 &&& (((1 : Int32) <<< (nI a &&& 31)) ^^^ (-1))) n) (sl_L (r1 &&& (((1 : Int32) <<< (nI a &&& 31)) ^^^ (-1))) n + 1)) (d' := mm_q (sl_A n W (sl_st (r1 &&& (((1 : Int32) <<< (nI a &&& 31)) ^^^ (-1))) n a) (sl_L (r1 &&& (((1 : Int32) <<< (nI a &&& 31)) ^^^ (-1))) n) (fun i => ((ch_sm ((1 : Int32) <<< (nI a &&& 31)) (ch_p n W i) n : Nat) : Int))) (sl_L (r1 &&& (((1 : Int32) <<< (nI a &&& 31)) ^^^ (-1))) n + 1)) (by
        have := Int.eq_of_mul_eq_mul_left (by omega) hti
        rw [this]; omega) (by decide) (by omega)
      rw [hrd.1, hrd.2]
      exact ⟨_, _, _, _, _, _, _, _, _, _, rfl, rfl⟩
    · rw [if_neg hT]
      simp only [if_true]
      rw [q2]
      simp only [Option.bind_some]
      obtain ⟨sum1, ea⟩ := md_allN h7 hmd sum
      rw [hs, ea, ← hs]
      simp only [Option.bind_some]
      obtain ⟨⟨t1, t2, t3⟩, eL, ht1⟩ := s_againL hM hmd ha sum1
      rw [eL]
      simp only [Option.bind_some]
      rw [s_Mtotal hM (by omega)]
      simp only [Option.bind_some]
      dsimp only at ht1
      have hTl := hW.2.2.1 a
      rw [ht1, nI_long _ (by omega), lI_mul]
      have hNb := fun t (ht : t < n) => md_Nsm (v := fun s => if bt ((1 : Int32) <<< (nI a &&& 31)) s = true then (1 : Int) else 0) (o := fun s => bt (r1 &&& (((1 : Int32) <<< (nI a &&& 31)) ^^^ (-1))) s) hW (fun s _ => by (try dsimp only); split <;> decide) ht
      have hXb := mm_T_bd (W a) _ _ n hNb
      rw [ch_al_W n] at hXb
      have hXb2 := Nat.mul_le_mul hTl (Nat.le_refl 38526359961600)
      have hDb : (((ch_T W a n : Nat) : Int) * md_D n W (fun s => bt (r1 &&& (((1 : Int32) <<< (nI a &&& 31)) ^^^ (-1))) s) (fun s => if bt ((1 : Int32) <<< (nI a &&& 31)) s = true then (1 : Int) else 0)).natAbs ≤ 12 * 35831808 := by
        rw [Int.natAbs_mul, Int.natAbs_natCast]
        exact Nat.mul_le_mul hTl hD.2
      have hDp := Int.mul_pos (a := ((ch_T W a n : Nat) : Int)) (by omega) hD.1
      rw [s_answer (by unfold smL; omega) (by unfold smL; omega) (by omega)]
      simp only [Option.bind_some]
      have hpT := ch_pT hT
      have hti := sl_tie (x := r1 &&& (((1 : Int32) <<< (nI a &&& 31)) ^^^ (-1))) (a := a) (g := fun i => ((ch_sm ((1 : Int32) <<< (nI a &&& 31)) (ch_p n W i) n : Nat) : Int)) h7 (fun l => ((ch_T W a n : Nat) : Int) * md_N n W (fun s => bt (r1 &&& (((1 : Int32) <<< (nI a &&& 31)) ^^^ (-1))) s) (fun s => if bt ((1 : Int32) <<< (nI a &&& 31)) s = true then (1 : Int) else 0) l) (mm_T (fun t => (W a t : Int) * md_N n W (fun s => bt (r1 &&& (((1 : Int32) <<< (nI a &&& 31)) ^^^ (-1))) s) (fun s => if bt ((1 : Int32) <<< (nI a &&& 31)) s = true then (1 : Int) else 0) t) 0 n) (((ch_T W a n : Nat) : Int) * md_D n W (fun s => bt (r1 &&& (((1 : Int32) <<< (nI a &&& 31)) ^^^ (-1))) s) (fun s => if bt ((1 : Int32) <<< (nI a &&& 31)) s = true then (1 : Int) else 0)) (fun k hk hb => by
        have q3 := hop k hk hb
        have q4 : ch_sI (r1 &&& (((1 : Int32) <<< (nI a &&& 31)) ^^^ (-1))) (fun l => (ch_p n W k l : Int) * (((ch_T W a n : Nat) : Int) * md_N n W (fun s => bt (r1 &&& (((1 : Int32) <<< (nI a &&& 31)) ^^^ (-1))) s) (fun s => if bt ((1 : Int32) <<< (nI a &&& 31)) s = true then (1 : Int) else 0) l)) n = ((ch_T W a n : Nat) : Int) * ch_sI (r1 &&& (((1 : Int32) <<< (nI a &&& 31)) ^^^ (-1))) (fun l => (ch_p n W k l : Int) * md_N n W (fun s => bt (r1 &&& (((1 : Int32) <<< (nI a &&& 31)) ^^^ (-1))) s) (fun s => if bt ((1 : Int32) <<< (nI a &&& 31)) s = true then (1 : Int) else 0) l) n := by
          rw [← ch_sI_mul]
          exact ch_sI_congr n (fun l _ _ => by grind)
        try dsimp only
        rw [q4]
        grind) (by
        rw [hpT.1, hpT.2]
        have q3 := md_WN (W := W) (x := r1 &&& (((1 : Int32) <<< (nI a &&& 31)) ^^^ (-1))) (v := fun s => if bt ((1 : Int32) <<< (nI a &&& 31)) s = true then (1 : Int) else 0) h7 a
        have q5 := ch_sC_goal (x := r1 &&& (((1 : Int32) <<< (nI a &&& 31)) ^^^ (-1))) (G := (1 : Int32) <<< (nI a &&& 31)) (f := W a) n (fun l hl hbl => ((hx l hl).mp hbl).1)
        have q4 : ch_sI (r1 &&& (((1 : Int32) <<< (nI a &&& 31)) ^^^ (-1))) (fun l => (W a l : Int) * (((ch_T W a n : Nat) : Int) * md_N n W (fun s => bt (r1 &&& (((1 : Int32) <<< (nI a &&& 31)) ^^^ (-1))) s) (fun s => if bt ((1 : Int32) <<< (nI a &&& 31)) s = true then (1 : Int) else 0) l)) n = ((ch_T W a n : Nat) : Int) * ch_sI (r1 &&& (((1 : Int32) <<< (nI a &&& 31)) ^^^ (-1))) (fun l => (W a l : Int) * md_N n W (fun s => bt (r1 &&& (((1 : Int32) <<< (nI a &&& 31)) ^^^ (-1))) s) (fun s => if bt ((1 : Int32) <<< (nI a &&& 31)) s = true then (1 : Int) else 0) l) n := by
          rw [← ch_sI_mul]
          exact ch_sI_congr n (fun l _ _ => by grind)
        rw [q4, q3, q5]
        grind)
      have hrd := rd_eq (n := mm_M (sl_A n W (sl_st (r1 &&& (((1 : Int32) <<< (nI a &&& 31)) ^^^ (-1))) n a) (sl_L (r1 &&& (((1 : Int32) <<< (nI a &&& 31)) ^^^ (-1))) n) (fun i => ((ch_sm ((1 : Int32) <<< (nI a &&& 31)) (ch_p n W i) n : Nat) : Int))) (sl_L (r1 &&& (((1 : Int32) <<< (nI a &&& 31)) ^^^ (-1))) n) (sl_L (r1 &&& (((1 : Int32) <<< (nI a &&& 31)) ^^^ (-1))) n) (sl_L (r1 &&& (((1 : Int32) <<< (nI a &&& 31)) ^^^ (-1))) n + 1)) (d := mm_q (sl_A n W (sl_st (r1 &&& (((1 : Int32) <<< (nI a &&& 31)) ^^^ (-1))) n a) (sl_L (r1 &&& (((1 : Int32) <<< (nI a &&& 31)) ^^^ (-1))) n) (fun i => ((ch_sm ((1 : Int32) <<< (nI a &&& 31)) (ch_p n W i) n : Nat) : Int))) (sl_L (r1 &&& (((1 : Int32) <<< (nI a &&& 31)) ^^^ (-1))) n + 1)) (n' := mm_T (fun t => (W a t : Int) * md_N n W (fun s => bt (r1 &&& (((1 : Int32) <<< (nI a &&& 31)) ^^^ (-1))) s) (fun s => if bt ((1 : Int32) <<< (nI a &&& 31)) s = true then (1 : Int) else 0) t) 0 n) (d' := ((ch_T W a n : Nat) : Int) * md_D n W (fun s => bt (r1 &&& (((1 : Int32) <<< (nI a &&& 31)) ^^^ (-1))) s) (fun s => if bt ((1 : Int32) <<< (nI a &&& 31)) s = true then (1 : Int) else 0)) (by rw [hti, Int.mul_comm]) (by omega) (by omega)
      rw [hrd.1, hrd.2]
      exact ⟨_, _, _, _, _, _, _, _, _, _, rfl, rfl⟩
  · simp only [e1, e2, Option.bind_some, if_true]
    exact ⟨_, _, _, _, _, _, _, _, _, _, rfl, rfl⟩
end
