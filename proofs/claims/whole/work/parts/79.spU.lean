/-! SPU: share, whole -/
section
variable {n : Nat} {W : Nat → Nat → Nat} {cnt : Int32} {w : Nat → Nat → Int32} {tot : Nat → Int32} {sts : Int32} {wgt : Nat → Int32}
/-- the mean time of return, of the class and by minors -/
theorem mean_tie (hW : okW n W) {b : Nat} (hb : b < n) {x y : Int32} (hy : ∀ s, s < n → (bt y s = true ↔ ch_R (ch_E n W) (fun _ => False) b s)) (hcl : ∀ k, k < n → ch_R (ch_E n W) (fun _ => False) b k → ch_R (ch_E n W) (fun _ => False) k b) (hx : ∀ s, s < n → (bt x s = true ↔ bt y s = true ∧ s ≠ b)) (hT : ∀ k, k < n → bt y k = true → ch_T W k n ≠ 0) :
    (mm_T (fun k => (if bt y k = true then (ch_T W k n : Int) else 0) * cof n (md_B n W (fun s => bt y s)) k) 0 n) * mm_q (sl_A n W (sl_st x n b) (sl_L x n) (fun i => ((ch_t n W i : Nat) : Int))) (sl_L x n + 1) = ((ch_T W b n : Int) * cof n (md_B n W (fun s => bt y s)) b) * mm_M (sl_A n W (sl_st x n b) (sl_L x n) (fun i => ((ch_t n W i : Nat) : Int))) (sl_L x n) (sl_L x n) (sl_L x n + 1) := by
  have h7 := hW.1
  have hyb : bt y b = true := (hy b hb).mpr (ch_R_refl _ _ _)
  have hclW : ∀ k, k < n → bt y k = true → ∀ l, l < n → 0 < W k l → bt y l = true := fun k hk hyk l hl hw => (hy l hl).mpr (ch_R_right ((hy k hk).mp hyk) (fun q => q) (mE_E ⟨hk, hl, hw⟩))
  rw [← re_X (S := fun s => bt y s) h7 hb hyb hclW, ← re_d (S := fun s => bt y s) h7 hb]
  -- the equations of re_E
  have heq : ∀ s, s < n → mm_T (fun c => dt_D (mm_V (re_E n W (fun s => bt y s) b) n) ((mm_I n).map (dt_at c 50)) * re_E n W (fun s => bt y s) b s c) 0 n = dt_D (mm_V (re_E n W (fun s => bt y s) b) n) (mm_I n) * re_E n W (fun s => bt y s) b s 50 := fun s hs => by
    have hm : re_E n W (fun s => bt y s) b s ∈ mm_V (re_E n W (fun s => bt y s) b) n := by
      rw [mm_V_I]; exact List.mem_map.mpr ⟨s, (mm_I_mem n s).mpr hs, rfl⟩
    have h := dt_sol (mm_V (re_E n W (fun s => bt y s) b) n) (mm_I n) (mm_I_nodup n) 50 _ hm
    rw [dt_S_I] at h
    exact h
  generalize hXd : (fun c => dt_D (mm_V (re_E n W (fun s => bt y s) b) n) ((mm_I n).map (dt_at c 50))) = X at heq
  have heq' : ∀ s, s < n → mm_T (fun c => X c * re_E n W (fun s => bt y s) b s c) 0 n = dt_D (mm_V (re_E n W (fun s => bt y s) b) n) (mm_I n) * re_E n W (fun s => bt y s) b s 50 := fun s hs => by
    rw [← hXd]; exact heq s hs
  have hXb : dt_D (mm_V (re_E n W (fun s => bt y s) b) n) ((mm_I n).map (dt_at b 50)) = X b := by rw [← hXd]
  rw [hXb]
  generalize dt_D (mm_V (re_E n W (fun s => bt y s) b) n) (mm_I n) = d at heq'
  have x0 : ∀ s, s < n → ¬ bt y s = true → X s = 0 := fun s hs hys => by
    have h := heq' s hs
    have hsb : s ≠ b := fun z => hys (by rw [z]; exact hyb)
    have e : mm_T (fun c => X c * re_E n W (fun s => bt y s) b s c) 0 n = mm_T (fun c => if c = s then X s else 0) 0 n := mm_T_congr _ 0 (fun c _ hc => by
      unfold re_E
      rw [if_neg (by omega)]
      by_cases cb : c = b
      · rw [if_pos cb, if_neg hsb, if_neg (by omega)]; omega
      · rw [if_neg cb]
        unfold md_B
        rw [if_neg hys]
        by_cases cs : c = s
        · subst cs; rw [if_pos rfl, if_pos rfl]; omega
        · rw [if_neg cs, if_neg cs]; omega)
    rw [e, mm_T_one s _ n 0 (Nat.zero_le _) (by omega)] at h
    rw [h]
    unfold re_E
    rw [if_pos rfl, if_neg hys]; omega
  have xe : ∀ s, s < n → bt y s = true → (ch_T W s n : Int) * X s - ch_sI x (fun l => (W s l : Int) * X l) n = d * (ch_T W s n : Int) := fun s hs hys => by
    have h := heq' s hs
    have e50 : re_E n W (fun s => bt y s) b s 50 = (ch_T W s n : Int) := by unfold re_E; rw [if_pos rfl, if_pos hys]
    rw [e50] at h
    rw [← h]
    have e : mm_T (fun c => X c * re_E n W (fun s => bt y s) b s c) 0 n = mm_T (fun c => (if c = s then (ch_T W s n : Int) * X s else 0) + -(if c = b then 0 else (W s c : Int) * X c)) 0 n := mm_T_congr _ 0 (fun c _ hc => by
      unfold re_E
      rw [if_neg (by omega)]
      by_cases cb : c = b
      · subst cb
        rw [if_pos rfl, if_pos rfl]
        by_cases sc : s = c
        · subst sc; rw [if_pos rfl, if_pos rfl]; grind
        · rw [if_neg sc, if_neg (fun z => sc z.symm)]; omega
      · rw [if_neg cb, if_neg cb]
        unfold md_B
        rw [if_pos hys]
        by_cases cs : c = s
        · subst cs; rw [if_pos rfl, if_pos rfl]; grind
        · rw [if_neg cs, if_neg cs]; grind)
    rw [e, mm_T_add, mm_T_one s _ n 0 (Nat.zero_le _) (by omega)]
    have e3 := mm_T_comb (fun c => if c = b then 0 else (W s c : Int) * X c) (fun _ => 0) (fun c => -(if c = b then 0 else (W s c : Int) * X c)) 1 (-1) 0 (fun k => by omega) n 0
    have e4 := ch_split x (fun c => if c = b then 0 else (W s c : Int) * X c) n
    rw [ch_sC_zero n (fun l hl hxl => by
      by_cases lb : l = b
      · rw [if_pos lb]
      · rw [if_neg lb, x0 l hl (fun z => hxl ((hx l hl).mpr ⟨z, lb⟩))]; simp), ch_sI_congr (g := fun l => (W s l : Int) * X l) n (fun l hl hbl => by rw [if_neg ((hx l hl).mp hbl).2])] at e4
    omega
  exact sl_tie (x := x) (a := b) (g := fun i => ((ch_t n W i : Nat) : Int)) h7 X (X b) d (fun k hk hbk => by
    have hyk := ((hx k hk).mp hbk).1
    have hp := ch_pT (hT k hk hyk)
    (try dsimp only)
    rw [hp.1, hp.2]
    exact xe k hk hyk) (by
    have hp := ch_pT (hT b hb hyb)
    (try dsimp only)
    rw [hp.1, hp.2]
    exact xe b hb hyb)
theorem solveM_A : @f_FirstSteps_solveM = @f_FirstSteps_solveA := rfl
theorem rd_id {m q : Int} (hq : 0 < q) : rdU (rdU m q) (rdL m q) = rdU m q ∧ rdL (rdU m q) (rdL m q) = rdL m q := by
  have hl := rd_Lpos m q (by omega)
  have u := rd_U m q
  have l := rd_L m q
  rw [if_neg (by omega)] at u l
  have := rd_eq (n := rdU m q) (d := rdL m q) (n' := m) (d' := q) (by
    have h1 : rdU m q * q = rdU m q * (rdL m q * (Int.gcd m q : Int)) := by rw [l]
    have h2 : m * rdL m q = (rdU m q * (Int.gcd m q : Int)) * rdL m q := by rw [u]
    rw [h1, h2]; grind) (by omega) (by omega)
  exact this
theorem e_share (hC : repC n W cnt w tot) (hM : repM n W sts wgt) (gns : Nat → Int64) (rst : Nat → Int32) (rws : Nat → Nat → Int64) (last : Int32) (u v mu ml : Int64) (cel rig sum : Nat → Int64) (p1 p2 : Int32) :
    ∃ r gns' rst' rws' last' u' v' mu' ml' cel' rig' sum', f_CS_share cnt w tot gns rst rws last u v mu ml p1 p2 = some (r, gns', rst', rws', last', u', v', mu', ml') ∧ f_M_share sts wgt u v cel rig sum p1 p2 = some (r, 0, u', v', cel', rig', sum') := by
  have hW := hC.1
  have h7 := hC.1.1
  have hc := hC.2.1
  have hs := hM.2.1
  unfold f_CS_share f_M_share
  rcases has_both h7 hc hs p1 with ⟨a, ha, rfl, e1, e2⟩ | ⟨e1, e2⟩
  · simp only [e1, e2, Option.bind_some, if_neg c10]
    rcases has_both h7 hc hs p2 with ⟨b, hb, rfl, e3, e4⟩ | ⟨e3, e4⟩
    · simp only [e3, e4, Option.bind_some, if_neg c10]
      rcases closed_eq hC hM hb with ⟨q1, q2, -⟩ | ⟨q1, q2, hcl⟩
      · simp only [q1, q2, Option.bind_some, if_true]
        rw [rp_01, rd_01]
        exact ⟨_, _, _, _, _, _, _, _, _, _, _, _, rfl, rfl⟩
      · simp only [q1, q2, Option.bind_some, if_neg c10]
        obtain ⟨mx, m1, m2, hm⟩ := met_eq hC hM hb 0
        have hm : isS mx n (fun j => ch_R (ch_E n W) (fun _ => False) b j) := isS_congr hm (fun j _ => ⟨fun q => ch_R_weak (fun _ z => z.elim) q, fun q => ch_R_weak (fun i z => ((bS0 i).mp z).elim) q⟩)
        obtain ⟨ly, l1, l2, l3, hl⟩ := lead_eq hC hM ((1 : Int32) <<< (nI b &&& 31)) (one_lt h7 hb)
        have hl : isS ly n (fun i => ch_R (ch_E n W) (fun _ => False) i b) := isS_congr hl (fun i _ => one_iff h7 hb _)
        have hyS : isS (mx &&& ly) n (fun j => ch_R (ch_E n W) (fun _ => False) b j) := isS_congr (isS_and hm hl) (fun j hj => ⟨fun z => z.1, fun z => ⟨z, hcl j hj z⟩⟩)
        have hpart : f_M_partOf sts wgt (nI b) = some (mx &&& ly) := by
          unfold f_M_partOf; rw [m2, l3]; rfl
        have hy : ∀ s, s < n → (bt (mx &&& ly) s = true ↔ ch_R (ch_E n W) (fun _ => False) b s) := fun s hs => isS_in hyS hs h7
        -- the reference's odds
        obtain ⟨-, -, -, -, cel2, rig2, sum2, x2, -, r2, r3, ho2, hx2, -⟩ := e_odds hC hM ha (mx &&& ly) 0 (fun i hi hbi => ((hyS i hi).mp hbi).1) gns rst rws last cel rig sum
        have hx2 : ∀ s, s < n → (bt x2 s = true ↔ ¬ bt (mx &&& ly) s = true ∧ ch_R (ch_E n W) (fun _ => False) s b) := fun s hs => by
          rw [hx2 s hs]
          constructor
          · rintro ⟨z1, g, z2, z3⟩
            have hgn := ch_R_lt hs z3
            exact ⟨z1, ch_R_trans (ch_R_weak (fun _ z => z.elim) z3) (hcl g hgn ((hy g hgn).mp z2))⟩
          · rintro ⟨z1, z2⟩
            exact ⟨z1, b, (hy b hb).mpr (ch_R_refl _ _ _), ch_R_weak (fun i z => ((bS0 i).mp z).elim) z2⟩
        -- the class's mean return
        obtain ⟨gns3, eg3, hg3⟩ := s_gainStep hC gns
        have hx3 : ∀ s, s < n → (bt (mx &&& (((1 : Int32) <<< (nI b &&& 31)) ^^^ (-1))) s = true ↔ bt (mx &&& ly) s = true ∧ s ≠ b) := fun s hs => by
          rw [hy s hs, b_and, b_not _ (by omega), b_one b (by omega) (by omega), Bool.and_eq_true, Bool.not_eq_true', decide_eq_false_iff_not, isS_in hm hs h7]
        have ho3 : ch_out n W (mx &&& (((1 : Int32) <<< (nI b &&& 31)) ^^^ (-1))) := fun k hk hbk => by
          have z := (hx3 k hk).mp hbk
          exact ⟨b, fun q => ((hx3 b hb).mp q).2 rfl, hcl k hk ((hy k hk).mp z.1)⟩
        have hgb3 : ∀ k, k < n → ((fun i => ((ch_t n W i : Nat) : Int)) k).natAbs ≤ 1200 := fun k _ => by
          have := ch_t_le hW k
          (try dsimp only); omega
        have hel3 := sl_el hW hb ho3 hgb3
        obtain ⟨rst3, rws3, es3⟩ := s_solve hC hg3 rst rws hb (mx &&& (((1 : Int32) <<< (nI b &&& 31)) ^^^ (-1))) hel3
        -- the class's odds
        obtain ⟨gns4, rst4, rws4, last4, -, -, -, x1, r4, -, -, ho1, hx1, -⟩ := e_odds hC hM ha ((1 : Int32) <<< (nI b &&& 31)) 0 (one_lt h7 hb) gns3 rst3 rws3 (nI (sl_L (mx &&& (((1 : Int32) <<< (nI b &&& 31)) ^^^ (-1))) n)) cel rig sum
        have hx1 : ∀ s, s < n → (bt x1 s = true ↔ s ≠ b ∧ ch_R (ch_E n W) (fun _ => False) s b) := fun s hs => by
          rw [hx1 s hs, b_one b (by omega) (by omega), decide_eq_true_eq]
          constructor
          · rintro ⟨z1, z2⟩
            exact ⟨z1, ch_R_weak (fun _ z => z.elim) ((one_iff h7 hb _).mp z2)⟩
          · rintro ⟨z1, z2⟩
            exact ⟨z1, (one_iff h7 hb _).mpr (ch_R_weak (fun i z => ((bS0 i).mp z).elim) z2)⟩
        have hsame := odds_same hW ha hb hcl hy hx1 hx2 ho1 ho2
        have hD2 := md_pos (v := fun s => if bt (mx &&& ly) s = true then (1 : Int) else 0) (o := fun s => bt x2 s) hW ho2
        have hle2 := odds_le (G := mx &&& ly) hW ha ho2 (fun l hl z => ((hx2 l hl).mp z).1)
        rw [hsame.1, hsame.2] at r4
        rw [eg3, m1]
        simp only [Option.bind_some]
        rw [solveM_A, es3]
        simp only [Option.bind_some]
        rw [r4, hpart]
        simp only [Option.bind_some]
        rw [r2]
        simp only [Option.bind_some]
        rw [r3, s_MisEnd hM (by omega)]
        simp only [Option.bind_some]
        -- names for the odds
        have hUb := rd_leL (md_N n W (fun s => bt x2 s) (fun s => if bt (mx &&& ly) s = true then (1 : Int) else 0) a) (md_D n W (fun s => bt x2 s) (fun s => if bt (mx &&& ly) s = true then (1 : Int) else 0)) (by omega)
        have hLp := rd_Lpos (md_N n W (fun s => bt x2 s) (fun s => if bt (mx &&& ly) s = true then (1 : Int) else 0) a) (md_D n W (fun s => bt x2 s) (fun s => if bt (mx &&& ly) s = true then (1 : Int) else 0)) (by omega)
        generalize rdU (md_N n W (fun s => bt x2 s) (fun s => if bt (mx &&& ly) s = true then (1 : Int) else 0) a) (md_D n W (fun s => bt x2 s) (fun s => if bt (mx &&& ly) s = true then (1 : Int) else 0)) = P at *
        generalize rdL (md_N n W (fun s => bt x2 s) (fun s => if bt (mx &&& ly) s = true then (1 : Int) else 0) a) (md_D n W (fun s => bt x2 s) (fun s => if bt (mx &&& ly) s = true then (1 : Int) else 0)) = Q at *
        have hq3 := hel3.2.1 (sl_L (mx &&& (((1 : Int32) <<< (nI b &&& 31)) ^^^ (-1))) n + 1) (Nat.le_refl _)
        by_cases hT : ch_T W b n = 0
        · -- an end: the mean return is 1
          rw [if_pos hT, if_neg c10]
          have hxe : ∀ s, s < n → ¬ bt (mx &&& (((1 : Int32) <<< (nI b &&& 31)) ^^^ (-1))) s = true := fun s hs z => by
            have z := (hx3 s hs).mp z
            exact z.2 (R_end hT ((hy s hs).mp z.1))
          have ht3 := sl_tie (n := n) (W := W) (x := mx &&& (((1 : Int32) <<< (nI b &&& 31)) ^^^ (-1))) (a := b) (g := fun i => ((ch_t n W i : Nat) : Int)) h7 (fun _ => 0) 1 1 (fun k hk hbk => absurd hbk (hxe k hk)) (by
            rw [ch_sI_zero n (fun l hl hbl => absurd hbl (hxe l hl))]
            omega)
          have hrd := rd_eq (n := mm_M (sl_A n W (sl_st (mx &&& (((1 : Int32) <<< (nI b &&& 31)) ^^^ (-1))) n b) (sl_L (mx &&& (((1 : Int32) <<< (nI b &&& 31)) ^^^ (-1))) n) (fun i => ((ch_t n W i : Nat) : Int))) (sl_L (mx &&& (((1 : Int32) <<< (nI b &&& 31)) ^^^ (-1))) n) (sl_L (mx &&& (((1 : Int32) <<< (nI b &&& 31)) ^^^ (-1))) n) (sl_L (mx &&& (((1 : Int32) <<< (nI b &&& 31)) ^^^ (-1))) n + 1)) (d := mm_q (sl_A n W (sl_st (mx &&& (((1 : Int32) <<< (nI b &&& 31)) ^^^ (-1))) n b) (sl_L (mx &&& (((1 : Int32) <<< (nI b &&& 31)) ^^^ (-1))) n) (fun i => ((ch_t n W i : Nat) : Int))) (sl_L (mx &&& (((1 : Int32) <<< (nI b &&& 31)) ^^^ (-1))) n + 1)) (n' := 1) (d' := 1) (by omega) (by omega) (by decide)
          rw [hrd.1, hrd.2]
          have e11 : rdU 1 1 = 1 ∧ rdL 1 1 = 1 := by decide
          rw [e11.1, e11.2, lI_mul, lI_mul, Int.mul_one, Int.mul_one, s_put (by unfold smL; omega) (by unfold smL; omega) (by omega), s_answer (by unfold smL; omega) (by unfold smL; omega) (by omega)]
          exact ⟨_, _, _, _, _, _, _, _, _, _, _, _, rfl, rfl⟩
        · rw [if_neg hT]
          simp only [if_true]
          have hyb : bt (mx &&& ly) b = true := (hy b hb).mpr (ch_R_refl _ _ _)
          have hTk : ∀ k, k < n → bt (mx &&& ly) k = true → ch_T W k n ≠ 0 := fun k hk hyk z => by
            have := R_end z (hcl k hk ((hy k hk).mp hyk))
            rw [← this] at z
            exact hT z
          have hmt := mean_tie hW hb hy hcl hx3 hTk
          obtain ⟨⟨w1, w2, w3, w4, w5, w6⟩, eW, hw1, hw2⟩ := s_share94 hM (mx &&& ly) hb hyb cel2 rig2 sum2
          dsimp only at hw1 hw2
          rw [eW]
          simp only [Option.bind_some]
          rw [hw1, hw2]
          have hcp := fun k (hk : k < n) (hyk : bt (mx &&& ly) k = true) => cof_pos (S := fun s => bt (mx &&& ly) s) hW (fun c d hc hd h1 h2 => ch_R_trans (hcl c hc ((hy c hc).mp h1)) ((hy d hd).mp h2)) hk hyk
          have hob : (((ch_T W b n : Nat) : Int) * cof n (md_B n W (fun s => bt (mx &&& ly) s)) b).natAbs ≤ 12 * 35831808 := by
            rw [Int.natAbs_mul, Int.natAbs_natCast]
            exact Nat.mul_le_mul (hW.2.2.1 b) (hcp b hb hyb).2
          have hop := Int.mul_pos (a := ((ch_T W b n : Nat) : Int)) (by omega) (hcp b hb hyb).1
          have hwb : (mm_T (fun k => (if bt (mx &&& ly) k = true then (ch_T W k n : Int) else 0) * cof n (md_B n W (fun s => bt (mx &&& ly) s)) k) 0 n).natAbs ≤ n * (12 * 35831808) := by
            have key : ∀ m, m ≤ n → (mm_T (fun k => (if bt (mx &&& ly) k = true then (ch_T W k n : Int) else 0) * cof n (md_B n W (fun s => bt (mx &&& ly) s)) k) 0 m).natAbs ≤ m * (12 * 35831808) := by
              intro m
              induction m with
              | zero => intro _; simp [mm_T]
              | succ m ih =>
                intro hm
                rw [mm_T_snoc, Nat.zero_add]
                have k1 := ih (by omega)
                have k2 := Int.natAbs_add_le (mm_T (fun k => (if bt (mx &&& ly) k = true then (ch_T W k n : Int) else 0) * cof n (md_B n W (fun s => bt (mx &&& ly) s)) k) 0 m) ((if bt (mx &&& ly) m = true then (ch_T W m n : Int) else 0) * cof n (md_B n W (fun s => bt (mx &&& ly) s)) m)
                have k3 : ((if bt (mx &&& ly) m = true then (ch_T W m n : Int) else 0) * cof n (md_B n W (fun s => bt (mx &&& ly) s)) m).natAbs ≤ 12 * 35831808 := by
                  by_cases hz : bt (mx &&& ly) m = true
                  · rw [if_pos hz, Int.natAbs_mul, Int.natAbs_natCast]
                    exact Nat.mul_le_mul (hW.2.2.1 m) (hcp m (by omega) hz).2
                  · rw [if_neg hz]; simp
                rw [Nat.add_mul]
                omega
            exact key n (Nat.le_refl n)
          have hwp : 0 < mm_T (fun k => (if bt (mx &&& ly) k = true then (ch_T W k n : Int) else 0) * cof n (md_B n W (fun s => bt (mx &&& ly) s)) k) 0 n := by
            have key : ∀ m, m ≤ n → 0 ≤ mm_T (fun k => (if bt (mx &&& ly) k = true then (ch_T W k n : Int) else 0) * cof n (md_B n W (fun s => bt (mx &&& ly) s)) k) 0 m ∧ (b < m → 0 < mm_T (fun k => (if bt (mx &&& ly) k = true then (ch_T W k n : Int) else 0) * cof n (md_B n W (fun s => bt (mx &&& ly) s)) k) 0 m) := by
              intro m
              induction m with
              | zero => intro _; exact ⟨Int.le_refl 0, fun z => by omega⟩
              | succ m ih =>
                intro hm
                have k1 := ih (by omega)
                rw [mm_T_snoc, Nat.zero_add]
                by_cases hz : bt (mx &&& ly) m = true
                · rw [if_pos hz]
                  have k2 := Int.mul_pos (a := ((ch_T W m n : Nat) : Int)) (by have := hTk m (by omega) hz; omega) (hcp m (by omega) hz).1
                  exact ⟨by omega, fun _ => by omega⟩
                · rw [if_neg hz]
                  refine ⟨by omega, fun z => ?_⟩
                  have : b ≠ m := fun q => hz (by rw [← q]; exact hyb)
                  have := k1.2 (by omega)
                  omega
            exact (key n (Nat.le_refl n)).2 hb
          generalize ((ch_T W b n : Nat) : Int) * cof n (md_B n W (fun s => bt (mx &&& ly) s)) b = own at *
          generalize mm_T (fun k => (if bt (mx &&& ly) k = true then (ch_T W k n : Int) else 0) * cof n (md_B n W (fun s => bt (mx &&& ly) s)) k) 0 n = whole at *
          have hrd := rd_eq (n := mm_M (sl_A n W (sl_st (mx &&& (((1 : Int32) <<< (nI b &&& 31)) ^^^ (-1))) n b) (sl_L (mx &&& (((1 : Int32) <<< (nI b &&& 31)) ^^^ (-1))) n) (fun i => ((ch_t n W i : Nat) : Int))) (sl_L (mx &&& (((1 : Int32) <<< (nI b &&& 31)) ^^^ (-1))) n) (sl_L (mx &&& (((1 : Int32) <<< (nI b &&& 31)) ^^^ (-1))) n) (sl_L (mx &&& (((1 : Int32) <<< (nI b &&& 31)) ^^^ (-1))) n + 1)) (d := mm_q (sl_A n W (sl_st (mx &&& (((1 : Int32) <<< (nI b &&& 31)) ^^^ (-1))) n b) (sl_L (mx &&& (((1 : Int32) <<< (nI b &&& 31)) ^^^ (-1))) n) (fun i => ((ch_t n W i : Nat) : Int))) (sl_L (mx &&& (((1 : Int32) <<< (nI b &&& 31)) ^^^ (-1))) n + 1)) (n' := whole) (d' := own) (by rw [hmt, Int.mul_comm]) (by omega) (by omega)
          rw [hrd.1, hrd.2]
          -- both orders of the same lowest terms
          have hflip : rdU whole own = rdL own whole ∧ rdL whole own = rdU own whole := by
            unfold rdU rdL
            rw [if_neg (by omega), if_neg (by omega), if_neg (by omega), if_neg (by omega), Int.gcd_comm]
            exact ⟨rfl, rfl⟩
          rw [hflip.1, hflip.2, s_answer (n := own) (d := whole) (by unfold smL; omega) (by unfold smL; omega) (by omega)]
          simp only [Option.bind_some]
          have hu1 := rd_leU own whole (by omega)
          have hl1 := rd_leL own whole (by omega)
          have hlp1 := rd_Lpos own whole (by omega)
          have hm1 : (P * rdU own whole).natAbs ≤ 35831808 * (12 * 35831808) := by
            rw [Int.natAbs_mul]; exact Nat.mul_le_mul (by omega) (by omega)
          have hm2 : (Q * rdL own whole).natAbs ≤ 35831808 * (7 * (12 * 35831808)) := by
            rw [Int.natAbs_mul]
            refine Nat.mul_le_mul (by omega) (Nat.le_trans hl1 (Nat.le_trans hwb (Nat.mul_le_mul h7 (Nat.le_refl _))))
          have hmp := Int.mul_pos hLp hlp1
          rw [lI_mul, lI_mul, s_put (by unfold smL; omega) (by unfold smL; omega) (by omega), s_answer (by unfold smL; omega) (by unfold smL; omega) (by omega)]
          exact ⟨_, _, _, _, _, _, _, _, _, _, _, _, rfl, rfl⟩
    · simp only [e3, e4, Option.bind_some, if_true]
      exact ⟨_, _, _, _, _, _, _, _, _, _, _, _, rfl, rfl⟩
  · simp only [e1, e2, Option.bind_some, if_true]
    exact ⟨_, _, _, _, _, _, _, _, _, _, _, _, rfl, rfl⟩
end
