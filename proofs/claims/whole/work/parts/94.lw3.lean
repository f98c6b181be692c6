/-! LW3: the law, its loop and its start -/
theorem kO1 : (.arrayOver (.array .int) : Cond) ∈ lw_tbl := by decide +kernel
theorem kO2 : (.arrayOver (.array .long) : Cond) ∈ lw_tbl := by decide +kernel
theorem lw_sub4 {L : Nat} (hL : L ≤ 2048) (i : Nat) (hi : i ≤ 2100) : (Int32.ofNat L - 4 < nI i ↔ L < i + 4) := by
  have e1 : (Int32.ofNat L).toInt = L := nI_toInt (by omega)
  have e2 : (Int32.ofNat L - 4).toInt = (L : Int) - 4 := by
    rw [Int32.toInt_sub, e1]
    show ((L : Int) - 4).bmod (2 ^ 32) = (L : Int) - 4
    rw [Int.bmod_def]
    split <;> omega
  rw [Int32.lt_iff_toInt_lt, e2, nI_toInt (by omega)]
  omega
theorem hinL0 : ∀ w ∈ u_ws RX0 TX0 4, w ∈ lw_tbl := fun w h => tblG_in w (hinX0 w h)
theorem hinL1 : ∀ w ∈ u_ws RX1 TX1 5, w ∈ lw_tbl := fun w h => tblG_in w (hinX1 w h)
theorem hinL2 : ∀ w ∈ u_ws RX2 TX2 2, w ∈ lw_tbl := fun w h => tblG_in w (hinX2 w h)
theorem hinL3 : ∀ w ∈ u_ws RX3 TX3 3, w ∈ lw_tbl := fun w h => tblG_in w (hinX3 w h)
theorem hinL4 : ∀ w ∈ u_ws RX4 TX4 4, w ∈ lw_tbl := fun w h => tblG_in w (hinX4 w h)
theorem hinL5 : ∀ w ∈ u_ws RX5 TX5 1, w ∈ lw_tbl := fun w h => tblG_in w (hinX5 w h)
theorem hinL6 : ∀ w ∈ u_ws RX6 TX6 7, w ∈ lw_tbl := fun w h => tblG_in w (hinX6 w h)
theorem hinL7 : ∀ w ∈ u_ws RX7 TX7 12, w ∈ lw_tbl := fun w h => tblG_in w (hinX7 w h)
set_option maxHeartbeats 4000000 in
set_option maxRecDepth 100000 in
theorem law_loop {p : Program} {e : Env} {s : State} {m : MethodId} {below : List Frame} {meth : Method} {c : Code} (l : Launch) {b L : Nat} {xs : Nat → Int32} (hL : L ≤ 2048) (C0 : lw_At p s m meth c b L xs) {dC : Nat → ClassId} {dI : Nat → Nat → Nat} {tI tL tII tLL : ClassId} {adC adM : Nat → Nat} (hK : va_K (dC, dI) vwCl (tysA tI tL tII tLL) s) (hN : NW s) (hD : va_D (fun q : Nat => s.heap.size ≤ q) (wC0 adC tI tL tII tLL ++ wM0 adM tI tL tII tLL)) : ∀ (n i : Nat), i ≤ L + 4 → L + 5 ≤ i + n → ∀ (H : Heap) (locs : List Loc) (ls : Array Slot), LI (dC, dI) tI tL tII tLL adC adM H → va_S (fun q : Nat => s.heap.size ≤ q) s.heap H locs → lv_has ls 4 [(0, .ref b), (1, .ref (adC 0)), (2, .ref (adM 0)), (3, .int (nI i))] → W p l e room_1 s m #[Value.ref b] below meth c H locs 41 487 (lw_Z below #[Value.ref b] s) (F0 m 18 ls []) := by
  obtain ⟨hx, hb, hr, hml, hown, hts, hX, hbl, hlocks, hgv⟩ := id C0
  have hbA : ¬ (fun q : Nat => s.heap.size ≤ q) b := Nat.not_le.mpr hbl
  intro n
  induction n with
  | zero => intro i h1 h2; omega
  | succ n ih =>
    intro i h1 h2 H locs ls hI hS hl
    refine lv_iload_n hx hb dL_law_18 rfl (lv_at hl 3 rfl) ?_
    refine lv_aload_n hx hb dL_law_19 rfl (lv_at hl 0 rfl) ?_
    refine va_slen hx hb hX hbl hbA hS dL_law_20 ?_
    refine lv_iconst (v := 4) hx hb dL_law_21 (by decide) ?_
    refine lv_isub hx hb dL_law_22 ?_
    refine lv_icmp_gt (tgt := 637) hx hb dL_law_23 (by decide) (fun c1 => ?_) (fun c1 => ?_)
    · refine lv_iconst (v := 1) hx hb dL_law_637 (by decide) ?_
      refine va_forget (fun q hq => hS.2.2 q hq) ?_
      refine W.widen (k := 600000) (n := 7302250) (by decide) (by decide) ?_
      exact lw_ret hx hb hr hlocks dL_law_638
    · have hi : i + 4 ≤ L := by
        rcases Nat.lt_or_ge L (i + 4) with q | q
        · exact absurd ((lw_sub4 hL i (by omega)).mpr q) c1
        · exact q
      have hin : ∀ k : Nat, k < 4 → vp_in (nI i + nI k) L := fun k hk => by rw [nI_add]; exact vp_in_nI (by omega) (by omega)
      have kk : ∀ (H : Heap) (locs : List Loc), LI (dC, dI) tI tL tII tLL adC adM H → va_S (fun q : Nat => s.heap.size ≤ q) s.heap H locs → W p l e room_1 s m #[Value.ref b] below meth c H locs 41 487 (lw_Z below #[Value.ref b] s) (F0 m 631 ls []) := by
        intro H locs hI hS
        refine lv_iinc (v := nI (i + 4)) (lv' := [(3, .int (nI (i + 4))), (0, .ref b), (1, .ref (adC 0)), (2, .ref (adM 0))]) hx hb dL_law_631 hl (k := 3) rfl (nI_add i 4) (by decide) rfl (fun ls hl => ?_)
        refine lv_goto (tgt := 18) hx hb dL_law_634 (by decide) ?_
        exact ih (i + 4) (by omega) (by omega) H locs ls hI hS (lv_sub hl [1, 2, 3, 0] rfl)
      refine lv_aload_n hx hb dL_law_26 rfl (lv_at hl 0 rfl) ?_
      refine lv_iload_n hx hb dL_law_27 rfl (lv_at hl 3 rfl) ?_
      refine va_sld hx hb hX hbl hbA hS (vp_in_nI (by omega) (by omega)) dL_law_28 ?_
      refine lv_bipush (v := 31) hx hb dL_law_29 (by decide) ?_
      refine lv_iand hx hb dL_law_31 ?_
      generalize xs (nI i).toNatClampNeg &&& 31 = v
      by_cases v0 : v = 0
      · refine lv_tableIn (tgt := 124) hx hb dL_law_32 (by rw [v0]; decide) (by rw [v0]; decide) (by rw [v0]; rfl) (by decide) ?_
        exact law_clear l C0 hin hK hN hI hD hS hl kk
      by_cases v1 : v = 1
      · refine lv_tableIn (tgt := 135) hx hb dL_law_32 (by rw [v1]; decide) (by rw [v1]; decide) (by rw [v1]; rfl) (by decide) ?_
        exact law_state l C0 hin hK hN hI hD hS hl kk
      by_cases v2 : v = 2
      · refine lv_tableIn (tgt := 148) hx hb dL_law_32 (by rw [v2]; decide) (by rw [v2]; decide) (by rw [v2]; rfl) (by decide) ?_
        exact law_arc l C0 hin hK hN hI hD hS hl kk
      by_cases v3 : v = 3
      · refine lv_tableIn (tgt := 191) hx hb dL_law_32 (by rw [v3]; decide) (by rw [v3]; decide) (by rw [v3]; rfl) (by decide) ?_
        exact law_reward l C0 hin hK hN hI hD hS hl kk
      by_cases v4 : v = 4
      · refine lv_tableIn (tgt := 224) hx hb dL_law_32 (by rw [v4]; decide) (by rw [v4]; decide) (by rw [v4]; rfl) (by decide) ?_
        exact law_part l C0 hin hK hN hI hD hS hl kk
      by_cases v5 : v = 5
      · refine lv_tableIn (tgt := 247) hx hb dL_law_32 (by rw [v5]; decide) (by rw [v5]; decide) (by rw [v5]; rfl) (by decide) ?_
        exact law_closed l C0 hin hK hN hI hD hS hl kk
      by_cases v6 : v = 6
      · refine lv_tableIn (tgt := 270) hx hb dL_law_32 (by rw [v6]; decide) (by rw [v6]; decide) (by rw [v6]; rfl) (by decide) ?_
        exact law_period l C0 hin hK hN hI hD hS hl kk
      by_cases v7 : v = 7
      · refine lv_tableIn (tgt := 293) hx hb dL_law_32 (by rw [v7]; decide) (by rw [v7]; decide) (by rw [v7]; rfl) (by decide) ?_
        exact law_alike l C0 hin hK hN hI hD hS hl kk
      by_cases v8 : v = 8
      · refine lv_tableIn (tgt := 316) hx hb dL_law_32 (by rw [v8]; decide) (by rw [v8]; decide) (by rw [v8]; rfl) (by decide) ?_
        exact law_ever l C0 hin hK hN hI hD hS hl kk
      by_cases v9 : v = 9
      · refine lv_tableIn (tgt := 349) hx hb dL_law_32 (by rw [v9]; decide) (by rw [v9]; decide) (by rw [v9]; rfl) (by decide) ?_
        exact law_again l C0 hin hK hN hI hD hS hl kk
      by_cases v10 : v = 10
      · refine lv_tableIn (tgt := 372) hx hb dL_law_32 (by rw [v10]; decide) (by rw [v10]; decide) (by rw [v10]; rfl) (by decide) ?_
        exact law_before l C0 hin hK hN hI hD hS hl kk
      by_cases v11 : v = 11
      · refine lv_tableIn (tgt := 415) hx hb dL_law_32 (by rw [v11]; decide) (by rw [v11]; decide) (by rw [v11]; rfl) (by decide) ?_
        exact law_steps l C0 hin hK hN hI hD hS hl kk
      by_cases v12 : v = 12
      · refine lv_tableIn (tgt := 448) hx hb dL_law_32 (by rw [v12]; decide) (by rw [v12]; decide) (by rw [v12]; rfl) (by decide) ?_
        exact law_visits l C0 hin hK hN hI hD hS hl kk
      by_cases v13 : v = 13
      · refine lv_tableIn (tgt := 481) hx hb dL_law_32 (by rw [v13]; decide) (by rw [v13]; decide) (by rw [v13]; rfl) (by decide) ?_
        exact law_share l C0 hin hK hN hI hD hS hl kk
      by_cases v14 : v = 14
      · refine lv_tableIn (tgt := 514) hx hb dL_law_32 (by rw [v14]; decide) (by rw [v14]; decide) (by rw [v14]; rfl) (by decide) ?_
        exact law_after l C0 hin hK hN hI hD hS hl kk
      by_cases v15 : v = 15
      · refine lv_tableIn (tgt := 557) hx hb dL_law_32 (by rw [v15]; decide) (by rw [v15]; decide) (by rw [v15]; rfl) (by decide) ?_
        exact law_worth l C0 hin hK hN hI hD hS hl kk
      by_cases v16 : v = 16
      · refine lv_tableIn (tgt := 580) hx hb dL_law_32 (by rw [v16]; decide) (by rw [v16]; decide) (by rw [v16]; rfl) (by decide) ?_
        exact law_upper l C0 hin hK hN hI hD hS hl kk
      by_cases v17 : v = 17
      · refine lv_tableIn (tgt := 594) hx hb dL_law_32 (by rw [v17]; decide) (by rw [v17]; decide) (by rw [v17]; rfl) (by decide) ?_
        exact law_lower l C0 hin hK hN hI hD hS hl kk
      by_cases v18 : v = 18
      · refine lv_tableIn (tgt := 608) hx hb dL_law_32 (by rw [v18]; decide) (by rw [v18]; decide) (by rw [v18]; rfl) (by decide) ?_
        exact law_told l C0 hin hK hN hI hD hS hl kk
      refine lv_tableOut (tgt := 631) hx hb dL_law_32 (tb_out 0 18 (fun k h1 h2 e => by rcases (show k = 0 ∨ k = 1 ∨ k = 2 ∨ k = 3 ∨ k = 4 ∨ k = 5 ∨ k = 6 ∨ k = 7 ∨ k = 8 ∨ k = 9 ∨ k = 10 ∨ k = 11 ∨ k = 12 ∨ k = 13 ∨ k = 14 ∨ k = 15 ∨ k = 16 ∨ k = 17 ∨ k = 18 by omega) with rfl | rfl | rfl | rfl | rfl | rfl | rfl | rfl | rfl | rfl | rfl | rfl | rfl | rfl | rfl | rfl | rfl | rfl | rfl <;> first | exact v0 (Int32.toInt_inj.mp (by rw [e]; rfl)) | exact v1 (Int32.toInt_inj.mp (by rw [e]; rfl)) | exact v2 (Int32.toInt_inj.mp (by rw [e]; rfl)) | exact v3 (Int32.toInt_inj.mp (by rw [e]; rfl)) | exact v4 (Int32.toInt_inj.mp (by rw [e]; rfl)) | exact v5 (Int32.toInt_inj.mp (by rw [e]; rfl)) | exact v6 (Int32.toInt_inj.mp (by rw [e]; rfl)) | exact v7 (Int32.toInt_inj.mp (by rw [e]; rfl)) | exact v8 (Int32.toInt_inj.mp (by rw [e]; rfl)) | exact v9 (Int32.toInt_inj.mp (by rw [e]; rfl)) | exact v10 (Int32.toInt_inj.mp (by rw [e]; rfl)) | exact v11 (Int32.toInt_inj.mp (by rw [e]; rfl)) | exact v12 (Int32.toInt_inj.mp (by rw [e]; rfl)) | exact v13 (Int32.toInt_inj.mp (by rw [e]; rfl)) | exact v14 (Int32.toInt_inj.mp (by rw [e]; rfl)) | exact v15 (Int32.toInt_inj.mp (by rw [e]; rfl)) | exact v16 (Int32.toInt_inj.mp (by rw [e]; rfl)) | exact v17 (Int32.toInt_inj.mp (by rw [e]; rfl)) | exact v18 (Int32.toInt_inj.mp (by rw [e]; rfl)))) (by decide) ?_
      exact kk H locs hI hS
theorem ct_arr {s : State} {args : Array Value} {ty : FieldType} (h : (Cond.arrayClass ty).before args s = true) : ∃ c : ClassId, ArrOfT s c ty ∧ s.vm.findClass ("[" ++ ty.toString) = some c := by
  obtain ⟨c, k, comp, h1, h2, h3⟩ := Cond.arrayClass_spec h
  exact ⟨c, fun n z => ⟨fun k h => (by cases h), k, h2, comp, h3⟩, h1⟩
theorem ct_arr2 {s : State} {args : Array Value} {ty : FieldType} (h : (Cond.arrayOver (.array ty)).before args s = true) : ∃ c : ClassId, ArrOfT s c (.array ty) ∧ s.vm.findClass ("[" ++ (FieldType.array ty).toString) = some c := by
  obtain ⟨comp, c, k, h1, h2, h3, h4, h5⟩ := arrayOverA_spec h
  exact ⟨c, fun n z => ⟨fun k h => (by cases h), k, h3, comp, h4⟩, h5⟩
set_option maxHeartbeats 4000000 in
set_option maxRecDepth 100000 in
theorem whole_start {p : Program} {e : Env} {s : State} {m : MethodId} {below : List Frame} {meth : Method} {c : Code} (l : Launch) {b L : Nat} {xs : Nat → Int32} (hL : L ≤ 2048) (C0 : lw_At p s m meth c b L xs) : W p l e room_1 s m #[Value.ref b] below meth c s.heap [] 0 0 (lw_Z below #[Value.ref b] s) (entryFrame m ([Value.ref b] : List Value).toArray 4) := by
  obtain ⟨hx, hb, hr, hml, hown, hts, hX, hbl, hlocks, hgv⟩ := id C0
  have hown : s.vm.findClass RL = some m.cls := hown
  have hA : ∀ q : Nat, s.heap.size ≤ q → (fun q : Nat => s.heap.size ≤ q) q := fun _ h => h
  have hbA : ¬ (fun q : Nat => s.heap.size ≤ q) b := Nat.not_le.mpr hbl
  obtain ⟨c0, iS0, hKn0⟩ := u_known (C := RX0) (T := TX0) (N := 4) (n := 4) hts hinL0 (hts _ (tblN_in _ kn_15))
  obtain ⟨c1, iS1, hKn1⟩ := u_known (C := RX1) (T := TX1) (N := 5) (n := 5) hts hinL1 (hts _ (tblN_in _ kn_24))
  obtain ⟨c2, iS2, hKn2⟩ := u_known (C := RX2) (T := TX2) (N := 2) (n := 2) hts hinL2 (hts _ (tblN_in _ kn_30))
  obtain ⟨c3, iS3, hKn3⟩ := u_known (C := RX3) (T := TX3) (N := 3) (n := 3) hts hinL3 (hts _ (tblN_in _ kn_21))
  obtain ⟨c4, iS4, hKn4⟩ := u_known (C := RX4) (T := TX4) (N := 4) (n := 4) hts hinL4 (hts _ (tblN_in _ kn_27))
  obtain ⟨c5, iS5, hKn5⟩ := u_known (C := RX5) (T := TX5) (N := 1) (n := 1) hts hinL5 (hts _ (tblN_in _ kn_18))
  obtain ⟨c6, iS6, hKn6⟩ := u_known (C := RX6) (T := TX6) (N := 7) (n := 7) hts hinL6 (hts _ kl_155)
  obtain ⟨c7, iS7, hKn7⟩ := u_known (C := RX7) (T := TX7) (N := 12) (n := 12) hts hinL7 (hts _ kl_157)
  obtain ⟨dC, dI, hKc⟩ : ∃ (dC : Nat → ClassId) (dI : Nat → Nat → Nat), ∀ (k : Nat) (q : vw_C), vwCl[k]? = some q → u_Kn s q.1 q.2.1 q.2.2 (dC k) (dI k) := by
    refine ⟨fun k => match k with | 0 => c0 | 1 => c1 | 2 => c2 | 3 => c3 | 4 => c4 | 5 => c5 | 6 => c6 | _ => c7, fun k => match k with | 0 => iS0 | 1 => iS1 | 2 => iS2 | 3 => iS3 | 4 => iS4 | 5 => iS5 | 6 => iS6 | _ => iS7, ?_⟩
    intro k q hq
    match k, hq with
    | 0, hq => cases hq; exact hKn0
    | 1, hq => cases hq; exact hKn1
    | 2, hq => cases hq; exact hKn2
    | 3, hq => cases hq; exact hKn3
    | 4, hq => cases hq; exact hKn4
    | 5, hq => cases hq; exact hKn5
    | 6, hq => cases hq; exact hKn6
    | 7, hq => cases hq; exact hKn7
    | k + 8, hq => simp [vwCl] at hq
  obtain ⟨tI, aI, fI⟩ := ct_arr (hts _ (tblN_in _ kn_10))
  obtain ⟨tL, aL, fL⟩ := ct_arr (hts _ (tblN_in _ kn_11))
  have wO1 : (Cond.arrayOver (.array .int)).before #[Value.ref b] s = true := hts _ kO1
  have wO2 : (Cond.arrayOver (.array .long)).before #[Value.ref b] s = true := hts _ kO2
  obtain ⟨tII, aII, fII⟩ := ct_arr2 wO1
  obtain ⟨tLL, aLL, fLL⟩ := ct_arr2 wO2
  have hO1 : va_AOA .int s := va_AOA.of wO1
  have hO2 : va_AOA .long s := va_AOA.of wO2
  have hN : NW s := ⟨fun q hq => va_Nw.of rfl (hts _ (nwF_in q hq)), fun q hq => va_Nw.of rfl (hts _ (nwM_in q hq))⟩
  have hK : va_K (dC, dI) vwCl (tysA tI tL tII tLL) s := by
    refine ⟨hKc, fun k q hq => ?_⟩
    match k, hq with
    | 0, hq => cases hq; exact ⟨aI, fI⟩
    | 1, hq => cases hq; exact ⟨aL, fL⟩
    | 2, hq => cases hq; exact ⟨aII, fII⟩
    | 3, hq => cases hq; exact ⟨aLL, fLL⟩
    | k + 4, hq => simp [tysA] at hq
  have hS : va_S (fun q : Nat => s.heap.size ≤ q) s.heap s.heap [] := va_S.rf
  have hP : va_P (dC, dI) vwCl [] s.heap := fun k q h => by simp at h
  have hD : va_D (fun q : Nat => s.heap.size ≤ q) [] := ⟨fun i j p q h => by simp at h, fun k q h => by simp at h⟩
  have hl := lv_entry ([.ref b] : List Value) (n := 4) (Nat.le_of_ble_eq_true rfl)
  rw [lg_entry_eq]
  generalize (lg_sl ([.ref b] : List Value) ++ List.replicate (4 - (lg_sl ([.ref b] : List Value)).length) Slot.unset).toArray = ls at hl ⊢
  have hl : lv_has ls 4 [(0, .ref b)] := hl
  refine va_new (ci := 6) (fs := [.null, .null, .null, .null, .null, .null, .null]) (C := RX6) (T := TX6) (N := 7) hx hb hts hinL6 tyX6 tyX6_ok hown (hts _ kl_154) (hts _ kl_155) (hts _ kl_1) hK hP hD hS hA rfl (fun j hj => by rcases (show j = 0 ∨ j = 1 ∨ j = 2 ∨ j = 3 ∨ j = 4 ∨ j = 5 ∨ j = 6 by omega) with rfl | rfl | rfl | rfl | rfl | rfl | rfl <;> rfl) (Nat.le_of_ble_eq_true rfl) (Nat.le_of_ble_eq_true rfl) dL_law_0 (fun q0 H hP hD hS => ?_)
  have hP : va_P (dC, dI) vwCl (wJ6 q0) H := hP
  have hD : va_D (fun q : Nat => s.heap.size ≤ q) (wJ6 q0) := hD
  refine W.widen (k := 1) (n := 7) (by omega) (by omega) ?_
  refine lv_dup hx hb dL_law_3 rfl ?_
  have hFc := va_free (wc := wJ6 q0) hD hS hA [0] rfl
  refine va_callv (va_runI (As := []) (rest := [.ref q0]) ⟨hx, hb, hml, hown, hts⟩ (c_X6_init l dC dI tI tL tII tLL q0 H.size) (cwI 0 hts (goodLN kl_162 (by decide +kernel)) rfl rfl rfl (hts _ kl_1) (hts _ kl_158) (hts _ kl_160) rfl (by decide +kernel) ⟨Nat.le_of_ble_eq_true rfl, Nat.le_of_ble_eq_true rfl⟩) (pre_in hK hN hO1 hO2 hP hD) rfl rfl hl.1 rfl (lv_room (Nat.le_of_ble_eq_true rfl)) dL_law_4 ⟨Nat.le_of_ble_eq_true rfl, Nat.le_of_ble_eq_true rfl⟩) hS (fun q _ h => hFc q h) hFc (fun adC t H1 locs ht9 hvm hq0 hB hz1 hk1 hS => ?_)
  obtain ⟨hP1, hD1⟩ := hB
  rw [ht9] at hP1
  obtain ⟨hP, hD⟩ := va_join (wr := []) (w1 := wC0 adC tI tL tII tLL) hP hD [0] [] rfl rfl (by decide) (by decide) hk1 hFc hP1 hD1
  generalize H1 = H at hP hS ⊢
  have hP : va_P (dC, dI) vwCl (wC0 adC tI tL tII tLL) H := hP
  have hD : va_D (fun q : Nat => s.heap.size ≤ q) (wC0 adC tI tL tII tLL) := hD
  refine W.widen (k := 33) (n := 221) (by omega) (by omega) ?_
  refine lv_astore_n (lv' := [(1, .ref q0), (0, .ref b)]) hx hb dL_law_7 rfl hl (by decide) rfl (fun ls hl => ?_)
  rw [← hq0] at hl
  refine va_new (ci := 7) (fs := [.int 0, .int 0, .null, .null, .long 0, .long 0, .null, .null, .null, .null, .null, .int 0]) (C := RX7) (T := TX7) (N := 12) hx hb hts hinL7 tyX7 tyX7_ok hown (hts _ kl_156) (hts _ kl_157) (hts _ kl_6) hK hP hD hS hA rfl (fun j hj => by rcases (show j = 0 ∨ j = 1 ∨ j = 2 ∨ j = 3 ∨ j = 4 ∨ j = 5 ∨ j = 6 ∨ j = 7 ∨ j = 8 ∨ j = 9 ∨ j = 10 ∨ j = 11 by omega) with rfl | rfl | rfl | rfl | rfl | rfl | rfl | rfl | rfl | rfl | rfl | rfl <;> rfl) (Nat.le_of_ble_eq_true rfl) (Nat.le_of_ble_eq_true rfl) dL_law_8 (fun q8 H hP hD hS => ?_)
  have hP : va_P (dC, dI) vwCl (wC0 adC tI tL tII tLL ++ wJ7 q8) H := hP
  have hD : va_D (fun q : Nat => s.heap.size ≤ q) (wC0 adC tI tL tII tLL ++ wJ7 q8) := hD
  refine W.widen (k := 34) (n := 233) (by omega) (by omega) ?_
  refine lv_dup hx hb dL_law_11 rfl ?_
  have hPc := hP.sub (ws' := wJ7 q8) [33] rfl
  have hDc := hD.sub (ws' := wJ7 q8) [33] (by decide) rfl
  have hFc := va_free (wc := wJ7 q8) hD hS hA [33] rfl
  refine va_callv (va_runI (As := []) (rest := [.ref q8]) ⟨hx, hb, hml, hown, hts⟩ (c_X7_init l dC dI tI tL tII tLL q8 H.size) (cwI 0 hts (goodLN kl_163 (by decide +kernel)) rfl rfl rfl (hts _ kl_6) (hts _ kl_159) (hts _ kl_161) rfl (by decide +kernel) ⟨Nat.le_of_ble_eq_true rfl, Nat.le_of_ble_eq_true rfl⟩) (pre_in hK hN hO1 hO2 hPc hDc) rfl rfl hl.1 rfl (lv_room (Nat.le_of_ble_eq_true rfl)) dL_law_12 ⟨Nat.le_of_ble_eq_true rfl, Nat.le_of_ble_eq_true rfl⟩) hS (fun q _ h => hFc q h) hFc (fun u t H1 locs ht9 hvm _ hB hz1 hk1 hS => ?_)
  obtain ⟨ad7, r7⟩ := u
  obtain ⟨hP1, hD1⟩ := hB
  rw [ht9] at hP1
  obtain ⟨hP, hD⟩ := va_join (wr := wC0 adC tI tL tII tLL) (w1 := wI7 tI tL tII tLL q8 ad7 r7) hP hD [33] [0, 1, 2, 3, 4, 5, 6, 7, 8, 9, 10, 11, 12, 13, 14, 15, 16, 17, 18, 19, 20, 21, 22, 23, 24, 25, 26, 27, 28, 29, 30, 31, 32] rfl rfl (by decide) (by decide) hk1 hFc hP1 hD1
  generalize H1 = H at hP hS ⊢
  obtain ⟨adM, hadM⟩ : ∃ adM : Nat → Nat, adM = fun i => match i with | 0 => q8 | k + 1 => ad7 k := ⟨_, rfl⟩
  have hP : va_P (dC, dI) vwCl (wC0 adC tI tL tII tLL ++ wM0 adM tI tL tII tLL) H := by rw [hadM]; exact hP
  have hD : va_D (fun q : Nat => s.heap.size ≤ q) (wC0 adC tI tL tII tLL ++ wM0 adM tI tL tII tLL) := by rw [hadM]; exact hD
  have hq8 : q8 = adM 0 := by rw [hadM]
  refine W.widen (k := 41) (n := 487) (by omega) (by omega) ?_
  refine lv_astore_n (lv' := [(2, .ref q8), (1, .ref (adC 0)), (0, .ref b)]) hx hb dL_law_15 rfl hl (by decide) rfl (fun ls hl => ?_)
  rw [hq8] at hl
  refine lv_iconst (v := 0) hx hb dL_law_16 (by decide) ?_
  refine lv_istore_n (lv' := [(3, .int 0), (2, .ref (adM 0)), (1, .ref (adC 0)), (0, .ref b)]) hx hb dL_law_17 rfl hl (by decide) rfl (fun ls hl => ?_)
  refine law_loop l hL C0 hK hN hD (L + 5) 0 (by omega) (by omega) H _ ls ?_ hS (lv_sub hl [3, 2, 1, 0] rfl)
  exact ⟨0, fun _ _ => 0, fun _ => 0, 0, fun _ _ => 0, fun _ => 0, fun _ => 0, fun _ => 0, fun _ => 0, fun _ => 0, fun _ => 0, fun _ _ => 0, 0, fun _ => 0, fun _ => 0, 1, 0, 1, 0, 1, 0, 0, fun _ => 0, fun _ => 0, fun _ => 0, fun _ => 0, fun _ => 0, fun _ => 0, fun _ => 0, 0, hP, Rel_0 (fun _ _ _ _ => nI_0.symm) (fun _ _ => nI_0.symm) (fun _ _ => rfl) (fun _ _ => nI_0.symm) (fun _ _ => rfl)⟩
