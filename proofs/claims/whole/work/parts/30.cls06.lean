abbrev RM_f_CS_visits : Room := { frames := 5, cells := 0, slots := 0, locals := 112 }
abbrev W_CS_visits : List Cond := .code yX6_visits cX6_visits 4 (some .int) :: tblG
set_option maxHeartbeats 4000000 in
set_option maxRecDepth 100000 in
theorem c_CS_visits (l : Launch) (dC : Nat → ClassId) (dI : Nat → Nat → Nat) (ad : Nat → Nat) (tI tL tII tLL : ClassId) (cnt : Int32) (w : Nat → Nat → Int32) (tot : Nat → Int32) (rew : Nat → Int32) (grp : Nat → Int32) (fin : Nat → Int32) (gns : Nat → Int64) (rst : Nat → Int32) (rws : Nat → Nat → Int64) (last : Int32) (now : Nat → Int64) (nxt : Nat → Int64) (whl : Int64) (au : Int64) (al : Int64) (mu : Int64) (ml : Int64) (p1 : Int32) (p2 : Int32) (R0 : Int32) (R_gns : Nat → Int64) (R_rst : Nat → Int32) (R_rws : Nat → Nat → Int64) (R_last : Int32) (R_au : Int64) (R_al : Int64) (hR : some (R0, R_gns, R_rst, R_rws, R_last, R_au, R_al) = f_CS_visits cnt w tot gns rst rws last au al p1 p2) : Met l yX6_visits W_CS_visits RM_f_CS_visits (rwP (dC, dI) vwCl [(tI, .int), (tL, .long), (tII, .array .int), (tLL, .array .long)] (wC ad tI tL tII tLL cnt w tot rew grp fin gns rst rws last now nxt whl au al mu ml) ([.ref (ad 0), .int p1, .int p2] : List Value)) (rwQ (dC, dI) vwCl (wC ad tI tL tII tLL cnt w tot rew grp fin R_gns R_rst R_rws R_last now nxt whl R_au R_al mu ml) (some (.int R0)) (rwA (wC ad tI tL tII tLL cnt w tot rew grp fin gns rst rws last now nxt whl au al mu ml))) 0 0 (rwA (wC ad tI tL tII tLL cnt w tot rew grp fin gns rst rws last now nxt whl au al mu ml)) := by
  refine Met.ofW (cc := cX6_visits) (maxL := 4) (ret := (some .int)) (by decide) rfl ?_
  intro p e s m args below meth c s₁ B hml hv
  obtain ⟨rfl, hP, hK, hN, hD⟩ := hv
  have hx := B.exec
  have hb := B.bytes
  have hr := B.returns
  have hts := atoms_spec (ws := W_CS_visits) B.pre
  have ht := fun (w : Cond) (h : w ∈ tblG) => hts w (List.mem_cons_of_mem _ h)
  have hown : s.vm.findClass RX6 = some m.cls := findClass_of_methodNamed B.named
  have hlocks := B.notSynchronized
  have hl := lv_entry ([.ref (ad 0), .int p1, .int p2] : List Value) (n := 4) (Nat.le_of_ble_eq_true rfl)
  rw [lg_entry_eq]
  generalize (lg_sl ([.ref (ad 0), .int p1, .int p2] : List Value) ++ List.replicate (4 - (lg_sl ([.ref (ad 0), .int p1, .int p2] : List Value)).length) Slot.unset).toArray = ls at hl ⊢
  have hl : lv_has ls 4 [(0, .ref (ad 0)), (1, .int p1), (2, .int p2)] := hl
  have hD := hD.own
  have hS : va_S (rwA (wC ad tI tL tII tLL cnt w tot rew grp fin gns rst rws last now nxt whl au al mu ml)) s.heap s.heap [] := va_S.rf
  suffices K : ∀ (H : Heap) (locs : List Loc), va_P (dC, dI) vwCl (wC ad tI tL tII tLL cnt w tot rew grp fin gns rst rws last now nxt whl au al mu ml) H → va_D (rwA (wC ad tI tL tII tLL cnt w tot rew grp fin gns rst rws last now nxt whl au al mu ml)) (wC ad tI tL tII tLL cnt w tot rew grp fin gns rst rws last now nxt whl au al mu ml) → va_S (rwA (wC ad tI tL tII tLL cnt w tot rew grp fin gns rst rws last now nxt whl au al mu ml)) s.heap H locs → W p l e (headSpec W_CS_visits RM_f_CS_visits).room s m ([.ref (ad 0), .int p1, .int p2] : List Value).toArray below meth c H locs 0 0 (MQ below (rwQ (dC, dI) vwCl (wC ad tI tL tII tLL cnt w tot rew grp fin R_gns R_rst R_rws R_last now nxt whl R_au R_al mu ml) (some (.int R0)) (rwA (wC ad tI tL tII tLL cnt w tot rew grp fin gns rst rws last now nxt whl au al mu ml))) ([.ref (ad 0), .int p1, .int p2] : List Value).toArray s 0 0 (rwA (wC ad tI tL tII tLL cnt w tot rew grp fin gns rst rws last now nxt whl au al mu ml))) (F0 m 0 ls []) from K s.heap [] hP hD hS
  clear hP hD hS
  intro H locs hP hD hS
  rw [f_CS_visits] at hR
  refine lv_aload_n hx hb dX6_visits_0 rfl (lv_at hl 0 rfl) ?_
  refine va_get (D := (dC, dI)) (ci := 6) (v := .ref (ad 1)) (C := RX6) (T := TX6) (N := 7) hx hb ht hinX6 hown hK hP 0 rfl rfl 0 (by decide) (ht _ k_125) (fun _ h9 => h9) rfl dX6_visits_1 ?_
  refine lv_iload_n hx hb dX6_visits_4 rfl (lv_at hl 1 rfl) ?_
  obtain ⟨r1, hC, hR⟩ := ob hR
  try dsimp only at hR
  refine ro_calli (va_runV (As := [.int p1]) (rest := []) ⟨hx, hb, hml, hown, ht⟩ (c_Chain_has l dC dI ad tI tL tII tLL cnt w tot rew grp fin gns rst rws last now nxt whl au al mu ml p1 r1 hC.symm) ⟨callB_of 1 ht (goodG k_130) rfl rfl rfl (ht _ k_15) (ht _ k_131) (by decide +kernel) ⟨Nat.le_of_ble_eq_true rfl, Nat.le_of_ble_eq_true rfl⟩, (ht _ k_133), (ht _ k_132)⟩ (pre_v hK hN hP (q0 := 1) (ci := 0) rfl rfl) rfl rfl hl.1 rfl (lv_room (Nat.le_of_ble_eq_true rfl)) dX6_visits_5 ⟨Nat.zero_le _, Nat.zero_le _⟩) ?_
  refine lv_if_eq (tgt := 22) hx hb dX6_visits_8 (by decide) (fun c2 => ?_) (fun c2 => ?_)
  · replace hR := it_p c2 hR
    refine lv_iconst (v := (-1)) hx hb dX6_visits_22 (by decide) ?_
    cases hR
    exact W.iret hx hb hr (fun t ht _ => ⟨rfl, by rw [ht]; exact hP, hS.F ht⟩) hS.2.2 dX6_visits_23
  · replace hR := it_n c2 hR
    refine lv_aload_n hx hb dX6_visits_11 rfl (lv_at hl 0 rfl) ?_
    refine va_get (D := (dC, dI)) (ci := 6) (v := .ref (ad 1)) (C := RX6) (T := TX6) (N := 7) hx hb ht hinX6 hown hK hP 0 rfl rfl 0 (by decide) (ht _ k_125) (fun _ h9 => h9) rfl dX6_visits_12 ?_
    refine lv_iload_n hx hb dX6_visits_15 rfl (lv_at hl 2 rfl) ?_
    obtain ⟨r3, hC, hR⟩ := ob hR
    try dsimp only at hR
    refine ro_calli (va_runV (As := [.int p2]) (rest := []) ⟨hx, hb, hml, hown, ht⟩ (c_Chain_has l dC dI ad tI tL tII tLL cnt w tot rew grp fin gns rst rws last now nxt whl au al mu ml p2 r3 hC.symm) ⟨callB_of 1 ht (goodG k_130) rfl rfl rfl (ht _ k_15) (ht _ k_131) (by decide +kernel) ⟨Nat.le_of_ble_eq_true rfl, Nat.le_of_ble_eq_true rfl⟩, (ht _ k_133), (ht _ k_132)⟩ (pre_v hK hN hP (q0 := 1) (ci := 0) rfl rfl) rfl rfl hl.1 rfl (lv_room (Nat.le_of_ble_eq_true rfl)) dX6_visits_16 ⟨Nat.zero_le _, Nat.zero_le _⟩) ?_
    refine lv_if_ne (tgt := 24) hx hb dX6_visits_19 (by decide) (fun c4 => ?_) (fun c4 => ?_)
    · replace hR := it_n c4 hR
      refine lv_aload_n hx hb dX6_visits_24 rfl (lv_at hl 0 rfl) ?_
      refine va_get (D := (dC, dI)) (ci := 6) (v := .ref (ad 12)) (C := RX6) (T := TX6) (N := 7) hx hb ht hinX6 hown hK hP 0 rfl rfl 1 (by decide) (ht _ k_111) (fun _ h9 => h9) rfl dX6_visits_25 ?_
      refine lv_iconst (v := 1) hx hb dX6_visits_28 (by decide) ?_
      refine lv_iload_n hx hb dX6_visits_29 rfl (lv_at hl 2 rfl) ?_
      refine lv_ishl hx hb dX6_visits_30 ?_
      refine lv_iconst (v := 0) hx hb dX6_visits_31 (by decide) ?_
      obtain ⟨r5, hC, hR⟩ := ob hR
      try dsimp only at hR
      refine ro_calli (va_runV (As := [.int ((1 : Int32) <<< (p2 &&& 31)), .int (0 : Int32)]) (rest := []) ⟨hx, hb, hml, hown, ht⟩ (c_Ways_leadingTo l dC dI ad tI tL tII tLL cnt w tot rew grp fin gns rst rws last now nxt whl au al mu ml ((1 : Int32) <<< (p2 &&& 31)) (0 : Int32) r5 hC.symm) ⟨callB_of 2 ht (goodG k_37) rfl rfl rfl (ht _ k_33) (ht _ k_112) (by decide +kernel) ⟨Nat.le_of_ble_eq_true rfl, Nat.le_of_ble_eq_true rfl⟩, (ht _ k_40), (ht _ k_39)⟩ (pre_v hK hN hP (q0 := 12) (ci := 5) rfl rfl) rfl rfl hl.1 rfl (lv_room (Nat.le_of_ble_eq_true rfl)) dX6_visits_32 ⟨Nat.zero_le _, Nat.zero_le _⟩) ?_
      refine lv_istore_n (lv' := [(3, .int r5), (0, .ref (ad 0)), (1, .int p1), (2, .int p2)]) hx hb dX6_visits_35 rfl hl (by decide) rfl (fun ls hl => ?_)
      refine lv_iload_n hx hb dX6_visits_36 rfl (lv_at hl 0 rfl) ?_
      refine lv_iload_n hx hb dX6_visits_37 rfl (lv_at hl 2 rfl) ?_
      obtain ⟨r6, hC, hR⟩ := ob hR
      try dsimp only at hR
      refine ro_calli (va_runS (As := [.int r5, .int p1]) (rest := []) ⟨hx, hb, hml, hown, ht⟩ (c_holds l dC dI ad tI tL tII tLL  r5 p1 r6 hC.symm) ⟨callB_of 2 ht (goodG k_20) rfl rfl rfl (ht _ k_8) (ht _ k_113) (by decide +kernel) ⟨Nat.le_of_ble_eq_true rfl, Nat.le_of_ble_eq_true rfl⟩, (ht _ k_21)⟩ (pre_s hK hN (hP.sub (ws' := []) [] rfl)) rfl rfl hl.1 rfl (lv_room (Nat.le_of_ble_eq_true rfl)) dX6_visits_38 ⟨Nat.zero_le _, Nat.zero_le _⟩) ?_
      refine lv_if_ne (tgt := 55) hx hb dX6_visits_41 (by decide) (fun c7 => ?_) (fun c7 => ?_)
      · replace hR := it_n c7 hR
        refine lv_aload_n hx hb dX6_visits_55 rfl (lv_at hl 1 rfl) ?_
        refine va_get (D := (dC, dI)) (ci := 6) (v := .ref (ad 12)) (C := RX6) (T := TX6) (N := 7) hx hb ht hinX6 hown hK hP 0 rfl rfl 1 (by decide) (ht _ k_111) (fun _ h9 => h9) rfl dX6_visits_56 ?_
        refine lv_iload_n hx hb dX6_visits_59 rfl (lv_at hl 3 rfl) ?_
        obtain ⟨r8, hC, hR⟩ := ob hR
        try dsimp only at hR
        refine ro_calli (va_runV (As := [.int p2]) (rest := []) ⟨hx, hb, hml, hown, ht⟩ (c_Ways_isClosedAt l dC dI ad tI tL tII tLL cnt w tot rew grp fin gns rst rws last now nxt whl au al mu ml p2 r8 hC.symm) ⟨callB_of 1 ht (goodG k_45) rfl rfl rfl (ht _ k_33) (ht _ k_135) (by decide +kernel) ⟨Nat.le_of_ble_eq_true rfl, Nat.le_of_ble_eq_true rfl⟩, (ht _ k_48), (ht _ k_47)⟩ (pre_v hK hN hP (q0 := 12) (ci := 5) rfl rfl) rfl rfl hl.1 rfl (lv_room (Nat.le_of_ble_eq_true rfl)) dX6_visits_60 ⟨Nat.zero_le _, Nat.zero_le _⟩) ?_
        refine lv_if_eq (tgt := 69) hx hb dX6_visits_63 (by decide) (fun c9 => ?_) (fun c9 => ?_)
        · replace hR := it_p c9 hR
          refine lv_aload_n hx hb dX6_visits_69 rfl (lv_at hl 1 rfl) ?_
          refine va_get (D := (dC, dI)) (ci := 6) (v := .ref (ad 16)) (C := RX6) (T := TX6) (N := 7) hx hb ht hinX6 hown hK hP 0 rfl rfl 3 (by decide) (ht _ k_114) (fun _ h9 => h9) rfl dX6_visits_70 ?_
          refine lv_iload_n hx hb dX6_visits_73 rfl (lv_at hl 3 rfl) ?_
          obtain ⟨gns_10, hC, hR⟩ := ob hR
          try dsimp only at hR
          refine rw_callv (va_runV (As := [.int p2]) (rest := []) ⟨hx, hb, hml, hown, ht⟩ (c_FirstSteps_gainByBeingIn l dC dI ad tI tL tII tLL cnt w tot rew grp fin gns rst rws last now nxt whl au al mu ml p2 gns_10 hC.symm) ⟨callB_of 1 ht (goodG k_162) rfl rfl rfl (ht _ k_87) (ht _ k_163) (by decide +kernel) ⟨Nat.le_of_ble_eq_true rfl, Nat.le_of_ble_eq_true rfl⟩, (ht _ k_165), (ht _ k_164)⟩ (pre_vw hK hN hP hD (q0 := 16) (ci := 1) rfl rfl) rfl rfl hl.1 rfl (lv_room (Nat.le_of_ble_eq_true rfl)) dX6_visits_74 ⟨Nat.zero_le _, Nat.zero_le _⟩) hD hS rfl (fun H locs hP hD hS => ?_)
          have hP : va_P (dC, dI) vwCl (wC ad tI tL tII tLL cnt w tot rew grp fin gns_10 rst rws last now nxt whl au al mu ml) H := hP
          have hD : va_D (rwA (wC ad tI tL tII tLL cnt w tot rew grp fin gns rst rws last now nxt whl au al mu ml)) (wC ad tI tL tII tLL cnt w tot rew grp fin gns_10 rst rws last now nxt whl au al mu ml) := hD
          refine lv_aload_n hx hb dX6_visits_77 rfl (lv_at hl 1 rfl) ?_
          refine va_get (D := (dC, dI)) (ci := 6) (v := .ref (ad 16)) (C := RX6) (T := TX6) (N := 7) hx hb ht hinX6 hown hK hP 0 rfl rfl 3 (by decide) (ht _ k_114) (fun _ h9 => h9) rfl dX6_visits_78 ?_
          refine lv_iload_n hx hb dX6_visits_81 rfl (lv_at hl 2 rfl) ?_
          refine lv_iload_n hx hb dX6_visits_82 rfl (lv_at hl 0 rfl) ?_
          refine lv_aload_n hx hb dX6_visits_83 rfl (lv_at hl 1 rfl) ?_
          refine va_get (D := (dC, dI)) (ci := 6) (v := .ref (ad 31)) (C := RX6) (T := TX6) (N := 7) hx hb ht hinX6 hown hK hP 0 rfl rfl 5 (by decide) (ht _ k_119) (fun _ h9 => h9) rfl dX6_visits_84 ?_
          obtain ⟨⟨rst_11, rws_12, last_13, au_14, al_15⟩, hC, hR⟩ := ob hR
          try dsimp only at hR
          refine rw_callv (va_runV (As := [.int p1, .int r5, .ref (ad 31)]) (rest := []) ⟨hx, hb, hml, hown, ht⟩ (c_FirstSteps_solveA l dC dI ad tI tL tII tLL cnt w tot rew grp fin gns_10 rst rws last now nxt whl au al mu ml p1 r5 rst_11 rws_12 last_13 au_14 al_15 hC.symm) ⟨callB_of 3 ht (goodG k_120) rfl rfl rfl (ht _ k_87) (ht _ k_121) (by decide +kernel) ⟨Nat.le_of_ble_eq_true rfl, Nat.le_of_ble_eq_true rfl⟩, (ht _ k_123), (ht _ k_122)⟩ (pre_vw hK hN hP hD (q0 := 16) (ci := 1) rfl rfl) rfl rfl hl.1 rfl (lv_room (Nat.le_of_ble_eq_true rfl)) dX6_visits_87 ⟨Nat.zero_le _, Nat.zero_le _⟩) hD hS rfl (fun H locs hP hD hS => ?_)
          have hP : va_P (dC, dI) vwCl (wC ad tI tL tII tLL cnt w tot rew grp fin gns_10 rst_11 rws_12 last_13 now nxt whl au_14 al_15 mu ml) H := hP
          have hD : va_D (rwA (wC ad tI tL tII tLL cnt w tot rew grp fin gns rst rws last now nxt whl au al mu ml)) (wC ad tI tL tII tLL cnt w tot rew grp fin gns_10 rst_11 rws_12 last_13 now nxt whl au_14 al_15 mu ml) := hD
          refine lv_iconst (v := 1) hx hb dX6_visits_90 (by decide) ?_
          cases hR
          exact W.iret hx hb hr (fun t ht _ => ⟨rfl, by rw [ht]; exact hP, hS.F ht⟩) hS.2.2 dX6_visits_91
        · replace hR := it_n c9 hR
          refine lv_bipush (v := (-3)) hx hb dX6_visits_66 (by decide) ?_
          cases hR
          exact W.iret hx hb hr (fun t ht _ => ⟨rfl, by rw [ht]; exact hP, hS.F ht⟩) hS.2.2 dX6_visits_68
      · replace hR := it_p c7 hR
        refine lv_aload_n hx hb dX6_visits_44 rfl (lv_at hl 1 rfl) ?_
        refine va_get (D := (dC, dI)) (ci := 6) (v := .ref (ad 31)) (C := RX6) (T := TX6) (N := 7) hx hb ht hinX6 hown hK hP 0 rfl rfl 5 (by decide) (ht _ k_119) (fun _ h9 => h9) rfl dX6_visits_45 ?_
        refine lv_lconst (v := 0) hx hb dX6_visits_48 (by decide) ?_
        refine lv_lconst (v := 1) hx hb dX6_visits_49 (by decide) ?_
        obtain ⟨⟨u_16, lo_17⟩, hC, hR⟩ := ob hR
        try dsimp only at hR
        refine rw_onev (va_runV (As := [.long (0 : Int64), .long (1 : Int64)]) (rest := []) ⟨hx, hb, hml, hown, ht⟩ (c_Fraction_put l dC dI ad tI tL tII tLL (ad 31) au al (0 : Int64) (1 : Int64) u_16 lo_17 hC.symm) ⟨callB_of 2 ht (goodG k_99) rfl rfl rfl (ht _ k_100) (ht _ k_124) (by decide +kernel) ⟨Nat.le_of_ble_eq_true rfl, Nat.le_of_ble_eq_true rfl⟩, (ht _ k_103), (ht _ k_102)⟩ (pre_vw hK hN (hP.sub [31] rfl) (hD.sub [31] (by decide) rfl) (q0 := 0) (ci := 2) rfl rfl) rfl rfl hl.1 rfl (lv_room (Nat.le_of_ble_eq_true rfl)) dX6_visits_50 ⟨Nat.zero_le _, Nat.zero_le _⟩) hP hD hS 31 rfl (fun H locs hP hD hS => ?_)
        have hP : va_P (dC, dI) vwCl (wC ad tI tL tII tLL cnt w tot rew grp fin gns rst rws last now nxt whl u_16 lo_17 mu ml) H := hP
        have hD : va_D (rwA (wC ad tI tL tII tLL cnt w tot rew grp fin gns rst rws last now nxt whl au al mu ml)) (wC ad tI tL tII tLL cnt w tot rew grp fin gns rst rws last now nxt whl u_16 lo_17 mu ml) := hD
        refine lv_iconst (v := 1) hx hb dX6_visits_53 (by decide) ?_
        cases hR
        exact W.iret hx hb hr (fun t ht _ => ⟨rfl, by rw [ht]; exact hP, hS.F ht⟩) hS.2.2 dX6_visits_54
    · replace hR := it_p c4 hR
      refine lv_iconst (v := (-1)) hx hb dX6_visits_22 (by decide) ?_
      cases hR
      exact W.iret hx hb hr (fun t ht _ => ⟨rfl, by rw [ht]; exact hP, hS.F ht⟩) hS.2.2 dX6_visits_23
abbrev RM_f_CS_share : Room := { frames := 5, cells := 0, slots := 0, locals := 127 }
abbrev W_CS_share : List Cond := .code yX6_share cX6_share 4 (some .int) :: tblG
set_option maxHeartbeats 4000000 in
set_option maxRecDepth 100000 in
theorem c_CS_share (l : Launch) (dC : Nat → ClassId) (dI : Nat → Nat → Nat) (ad : Nat → Nat) (tI tL tII tLL : ClassId) (cnt : Int32) (w : Nat → Nat → Int32) (tot : Nat → Int32) (rew : Nat → Int32) (grp : Nat → Int32) (fin : Nat → Int32) (gns : Nat → Int64) (rst : Nat → Int32) (rws : Nat → Nat → Int64) (last : Int32) (now : Nat → Int64) (nxt : Nat → Int64) (whl : Int64) (au : Int64) (al : Int64) (mu : Int64) (ml : Int64) (p1 : Int32) (p2 : Int32) (R0 : Int32) (R_gns : Nat → Int64) (R_rst : Nat → Int32) (R_rws : Nat → Nat → Int64) (R_last : Int32) (R_au : Int64) (R_al : Int64) (R_mu : Int64) (R_ml : Int64) (hR : some (R0, R_gns, R_rst, R_rws, R_last, R_au, R_al, R_mu, R_ml) = f_CS_share cnt w tot gns rst rws last au al mu ml p1 p2) : Met l yX6_share W_CS_share RM_f_CS_share (rwP (dC, dI) vwCl [(tI, .int), (tL, .long), (tII, .array .int), (tLL, .array .long)] (wC ad tI tL tII tLL cnt w tot rew grp fin gns rst rws last now nxt whl au al mu ml) ([.ref (ad 0), .int p1, .int p2] : List Value)) (rwQ (dC, dI) vwCl (wC ad tI tL tII tLL cnt w tot rew grp fin R_gns R_rst R_rws R_last now nxt whl R_au R_al R_mu R_ml) (some (.int R0)) (rwA (wC ad tI tL tII tLL cnt w tot rew grp fin gns rst rws last now nxt whl au al mu ml))) 0 0 (rwA (wC ad tI tL tII tLL cnt w tot rew grp fin gns rst rws last now nxt whl au al mu ml)) := by
  refine Met.ofW (cc := cX6_share) (maxL := 4) (ret := (some .int)) (by decide) rfl ?_
  intro p e s m args below meth c s₁ B hml hv
  obtain ⟨rfl, hP, hK, hN, hD⟩ := hv
  have hx := B.exec
  have hb := B.bytes
  have hr := B.returns
  have hts := atoms_spec (ws := W_CS_share) B.pre
  have ht := fun (w : Cond) (h : w ∈ tblG) => hts w (List.mem_cons_of_mem _ h)
  have hown : s.vm.findClass RX6 = some m.cls := findClass_of_methodNamed B.named
  have hlocks := B.notSynchronized
  have hl := lv_entry ([.ref (ad 0), .int p1, .int p2] : List Value) (n := 4) (Nat.le_of_ble_eq_true rfl)
  rw [lg_entry_eq]
  generalize (lg_sl ([.ref (ad 0), .int p1, .int p2] : List Value) ++ List.replicate (4 - (lg_sl ([.ref (ad 0), .int p1, .int p2] : List Value)).length) Slot.unset).toArray = ls at hl ⊢
  have hl : lv_has ls 4 [(0, .ref (ad 0)), (1, .int p1), (2, .int p2)] := hl
  have hD := hD.own
  have hS : va_S (rwA (wC ad tI tL tII tLL cnt w tot rew grp fin gns rst rws last now nxt whl au al mu ml)) s.heap s.heap [] := va_S.rf
  suffices K : ∀ (H : Heap) (locs : List Loc), va_P (dC, dI) vwCl (wC ad tI tL tII tLL cnt w tot rew grp fin gns rst rws last now nxt whl au al mu ml) H → va_D (rwA (wC ad tI tL tII tLL cnt w tot rew grp fin gns rst rws last now nxt whl au al mu ml)) (wC ad tI tL tII tLL cnt w tot rew grp fin gns rst rws last now nxt whl au al mu ml) → va_S (rwA (wC ad tI tL tII tLL cnt w tot rew grp fin gns rst rws last now nxt whl au al mu ml)) s.heap H locs → W p l e (headSpec W_CS_share RM_f_CS_share).room s m ([.ref (ad 0), .int p1, .int p2] : List Value).toArray below meth c H locs 0 0 (MQ below (rwQ (dC, dI) vwCl (wC ad tI tL tII tLL cnt w tot rew grp fin R_gns R_rst R_rws R_last now nxt whl R_au R_al R_mu R_ml) (some (.int R0)) (rwA (wC ad tI tL tII tLL cnt w tot rew grp fin gns rst rws last now nxt whl au al mu ml))) ([.ref (ad 0), .int p1, .int p2] : List Value).toArray s 0 0 (rwA (wC ad tI tL tII tLL cnt w tot rew grp fin gns rst rws last now nxt whl au al mu ml))) (F0 m 0 ls []) from K s.heap [] hP hD hS
  clear hP hD hS
  intro H locs hP hD hS
  rw [f_CS_share] at hR
  refine lv_aload_n hx hb dX6_share_0 rfl (lv_at hl 0 rfl) ?_
  refine va_get (D := (dC, dI)) (ci := 6) (v := .ref (ad 1)) (C := RX6) (T := TX6) (N := 7) hx hb ht hinX6 hown hK hP 0 rfl rfl 0 (by decide) (ht _ k_125) (fun _ h9 => h9) rfl dX6_share_1 ?_
  refine lv_iload_n hx hb dX6_share_4 rfl (lv_at hl 1 rfl) ?_
  obtain ⟨r1, hC, hR⟩ := ob hR
  try dsimp only at hR
  refine ro_calli (va_runV (As := [.int p1]) (rest := []) ⟨hx, hb, hml, hown, ht⟩ (c_Chain_has l dC dI ad tI tL tII tLL cnt w tot rew grp fin gns rst rws last now nxt whl au al mu ml p1 r1 hC.symm) ⟨callB_of 1 ht (goodG k_130) rfl rfl rfl (ht _ k_15) (ht _ k_131) (by decide +kernel) ⟨Nat.le_of_ble_eq_true rfl, Nat.le_of_ble_eq_true rfl⟩, (ht _ k_133), (ht _ k_132)⟩ (pre_v hK hN hP (q0 := 1) (ci := 0) rfl rfl) rfl rfl hl.1 rfl (lv_room (Nat.le_of_ble_eq_true rfl)) dX6_share_5 ⟨Nat.zero_le _, Nat.zero_le _⟩) ?_
  refine lv_if_eq (tgt := 22) hx hb dX6_share_8 (by decide) (fun c2 => ?_) (fun c2 => ?_)
  · replace hR := it_p c2 hR
    refine lv_iconst (v := (-1)) hx hb dX6_share_22 (by decide) ?_
    cases hR
    exact W.iret hx hb hr (fun t ht _ => ⟨rfl, by rw [ht]; exact hP, hS.F ht⟩) hS.2.2 dX6_share_23
  · replace hR := it_n c2 hR
    refine lv_aload_n hx hb dX6_share_11 rfl (lv_at hl 0 rfl) ?_
    refine va_get (D := (dC, dI)) (ci := 6) (v := .ref (ad 1)) (C := RX6) (T := TX6) (N := 7) hx hb ht hinX6 hown hK hP 0 rfl rfl 0 (by decide) (ht _ k_125) (fun _ h9 => h9) rfl dX6_share_12 ?_
    refine lv_iload_n hx hb dX6_share_15 rfl (lv_at hl 2 rfl) ?_
    obtain ⟨r3, hC, hR⟩ := ob hR
    try dsimp only at hR
    refine ro_calli (va_runV (As := [.int p2]) (rest := []) ⟨hx, hb, hml, hown, ht⟩ (c_Chain_has l dC dI ad tI tL tII tLL cnt w tot rew grp fin gns rst rws last now nxt whl au al mu ml p2 r3 hC.symm) ⟨callB_of 1 ht (goodG k_130) rfl rfl rfl (ht _ k_15) (ht _ k_131) (by decide +kernel) ⟨Nat.le_of_ble_eq_true rfl, Nat.le_of_ble_eq_true rfl⟩, (ht _ k_133), (ht _ k_132)⟩ (pre_v hK hN hP (q0 := 1) (ci := 0) rfl rfl) rfl rfl hl.1 rfl (lv_room (Nat.le_of_ble_eq_true rfl)) dX6_share_16 ⟨Nat.zero_le _, Nat.zero_le _⟩) ?_
    refine lv_if_ne (tgt := 24) hx hb dX6_share_19 (by decide) (fun c4 => ?_) (fun c4 => ?_)
    · replace hR := it_n c4 hR
      refine lv_aload_n hx hb dX6_share_24 rfl (lv_at hl 0 rfl) ?_
      refine va_get (D := (dC, dI)) (ci := 6) (v := .ref (ad 12)) (C := RX6) (T := TX6) (N := 7) hx hb ht hinX6 hown hK hP 0 rfl rfl 1 (by decide) (ht _ k_111) (fun _ h9 => h9) rfl dX6_share_25 ?_
      refine lv_iload_n hx hb dX6_share_28 rfl (lv_at hl 2 rfl) ?_
      obtain ⟨r5, hC, hR⟩ := ob hR
      try dsimp only at hR
      refine ro_calli (va_runV (As := [.int p2]) (rest := []) ⟨hx, hb, hml, hown, ht⟩ (c_Ways_isClosedAt l dC dI ad tI tL tII tLL cnt w tot rew grp fin gns rst rws last now nxt whl au al mu ml p2 r5 hC.symm) ⟨callB_of 1 ht (goodG k_45) rfl rfl rfl (ht _ k_33) (ht _ k_135) (by decide +kernel) ⟨Nat.le_of_ble_eq_true rfl, Nat.le_of_ble_eq_true rfl⟩, (ht _ k_48), (ht _ k_47)⟩ (pre_v hK hN hP (q0 := 12) (ci := 5) rfl rfl) rfl rfl hl.1 rfl (lv_room (Nat.le_of_ble_eq_true rfl)) dX6_share_29 ⟨Nat.zero_le _, Nat.zero_le _⟩) ?_
      refine lv_if_ne (tgt := 46) hx hb dX6_share_32 (by decide) (fun c6 => ?_) (fun c6 => ?_)
      · replace hR := it_n c6 hR
        refine lv_iconst (v := 1) hx hb dX6_share_46 (by decide) ?_
        refine lv_iload_n hx hb dX6_share_47 rfl (lv_at hl 2 rfl) ?_
        refine lv_ishl hx hb dX6_share_48 ?_
        refine lv_istore_n (lv' := [(3, .int ((1 : Int32) <<< (p2 &&& 31))), (0, .ref (ad 0)), (1, .int p1), (2, .int p2)]) hx hb dX6_share_49 rfl hl (by decide) rfl (fun ls hl => ?_)
        refine lv_aload_n hx hb dX6_share_50 rfl (lv_at hl 1 rfl) ?_
        refine va_get (D := (dC, dI)) (ci := 6) (v := .ref (ad 16)) (C := RX6) (T := TX6) (N := 7) hx hb ht hinX6 hown hK hP 0 rfl rfl 3 (by decide) (ht _ k_114) (fun _ h9 => h9) rfl dX6_share_51 ?_
        obtain ⟨gns_7, hC, hR⟩ := ob hR
        try dsimp only at hR
        refine rw_callv (va_runV (As := []) (rest := []) ⟨hx, hb, hml, hown, ht⟩ (c_FirstSteps_gainByStep l dC dI ad tI tL tII tLL cnt w tot rew grp fin gns rst rws last now nxt whl au al mu ml  gns_7 hC.symm) ⟨callB_of 0 ht (goodG k_157) rfl rfl rfl (ht _ k_87) (ht _ k_158) (by decide +kernel) ⟨Nat.le_of_ble_eq_true rfl, Nat.le_of_ble_eq_true rfl⟩, (ht _ k_160), (ht _ k_159)⟩ (pre_vw hK hN hP hD (q0 := 16) (ci := 1) rfl rfl) rfl rfl hl.1 rfl (lv_room (Nat.le_of_ble_eq_true rfl)) dX6_share_54 ⟨Nat.zero_le _, Nat.zero_le _⟩) hD hS rfl (fun H locs hP hD hS => ?_)
        have hP : va_P (dC, dI) vwCl (wC ad tI tL tII tLL cnt w tot rew grp fin gns_7 rst rws last now nxt whl au al mu ml) H := hP
        have hD : va_D (rwA (wC ad tI tL tII tLL cnt w tot rew grp fin gns rst rws last now nxt whl au al mu ml)) (wC ad tI tL tII tLL cnt w tot rew grp fin gns_7 rst rws last now nxt whl au al mu ml) := hD
        refine lv_aload_n hx hb dX6_share_57 rfl (lv_at hl 1 rfl) ?_
        refine va_get (D := (dC, dI)) (ci := 6) (v := .ref (ad 16)) (C := RX6) (T := TX6) (N := 7) hx hb ht hinX6 hown hK hP 0 rfl rfl 3 (by decide) (ht _ k_114) (fun _ h9 => h9) rfl dX6_share_58 ?_
        refine lv_iload_n hx hb dX6_share_61 rfl (lv_at hl 3 rfl) ?_
        refine lv_aload_n hx hb dX6_share_62 rfl (lv_at hl 1 rfl) ?_
        refine va_get (D := (dC, dI)) (ci := 6) (v := .ref (ad 12)) (C := RX6) (T := TX6) (N := 7) hx hb ht hinX6 hown hK hP 0 rfl rfl 1 (by decide) (ht _ k_111) (fun _ h9 => h9) rfl dX6_share_63 ?_
        refine lv_iload_n hx hb dX6_share_66 rfl (lv_at hl 3 rfl) ?_
        refine lv_iconst (v := 0) hx hb dX6_share_67 (by decide) ?_
        obtain ⟨r8, hC, hR⟩ := ob hR
        try dsimp only at hR
        refine ro_calli (va_runV (As := [.int p2, .int (0 : Int32)]) (rest := [.int p2, .ref (ad 16)]) ⟨hx, hb, hml, hown, ht⟩ (c_Ways_metFrom l dC dI ad tI tL tII tLL cnt w tot rew grp fin gns_7 rst rws last now nxt whl au al mu ml p2 (0 : Int32) r8 hC.symm) ⟨callB_of 2 ht (goodG k_32) rfl rfl rfl (ht _ k_33) (ht _ k_161) (by decide +kernel) ⟨Nat.le_of_ble_eq_true rfl, Nat.le_of_ble_eq_true rfl⟩, (ht _ k_36), (ht _ k_35)⟩ (pre_v hK hN hP (q0 := 12) (ci := 5) rfl rfl) rfl rfl hl.1 rfl (lv_room (Nat.le_of_ble_eq_true rfl)) dX6_share_68 ⟨Nat.zero_le _, Nat.zero_le _⟩) ?_
        refine lv_iload_n hx hb dX6_share_71 rfl (lv_at hl 0 rfl) ?_
        refine lv_iconst (v := (-1)) hx hb dX6_share_72 (by decide) ?_
        refine lv_ixor hx hb dX6_share_73 ?_
        refine lv_iand hx hb dX6_share_74 ?_
        refine lv_aload_n hx hb dX6_share_75 rfl (lv_at hl 1 rfl) ?_
        refine va_get (D := (dC, dI)) (ci := 6) (v := .ref (ad 32)) (C := RX6) (T := TX6) (N := 7) hx hb ht hinX6 hown hK hP 0 rfl rfl 6 (by decide) (ht _ k_166) (fun _ h9 => h9) rfl dX6_share_76 ?_
        obtain ⟨⟨rst_9, rws_10, last_11, mu_12, ml_13⟩, hC, hR⟩ := ob hR
        try dsimp only at hR
        refine rw_callv (va_runV (As := [.int p2, .int (r8 &&& (((1 : Int32) <<< (p2 &&& 31)) ^^^ (-1 : Int32))), .ref (ad 32)]) (rest := []) ⟨hx, hb, hml, hown, ht⟩ (c_FirstSteps_solveM l dC dI ad tI tL tII tLL cnt w tot rew grp fin gns_7 rst rws last now nxt whl au al mu ml p2 (r8 &&& (((1 : Int32) <<< (p2 &&& 31)) ^^^ (-1 : Int32))) rst_9 rws_10 last_11 mu_12 ml_13 hC.symm) ⟨callB_of 3 ht (goodG k_120) rfl rfl rfl (ht _ k_87) (ht _ k_121) (by decide +kernel) ⟨Nat.le_of_ble_eq_true rfl, Nat.le_of_ble_eq_true rfl⟩, (ht _ k_123), (ht _ k_122)⟩ (pre_vw hK hN hP hD (q0 := 16) (ci := 1) rfl rfl) rfl rfl hl.1 rfl (lv_room (Nat.le_of_ble_eq_true rfl)) dX6_share_79 ⟨Nat.zero_le _, Nat.zero_le _⟩) hD hS rfl (fun H locs hP hD hS => ?_)
        have hP : va_P (dC, dI) vwCl (wC ad tI tL tII tLL cnt w tot rew grp fin gns_7 rst_9 rws_10 last_11 now nxt whl au al mu_12 ml_13) H := hP
        have hD : va_D (rwA (wC ad tI tL tII tLL cnt w tot rew grp fin gns rst rws last now nxt whl au al mu ml)) (wC ad tI tL tII tLL cnt w tot rew grp fin gns_7 rst_9 rws_10 last_11 now nxt whl au al mu_12 ml_13) := hD
        refine lv_aload_n hx hb dX6_share_82 rfl (lv_at hl 1 rfl) ?_
        refine lv_iload_n hx hb dX6_share_83 rfl (lv_at hl 2 rfl) ?_
        refine lv_iload_n hx hb dX6_share_84 rfl (lv_at hl 0 rfl) ?_
        refine lv_iconst (v := 0) hx hb dX6_share_85 (by decide) ?_
        obtain ⟨⟨gns_14, rst_15, rws_16, last_17, au_18, al_19⟩, hC, hR⟩ := ob hR
        try dsimp only at hR
        refine rw_callv (va_runV (As := [.int p1, .int ((1 : Int32) <<< (p2 &&& 31)), .int (0 : Int32)]) (rest := []) ⟨hx, hb, hml, hown, ht⟩ (c_CS_answerOddsToMeet l dC dI ad tI tL tII tLL cnt w tot rew grp fin gns_7 rst_9 rws_10 last_11 now nxt whl au al mu_12 ml_13 p1 ((1 : Int32) <<< (p2 &&& 31)) (0 : Int32) gns_14 rst_15 rws_16 last_17 au_18 al_19 hC.symm) ⟨callB_of 3 ht (goodG k_145) rfl rfl rfl (ht _ k_8) (ht _ k_146) (by decide +kernel) ⟨Nat.le_of_ble_eq_true rfl, Nat.le_of_ble_eq_true rfl⟩, (ht _ k_148), (ht _ k_147)⟩ (pre_vw hK hN hP hD (q0 := 0) (ci := 6) rfl rfl) rfl rfl hl.1 rfl (lv_room (Nat.le_of_ble_eq_true rfl)) dX6_share_86 ⟨Nat.zero_le _, Nat.zero_le _⟩) hD hS rfl (fun H locs hP hD hS => ?_)
        have hP : va_P (dC, dI) vwCl (wC ad tI tL tII tLL cnt w tot rew grp fin gns_14 rst_15 rws_16 last_17 now nxt whl au_18 al_19 mu_12 ml_13) H := hP
        have hD : va_D (rwA (wC ad tI tL tII tLL cnt w tot rew grp fin gns rst rws last now nxt whl au al mu ml)) (wC ad tI tL tII tLL cnt w tot rew grp fin gns_14 rst_15 rws_16 last_17 now nxt whl au_18 al_19 mu_12 ml_13) := hD
        refine lv_aload_n hx hb dX6_share_89 rfl (lv_at hl 1 rfl) ?_
        refine va_get (D := (dC, dI)) (ci := 6) (v := .ref (ad 31)) (C := RX6) (T := TX6) (N := 7) hx hb ht hinX6 hown hK hP 0 rfl rfl 5 (by decide) (ht _ k_119) (fun _ h9 => h9) rfl dX6_share_90 ?_
        refine lv_aload_n hx hb dX6_share_93 rfl (lv_at hl 1 rfl) ?_
        refine va_get (D := (dC, dI)) (ci := 6) (v := .ref (ad 31)) (C := RX6) (T := TX6) (N := 7) hx hb ht hinX6 hown hK hP 0 rfl rfl 5 (by decide) (ht _ k_119) (fun _ h9 => h9) rfl dX6_share_94 ?_
        refine va_getN (D := (dC, dI)) (ci := 2) (v := .long au_18) (C := RX2) (T := TX2) (N := 2) hx hb ht hinX2 hown hK hP 31 rfl rfl 0 (by decide) (va_Nw.use rfl (nf_13 hN)) (fun _ h9 => h9) rfl dX6_share_97 ?_
        refine lv_aload_n hx hb dX6_share_100 rfl (lv_at hl 1 rfl) ?_
        refine va_get (D := (dC, dI)) (ci := 6) (v := .ref (ad 32)) (C := RX6) (T := TX6) (N := 7) hx hb ht hinX6 hown hK hP 0 rfl rfl 6 (by decide) (ht _ k_166) (fun _ h9 => h9) rfl dX6_share_101 ?_
        refine va_getN (D := (dC, dI)) (ci := 2) (v := .long ml_13) (C := RX2) (T := TX2) (N := 2) hx hb ht hinX2 hown hK hP 32 rfl rfl 1 (by decide) (va_Nw.use rfl (nf_14 hN)) (fun _ h9 => h9) rfl dX6_share_104 ?_
        refine lv_lmul hx hb dX6_share_107 ?_
        refine lv_aload_n hx hb dX6_share_108 rfl (lv_at hl 1 rfl) ?_
        refine va_get (D := (dC, dI)) (ci := 6) (v := .ref (ad 31)) (C := RX6) (T := TX6) (N := 7) hx hb ht hinX6 hown hK hP 0 rfl rfl 5 (by decide) (ht _ k_119) (fun _ h9 => h9) rfl dX6_share_109 ?_
        refine va_getN (D := (dC, dI)) (ci := 2) (v := .long al_19) (C := RX2) (T := TX2) (N := 2) hx hb ht hinX2 hown hK hP 31 rfl rfl 1 (by decide) (va_Nw.use rfl (nf_14 hN)) (fun _ h9 => h9) rfl dX6_share_112 ?_
        refine lv_aload_n hx hb dX6_share_115 rfl (lv_at hl 1 rfl) ?_
        refine va_get (D := (dC, dI)) (ci := 6) (v := .ref (ad 32)) (C := RX6) (T := TX6) (N := 7) hx hb ht hinX6 hown hK hP 0 rfl rfl 6 (by decide) (ht _ k_166) (fun _ h9 => h9) rfl dX6_share_116 ?_
        refine va_getN (D := (dC, dI)) (ci := 2) (v := .long mu_12) (C := RX2) (T := TX2) (N := 2) hx hb ht hinX2 hown hK hP 32 rfl rfl 0 (by decide) (va_Nw.use rfl (nf_13 hN)) (fun _ h9 => h9) rfl dX6_share_119 ?_
        refine lv_lmul hx hb dX6_share_122 ?_
        obtain ⟨⟨u_20, lo_21⟩, hC, hR⟩ := ob hR
        try dsimp only at hR
        refine rw_onev (va_runV (As := [.long (au_18 * ml_13), .long (al_19 * mu_12)]) (rest := []) ⟨hx, hb, hml, hown, ht⟩ (c_Fraction_put l dC dI ad tI tL tII tLL (ad 31) au_18 al_19 (au_18 * ml_13) (al_19 * mu_12) u_20 lo_21 hC.symm) ⟨callB_of 2 ht (goodG k_99) rfl rfl rfl (ht _ k_100) (ht _ k_124) (by decide +kernel) ⟨Nat.le_of_ble_eq_true rfl, Nat.le_of_ble_eq_true rfl⟩, (ht _ k_103), (ht _ k_102)⟩ (pre_vw hK hN (hP.sub [31] rfl) (hD.sub [31] (by decide) rfl) (q0 := 0) (ci := 2) rfl rfl) rfl rfl hl.1 rfl (lv_room (Nat.le_of_ble_eq_true rfl)) dX6_share_123 ⟨Nat.zero_le _, Nat.zero_le _⟩) hP hD hS 31 rfl (fun H locs hP hD hS => ?_)
        have hP : va_P (dC, dI) vwCl (wC ad tI tL tII tLL cnt w tot rew grp fin gns_14 rst_15 rws_16 last_17 now nxt whl u_20 lo_21 mu_12 ml_13) H := hP
        have hD : va_D (rwA (wC ad tI tL tII tLL cnt w tot rew grp fin gns rst rws last now nxt whl au al mu ml)) (wC ad tI tL tII tLL cnt w tot rew grp fin gns_14 rst_15 rws_16 last_17 now nxt whl u_20 lo_21 mu_12 ml_13) := hD
        refine lv_iconst (v := 1) hx hb dX6_share_126 (by decide) ?_
        cases hR
        exact W.iret hx hb hr (fun t ht _ => ⟨rfl, by rw [ht]; exact hP, hS.F ht⟩) hS.2.2 dX6_share_127
      · replace hR := it_p c6 hR
        refine lv_aload_n hx hb dX6_share_35 rfl (lv_at hl 0 rfl) ?_
        refine va_get (D := (dC, dI)) (ci := 6) (v := .ref (ad 31)) (C := RX6) (T := TX6) (N := 7) hx hb ht hinX6 hown hK hP 0 rfl rfl 5 (by decide) (ht _ k_119) (fun _ h9 => h9) rfl dX6_share_36 ?_
        refine lv_lconst (v := 0) hx hb dX6_share_39 (by decide) ?_
        refine lv_lconst (v := 1) hx hb dX6_share_40 (by decide) ?_
        obtain ⟨⟨u_22, lo_23⟩, hC, hR⟩ := ob hR
        try dsimp only at hR
        refine rw_onev (va_runV (As := [.long (0 : Int64), .long (1 : Int64)]) (rest := []) ⟨hx, hb, hml, hown, ht⟩ (c_Fraction_put l dC dI ad tI tL tII tLL (ad 31) au al (0 : Int64) (1 : Int64) u_22 lo_23 hC.symm) ⟨callB_of 2 ht (goodG k_99) rfl rfl rfl (ht _ k_100) (ht _ k_124) (by decide +kernel) ⟨Nat.le_of_ble_eq_true rfl, Nat.le_of_ble_eq_true rfl⟩, (ht _ k_103), (ht _ k_102)⟩ (pre_vw hK hN (hP.sub [31] rfl) (hD.sub [31] (by decide) rfl) (q0 := 0) (ci := 2) rfl rfl) rfl rfl hl.1 rfl (lv_room (Nat.le_of_ble_eq_true rfl)) dX6_share_41 ⟨Nat.zero_le _, Nat.zero_le _⟩) hP hD hS 31 rfl (fun H locs hP hD hS => ?_)
        have hP : va_P (dC, dI) vwCl (wC ad tI tL tII tLL cnt w tot rew grp fin gns rst rws last now nxt whl u_22 lo_23 mu ml) H := hP
        have hD : va_D (rwA (wC ad tI tL tII tLL cnt w tot rew grp fin gns rst rws last now nxt whl au al mu ml)) (wC ad tI tL tII tLL cnt w tot rew grp fin gns rst rws last now nxt whl u_22 lo_23 mu ml) := hD
        refine lv_iconst (v := 1) hx hb dX6_share_44 (by decide) ?_
        cases hR
        exact W.iret hx hb hr (fun t ht _ => ⟨rfl, by rw [ht]; exact hP, hS.F ht⟩) hS.2.2 dX6_share_45
    · replace hR := it_p c4 hR
      refine lv_iconst (v := (-1)) hx hb dX6_share_22 (by decide) ?_
      cases hR
      exact W.iret hx hb hr (fun t ht _ => ⟨rfl, by rw [ht]; exact hP, hS.F ht⟩) hS.2.2 dX6_share_23
abbrev RM_f_CS_after : Room := { frames := 3, cells := 0, slots := 0, locals := 79 }
abbrev W_CS_after : List Cond := .code yX6_after cX6_after 5 (some .int) :: tblG
set_option maxHeartbeats 4000000 in
set_option maxRecDepth 100000 in
theorem c_CS_after (l : Launch) (dC : Nat → ClassId) (dI : Nat → Nat → Nat) (ad : Nat → Nat) (tI tL tII tLL : ClassId) (cnt : Int32) (w : Nat → Nat → Int32) (tot : Nat → Int32) (rew : Nat → Int32) (grp : Nat → Int32) (fin : Nat → Int32) (gns : Nat → Int64) (rst : Nat → Int32) (rws : Nat → Nat → Int64) (last : Int32) (now : Nat → Int64) (nxt : Nat → Int64) (whl : Int64) (au : Int64) (al : Int64) (mu : Int64) (ml : Int64) (p1 : Int32) (p2 : Int32) (p3 : Int32) (R0 : Int32) (R_now : Nat → Int64) (R_nxt : Nat → Int64) (R_whl : Int64) (R_au : Int64) (R_al : Int64) (hR : some (R0, R_now, R_nxt, R_whl, R_au, R_al) = f_CS_after cnt w tot now nxt whl au al p1 p2 p3) : Met l yX6_after W_CS_after RM_f_CS_after (rwP (dC, dI) vwCl [(tI, .int), (tL, .long), (tII, .array .int), (tLL, .array .long)] (wC ad tI tL tII tLL cnt w tot rew grp fin gns rst rws last now nxt whl au al mu ml) ([.ref (ad 0), .int p1, .int p2, .int p3] : List Value)) (rwQ (dC, dI) vwCl (wC ad tI tL tII tLL cnt w tot rew grp fin gns rst rws last R_now R_nxt R_whl R_au R_al mu ml) (some (.int R0)) (rwA (wC ad tI tL tII tLL cnt w tot rew grp fin gns rst rws last now nxt whl au al mu ml))) 0 0 (rwA (wC ad tI tL tII tLL cnt w tot rew grp fin gns rst rws last now nxt whl au al mu ml)) := by
  refine Met.ofW (cc := cX6_after) (maxL := 5) (ret := (some .int)) (by decide) rfl ?_
  intro p e s m args below meth c s₁ B hml hv
  obtain ⟨rfl, hP, hK, hN, hD⟩ := hv
  have hx := B.exec
  have hb := B.bytes
  have hr := B.returns
  have hts := atoms_spec (ws := W_CS_after) B.pre
  have ht := fun (w : Cond) (h : w ∈ tblG) => hts w (List.mem_cons_of_mem _ h)
  have hown : s.vm.findClass RX6 = some m.cls := findClass_of_methodNamed B.named
  have hlocks := B.notSynchronized
  have hl := lv_entry ([.ref (ad 0), .int p1, .int p2, .int p3] : List Value) (n := 5) (Nat.le_of_ble_eq_true rfl)
  rw [lg_entry_eq]
  generalize (lg_sl ([.ref (ad 0), .int p1, .int p2, .int p3] : List Value) ++ List.replicate (5 - (lg_sl ([.ref (ad 0), .int p1, .int p2, .int p3] : List Value)).length) Slot.unset).toArray = ls at hl ⊢
  have hl : lv_has ls 5 [(0, .ref (ad 0)), (1, .int p1), (2, .int p2), (3, .int p3)] := hl
  have hD := hD.own
  have hS : va_S (rwA (wC ad tI tL tII tLL cnt w tot rew grp fin gns rst rws last now nxt whl au al mu ml)) s.heap s.heap [] := va_S.rf
  suffices K : ∀ (H : Heap) (locs : List Loc), va_P (dC, dI) vwCl (wC ad tI tL tII tLL cnt w tot rew grp fin gns rst rws last now nxt whl au al mu ml) H → va_D (rwA (wC ad tI tL tII tLL cnt w tot rew grp fin gns rst rws last now nxt whl au al mu ml)) (wC ad tI tL tII tLL cnt w tot rew grp fin gns rst rws last now nxt whl au al mu ml) → va_S (rwA (wC ad tI tL tII tLL cnt w tot rew grp fin gns rst rws last now nxt whl au al mu ml)) s.heap H locs → W p l e (headSpec W_CS_after RM_f_CS_after).room s m ([.ref (ad 0), .int p1, .int p2, .int p3] : List Value).toArray below meth c H locs 0 0 (MQ below (rwQ (dC, dI) vwCl (wC ad tI tL tII tLL cnt w tot rew grp fin gns rst rws last R_now R_nxt R_whl R_au R_al mu ml) (some (.int R0)) (rwA (wC ad tI tL tII tLL cnt w tot rew grp fin gns rst rws last now nxt whl au al mu ml))) ([.ref (ad 0), .int p1, .int p2, .int p3] : List Value).toArray s 0 0 (rwA (wC ad tI tL tII tLL cnt w tot rew grp fin gns rst rws last now nxt whl au al mu ml))) (F0 m 0 ls []) from K s.heap [] hP hD hS
  clear hP hD hS
  intro H locs hP hD hS
  rw [f_CS_after] at hR
  refine lv_aload_n hx hb dX6_after_0 rfl (lv_at hl 0 rfl) ?_
  refine va_get (D := (dC, dI)) (ci := 6) (v := .ref (ad 1)) (C := RX6) (T := TX6) (N := 7) hx hb ht hinX6 hown hK hP 0 rfl rfl 0 (by decide) (ht _ k_125) (fun _ h9 => h9) rfl dX6_after_1 ?_
  refine lv_iload_n hx hb dX6_after_4 rfl (lv_at hl 1 rfl) ?_
  obtain ⟨r1, hC, hR⟩ := ob hR
  try dsimp only at hR
  refine ro_calli (va_runV (As := [.int p1]) (rest := []) ⟨hx, hb, hml, hown, ht⟩ (c_Chain_has l dC dI ad tI tL tII tLL cnt w tot rew grp fin gns rst rws last now nxt whl au al mu ml p1 r1 hC.symm) ⟨callB_of 1 ht (goodG k_130) rfl rfl rfl (ht _ k_15) (ht _ k_131) (by decide +kernel) ⟨Nat.le_of_ble_eq_true rfl, Nat.le_of_ble_eq_true rfl⟩, (ht _ k_133), (ht _ k_132)⟩ (pre_v hK hN hP (q0 := 1) (ci := 0) rfl rfl) rfl rfl hl.1 rfl (lv_room (Nat.le_of_ble_eq_true rfl)) dX6_after_5 ⟨Nat.zero_le _, Nat.zero_le _⟩) ?_
  refine lv_if_eq (tgt := 22) hx hb dX6_after_8 (by decide) (fun c2 => ?_) (fun c2 => ?_)
  · replace hR := it_p c2 hR
    refine lv_iconst (v := (-1)) hx hb dX6_after_22 (by decide) ?_
    cases hR
    exact W.iret hx hb hr (fun t ht _ => ⟨rfl, by rw [ht]; exact hP, hS.F ht⟩) hS.2.2 dX6_after_23
  · replace hR := it_n c2 hR
    refine lv_aload_n hx hb dX6_after_11 rfl (lv_at hl 0 rfl) ?_
    refine va_get (D := (dC, dI)) (ci := 6) (v := .ref (ad 1)) (C := RX6) (T := TX6) (N := 7) hx hb ht hinX6 hown hK hP 0 rfl rfl 0 (by decide) (ht _ k_125) (fun _ h9 => h9) rfl dX6_after_12 ?_
    refine lv_iload_n hx hb dX6_after_15 rfl (lv_at hl 2 rfl) ?_
    obtain ⟨r3, hC, hR⟩ := ob hR
    try dsimp only at hR
    refine ro_calli (va_runV (As := [.int p2]) (rest := []) ⟨hx, hb, hml, hown, ht⟩ (c_Chain_has l dC dI ad tI tL tII tLL cnt w tot rew grp fin gns rst rws last now nxt whl au al mu ml p2 r3 hC.symm) ⟨callB_of 1 ht (goodG k_130) rfl rfl rfl (ht _ k_15) (ht _ k_131) (by decide +kernel) ⟨Nat.le_of_ble_eq_true rfl, Nat.le_of_ble_eq_true rfl⟩, (ht _ k_133), (ht _ k_132)⟩ (pre_v hK hN hP (q0 := 1) (ci := 0) rfl rfl) rfl rfl hl.1 rfl (lv_room (Nat.le_of_ble_eq_true rfl)) dX6_after_16 ⟨Nat.zero_le _, Nat.zero_le _⟩) ?_
    refine lv_if_ne (tgt := 24) hx hb dX6_after_19 (by decide) (fun c4 => ?_) (fun c4 => ?_)
    · replace hR := it_n c4 hR
      refine lv_iload_n hx hb dX6_after_24 rfl (lv_at hl 3 rfl) ?_
      refine lv_if_lt (tgt := 33) hx hb dX6_after_25 (by decide) (fun c5 => ?_) (fun c5 => ?_)
      · replace hR := it_p c5 hR
        refine lv_bipush (v := (-2)) hx hb dX6_after_33 (by decide) ?_
        cases hR
        exact W.iret hx hb hr (fun t ht _ => ⟨rfl, by rw [ht]; exact hP, hS.F ht⟩) hS.2.2 dX6_after_35
      · replace hR := it_n c5 hR
        refine lv_iload_n hx hb dX6_after_28 rfl (lv_at hl 3 rfl) ?_
        refine lv_iconst (v := 4) hx hb dX6_after_29 (by decide) ?_
        refine lv_icmp_le (tgt := 36) hx hb dX6_after_30 (by decide) (fun c6 => ?_) (fun c6 => ?_)
        · replace hR := it_p c6 hR
          refine lv_aload_n hx hb dX6_after_36 rfl (lv_at hl 0 rfl) ?_
          refine va_get (D := (dC, dI)) (ci := 6) (v := .ref (ad 28)) (C := RX6) (T := TX6) (N := 7) hx hb ht hinX6 hown hK hP 0 rfl rfl 4 (by decide) (ht _ k_167) (fun _ h9 => h9) rfl dX6_after_37 ?_
          refine lv_iload_n hx hb dX6_after_40 rfl (lv_at hl 1 rfl) ?_
          obtain ⟨⟨now_7, whl_8⟩, hC, hR⟩ := ob hR
          try dsimp only at hR
          refine rw_callv (va_runV (As := [.int p1]) (rest := []) ⟨hx, hb, hml, hown, ht⟩ (c_Spread_start l dC dI ad tI tL tII tLL cnt w tot rew grp fin gns rst rws last now nxt whl au al mu ml p1 now_7 whl_8 hC.symm) ⟨callB_of 1 ht (goodG k_168) rfl rfl rfl (ht _ k_169) (ht _ k_170) (by decide +kernel) ⟨Nat.le_of_ble_eq_true rfl, Nat.le_of_ble_eq_true rfl⟩, (ht _ k_172), (ht _ k_171)⟩ (pre_vw hK hN hP hD (q0 := 28) (ci := 4) rfl rfl) rfl rfl hl.1 rfl (lv_room (Nat.le_of_ble_eq_true rfl)) dX6_after_41 ⟨Nat.zero_le _, Nat.zero_le _⟩) hD hS rfl (fun H locs hP hD hS => ?_)
          have hP : va_P (dC, dI) vwCl (wC ad tI tL tII tLL cnt w tot rew grp fin gns rst rws last now_7 nxt whl_8 au al mu ml) H := hP
          have hD : va_D (rwA (wC ad tI tL tII tLL cnt w tot rew grp fin gns rst rws last now nxt whl au al mu ml)) (wC ad tI tL tII tLL cnt w tot rew grp fin gns rst rws last now_7 nxt whl_8 au al mu ml) := hD
          refine lv_iconst (v := 0) hx hb dX6_after_44 (by decide) ?_
          refine lv_istore (lv' := [(4, .int (0 : Int32)), (0, .ref (ad 0)), (1, .int p1), (2, .int p2), (3, .int p3)]) hx hb dX6_after_45 hl (by decide) rfl (fun ls hl => ?_)
          have L47_17 : ∀ (n : Nat) (x4_9 : Int32) (now_10 : Nat → Int64) (nxt_11 : Nat → Int64) (whl_12 : Int64), ∀ (o_x4_9 : Int32) (o_now_10 : Nat → Int64) (o_nxt_11 : Nat → Int64) (o_whl_12 : Int64), some (o_x4_9, o_now_10, o_nxt_11, o_whl_12) = f_CS_after_L47 cnt w tot p3 n x4_9 now_10 nxt_11 whl_12 → (∀ (H : Heap) (locs : List Loc), va_P (dC, dI) vwCl (wC ad tI tL tII tLL cnt w tot rew grp fin gns rst rws last o_now_10 o_nxt_11 o_whl_12 au al mu ml) H → va_D (rwA (wC ad tI tL tII tLL cnt w tot rew grp fin gns rst rws last now nxt whl au al mu ml)) (wC ad tI tL tII tLL cnt w tot rew grp fin gns rst rws last o_now_10 o_nxt_11 o_whl_12 au al mu ml) → va_S (rwA (wC ad tI tL tII tLL cnt w tot rew grp fin gns rst rws last now nxt whl au al mu ml)) s.heap H locs → ∀ ls : Array Slot, lv_has ls 5 [(0, .ref (ad 0)), (2, .int p2), (3, .int p3), (4, .int o_x4_9)] → W p l e (headSpec W_CS_after RM_f_CS_after).room s m ([.ref (ad 0), .int p1, .int p2, .int p3] : List Value).toArray below meth c H locs 0 0 (MQ below (rwQ (dC, dI) vwCl (wC ad tI tL tII tLL cnt w tot rew grp fin gns rst rws last R_now R_nxt R_whl R_au R_al mu ml) (some (.int R0)) (rwA (wC ad tI tL tII tLL cnt w tot rew grp fin gns rst rws last now nxt whl au al mu ml))) ([.ref (ad 0), .int p1, .int p2, .int p3] : List Value).toArray s 0 0 (rwA (wC ad tI tL tII tLL cnt w tot rew grp fin gns rst rws last now nxt whl au al mu ml))) (F0 m 66 ls [])) → ∀ (H : Heap) (locs : List Loc), va_P (dC, dI) vwCl (wC ad tI tL tII tLL cnt w tot rew grp fin gns rst rws last now_10 nxt_11 whl_12 au al mu ml) H → va_D (rwA (wC ad tI tL tII tLL cnt w tot rew grp fin gns rst rws last now nxt whl au al mu ml)) (wC ad tI tL tII tLL cnt w tot rew grp fin gns rst rws last now_10 nxt_11 whl_12 au al mu ml) → va_S (rwA (wC ad tI tL tII tLL cnt w tot rew grp fin gns rst rws last now nxt whl au al mu ml)) s.heap H locs → ∀ ls : Array Slot, lv_has ls 5 [(0, .ref (ad 0)), (2, .int p2), (3, .int p3), (4, .int x4_9)] → W p l e (headSpec W_CS_after RM_f_CS_after).room s m ([.ref (ad 0), .int p1, .int p2, .int p3] : List Value).toArray below meth c H locs 0 0 (MQ below (rwQ (dC, dI) vwCl (wC ad tI tL tII tLL cnt w tot rew grp fin gns rst rws last R_now R_nxt R_whl R_au R_al mu ml) (some (.int R0)) (rwA (wC ad tI tL tII tLL cnt w tot rew grp fin gns rst rws last now nxt whl au al mu ml))) ([.ref (ad 0), .int p1, .int p2, .int p3] : List Value).toArray s 0 0 (rwA (wC ad tI tL tII tLL cnt w tot rew grp fin gns rst rws last now nxt whl au al mu ml))) (F0 m 47 ls []) := by
            intro n
            induction n with
            | zero =>
              intro x4_9 now_10 nxt_11 whl_12 o_x4_9 o_now_10 o_nxt_11 o_whl_12 hR
              cases (show some _ = none from hR)
            | succ n ih =>
              intro x4_9 now_10 nxt_11 whl_12 o_x4_9 o_now_10 o_nxt_11 o_whl_12 hR hk H locs hP hD hS ls hl
              rw [f_CS_after_L47_s] at hR
              obtain ⟨y, hR, hQ⟩ := ob hR
              replace hR := hR.symm
              rw [f_CS_after_B47] at hR
              refine lv_iload hx hb dX6_after_47 (lv_at hl 3 rfl) ?_
              refine lv_iload_n hx hb dX6_after_49 rfl (lv_at hl 2 rfl) ?_
              refine lv_icmp_ge (tgt := 66) hx hb dX6_after_50 (by decide) (fun c13 => ?_) (fun c13 => ?_)
              · replace hR := it_p c13 hR
                cases hR
                cases (show some _ = some _ from hQ)
                exact hk H locs hP hD hS ls (lv_sub hl [0, 1, 2, 3] rfl)
              · replace hR := it_n c13 hR
                refine lv_aload_n hx hb dX6_after_53 rfl (lv_at hl 0 rfl) ?_
                refine va_get (D := (dC, dI)) (ci := 6) (v := .ref (ad 28)) (C := RX6) (T := TX6) (N := 7) hx hb ht hinX6 hown hK hP 0 rfl rfl 4 (by decide) (ht _ k_167) (fun _ h9 => h9) rfl dX6_after_54 ?_
                obtain ⟨⟨now_14, nxt_15, whl_16⟩, hC, hR⟩ := ob hR
                try dsimp only at hR
                refine rw_callv (va_runV (As := []) (rest := []) ⟨hx, hb, hml, hown, ht⟩ (c_Spread_goOn l dC dI ad tI tL tII tLL cnt w tot rew grp fin gns rst rws last now_10 nxt_11 whl_12 au al mu ml  now_14 nxt_15 whl_16 hC.symm) ⟨callB_of 0 ht (goodG k_173) rfl rfl rfl (ht _ k_169) (ht _ k_174) (by decide +kernel) ⟨Nat.le_of_ble_eq_true rfl, Nat.le_of_ble_eq_true rfl⟩, (ht _ k_176), (ht _ k_175)⟩ (pre_vw hK hN hP hD (q0 := 28) (ci := 4) rfl rfl) rfl rfl hl.1 rfl (lv_room (Nat.le_of_ble_eq_true rfl)) dX6_after_57 ⟨Nat.zero_le _, Nat.zero_le _⟩) hD hS rfl (fun H locs hP hD hS => ?_)
                have hP : va_P (dC, dI) vwCl (wC ad tI tL tII tLL cnt w tot rew grp fin gns rst rws last now_14 nxt_15 whl_16 au al mu ml) H := hP
                have hD : va_D (rwA (wC ad tI tL tII tLL cnt w tot rew grp fin gns rst rws last now nxt whl au al mu ml)) (wC ad tI tL tII tLL cnt w tot rew grp fin gns rst rws last now_14 nxt_15 whl_16 au al mu ml) := hD
                refine lv_iinc (v := (x4_9 + 1)) (lv' := [(4, .int (x4_9 + 1)), (0, .ref (ad 0)), (2, .int p2), (3, .int p3)]) hx hb dX6_after_60 hl (k := 3) rfl rfl (by decide) rfl (fun ls hl => ?_)
                refine lv_goto (tgt := 47) hx hb dX6_after_63 (by decide) ?_
                cases hR
                exact ih (x4_9 + 1) now_14 nxt_15 whl_16 o_x4_9 o_now_10 o_nxt_11 o_whl_12 hQ hk H locs hP hD hS ls (lv_sub hl [1, 2, 3, 0] rfl)
          obtain ⟨⟨u18, u19, u20, u21⟩, hL, hR⟩ := ob hR
          try dsimp only at hR
          refine L47_17 300 (0 : Int32) now_7 nxt whl_8 u18 u19 u20 u21 hL.symm (fun H locs hP hD hS ls hl => ?_) H locs hP hD hS ls (lv_sub hl [1, 3, 4, 0] rfl)
          refine lv_aload_n hx hb dX6_after_66 rfl (lv_at hl 0 rfl) ?_
          refine va_get (D := (dC, dI)) (ci := 6) (v := .ref (ad 31)) (C := RX6) (T := TX6) (N := 7) hx hb ht hinX6 hown hK hP 0 rfl rfl 5 (by decide) (ht _ k_119) (fun _ h9 => h9) rfl dX6_after_67 ?_
          refine lv_aload_n hx hb dX6_after_70 rfl (lv_at hl 0 rfl) ?_
          refine va_get (D := (dC, dI)) (ci := 6) (v := .ref (ad 28)) (C := RX6) (T := TX6) (N := 7) hx hb ht hinX6 hown hK hP 0 rfl rfl 4 (by decide) (ht _ k_167) (fun _ h9 => h9) rfl dX6_after_71 ?_
          refine va_getN (D := (dC, dI)) (ci := 4) (v := .ref (ad 29)) (C := RX4) (T := TX4) (N := 4) hx hb ht hinX4 hown hK hP 28 rfl rfl 1 (by decide) (va_Nw.use rfl (nf_11 hN)) (fun _ h9 => h9) rfl dX6_after_74 ?_
          refine lv_iload_n hx hb dX6_after_77 rfl (lv_at hl 1 rfl) ?_
          obtain ⟨z22, hR⟩ := og hR
          refine va_lald hx hb hK hP 29 1 rfl rfl (ix_in z22) dX6_after_78 ?_
          refine lv_aload_n hx hb dX6_after_79 rfl (lv_at hl 0 rfl) ?_
          refine va_get (D := (dC, dI)) (ci := 6) (v := .ref (ad 28)) (C := RX6) (T := TX6) (N := 7) hx hb ht hinX6 hown hK hP 0 rfl rfl 4 (by decide) (ht _ k_167) (fun _ h9 => h9) rfl dX6_after_80 ?_
          refine va_getN (D := (dC, dI)) (ci := 4) (v := .long u21) (C := RX4) (T := TX4) (N := 4) hx hb ht hinX4 hown hK hP 28 rfl rfl 3 (by decide) (va_Nw.use rfl (nf_12 hN)) (fun _ h9 => h9) rfl dX6_after_83 ?_
          obtain ⟨⟨u_23, lo_24⟩, hC, hR⟩ := ob hR
          try dsimp only at hR
          refine rw_onev (va_runV (As := [.long (u19 p2.toNatClampNeg), .long u21]) (rest := []) ⟨hx, hb, hml, hown, ht⟩ (c_Fraction_put l dC dI ad tI tL tII tLL (ad 31) au al (u19 p2.toNatClampNeg) u21 u_23 lo_24 hC.symm) ⟨callB_of 2 ht (goodG k_99) rfl rfl rfl (ht _ k_100) (ht _ k_124) (by decide +kernel) ⟨Nat.le_of_ble_eq_true rfl, Nat.le_of_ble_eq_true rfl⟩, (ht _ k_103), (ht _ k_102)⟩ (pre_vw hK hN (hP.sub [31] rfl) (hD.sub [31] (by decide) rfl) (q0 := 0) (ci := 2) rfl rfl) rfl rfl hl.1 rfl (lv_room (Nat.le_of_ble_eq_true rfl)) dX6_after_86 ⟨Nat.zero_le _, Nat.zero_le _⟩) hP hD hS 31 rfl (fun H locs hP hD hS => ?_)
          have hP : va_P (dC, dI) vwCl (wC ad tI tL tII tLL cnt w tot rew grp fin gns rst rws last u19 u20 u21 u_23 lo_24 mu ml) H := hP
          have hD : va_D (rwA (wC ad tI tL tII tLL cnt w tot rew grp fin gns rst rws last now nxt whl au al mu ml)) (wC ad tI tL tII tLL cnt w tot rew grp fin gns rst rws last u19 u20 u21 u_23 lo_24 mu ml) := hD
          refine lv_iconst (v := 1) hx hb dX6_after_89 (by decide) ?_
          cases hR
          exact W.iret hx hb hr (fun t ht _ => ⟨rfl, by rw [ht]; exact hP, hS.F ht⟩) hS.2.2 dX6_after_90
        · replace hR := it_n c6 hR
          refine lv_bipush (v := (-2)) hx hb dX6_after_33 (by decide) ?_
          cases hR
          exact W.iret hx hb hr (fun t ht _ => ⟨rfl, by rw [ht]; exact hP, hS.F ht⟩) hS.2.2 dX6_after_35
    · replace hR := it_p c4 hR
      refine lv_iconst (v := (-1)) hx hb dX6_after_22 (by decide) ?_
      cases hR
      exact W.iret hx hb hr (fun t ht _ => ⟨rfl, by rw [ht]; exact hP, hS.F ht⟩) hS.2.2 dX6_after_23
abbrev RM_f_CS_worth : Room := { frames := 5, cells := 0, slots := 0, locals := 113 }
abbrev W_CS_worth : List Cond := .code yX6_worth cX6_worth 3 (some .int) :: tblG
set_option maxHeartbeats 4000000 in
set_option maxRecDepth 100000 in
theorem c_CS_worth (l : Launch) (dC : Nat → ClassId) (dI : Nat → Nat → Nat) (ad : Nat → Nat) (tI tL tII tLL : ClassId) (cnt : Int32) (w : Nat → Nat → Int32) (tot : Nat → Int32) (rew : Nat → Int32) (grp : Nat → Int32) (fin : Nat → Int32) (gns : Nat → Int64) (rst : Nat → Int32) (rws : Nat → Nat → Int64) (last : Int32) (now : Nat → Int64) (nxt : Nat → Int64) (whl : Int64) (au : Int64) (al : Int64) (mu : Int64) (ml : Int64) (p1 : Int32) (R0 : Int32) (R_gns : Nat → Int64) (R_rst : Nat → Int32) (R_rws : Nat → Nat → Int64) (R_last : Int32) (R_au : Int64) (R_al : Int64) (hR : some (R0, R_gns, R_rst, R_rws, R_last, R_au, R_al) = f_CS_worth cnt w tot rew gns rst rws last au al p1) : Met l yX6_worth W_CS_worth RM_f_CS_worth (rwP (dC, dI) vwCl [(tI, .int), (tL, .long), (tII, .array .int), (tLL, .array .long)] (wC ad tI tL tII tLL cnt w tot rew grp fin gns rst rws last now nxt whl au al mu ml) ([.ref (ad 0), .int p1] : List Value)) (rwQ (dC, dI) vwCl (wC ad tI tL tII tLL cnt w tot rew grp fin R_gns R_rst R_rws R_last now nxt whl R_au R_al mu ml) (some (.int R0)) (rwA (wC ad tI tL tII tLL cnt w tot rew grp fin gns rst rws last now nxt whl au al mu ml))) 0 0 (rwA (wC ad tI tL tII tLL cnt w tot rew grp fin gns rst rws last now nxt whl au al mu ml)) := by
  refine Met.ofW (cc := cX6_worth) (maxL := 3) (ret := (some .int)) (by decide) rfl ?_
  intro p e s m args below meth c s₁ B hml hv
  obtain ⟨rfl, hP, hK, hN, hD⟩ := hv
  have hx := B.exec
  have hb := B.bytes
  have hr := B.returns
  have hts := atoms_spec (ws := W_CS_worth) B.pre
  have ht := fun (w : Cond) (h : w ∈ tblG) => hts w (List.mem_cons_of_mem _ h)
  have hown : s.vm.findClass RX6 = some m.cls := findClass_of_methodNamed B.named
  have hlocks := B.notSynchronized
  have hl := lv_entry ([.ref (ad 0), .int p1] : List Value) (n := 3) (Nat.le_of_ble_eq_true rfl)
  rw [lg_entry_eq]
  generalize (lg_sl ([.ref (ad 0), .int p1] : List Value) ++ List.replicate (3 - (lg_sl ([.ref (ad 0), .int p1] : List Value)).length) Slot.unset).toArray = ls at hl ⊢
  have hl : lv_has ls 3 [(0, .ref (ad 0)), (1, .int p1)] := hl
  have hD := hD.own
  have hS : va_S (rwA (wC ad tI tL tII tLL cnt w tot rew grp fin gns rst rws last now nxt whl au al mu ml)) s.heap s.heap [] := va_S.rf
  suffices K : ∀ (H : Heap) (locs : List Loc), va_P (dC, dI) vwCl (wC ad tI tL tII tLL cnt w tot rew grp fin gns rst rws last now nxt whl au al mu ml) H → va_D (rwA (wC ad tI tL tII tLL cnt w tot rew grp fin gns rst rws last now nxt whl au al mu ml)) (wC ad tI tL tII tLL cnt w tot rew grp fin gns rst rws last now nxt whl au al mu ml) → va_S (rwA (wC ad tI tL tII tLL cnt w tot rew grp fin gns rst rws last now nxt whl au al mu ml)) s.heap H locs → W p l e (headSpec W_CS_worth RM_f_CS_worth).room s m ([.ref (ad 0), .int p1] : List Value).toArray below meth c H locs 0 0 (MQ below (rwQ (dC, dI) vwCl (wC ad tI tL tII tLL cnt w tot rew grp fin R_gns R_rst R_rws R_last now nxt whl R_au R_al mu ml) (some (.int R0)) (rwA (wC ad tI tL tII tLL cnt w tot rew grp fin gns rst rws last now nxt whl au al mu ml))) ([.ref (ad 0), .int p1] : List Value).toArray s 0 0 (rwA (wC ad tI tL tII tLL cnt w tot rew grp fin gns rst rws last now nxt whl au al mu ml))) (F0 m 0 ls []) from K s.heap [] hP hD hS
  clear hP hD hS
  intro H locs hP hD hS
  rw [f_CS_worth] at hR
  refine lv_aload_n hx hb dX6_worth_0 rfl (lv_at hl 0 rfl) ?_
  refine va_get (D := (dC, dI)) (ci := 6) (v := .ref (ad 1)) (C := RX6) (T := TX6) (N := 7) hx hb ht hinX6 hown hK hP 0 rfl rfl 0 (by decide) (ht _ k_125) (fun _ h9 => h9) rfl dX6_worth_1 ?_
  refine lv_iload_n hx hb dX6_worth_4 rfl (lv_at hl 1 rfl) ?_
  obtain ⟨r1, hC, hR⟩ := ob hR
  try dsimp only at hR
  refine ro_calli (va_runV (As := [.int p1]) (rest := []) ⟨hx, hb, hml, hown, ht⟩ (c_Chain_has l dC dI ad tI tL tII tLL cnt w tot rew grp fin gns rst rws last now nxt whl au al mu ml p1 r1 hC.symm) ⟨callB_of 1 ht (goodG k_130) rfl rfl rfl (ht _ k_15) (ht _ k_131) (by decide +kernel) ⟨Nat.le_of_ble_eq_true rfl, Nat.le_of_ble_eq_true rfl⟩, (ht _ k_133), (ht _ k_132)⟩ (pre_v hK hN hP (q0 := 1) (ci := 0) rfl rfl) rfl rfl hl.1 rfl (lv_room (Nat.le_of_ble_eq_true rfl)) dX6_worth_5 ⟨Nat.zero_le _, Nat.zero_le _⟩) ?_
  refine lv_if_ne (tgt := 13) hx hb dX6_worth_8 (by decide) (fun c2 => ?_) (fun c2 => ?_)
  · replace hR := it_n c2 hR
    refine lv_aload_n hx hb dX6_worth_13 rfl (lv_at hl 0 rfl) ?_
    refine va_get (D := (dC, dI)) (ci := 6) (v := .ref (ad 1)) (C := RX6) (T := TX6) (N := 7) hx hb ht hinX6 hown hK hP 0 rfl rfl 0 (by decide) (ht _ k_125) (fun _ h9 => h9) rfl dX6_worth_14 ?_
    obtain ⟨r3, hC, hR⟩ := ob hR
    try dsimp only at hR
    refine ro_calli (va_runV (As := []) (rest := []) ⟨hx, hb, hml, hown, ht⟩ (c_Chain_ends l dC dI ad tI tL tII tLL cnt w tot rew grp fin gns rst rws last now nxt whl au al mu ml  r3 hC.symm) ⟨callB_of 0 ht (goodG k_177) rfl rfl rfl (ht _ k_15) (ht _ k_178) (by decide +kernel) ⟨Nat.le_of_ble_eq_true rfl, Nat.le_of_ble_eq_true rfl⟩, (ht _ k_180), (ht _ k_179)⟩ (pre_v hK hN hP (q0 := 1) (ci := 0) rfl rfl) rfl rfl hl.1 rfl (lv_room (Nat.le_of_ble_eq_true rfl)) dX6_worth_17 ⟨Nat.zero_le _, Nat.zero_le _⟩) ?_
    refine lv_istore_n (lv' := [(2, .int r3), (0, .ref (ad 0)), (1, .int p1)]) hx hb dX6_worth_20 rfl hl (by decide) rfl (fun ls hl => ?_)
    refine lv_aload_n hx hb dX6_worth_21 rfl (lv_at hl 1 rfl) ?_
    refine va_get (D := (dC, dI)) (ci := 6) (v := .ref (ad 12)) (C := RX6) (T := TX6) (N := 7) hx hb ht hinX6 hown hK hP 0 rfl rfl 1 (by decide) (ht _ k_111) (fun _ h9 => h9) rfl dX6_worth_22 ?_
    refine lv_iload_n hx hb dX6_worth_25 rfl (lv_at hl 2 rfl) ?_
    refine lv_iload_n hx hb dX6_worth_26 rfl (lv_at hl 0 rfl) ?_
    obtain ⟨r4, hC, hR⟩ := ob hR
    try dsimp only at hR
    refine ro_calli (va_runV (As := [.int p1, .int r3]) (rest := []) ⟨hx, hb, hml, hown, ht⟩ (c_Ways_isSureToMeet l dC dI ad tI tL tII tLL cnt w tot rew grp fin gns rst rws last now nxt whl au al mu ml p1 r3 r4 hC.symm) ⟨callB_of 2 ht (goodG k_153) rfl rfl rfl (ht _ k_33) (ht _ k_154) (by decide +kernel) ⟨Nat.le_of_ble_eq_true rfl, Nat.le_of_ble_eq_true rfl⟩, (ht _ k_156), (ht _ k_155)⟩ (pre_v hK hN hP (q0 := 12) (ci := 5) rfl rfl) rfl rfl hl.1 rfl (lv_room (Nat.le_of_ble_eq_true rfl)) dX6_worth_27 ⟨Nat.zero_le _, Nat.zero_le _⟩) ?_
    refine lv_if_ne (tgt := 36) hx hb dX6_worth_30 (by decide) (fun c5 => ?_) (fun c5 => ?_)
    · replace hR := it_n c5 hR
      refine lv_iload_n hx hb dX6_worth_36 rfl (lv_at hl 0 rfl) ?_
      refine lv_iload_n hx hb dX6_worth_37 rfl (lv_at hl 2 rfl) ?_
      obtain ⟨r6, hC, hR⟩ := ob hR
      try dsimp only at hR
      refine ro_calli (va_runS (As := [.int r3, .int p1]) (rest := []) ⟨hx, hb, hml, hown, ht⟩ (c_holds l dC dI ad tI tL tII tLL  r3 p1 r6 hC.symm) ⟨callB_of 2 ht (goodG k_20) rfl rfl rfl (ht _ k_8) (ht _ k_113) (by decide +kernel) ⟨Nat.le_of_ble_eq_true rfl, Nat.le_of_ble_eq_true rfl⟩, (ht _ k_21)⟩ (pre_s hK hN (hP.sub (ws' := []) [] rfl)) rfl rfl hl.1 rfl (lv_room (Nat.le_of_ble_eq_true rfl)) dX6_worth_38 ⟨Nat.zero_le _, Nat.zero_le _⟩) ?_
      refine lv_if_eq (tgt := 55) hx hb dX6_worth_41 (by decide) (fun c7 => ?_) (fun c7 => ?_)
      · replace hR := it_p c7 hR
        refine lv_aload_n hx hb dX6_worth_55 rfl (lv_at hl 1 rfl) ?_
        refine va_get (D := (dC, dI)) (ci := 6) (v := .ref (ad 16)) (C := RX6) (T := TX6) (N := 7) hx hb ht hinX6 hown hK hP 0 rfl rfl 3 (by decide) (ht _ k_114) (fun _ h9 => h9) rfl dX6_worth_56 ?_
        obtain ⟨gns_8, hC, hR⟩ := ob hR
        try dsimp only at hR
        refine rw_callv (va_runV (As := []) (rest := []) ⟨hx, hb, hml, hown, ht⟩ (c_FirstSteps_gainByReward l dC dI ad tI tL tII tLL cnt w tot rew grp fin gns rst rws last now nxt whl au al mu ml  gns_8 hC.symm) ⟨callB_of 0 ht (goodG k_181) rfl rfl rfl (ht _ k_87) (ht _ k_182) (by decide +kernel) ⟨Nat.le_of_ble_eq_true rfl, Nat.le_of_ble_eq_true rfl⟩, (ht _ k_184), (ht _ k_183)⟩ (pre_vw hK hN hP hD (q0 := 16) (ci := 1) rfl rfl) rfl rfl hl.1 rfl (lv_room (Nat.le_of_ble_eq_true rfl)) dX6_worth_59 ⟨Nat.zero_le _, Nat.zero_le _⟩) hD hS rfl (fun H locs hP hD hS => ?_)
        have hP : va_P (dC, dI) vwCl (wC ad tI tL tII tLL cnt w tot rew grp fin gns_8 rst rws last now nxt whl au al mu ml) H := hP
        have hD : va_D (rwA (wC ad tI tL tII tLL cnt w tot rew grp fin gns rst rws last now nxt whl au al mu ml)) (wC ad tI tL tII tLL cnt w tot rew grp fin gns_8 rst rws last now nxt whl au al mu ml) := hD
        refine lv_aload_n hx hb dX6_worth_62 rfl (lv_at hl 1 rfl) ?_
        refine va_get (D := (dC, dI)) (ci := 6) (v := .ref (ad 16)) (C := RX6) (T := TX6) (N := 7) hx hb ht hinX6 hown hK hP 0 rfl rfl 3 (by decide) (ht _ k_114) (fun _ h9 => h9) rfl dX6_worth_63 ?_
        refine lv_iload_n hx hb dX6_worth_66 rfl (lv_at hl 2 rfl) ?_
        refine lv_aload_n hx hb dX6_worth_67 rfl (lv_at hl 1 rfl) ?_
        refine va_get (D := (dC, dI)) (ci := 6) (v := .ref (ad 12)) (C := RX6) (T := TX6) (N := 7) hx hb ht hinX6 hown hK hP 0 rfl rfl 1 (by decide) (ht _ k_111) (fun _ h9 => h9) rfl dX6_worth_68 ?_
        refine lv_iload_n hx hb dX6_worth_71 rfl (lv_at hl 2 rfl) ?_
        refine lv_iconst (v := 0) hx hb dX6_worth_72 (by decide) ?_
        obtain ⟨r9, hC, hR⟩ := ob hR
        try dsimp only at hR
        refine ro_calli (va_runV (As := [.int p1, .int (0 : Int32)]) (rest := [.int p1, .ref (ad 16)]) ⟨hx, hb, hml, hown, ht⟩ (c_Ways_metFrom l dC dI ad tI tL tII tLL cnt w tot rew grp fin gns_8 rst rws last now nxt whl au al mu ml p1 (0 : Int32) r9 hC.symm) ⟨callB_of 2 ht (goodG k_32) rfl rfl rfl (ht _ k_33) (ht _ k_161) (by decide +kernel) ⟨Nat.le_of_ble_eq_true rfl, Nat.le_of_ble_eq_true rfl⟩, (ht _ k_36), (ht _ k_35)⟩ (pre_v hK hN hP (q0 := 12) (ci := 5) rfl rfl) rfl rfl hl.1 rfl (lv_room (Nat.le_of_ble_eq_true rfl)) dX6_worth_73 ⟨Nat.zero_le _, Nat.zero_le _⟩) ?_
        refine lv_iload_n hx hb dX6_worth_76 rfl (lv_at hl 0 rfl) ?_
        refine lv_iconst (v := (-1)) hx hb dX6_worth_77 (by decide) ?_
        refine lv_ixor hx hb dX6_worth_78 ?_
        refine lv_iand hx hb dX6_worth_79 ?_
        refine lv_aload_n hx hb dX6_worth_80 rfl (lv_at hl 1 rfl) ?_
        refine va_get (D := (dC, dI)) (ci := 6) (v := .ref (ad 31)) (C := RX6) (T := TX6) (N := 7) hx hb ht hinX6 hown hK hP 0 rfl rfl 5 (by decide) (ht _ k_119) (fun _ h9 => h9) rfl dX6_worth_81 ?_
        obtain ⟨⟨rst_10, rws_11, last_12, au_13, al_14⟩, hC, hR⟩ := ob hR
        try dsimp only at hR
        refine rw_callv (va_runV (As := [.int p1, .int (r9 &&& (r3 ^^^ (-1 : Int32))), .ref (ad 31)]) (rest := []) ⟨hx, hb, hml, hown, ht⟩ (c_FirstSteps_solveA l dC dI ad tI tL tII tLL cnt w tot rew grp fin gns_8 rst rws last now nxt whl au al mu ml p1 (r9 &&& (r3 ^^^ (-1 : Int32))) rst_10 rws_11 last_12 au_13 al_14 hC.symm) ⟨callB_of 3 ht (goodG k_120) rfl rfl rfl (ht _ k_87) (ht _ k_121) (by decide +kernel) ⟨Nat.le_of_ble_eq_true rfl, Nat.le_of_ble_eq_true rfl⟩, (ht _ k_123), (ht _ k_122)⟩ (pre_vw hK hN hP hD (q0 := 16) (ci := 1) rfl rfl) rfl rfl hl.1 rfl (lv_room (Nat.le_of_ble_eq_true rfl)) dX6_worth_84 ⟨Nat.zero_le _, Nat.zero_le _⟩) hD hS rfl (fun H locs hP hD hS => ?_)
        have hP : va_P (dC, dI) vwCl (wC ad tI tL tII tLL cnt w tot rew grp fin gns_8 rst_10 rws_11 last_12 now nxt whl au_13 al_14 mu ml) H := hP
        have hD : va_D (rwA (wC ad tI tL tII tLL cnt w tot rew grp fin gns rst rws last now nxt whl au al mu ml)) (wC ad tI tL tII tLL cnt w tot rew grp fin gns_8 rst_10 rws_11 last_12 now nxt whl au_13 al_14 mu ml) := hD
        refine lv_iconst (v := 1) hx hb dX6_worth_87 (by decide) ?_
        cases hR
        exact W.iret hx hb hr (fun t ht _ => ⟨rfl, by rw [ht]; exact hP, hS.F ht⟩) hS.2.2 dX6_worth_88
      · replace hR := it_n c7 hR
        refine lv_aload_n hx hb dX6_worth_44 rfl (lv_at hl 1 rfl) ?_
        refine va_get (D := (dC, dI)) (ci := 6) (v := .ref (ad 31)) (C := RX6) (T := TX6) (N := 7) hx hb ht hinX6 hown hK hP 0 rfl rfl 5 (by decide) (ht _ k_119) (fun _ h9 => h9) rfl dX6_worth_45 ?_
        refine lv_lconst (v := 0) hx hb dX6_worth_48 (by decide) ?_
        refine lv_lconst (v := 1) hx hb dX6_worth_49 (by decide) ?_
        obtain ⟨⟨u_15, lo_16⟩, hC, hR⟩ := ob hR
        try dsimp only at hR
        refine rw_onev (va_runV (As := [.long (0 : Int64), .long (1 : Int64)]) (rest := []) ⟨hx, hb, hml, hown, ht⟩ (c_Fraction_put l dC dI ad tI tL tII tLL (ad 31) au al (0 : Int64) (1 : Int64) u_15 lo_16 hC.symm) ⟨callB_of 2 ht (goodG k_99) rfl rfl rfl (ht _ k_100) (ht _ k_124) (by decide +kernel) ⟨Nat.le_of_ble_eq_true rfl, Nat.le_of_ble_eq_true rfl⟩, (ht _ k_103), (ht _ k_102)⟩ (pre_vw hK hN (hP.sub [31] rfl) (hD.sub [31] (by decide) rfl) (q0 := 0) (ci := 2) rfl rfl) rfl rfl hl.1 rfl (lv_room (Nat.le_of_ble_eq_true rfl)) dX6_worth_50 ⟨Nat.zero_le _, Nat.zero_le _⟩) hP hD hS 31 rfl (fun H locs hP hD hS => ?_)
        have hP : va_P (dC, dI) vwCl (wC ad tI tL tII tLL cnt w tot rew grp fin gns rst rws last now nxt whl u_15 lo_16 mu ml) H := hP
        have hD : va_D (rwA (wC ad tI tL tII tLL cnt w tot rew grp fin gns rst rws last now nxt whl au al mu ml)) (wC ad tI tL tII tLL cnt w tot rew grp fin gns rst rws last now nxt whl u_15 lo_16 mu ml) := hD
        refine lv_iconst (v := 1) hx hb dX6_worth_53 (by decide) ?_
        cases hR
        exact W.iret hx hb hr (fun t ht _ => ⟨rfl, by rw [ht]; exact hP, hS.F ht⟩) hS.2.2 dX6_worth_54
    · replace hR := it_p c5 hR
      refine lv_bipush (v := (-3)) hx hb dX6_worth_33 (by decide) ?_
      cases hR
      exact W.iret hx hb hr (fun t ht _ => ⟨rfl, by rw [ht]; exact hP, hS.F ht⟩) hS.2.2 dX6_worth_35
  · replace hR := it_p c2 hR
    refine lv_iconst (v := (-1)) hx hb dX6_worth_11 (by decide) ?_
    cases hR
    exact W.iret hx hb hr (fun t ht _ => ⟨rfl, by rw [ht]; exact hP, hS.F ht⟩) hS.2.2 dX6_worth_12
abbrev RM_f_CS_upper : Room := { frames := 0, cells := 0, slots := 0, locals := 0 }
abbrev W_CS_upper : List Cond := .code yX6_upper cX6_upper 1 (some .long) :: tblG
set_option maxHeartbeats 4000000 in
set_option maxRecDepth 100000 in
theorem c_CS_upper (l : Launch) (dC : Nat → ClassId) (dI : Nat → Nat → Nat) (ad : Nat → Nat) (tI tL tII tLL : ClassId) (cnt : Int32) (w : Nat → Nat → Int32) (tot : Nat → Int32) (rew : Nat → Int32) (grp : Nat → Int32) (fin : Nat → Int32) (gns : Nat → Int64) (rst : Nat → Int32) (rws : Nat → Nat → Int64) (last : Int32) (now : Nat → Int64) (nxt : Nat → Int64) (whl : Int64) (au : Int64) (al : Int64) (mu : Int64) (ml : Int64)  (R0 : Int64) (hR : some R0 = f_CS_upper au) : Met l yX6_upper W_CS_upper RM_f_CS_upper (roP (dC, dI) vwCl [(tI, .int), (tL, .long), (tII, .array .int), (tLL, .array .long)] (wC ad tI tL tII tLL cnt w tot rew grp fin gns rst rws last now nxt whl au al mu ml) ([.ref (ad 0)] : List Value)) (roQ (some (.long R0))) 0 0 (fun _ => False) := by
  refine Met.ofW (cc := cX6_upper) (maxL := 1) (ret := (some .long)) (by decide) rfl ?_
  intro p e s m args below meth c s₁ B hml hv
  obtain ⟨rfl, hP, hK, hN⟩ := hv
  have hx := B.exec
  have hb := B.bytes
  have hr := B.returns
  have hts := atoms_spec (ws := W_CS_upper) B.pre
  have ht := fun (w : Cond) (h : w ∈ tblG) => hts w (List.mem_cons_of_mem _ h)
  have hown : s.vm.findClass RX6 = some m.cls := findClass_of_methodNamed B.named
  have hlocks := B.notSynchronized
  have hl := lv_entry ([.ref (ad 0)] : List Value) (n := 1) (Nat.le_of_ble_eq_true rfl)
  rw [lg_entry_eq]
  generalize (lg_sl ([.ref (ad 0)] : List Value) ++ List.replicate (1 - (lg_sl ([.ref (ad 0)] : List Value)).length) Slot.unset).toArray = ls at hl ⊢
  have hl : lv_has ls 1 [(0, .ref (ad 0))] := hl
  rw [f_CS_upper] at hR
  refine lv_aload_n hx hb dX6_upper_0 rfl (lv_at hl 0 rfl) ?_
  refine va_get (D := (dC, dI)) (ci := 6) (v := .ref (ad 31)) (C := RX6) (T := TX6) (N := 7) hx hb ht hinX6 hown hK hP 0 rfl rfl 5 (by decide) (ht _ k_119) (fun _ h9 => h9) rfl dX6_upper_1 ?_
  refine va_getN (D := (dC, dI)) (ci := 2) (v := .long au) (C := RX2) (T := TX2) (N := 2) hx hb ht hinX2 hown hK hP 31 rfl rfl 0 (by decide) (va_Nw.use rfl (nf_13 hN)) (fun _ h9 => h9) rfl dX6_upper_4 ?_
  cases hR
  exact W.lret hx hb hr (fun t ht _ => ⟨rfl, ht⟩) t_nil dX6_upper_7
abbrev RM_f_CS_lower : Room := { frames := 0, cells := 0, slots := 0, locals := 0 }
abbrev W_CS_lower : List Cond := .code yX6_lower cX6_lower 1 (some .long) :: tblG
set_option maxHeartbeats 4000000 in
set_option maxRecDepth 100000 in
theorem c_CS_lower (l : Launch) (dC : Nat → ClassId) (dI : Nat → Nat → Nat) (ad : Nat → Nat) (tI tL tII tLL : ClassId) (cnt : Int32) (w : Nat → Nat → Int32) (tot : Nat → Int32) (rew : Nat → Int32) (grp : Nat → Int32) (fin : Nat → Int32) (gns : Nat → Int64) (rst : Nat → Int32) (rws : Nat → Nat → Int64) (last : Int32) (now : Nat → Int64) (nxt : Nat → Int64) (whl : Int64) (au : Int64) (al : Int64) (mu : Int64) (ml : Int64)  (R0 : Int64) (hR : some R0 = f_CS_lower al) : Met l yX6_lower W_CS_lower RM_f_CS_lower (roP (dC, dI) vwCl [(tI, .int), (tL, .long), (tII, .array .int), (tLL, .array .long)] (wC ad tI tL tII tLL cnt w tot rew grp fin gns rst rws last now nxt whl au al mu ml) ([.ref (ad 0)] : List Value)) (roQ (some (.long R0))) 0 0 (fun _ => False) := by
  refine Met.ofW (cc := cX6_lower) (maxL := 1) (ret := (some .long)) (by decide) rfl ?_
  intro p e s m args below meth c s₁ B hml hv
  obtain ⟨rfl, hP, hK, hN⟩ := hv
  have hx := B.exec
  have hb := B.bytes
  have hr := B.returns
  have hts := atoms_spec (ws := W_CS_lower) B.pre
  have ht := fun (w : Cond) (h : w ∈ tblG) => hts w (List.mem_cons_of_mem _ h)
  have hown : s.vm.findClass RX6 = some m.cls := findClass_of_methodNamed B.named
  have hlocks := B.notSynchronized
  have hl := lv_entry ([.ref (ad 0)] : List Value) (n := 1) (Nat.le_of_ble_eq_true rfl)
  rw [lg_entry_eq]
  generalize (lg_sl ([.ref (ad 0)] : List Value) ++ List.replicate (1 - (lg_sl ([.ref (ad 0)] : List Value)).length) Slot.unset).toArray = ls at hl ⊢
  have hl : lv_has ls 1 [(0, .ref (ad 0))] := hl
  rw [f_CS_lower] at hR
  refine lv_aload_n hx hb dX6_lower_0 rfl (lv_at hl 0 rfl) ?_
  refine va_get (D := (dC, dI)) (ci := 6) (v := .ref (ad 31)) (C := RX6) (T := TX6) (N := 7) hx hb ht hinX6 hown hK hP 0 rfl rfl 5 (by decide) (ht _ k_119) (fun _ h9 => h9) rfl dX6_lower_1 ?_
  refine va_getN (D := (dC, dI)) (ci := 2) (v := .long al) (C := RX2) (T := TX2) (N := 2) hx hb ht hinX2 hown hK hP 31 rfl rfl 1 (by decide) (va_Nw.use rfl (nf_14 hN)) (fun _ h9 => h9) rfl dX6_lower_4 ?_
  cases hR
  exact W.lret hx hb hr (fun t ht _ => ⟨rfl, ht⟩) t_nil dX6_lower_7
abbrev RM_f_CS_told : Room := { frames := 6, cells := 0, slots := 0, locals := 137 }
abbrev W_CS_told : List Cond := .code yX6_told cX6_told 2 (some .int) :: tblG
set_option maxHeartbeats 4000000 in
set_option maxRecDepth 100000 in
theorem c_CS_told (l : Launch) (dC : Nat → ClassId) (dI : Nat → Nat → Nat) (ad : Nat → Nat) (tI tL tII tLL : ClassId) (cnt : Int32) (w : Nat → Nat → Int32) (tot : Nat → Int32) (rew : Nat → Int32) (grp : Nat → Int32) (fin : Nat → Int32) (gns : Nat → Int64) (rst : Nat → Int32) (rws : Nat → Nat → Int64) (last : Int32) (now : Nat → Int64) (nxt : Nat → Int64) (whl : Int64) (au : Int64) (al : Int64) (mu : Int64) (ml : Int64) (p1 : Int32) (R0 : Int32) (R_grp : Nat → Int32) (R_fin : Nat → Int32) (hR : some (R0, R_grp, R_fin) = f_CS_told cnt w tot rew grp fin p1) : Met l yX6_told W_CS_told RM_f_CS_told (rwP (dC, dI) vwCl [(tI, .int), (tL, .long), (tII, .array .int), (tLL, .array .long)] (wC ad tI tL tII tLL cnt w tot rew grp fin gns rst rws last now nxt whl au al mu ml) ([.ref (ad 0), .int p1] : List Value)) (rwQ (dC, dI) vwCl (wC ad tI tL tII tLL cnt w tot rew R_grp R_fin gns rst rws last now nxt whl au al mu ml) (some (.int R0)) (rwA (wC ad tI tL tII tLL cnt w tot rew grp fin gns rst rws last now nxt whl au al mu ml))) 0 0 (rwA (wC ad tI tL tII tLL cnt w tot rew grp fin gns rst rws last now nxt whl au al mu ml)) := by
  refine Met.ofW (cc := cX6_told) (maxL := 2) (ret := (some .int)) (by decide) rfl ?_
  intro p e s m args below meth c s₁ B hml hv
  obtain ⟨rfl, hP, hK, hN, hD⟩ := hv
  have hx := B.exec
  have hb := B.bytes
  have hr := B.returns
  have hts := atoms_spec (ws := W_CS_told) B.pre
  have ht := fun (w : Cond) (h : w ∈ tblG) => hts w (List.mem_cons_of_mem _ h)
  have hown : s.vm.findClass RX6 = some m.cls := findClass_of_methodNamed B.named
  have hlocks := B.notSynchronized
  have hl := lv_entry ([.ref (ad 0), .int p1] : List Value) (n := 2) (Nat.le_of_ble_eq_true rfl)
  rw [lg_entry_eq]
  generalize (lg_sl ([.ref (ad 0), .int p1] : List Value) ++ List.replicate (2 - (lg_sl ([.ref (ad 0), .int p1] : List Value)).length) Slot.unset).toArray = ls at hl ⊢
  have hl : lv_has ls 2 [(0, .ref (ad 0)), (1, .int p1)] := hl
  have hD := hD.own
  have hS : va_S (rwA (wC ad tI tL tII tLL cnt w tot rew grp fin gns rst rws last now nxt whl au al mu ml)) s.heap s.heap [] := va_S.rf
  suffices K : ∀ (H : Heap) (locs : List Loc), va_P (dC, dI) vwCl (wC ad tI tL tII tLL cnt w tot rew grp fin gns rst rws last now nxt whl au al mu ml) H → va_D (rwA (wC ad tI tL tII tLL cnt w tot rew grp fin gns rst rws last now nxt whl au al mu ml)) (wC ad tI tL tII tLL cnt w tot rew grp fin gns rst rws last now nxt whl au al mu ml) → va_S (rwA (wC ad tI tL tII tLL cnt w tot rew grp fin gns rst rws last now nxt whl au al mu ml)) s.heap H locs → W p l e (headSpec W_CS_told RM_f_CS_told).room s m ([.ref (ad 0), .int p1] : List Value).toArray below meth c H locs 0 0 (MQ below (rwQ (dC, dI) vwCl (wC ad tI tL tII tLL cnt w tot rew R_grp R_fin gns rst rws last now nxt whl au al mu ml) (some (.int R0)) (rwA (wC ad tI tL tII tLL cnt w tot rew grp fin gns rst rws last now nxt whl au al mu ml))) ([.ref (ad 0), .int p1] : List Value).toArray s 0 0 (rwA (wC ad tI tL tII tLL cnt w tot rew grp fin gns rst rws last now nxt whl au al mu ml))) (F0 m 0 ls []) from K s.heap [] hP hD hS
  clear hP hD hS
  intro H locs hP hD hS
  rw [f_CS_told] at hR
  refine lv_iload_n hx hb dX6_told_0 rfl (lv_at hl 1 rfl) ?_
  by_cases c1 : p1 = 0
  · replace hR := it_p c1 hR
    refine lv_tableIn (tgt := 40) hx hb dX6_told_1 (by rw [c1]; decide) (by rw [c1]; decide) (by rw [c1]; rfl) (by decide) ?_
    refine lv_aload_n hx hb dX6_told_40 rfl (lv_at hl 0 rfl) ?_
    refine va_get (D := (dC, dI)) (ci := 6) (v := .ref (ad 1)) (C := RX6) (T := TX6) (N := 7) hx hb ht hinX6 hown hK hP 0 rfl rfl 0 (by decide) (ht _ k_125) (fun _ h9 => h9) rfl dX6_told_41 ?_
    refine va_getN (D := (dC, dI)) (ci := 0) (v := .int cnt) (C := RX0) (T := TX0) (N := 4) hx hb ht hinX0 hown hK hP 1 rfl rfl 3 (by decide) (va_Nw.use rfl (nf_8 hN)) (fun _ h9 => h9) rfl dX6_told_44 ?_
    cases hR
    exact W.iret hx hb hr (fun t ht _ => ⟨rfl, by rw [ht]; exact hP, hS.F ht⟩) hS.2.2 dX6_told_47
  replace hR := it_n c1 hR
  by_cases c2 : p1 = 1
  · replace hR := it_p c2 hR
    refine lv_tableIn (tgt := 48) hx hb dX6_told_1 (by rw [c2]; decide) (by rw [c2]; decide) (by rw [c2]; rfl) (by decide) ?_
    refine lv_aload_n hx hb dX6_told_48 rfl (lv_at hl 0 rfl) ?_
    refine va_get (D := (dC, dI)) (ci := 6) (v := .ref (ad 1)) (C := RX6) (T := TX6) (N := 7) hx hb ht hinX6 hown hK hP 0 rfl rfl 0 (by decide) (ht _ k_125) (fun _ h9 => h9) rfl dX6_told_49 ?_
    obtain ⟨r3, hC, hR⟩ := ob hR
    try dsimp only at hR
    refine ro_calli (va_runV (As := []) (rest := []) ⟨hx, hb, hml, hown, ht⟩ (c_Chain_countWeights l dC dI ad tI tL tII tLL cnt w tot rew grp fin gns rst rws last now nxt whl au al mu ml  r3 hC.symm) ⟨callB_of 0 ht (goodG k_185) rfl rfl rfl (ht _ k_15) (ht _ k_186) (by decide +kernel) ⟨Nat.le_of_ble_eq_true rfl, Nat.le_of_ble_eq_true rfl⟩, (ht _ k_188), (ht _ k_187)⟩ (pre_v hK hN hP (q0 := 1) (ci := 0) rfl rfl) rfl rfl hl.1 rfl (lv_room (Nat.le_of_ble_eq_true rfl)) dX6_told_52 ⟨Nat.zero_le _, Nat.zero_le _⟩) ?_
    cases hR
    exact W.iret hx hb hr (fun t ht _ => ⟨rfl, by rw [ht]; exact hP, hS.F ht⟩) hS.2.2 dX6_told_55
  replace hR := it_n c2 hR
  by_cases c4 : p1 = 2
  · replace hR := it_p c4 hR
    refine lv_tableIn (tgt := 56) hx hb dX6_told_1 (by rw [c4]; decide) (by rw [c4]; decide) (by rw [c4]; rfl) (by decide) ?_
    refine lv_aload_n hx hb dX6_told_56 rfl (lv_at hl 0 rfl) ?_
    refine va_get (D := (dC, dI)) (ci := 6) (v := .ref (ad 1)) (C := RX6) (T := TX6) (N := 7) hx hb ht hinX6 hown hK hP 0 rfl rfl 0 (by decide) (ht _ k_125) (fun _ h9 => h9) rfl dX6_told_57 ?_
    obtain ⟨r5, hC, hR⟩ := ob hR
    try dsimp only at hR
    refine ro_calli (va_runV (As := []) (rest := []) ⟨hx, hb, hml, hown, ht⟩ (c_Chain_ends l dC dI ad tI tL tII tLL cnt w tot rew grp fin gns rst rws last now nxt whl au al mu ml  r5 hC.symm) ⟨callB_of 0 ht (goodG k_177) rfl rfl rfl (ht _ k_15) (ht _ k_178) (by decide +kernel) ⟨Nat.le_of_ble_eq_true rfl, Nat.le_of_ble_eq_true rfl⟩, (ht _ k_180), (ht _ k_179)⟩ (pre_v hK hN hP (q0 := 1) (ci := 0) rfl rfl) rfl rfl hl.1 rfl (lv_room (Nat.le_of_ble_eq_true rfl)) dX6_told_60 ⟨Nat.zero_le _, Nat.zero_le _⟩) ?_
    obtain ⟨r6, hC, hR⟩ := ob hR
    try dsimp only at hR
    refine ro_calli (va_runS (As := [.int r5]) (rest := []) ⟨hx, hb, hml, hown, ht⟩ (c_bitCount l dC dI ad tI tL tII tLL  r5 r6 hC.symm) ⟨callB_of 1 ht (goodG k_189) rfl rfl rfl (ht _ k_190) (ht _ k_191) (by decide +kernel) ⟨Nat.le_of_ble_eq_true rfl, Nat.le_of_ble_eq_true rfl⟩, (ht _ k_192)⟩ (pre_s hK hN (hP.sub (ws' := []) [] rfl)) rfl rfl hl.1 rfl (lv_room (Nat.le_of_ble_eq_true rfl)) dX6_told_63 ⟨Nat.zero_le _, Nat.zero_le _⟩) ?_
    cases hR
    exact W.iret hx hb hr (fun t ht _ => ⟨rfl, by rw [ht]; exact hP, hS.F ht⟩) hS.2.2 dX6_told_66
  replace hR := it_n c4 hR
  by_cases c7 : p1 = 3
  · replace hR := it_p c7 hR
    refine lv_tableIn (tgt := 67) hx hb dX6_told_1 (by rw [c7]; decide) (by rw [c7]; decide) (by rw [c7]; rfl) (by decide) ?_
    refine lv_aload_n hx hb dX6_told_67 rfl (lv_at hl 0 rfl) ?_
    refine va_get (D := (dC, dI)) (ci := 6) (v := .ref (ad 12)) (C := RX6) (T := TX6) (N := 7) hx hb ht hinX6 hown hK hP 0 rfl rfl 1 (by decide) (ht _ k_111) (fun _ h9 => h9) rfl dX6_told_68 ?_
    refine lv_iconst (v := 0) hx hb dX6_told_71 (by decide) ?_
    obtain ⟨r8, hC, hR⟩ := ob hR
    try dsimp only at hR
    refine ro_calli (va_runV (As := [.int (0 : Int32)]) (rest := []) ⟨hx, hb, hml, hown, ht⟩ (c_Ways_countParts l dC dI ad tI tL tII tLL cnt w tot rew grp fin gns rst rws last now nxt whl au al mu ml (0 : Int32) r8 hC.symm) ⟨callB_of 1 ht (goodG k_193) rfl rfl rfl (ht _ k_33) (ht _ k_194) (by decide +kernel) ⟨Nat.le_of_ble_eq_true rfl, Nat.le_of_ble_eq_true rfl⟩, (ht _ k_196), (ht _ k_195)⟩ (pre_v hK hN hP (q0 := 12) (ci := 5) rfl rfl) rfl rfl hl.1 rfl (lv_room (Nat.le_of_ble_eq_true rfl)) dX6_told_72 ⟨Nat.zero_le _, Nat.zero_le _⟩) ?_
    cases hR
    exact W.iret hx hb hr (fun t ht _ => ⟨rfl, by rw [ht]; exact hP, hS.F ht⟩) hS.2.2 dX6_told_75
  replace hR := it_n c7 hR
  by_cases c9 : p1 = 4
  · replace hR := it_p c9 hR
    refine lv_tableIn (tgt := 76) hx hb dX6_told_1 (by rw [c9]; decide) (by rw [c9]; decide) (by rw [c9]; rfl) (by decide) ?_
    refine lv_aload_n hx hb dX6_told_76 rfl (lv_at hl 0 rfl) ?_
    refine va_get (D := (dC, dI)) (ci := 6) (v := .ref (ad 12)) (C := RX6) (T := TX6) (N := 7) hx hb ht hinX6 hown hK hP 0 rfl rfl 1 (by decide) (ht _ k_111) (fun _ h9 => h9) rfl dX6_told_77 ?_
    refine lv_iconst (v := 1) hx hb dX6_told_80 (by decide) ?_
    obtain ⟨r10, hC, hR⟩ := ob hR
    try dsimp only at hR
    refine ro_calli (va_runV (As := [.int (1 : Int32)]) (rest := []) ⟨hx, hb, hml, hown, ht⟩ (c_Ways_countParts l dC dI ad tI tL tII tLL cnt w tot rew grp fin gns rst rws last now nxt whl au al mu ml (1 : Int32) r10 hC.symm) ⟨callB_of 1 ht (goodG k_193) rfl rfl rfl (ht _ k_33) (ht _ k_194) (by decide +kernel) ⟨Nat.le_of_ble_eq_true rfl, Nat.le_of_ble_eq_true rfl⟩, (ht _ k_196), (ht _ k_195)⟩ (pre_v hK hN hP (q0 := 12) (ci := 5) rfl rfl) rfl rfl hl.1 rfl (lv_room (Nat.le_of_ble_eq_true rfl)) dX6_told_81 ⟨Nat.zero_le _, Nat.zero_le _⟩) ?_
    cases hR
    exact W.iret hx hb hr (fun t ht _ => ⟨rfl, by rw [ht]; exact hP, hS.F ht⟩) hS.2.2 dX6_told_84
  replace hR := it_n c9 hR
  by_cases c11 : p1 = 5
  · replace hR := it_p c11 hR
    refine lv_tableIn (tgt := 85) hx hb dX6_told_1 (by rw [c11]; decide) (by rw [c11]; decide) (by rw [c11]; rfl) (by decide) ?_
    refine lv_aload_n hx hb dX6_told_85 rfl (lv_at hl 0 rfl) ?_
    refine va_get (D := (dC, dI)) (ci := 6) (v := .ref (ad 13)) (C := RX6) (T := TX6) (N := 7) hx hb ht hinX6 hown hK hP 0 rfl rfl 2 (by decide) (ht _ k_140) (fun _ h9 => h9) rfl dX6_told_86 ?_
    obtain ⟨⟨grp_12, fin_13⟩, hC, hR⟩ := ob hR
    try dsimp only at hR
    refine rw_callv (va_runV (As := []) (rest := []) ⟨hx, hb, hml, hown, ht⟩ (c_Likeness_find l dC dI ad tI tL tII tLL cnt w tot rew grp fin gns rst rws last now nxt whl au al mu ml  grp_12 fin_13 hC.symm) ⟨callB_of 0 ht (goodG k_141) rfl rfl rfl (ht _ k_57) (ht _ k_142) (by decide +kernel) ⟨Nat.le_of_ble_eq_true rfl, Nat.le_of_ble_eq_true rfl⟩, (ht _ k_144), (ht _ k_143)⟩ (pre_vw hK hN hP hD (q0 := 13) (ci := 3) rfl rfl) rfl rfl hl.1 rfl (lv_room (Nat.le_of_ble_eq_true rfl)) dX6_told_89 ⟨Nat.zero_le _, Nat.zero_le _⟩) hD hS rfl (fun H locs hP hD hS => ?_)
    have hP : va_P (dC, dI) vwCl (wC ad tI tL tII tLL cnt w tot rew grp_12 fin_13 gns rst rws last now nxt whl au al mu ml) H := hP
    have hD : va_D (rwA (wC ad tI tL tII tLL cnt w tot rew grp fin gns rst rws last now nxt whl au al mu ml)) (wC ad tI tL tII tLL cnt w tot rew grp_12 fin_13 gns rst rws last now nxt whl au al mu ml) := hD
    refine lv_aload_n hx hb dX6_told_92 rfl (lv_at hl 0 rfl) ?_
    refine va_get (D := (dC, dI)) (ci := 6) (v := .ref (ad 13)) (C := RX6) (T := TX6) (N := 7) hx hb ht hinX6 hown hK hP 0 rfl rfl 2 (by decide) (ht _ k_140) (fun _ h9 => h9) rfl dX6_told_93 ?_
    obtain ⟨r14, hC, hR⟩ := ob hR
    try dsimp only at hR
    refine ro_calli (va_runV (As := []) (rest := []) ⟨hx, hb, hml, hown, ht⟩ (c_Likeness_countGroups l dC dI ad tI tL tII tLL cnt w tot rew grp_12 fin_13 gns rst rws last now nxt whl au al mu ml  r14 hC.symm) ⟨callB_of 0 ht (goodG k_197) rfl rfl rfl (ht _ k_57) (ht _ k_198) (by decide +kernel) ⟨Nat.le_of_ble_eq_true rfl, Nat.le_of_ble_eq_true rfl⟩, (ht _ k_200), (ht _ k_199)⟩ (pre_v hK hN hP (q0 := 13) (ci := 3) rfl rfl) rfl rfl hl.1 rfl (lv_room (Nat.le_of_ble_eq_true rfl)) dX6_told_96 ⟨Nat.zero_le _, Nat.zero_le _⟩) ?_
    cases hR
    exact W.iret hx hb hr (fun t ht _ => ⟨rfl, by rw [ht]; exact hP, hS.F ht⟩) hS.2.2 dX6_told_99
  replace hR := it_n c11 hR
  refine lv_tableOut (tgt := 100) hx hb dX6_told_1 (tb_out 0 5 (fun k h1 h2 e => by rcases (show k = 0 ∨ k = 1 ∨ k = 2 ∨ k = 3 ∨ k = 4 ∨ k = 5 by omega) with rfl | rfl | rfl | rfl | rfl | rfl <;> first | exact c1 (Int32.toInt_inj.mp (by rw [e]; rfl)) | exact c2 (Int32.toInt_inj.mp (by rw [e]; rfl)) | exact c4 (Int32.toInt_inj.mp (by rw [e]; rfl)) | exact c7 (Int32.toInt_inj.mp (by rw [e]; rfl)) | exact c9 (Int32.toInt_inj.mp (by rw [e]; rfl)) | exact c11 (Int32.toInt_inj.mp (by rw [e]; rfl)))) (by decide) ?_
  refine lv_bipush (v := (-2)) hx hb dX6_told_100 (by decide) ?_
  cases hR
  exact W.iret hx hb hr (fun t ht _ => ⟨rfl, by rw [ht]; exact hP, hS.F ht⟩) hS.2.2 dX6_told_102
