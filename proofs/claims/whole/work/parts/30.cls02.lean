abbrev RM_f_Likeness_looksLike : Room := { frames := 3, cells := 0, slots := 0, locals := 67 }
abbrev W_Likeness_looksLike : List Cond := .code yX3_looksLike cX3_looksLike 7 (some .boolean) :: tblG
set_option maxHeartbeats 4000000 in
set_option maxRecDepth 100000 in
theorem c_Likeness_looksLike (l : Launch) (dC : Nat → ClassId) (dI : Nat → Nat → Nat) (ad : Nat → Nat) (tI tL tII tLL : ClassId) (cnt : Int32) (w : Nat → Nat → Int32) (tot : Nat → Int32) (rew : Nat → Int32) (grp : Nat → Int32) (fin : Nat → Int32) (gns : Nat → Int64) (rst : Nat → Int32) (rws : Nat → Nat → Int64) (last : Int32) (now : Nat → Int64) (nxt : Nat → Int64) (whl : Int64) (au : Int64) (al : Int64) (mu : Int64) (ml : Int64) (p1 : Int32) (p2 : Int32) (R0 : Int32) (hR : some R0 = f_Likeness_looksLike cnt w tot rew grp p1 p2) : Met l yX3_looksLike W_Likeness_looksLike RM_f_Likeness_looksLike (roP (dC, dI) vwCl [(tI, .int), (tL, .long), (tII, .array .int), (tLL, .array .long)] (wC ad tI tL tII tLL cnt w tot rew grp fin gns rst rws last now nxt whl au al mu ml) ([.ref (ad 13), .int p1, .int p2] : List Value)) (roQ (some (.int R0))) 0 0 (fun _ => False) := by
  refine Met.ofW (cc := cX3_looksLike) (maxL := 7) (ret := (some .boolean)) (by decide) rfl ?_
  intro p e s m args below meth c s₁ B hml hv
  obtain ⟨rfl, hP, hK, hN⟩ := hv
  have hx := B.exec
  have hb := B.bytes
  have hr := B.returns
  have hts := atoms_spec (ws := W_Likeness_looksLike) B.pre
  have ht := fun (w : Cond) (h : w ∈ tblG) => hts w (List.mem_cons_of_mem _ h)
  have hown : s.vm.findClass RX3 = some m.cls := findClass_of_methodNamed B.named
  have hlocks := B.notSynchronized
  have hl := lv_entry ([.ref (ad 13), .int p1, .int p2] : List Value) (n := 7) (Nat.le_of_ble_eq_true rfl)
  rw [lg_entry_eq]
  generalize (lg_sl ([.ref (ad 13), .int p1, .int p2] : List Value) ++ List.replicate (7 - (lg_sl ([.ref (ad 13), .int p1, .int p2] : List Value)).length) Slot.unset).toArray = ls at hl ⊢
  have hl : lv_has ls 7 [(0, .ref (ad 13)), (1, .int p1), (2, .int p2)] := hl
  rw [f_Likeness_looksLike] at hR
  refine lv_aload_n hx hb dX3_looksLike_0 rfl (lv_at hl 0 rfl) ?_
  refine va_get (D := (dC, dI)) (ci := 3) (v := .ref (ad 1)) (C := RX3) (T := TX3) (N := 3) hx hb ht hinX3 hown hK hP 13 rfl rfl 0 (by decide) (ht _ k_53) (fun _ h9 => h9) rfl dX3_looksLike_1 ?_
  refine lv_iload_n hx hb dX3_looksLike_4 rfl (lv_at hl 1 rfl) ?_
  obtain ⟨r1, hC, hR⟩ := ob hR
  try dsimp only at hR
  refine ro_calli (va_runV (As := [.int p1]) (rest := []) ⟨hx, hb, hml, hown, ht⟩ (c_Chain_isEnd l dC dI ad tI tL tII tLL cnt w tot rew grp fin gns rst rws last now nxt whl au al mu ml p1 r1 hC.symm) ⟨callB_of 1 ht (goodG k_14) rfl rfl rfl (ht _ k_15) (ht _ k_55) (by decide +kernel) ⟨Nat.le_of_ble_eq_true rfl, Nat.le_of_ble_eq_true rfl⟩, (ht _ k_18), (ht _ k_17)⟩ (pre_v hK hN hP (q0 := 1) (ci := 0) rfl rfl) rfl rfl hl.1 rfl (lv_room (Nat.le_of_ble_eq_true rfl)) dX3_looksLike_5 ⟨Nat.zero_le _, Nat.zero_le _⟩) ?_
  refine lv_aload_n hx hb dX3_looksLike_8 rfl (lv_at hl 0 rfl) ?_
  refine va_get (D := (dC, dI)) (ci := 3) (v := .ref (ad 1)) (C := RX3) (T := TX3) (N := 3) hx hb ht hinX3 hown hK hP 13 rfl rfl 0 (by decide) (ht _ k_53) (fun _ h9 => h9) rfl dX3_looksLike_9 ?_
  refine lv_iload_n hx hb dX3_looksLike_12 rfl (lv_at hl 2 rfl) ?_
  obtain ⟨r2, hC, hR⟩ := ob hR
  try dsimp only at hR
  refine ro_calli (va_runV (As := [.int p2]) (rest := [.int r1]) ⟨hx, hb, hml, hown, ht⟩ (c_Chain_isEnd l dC dI ad tI tL tII tLL cnt w tot rew grp fin gns rst rws last now nxt whl au al mu ml p2 r2 hC.symm) ⟨callB_of 1 ht (goodG k_14) rfl rfl rfl (ht _ k_15) (ht _ k_55) (by decide +kernel) ⟨Nat.le_of_ble_eq_true rfl, Nat.le_of_ble_eq_true rfl⟩, (ht _ k_18), (ht _ k_17)⟩ (pre_v hK hN hP (q0 := 1) (ci := 0) rfl rfl) rfl rfl hl.1 rfl (lv_room (Nat.le_of_ble_eq_true rfl)) dX3_looksLike_13 ⟨Nat.zero_le _, Nat.zero_le _⟩) ?_
  refine lv_icmp_ne (tgt := 40) hx hb dX3_looksLike_16 (by decide) (fun c3 => ?_) (fun c3 => ?_)
  · replace hR := it_n c3 hR
    refine lv_iconst (v := 0) hx hb dX3_looksLike_40 (by decide) ?_
    cases hR
    exact W.zret hx hb hr rfl (fun t ht _ => ⟨rfl, ht⟩) t_nil dX3_looksLike_41
  · replace hR := it_p c3 hR
    refine lv_aload_n hx hb dX3_looksLike_19 rfl (lv_at hl 0 rfl) ?_
    refine va_get (D := (dC, dI)) (ci := 3) (v := .ref (ad 1)) (C := RX3) (T := TX3) (N := 3) hx hb ht hinX3 hown hK hP 13 rfl rfl 0 (by decide) (ht _ k_53) (fun _ h9 => h9) rfl dX3_looksLike_20 ?_
    refine va_getN (D := (dC, dI)) (ci := 0) (v := .ref (ad 11)) (C := RX0) (T := TX0) (N := 4) hx hb ht hinX0 hown hK hP 1 rfl rfl 2 (by decide) (va_Nw.use rfl (nf_2 hN)) (fun _ h9 => h9) rfl dX3_looksLike_23 ?_
    refine lv_iload_n hx hb dX3_looksLike_26 rfl (lv_at hl 1 rfl) ?_
    obtain ⟨z4, hR⟩ := og hR
    refine va_iald hx hb hK hP 11 0 rfl rfl (ix_in z4) dX3_looksLike_27 ?_
    refine lv_aload_n hx hb dX3_looksLike_28 rfl (lv_at hl 0 rfl) ?_
    refine va_get (D := (dC, dI)) (ci := 3) (v := .ref (ad 1)) (C := RX3) (T := TX3) (N := 3) hx hb ht hinX3 hown hK hP 13 rfl rfl 0 (by decide) (ht _ k_53) (fun _ h9 => h9) rfl dX3_looksLike_29 ?_
    refine va_getN (D := (dC, dI)) (ci := 0) (v := .ref (ad 11)) (C := RX0) (T := TX0) (N := 4) hx hb ht hinX0 hown hK hP 1 rfl rfl 2 (by decide) (va_Nw.use rfl (nf_2 hN)) (fun _ h9 => h9) rfl dX3_looksLike_32 ?_
    refine lv_iload_n hx hb dX3_looksLike_35 rfl (lv_at hl 2 rfl) ?_
    obtain ⟨z5, hR⟩ := og hR
    refine va_iald hx hb hK hP 11 0 rfl rfl (ix_in z5) dX3_looksLike_36 ?_
    refine lv_icmp_eq (tgt := 42) hx hb dX3_looksLike_37 (by decide) (fun c6 => ?_) (fun c6 => ?_)
    · replace hR := it_p c6 hR
      refine lv_iconst (v := 0) hx hb dX3_looksLike_42 (by decide) ?_
      refine lv_istore_n (lv' := [(3, .int (0 : Int32)), (0, .ref (ad 13)), (1, .int p1), (2, .int p2)]) hx hb dX3_looksLike_43 rfl hl (by decide) rfl (fun ls hl => ?_)
      have L44_15 : ∀ (n : Nat) (x3_7 : Int32), ∀ (o : (Int32) ⊕ (Int32)), some o = f_Likeness_looksLike_L44 cnt w tot grp p1 p2 n x3_7 → (∀ r, o = .inr r → r = R0) → (∀ (o_x3_7 : Int32), o = .inl o_x3_7 → ∀ ls : Array Slot, lv_has ls 7 [(0, .ref (ad 13)), (1, .int p1), (2, .int p2), (3, .int o_x3_7)] → W p l e (headSpec W_Likeness_looksLike RM_f_Likeness_looksLike).room s m ([.ref (ad 13), .int p1, .int p2] : List Value).toArray below meth c s.heap [] 0 0 (MQ below (roQ (some (.int R0))) ([.ref (ad 13), .int p1, .int p2] : List Value).toArray s 0 0 (fun _ => False)) (F0 m 119 ls [])) → ∀ ls : Array Slot, lv_has ls 7 [(0, .ref (ad 13)), (1, .int p1), (2, .int p2), (3, .int x3_7)] → W p l e (headSpec W_Likeness_looksLike RM_f_Likeness_looksLike).room s m ([.ref (ad 13), .int p1, .int p2] : List Value).toArray below meth c s.heap [] 0 0 (MQ below (roQ (some (.int R0))) ([.ref (ad 13), .int p1, .int p2] : List Value).toArray s 0 0 (fun _ => False)) (F0 m 44 ls []) := by
        intro n
        induction n with
        | zero =>
          intro x3_7 o hR
          cases (show some _ = none from hR)
        | succ n ih =>
          intro x3_7 o hR her hk ls hl
          rw [f_Likeness_looksLike_L44_s] at hR
          obtain ⟨y, hR, hQ⟩ := ob hR
          replace hR := hR.symm
          rw [f_Likeness_looksLike_B44] at hR
          refine lv_iload_n hx hb dX3_looksLike_44 rfl (lv_at hl 3 rfl) ?_
          refine lv_aload_n hx hb dX3_looksLike_45 rfl (lv_at hl 0 rfl) ?_
          refine va_get (D := (dC, dI)) (ci := 3) (v := .ref (ad 1)) (C := RX3) (T := TX3) (N := 3) hx hb ht hinX3 hown hK hP 13 rfl rfl 0 (by decide) (ht _ k_53) (fun _ h9 => h9) rfl dX3_looksLike_46 ?_
          refine va_getN (D := (dC, dI)) (ci := 0) (v := .int cnt) (C := RX0) (T := TX0) (N := 4) hx hb ht hinX0 hown hK hP 1 rfl rfl 3 (by decide) (va_Nw.use rfl (nf_5 hN)) (fun _ h9 => h9) rfl dX3_looksLike_49 ?_
          refine lv_icmp_ge (tgt := 119) hx hb dX3_looksLike_52 (by decide) (fun c8 => ?_) (fun c8 => ?_)
          · replace hR := it_p c8 hR
            cases hR
            cases (show some _ = some _ from hQ)
            exact hk _ rfl ls (lv_sub hl [0, 1, 2, 3] rfl)
          · replace hR := it_n c8 hR
            refine lv_aload_n hx hb dX3_looksLike_55 rfl (lv_at hl 0 rfl) ?_
            refine lv_iload_n hx hb dX3_looksLike_56 rfl (lv_at hl 3 rfl) ?_
            obtain ⟨r9, hC, hR⟩ := ob hR
            try dsimp only at hR
            refine ro_calli (va_runV (As := [.int x3_7]) (rest := []) ⟨hx, hb, hml, hown, ht⟩ (c_Likeness_membersOf l dC dI ad tI tL tII tLL cnt w tot rew grp fin gns rst rws last now nxt whl au al mu ml x3_7 r9 hC.symm) ⟨callB_of 1 ht (goodG k_56) rfl rfl rfl (ht _ k_57) (ht _ k_58) (by decide +kernel) ⟨Nat.le_of_ble_eq_true rfl, Nat.le_of_ble_eq_true rfl⟩, (ht _ k_60), (ht _ k_59)⟩ (pre_v hK hN hP (q0 := 13) (ci := 3) rfl rfl) rfl rfl hl.1 rfl (lv_room (Nat.le_of_ble_eq_true rfl)) dX3_looksLike_57 ⟨Nat.zero_le _, Nat.zero_le _⟩) ?_
            refine lv_istore (lv' := [(4, .int r9), (0, .ref (ad 13)), (1, .int p1), (2, .int p2), (3, .int x3_7)]) hx hb dX3_looksLike_60 hl (by decide) rfl (fun ls hl => ?_)
            refine lv_aload_n hx hb dX3_looksLike_62 rfl (lv_at hl 1 rfl) ?_
            refine va_get (D := (dC, dI)) (ci := 3) (v := .ref (ad 1)) (C := RX3) (T := TX3) (N := 3) hx hb ht hinX3 hown hK hP 13 rfl rfl 0 (by decide) (ht _ k_53) (fun _ h9 => h9) rfl dX3_looksLike_63 ?_
            refine lv_iload_n hx hb dX3_looksLike_66 rfl (lv_at hl 2 rfl) ?_
            refine lv_iload hx hb dX3_looksLike_67 (lv_at hl 0 rfl) ?_
            obtain ⟨r10, hC, hR⟩ := ob hR
            try dsimp only at hR
            refine ro_calli (va_runV (As := [.int p1, .int r9]) (rest := []) ⟨hx, hb, hml, hown, ht⟩ (c_Chain_pullInto l dC dI ad tI tL tII tLL cnt w tot rew grp fin gns rst rws last now nxt whl au al mu ml p1 r9 r10 hC.symm) ⟨callB_of 2 ht (goodG k_61) rfl rfl rfl (ht _ k_15) (ht _ k_62) (by decide +kernel) ⟨Nat.le_of_ble_eq_true rfl, Nat.le_of_ble_eq_true rfl⟩, (ht _ k_64), (ht _ k_63)⟩ (pre_v hK hN hP (q0 := 1) (ci := 0) rfl rfl) rfl rfl hl.1 rfl (lv_room (Nat.le_of_ble_eq_true rfl)) dX3_looksLike_69 ⟨Nat.zero_le _, Nat.zero_le _⟩) ?_
            refine lv_aload_n hx hb dX3_looksLike_72 rfl (lv_at hl 1 rfl) ?_
            refine va_get (D := (dC, dI)) (ci := 3) (v := .ref (ad 1)) (C := RX3) (T := TX3) (N := 3) hx hb ht hinX3 hown hK hP 13 rfl rfl 0 (by decide) (ht _ k_53) (fun _ h9 => h9) rfl dX3_looksLike_73 ?_
            refine lv_iload_n hx hb dX3_looksLike_76 rfl (lv_at hl 3 rfl) ?_
            obtain ⟨r11, hC, hR⟩ := ob hR
            try dsimp only at hR
            refine ro_calli (va_runV (As := [.int p2]) (rest := [.int r10]) ⟨hx, hb, hml, hown, ht⟩ (c_Chain_pullOfAll l dC dI ad tI tL tII tLL cnt w tot rew grp fin gns rst rws last now nxt whl au al mu ml p2 r11 hC.symm) ⟨callB_of 1 ht (goodG k_65) rfl rfl rfl (ht _ k_15) (ht _ k_66) (by decide +kernel) ⟨Nat.le_of_ble_eq_true rfl, Nat.le_of_ble_eq_true rfl⟩, (ht _ k_68), (ht _ k_67)⟩ (pre_v hK hN hP (q0 := 1) (ci := 0) rfl rfl) rfl rfl hl.1 rfl (lv_room (Nat.le_of_ble_eq_true rfl)) dX3_looksLike_77 ⟨Nat.zero_le _, Nat.zero_le _⟩) ?_
            refine lv_imul hx hb dX3_looksLike_80 ?_
            refine lv_istore (lv' := [(5, .int (r10 * r11)), (4, .int r9), (0, .ref (ad 13)), (1, .int p1), (2, .int p2), (3, .int x3_7)]) hx hb dX3_looksLike_81 hl (by decide) rfl (fun ls hl => ?_)
            refine lv_aload_n hx hb dX3_looksLike_83 rfl (lv_at hl 2 rfl) ?_
            refine va_get (D := (dC, dI)) (ci := 3) (v := .ref (ad 1)) (C := RX3) (T := TX3) (N := 3) hx hb ht hinX3 hown hK hP 13 rfl rfl 0 (by decide) (ht _ k_53) (fun _ h9 => h9) rfl dX3_looksLike_84 ?_
            refine lv_iload_n hx hb dX3_looksLike_87 rfl (lv_at hl 4 rfl) ?_
            refine lv_iload hx hb dX3_looksLike_88 (lv_at hl 1 rfl) ?_
            obtain ⟨r12, hC, hR⟩ := ob hR
            try dsimp only at hR
            refine ro_calli (va_runV (As := [.int p2, .int r9]) (rest := []) ⟨hx, hb, hml, hown, ht⟩ (c_Chain_pullInto l dC dI ad tI tL tII tLL cnt w tot rew grp fin gns rst rws last now nxt whl au al mu ml p2 r9 r12 hC.symm) ⟨callB_of 2 ht (goodG k_61) rfl rfl rfl (ht _ k_15) (ht _ k_62) (by decide +kernel) ⟨Nat.le_of_ble_eq_true rfl, Nat.le_of_ble_eq_true rfl⟩, (ht _ k_64), (ht _ k_63)⟩ (pre_v hK hN hP (q0 := 1) (ci := 0) rfl rfl) rfl rfl hl.1 rfl (lv_room (Nat.le_of_ble_eq_true rfl)) dX3_looksLike_90 ⟨Nat.zero_le _, Nat.zero_le _⟩) ?_
            refine lv_aload_n hx hb dX3_looksLike_93 rfl (lv_at hl 2 rfl) ?_
            refine va_get (D := (dC, dI)) (ci := 3) (v := .ref (ad 1)) (C := RX3) (T := TX3) (N := 3) hx hb ht hinX3 hown hK hP 13 rfl rfl 0 (by decide) (ht _ k_53) (fun _ h9 => h9) rfl dX3_looksLike_94 ?_
            refine lv_iload_n hx hb dX3_looksLike_97 rfl (lv_at hl 3 rfl) ?_
            obtain ⟨r13, hC, hR⟩ := ob hR
            try dsimp only at hR
            refine ro_calli (va_runV (As := [.int p1]) (rest := [.int r12]) ⟨hx, hb, hml, hown, ht⟩ (c_Chain_pullOfAll l dC dI ad tI tL tII tLL cnt w tot rew grp fin gns rst rws last now nxt whl au al mu ml p1 r13 hC.symm) ⟨callB_of 1 ht (goodG k_65) rfl rfl rfl (ht _ k_15) (ht _ k_66) (by decide +kernel) ⟨Nat.le_of_ble_eq_true rfl, Nat.le_of_ble_eq_true rfl⟩, (ht _ k_68), (ht _ k_67)⟩ (pre_v hK hN hP (q0 := 1) (ci := 0) rfl rfl) rfl rfl hl.1 rfl (lv_room (Nat.le_of_ble_eq_true rfl)) dX3_looksLike_98 ⟨Nat.zero_le _, Nat.zero_le _⟩) ?_
            refine lv_imul hx hb dX3_looksLike_101 ?_
            refine lv_istore (lv' := [(6, .int (r12 * r13)), (5, .int (r10 * r11)), (4, .int r9), (0, .ref (ad 13)), (1, .int p1), (2, .int p2), (3, .int x3_7)]) hx hb dX3_looksLike_102 hl (by decide) rfl (fun ls hl => ?_)
            refine lv_iload hx hb dX3_looksLike_104 (lv_at hl 1 rfl) ?_
            refine lv_iload hx hb dX3_looksLike_106 (lv_at hl 0 rfl) ?_
            refine lv_icmp_eq (tgt := 113) hx hb dX3_looksLike_108 (by decide) (fun c14 => ?_) (fun c14 => ?_)
            · replace hR := it_p c14 hR
              refine lv_iinc (v := (x3_7 + 1)) (lv' := [(3, .int (x3_7 + 1)), (6, .int (r12 * r13)), (5, .int (r10 * r11)), (4, .int r9), (0, .ref (ad 13)), (1, .int p1), (2, .int p2)]) hx hb dX3_looksLike_113 hl (k := 6) rfl rfl (by decide) rfl (fun ls hl => ?_)
              refine lv_goto (tgt := 44) hx hb dX3_looksLike_116 (by decide) ?_
              cases hR
              exact ih (x3_7 + 1) o hQ her hk ls (lv_sub hl [4, 5, 6, 0] rfl)
            · replace hR := it_n c14 hR
              refine lv_iconst (v := 0) hx hb dX3_looksLike_111 (by decide) ?_
              cases hR
              cases (show some _ = some _ from hQ)
              have hR := her _ rfl
              cases hR
              exact W.zret hx hb hr rfl (fun t ht _ => ⟨rfl, ht⟩) t_nil dX3_looksLike_112
      obtain ⟨o17, hL, hR⟩ := ob hR
      refine L44_15 300 (0 : Int32) o17 hL.symm (fun r e => by subst e; exact (Option.some.inj hR).symm) (fun u16 e ls hl => ?_) ls (lv_sub hl [1, 2, 3, 0] rfl)
      subst e
      try dsimp only at hR
      refine lv_iconst (v := 1) hx hb dX3_looksLike_119 (by decide) ?_
      cases hR
      exact W.zret hx hb hr rfl (fun t ht _ => ⟨rfl, ht⟩) t_nil dX3_looksLike_120
    · replace hR := it_n c6 hR
      refine lv_iconst (v := 0) hx hb dX3_looksLike_40 (by decide) ?_
      cases hR
      exact W.zret hx hb hr rfl (fun t ht _ => ⟨rfl, ht⟩) t_nil dX3_looksLike_41
abbrev RM_f_Likeness_leastMate : Room := { frames := 4, cells := 0, slots := 0, locals := 93 }
abbrev W_Likeness_leastMate : List Cond := .code yX3_leastMate cX3_leastMate 3 (some .int) :: tblG
set_option maxHeartbeats 4000000 in
set_option maxRecDepth 100000 in
theorem c_Likeness_leastMate (l : Launch) (dC : Nat → ClassId) (dI : Nat → Nat → Nat) (ad : Nat → Nat) (tI tL tII tLL : ClassId) (cnt : Int32) (w : Nat → Nat → Int32) (tot : Nat → Int32) (rew : Nat → Int32) (grp : Nat → Int32) (fin : Nat → Int32) (gns : Nat → Int64) (rst : Nat → Int32) (rws : Nat → Nat → Int64) (last : Int32) (now : Nat → Int64) (nxt : Nat → Int64) (whl : Int64) (au : Int64) (al : Int64) (mu : Int64) (ml : Int64) (p1 : Int32) (R0 : Int32) (hR : some R0 = f_Likeness_leastMate cnt w tot rew grp p1) : Met l yX3_leastMate W_Likeness_leastMate RM_f_Likeness_leastMate (roP (dC, dI) vwCl [(tI, .int), (tL, .long), (tII, .array .int), (tLL, .array .long)] (wC ad tI tL tII tLL cnt w tot rew grp fin gns rst rws last now nxt whl au al mu ml) ([.ref (ad 13), .int p1] : List Value)) (roQ (some (.int R0))) 0 0 (fun _ => False) := by
  refine Met.ofW (cc := cX3_leastMate) (maxL := 3) (ret := (some .int)) (by decide) rfl ?_
  intro p e s m args below meth c s₁ B hml hv
  obtain ⟨rfl, hP, hK, hN⟩ := hv
  have hx := B.exec
  have hb := B.bytes
  have hr := B.returns
  have hts := atoms_spec (ws := W_Likeness_leastMate) B.pre
  have ht := fun (w : Cond) (h : w ∈ tblG) => hts w (List.mem_cons_of_mem _ h)
  have hown : s.vm.findClass RX3 = some m.cls := findClass_of_methodNamed B.named
  have hlocks := B.notSynchronized
  have hl := lv_entry ([.ref (ad 13), .int p1] : List Value) (n := 3) (Nat.le_of_ble_eq_true rfl)
  rw [lg_entry_eq]
  generalize (lg_sl ([.ref (ad 13), .int p1] : List Value) ++ List.replicate (3 - (lg_sl ([.ref (ad 13), .int p1] : List Value)).length) Slot.unset).toArray = ls at hl ⊢
  have hl : lv_has ls 3 [(0, .ref (ad 13)), (1, .int p1)] := hl
  rw [f_Likeness_leastMate] at hR
  refine lv_iconst (v := 0) hx hb dX3_leastMate_0 (by decide) ?_
  refine lv_istore_n (lv' := [(2, .int (0 : Int32)), (0, .ref (ad 13)), (1, .int p1)]) hx hb dX3_leastMate_1 rfl hl (by decide) rfl (fun ls hl => ?_)
  have L2_8 : ∀ (n : Nat) (x2_1 : Int32), ∀ (o : (Int32) ⊕ (Int32)), some o = f_Likeness_leastMate_L2 cnt w tot rew grp p1 n x2_1 → (∀ r, o = .inr r → r = R0) → (∀ (o_x2_1 : Int32), o = .inl o_x2_1 → ∀ ls : Array Slot, lv_has ls 3 [(0, .ref (ad 13)), (1, .int p1), (2, .int o_x2_1)] → W p l e (headSpec W_Likeness_leastMate RM_f_Likeness_leastMate).room s m ([.ref (ad 13), .int p1] : List Value).toArray below meth c s.heap [] 0 0 (MQ below (roQ (some (.int R0))) ([.ref (ad 13), .int p1] : List Value).toArray s 0 0 (fun _ => False)) (F0 m 39 ls [])) → ∀ ls : Array Slot, lv_has ls 3 [(0, .ref (ad 13)), (1, .int p1), (2, .int x2_1)] → W p l e (headSpec W_Likeness_leastMate RM_f_Likeness_leastMate).room s m ([.ref (ad 13), .int p1] : List Value).toArray below meth c s.heap [] 0 0 (MQ below (roQ (some (.int R0))) ([.ref (ad 13), .int p1] : List Value).toArray s 0 0 (fun _ => False)) (F0 m 2 ls []) := by
    intro n
    induction n with
    | zero =>
      intro x2_1 o hR
      cases (show some _ = none from hR)
    | succ n ih =>
      intro x2_1 o hR her hk ls hl
      rw [f_Likeness_leastMate_L2_s] at hR
      obtain ⟨y, hR, hQ⟩ := ob hR
      replace hR := hR.symm
      rw [f_Likeness_leastMate_B2] at hR
      refine lv_iload_n hx hb dX3_leastMate_2 rfl (lv_at hl 2 rfl) ?_
      refine lv_iload_n hx hb dX3_leastMate_3 rfl (lv_at hl 1 rfl) ?_
      refine lv_icmp_ge (tgt := 39) hx hb dX3_leastMate_4 (by decide) (fun c2 => ?_) (fun c2 => ?_)
      · replace hR := it_p c2 hR
        cases hR
        cases (show some _ = some _ from hQ)
        exact hk _ rfl ls (lv_sub hl [0, 1, 2] rfl)
      · replace hR := it_n c2 hR
        refine lv_aload_n hx hb dX3_leastMate_7 rfl (lv_at hl 0 rfl) ?_
        refine va_get (D := (dC, dI)) (ci := 3) (v := .ref (ad 14)) (C := RX3) (T := TX3) (N := 3) hx hb ht hinX3 hown hK hP 13 rfl rfl 1 (by decide) (ht _ k_54) (fun _ h9 => h9) rfl dX3_leastMate_8 ?_
        refine lv_iload_n hx hb dX3_leastMate_11 rfl (lv_at hl 2 rfl) ?_
        obtain ⟨z3, hR⟩ := og hR
        refine va_iald hx hb hK hP 14 0 rfl rfl (ix_in z3) dX3_leastMate_12 ?_
        refine lv_aload_n hx hb dX3_leastMate_13 rfl (lv_at hl 0 rfl) ?_
        refine va_get (D := (dC, dI)) (ci := 3) (v := .ref (ad 14)) (C := RX3) (T := TX3) (N := 3) hx hb ht hinX3 hown hK hP 13 rfl rfl 1 (by decide) (ht _ k_54) (fun _ h9 => h9) rfl dX3_leastMate_14 ?_
        refine lv_iload_n hx hb dX3_leastMate_17 rfl (lv_at hl 1 rfl) ?_
        obtain ⟨z4, hR⟩ := og hR
        refine va_iald hx hb hK hP 14 0 rfl rfl (ix_in z4) dX3_leastMate_18 ?_
        refine lv_icmp_ne (tgt := 33) hx hb dX3_leastMate_19 (by decide) (fun c5 => ?_) (fun c5 => ?_)
        · replace hR := it_n c5 hR
          refine lv_iinc (v := (x2_1 + 1)) (lv' := [(2, .int (x2_1 + 1)), (0, .ref (ad 13)), (1, .int p1)]) hx hb dX3_leastMate_33 hl (k := 2) rfl rfl (by decide) rfl (fun ls hl => ?_)
          refine lv_goto (tgt := 2) hx hb dX3_leastMate_36 (by decide) ?_
          cases hR
          exact ih (x2_1 + 1) o hQ her hk ls (lv_sub hl [1, 2, 0] rfl)
        · replace hR := it_p c5 hR
          refine lv_aload_n hx hb dX3_leastMate_22 rfl (lv_at hl 0 rfl) ?_
          refine lv_iload_n hx hb dX3_leastMate_23 rfl (lv_at hl 2 rfl) ?_
          refine lv_iload_n hx hb dX3_leastMate_24 rfl (lv_at hl 1 rfl) ?_
          obtain ⟨r6, hC, hR⟩ := ob hR
          try dsimp only at hR
          refine ro_calli (va_runV (As := [.int x2_1, .int p1]) (rest := []) ⟨hx, hb, hml, hown, ht⟩ (c_Likeness_looksLike l dC dI ad tI tL tII tLL cnt w tot rew grp fin gns rst rws last now nxt whl au al mu ml x2_1 p1 r6 hC.symm) ⟨callB_of 2 ht (goodG k_69) rfl rfl rfl (ht _ k_57) (ht _ k_70) (by decide +kernel) ⟨Nat.le_of_ble_eq_true rfl, Nat.le_of_ble_eq_true rfl⟩, (ht _ k_72), (ht _ k_71)⟩ (pre_v hK hN hP (q0 := 13) (ci := 3) rfl rfl) rfl rfl hl.1 rfl (lv_room (Nat.le_of_ble_eq_true rfl)) dX3_leastMate_25 ⟨Nat.zero_le _, Nat.zero_le _⟩) ?_
          refine lv_if_eq (tgt := 33) hx hb dX3_leastMate_28 (by decide) (fun c7 => ?_) (fun c7 => ?_)
          · replace hR := it_p c7 hR
            refine lv_iinc (v := (x2_1 + 1)) (lv' := [(2, .int (x2_1 + 1)), (0, .ref (ad 13)), (1, .int p1)]) hx hb dX3_leastMate_33 hl (k := 2) rfl rfl (by decide) rfl (fun ls hl => ?_)
            refine lv_goto (tgt := 2) hx hb dX3_leastMate_36 (by decide) ?_
            cases hR
            exact ih (x2_1 + 1) o hQ her hk ls (lv_sub hl [1, 2, 0] rfl)
          · replace hR := it_n c7 hR
            refine lv_iload_n hx hb dX3_leastMate_31 rfl (lv_at hl 2 rfl) ?_
            cases hR
            cases (show some _ = some _ from hQ)
            have hR := her _ rfl
            cases hR
            exact W.iret hx hb hr (fun t ht _ => ⟨rfl, ht⟩) t_nil dX3_leastMate_32
  obtain ⟨o10, hL, hR⟩ := ob hR
  refine L2_8 300 (0 : Int32) o10 hL.symm (fun r e => by subst e; exact (Option.some.inj hR).symm) (fun u9 e ls hl => ?_) ls (lv_sub hl [1, 2, 0] rfl)
  subst e
  try dsimp only at hR
  refine lv_iload_n hx hb dX3_leastMate_39 rfl (lv_at hl 1 rfl) ?_
  cases hR
  exact W.iret hx hb hr (fun t ht _ => ⟨rfl, ht⟩) t_nil dX3_leastMate_40
abbrev RM_f_Likeness_countGroups : Room := { frames := 0, cells := 0, slots := 0, locals := 0 }
abbrev W_Likeness_countGroups : List Cond := .code yX3_countGroups cX3_countGroups 3 (some .int) :: tblG
set_option maxHeartbeats 4000000 in
set_option maxRecDepth 100000 in
theorem c_Likeness_countGroups (l : Launch) (dC : Nat → ClassId) (dI : Nat → Nat → Nat) (ad : Nat → Nat) (tI tL tII tLL : ClassId) (cnt : Int32) (w : Nat → Nat → Int32) (tot : Nat → Int32) (rew : Nat → Int32) (grp : Nat → Int32) (fin : Nat → Int32) (gns : Nat → Int64) (rst : Nat → Int32) (rws : Nat → Nat → Int64) (last : Int32) (now : Nat → Int64) (nxt : Nat → Int64) (whl : Int64) (au : Int64) (al : Int64) (mu : Int64) (ml : Int64)  (R0 : Int32) (hR : some R0 = f_Likeness_countGroups cnt grp) : Met l yX3_countGroups W_Likeness_countGroups RM_f_Likeness_countGroups (roP (dC, dI) vwCl [(tI, .int), (tL, .long), (tII, .array .int), (tLL, .array .long)] (wC ad tI tL tII tLL cnt w tot rew grp fin gns rst rws last now nxt whl au al mu ml) ([.ref (ad 13)] : List Value)) (roQ (some (.int R0))) 0 0 (fun _ => False) := by
  refine Met.ofW (cc := cX3_countGroups) (maxL := 3) (ret := (some .int)) (by decide) rfl ?_
  intro p e s m args below meth c s₁ B hml hv
  obtain ⟨rfl, hP, hK, hN⟩ := hv
  have hx := B.exec
  have hb := B.bytes
  have hr := B.returns
  have hts := atoms_spec (ws := W_Likeness_countGroups) B.pre
  have ht := fun (w : Cond) (h : w ∈ tblG) => hts w (List.mem_cons_of_mem _ h)
  have hown : s.vm.findClass RX3 = some m.cls := findClass_of_methodNamed B.named
  have hlocks := B.notSynchronized
  have hl := lv_entry ([.ref (ad 13)] : List Value) (n := 3) (Nat.le_of_ble_eq_true rfl)
  rw [lg_entry_eq]
  generalize (lg_sl ([.ref (ad 13)] : List Value) ++ List.replicate (3 - (lg_sl ([.ref (ad 13)] : List Value)).length) Slot.unset).toArray = ls at hl ⊢
  have hl : lv_has ls 3 [(0, .ref (ad 13))] := hl
  rw [f_Likeness_countGroups] at hR
  refine lv_iconst (v := 0) hx hb dX3_countGroups_0 (by decide) ?_
  refine lv_istore_n (lv' := [(1, .int (0 : Int32)), (0, .ref (ad 13))]) hx hb dX3_countGroups_1 rfl hl (by decide) rfl (fun ls hl => ?_)
  refine lv_iconst (v := 0) hx hb dX3_countGroups_2 (by decide) ?_
  refine lv_istore_n (lv' := [(2, .int (0 : Int32)), (1, .int (0 : Int32)), (0, .ref (ad 13))]) hx hb dX3_countGroups_3 rfl hl (by decide) rfl (fun ls hl => ?_)
  have L4_6 : ∀ (n : Nat) (x1_1 : Int32) (x2_2 : Int32), ∀ (o_x1_1 : Int32) (o_x2_2 : Int32), some (o_x1_1, o_x2_2) = f_Likeness_countGroups_L4 cnt grp n x1_1 x2_2 → (∀ ls : Array Slot, lv_has ls 3 [(0, .ref (ad 13)), (1, .int o_x1_1), (2, .int o_x2_2)] → W p l e (headSpec W_Likeness_countGroups RM_f_Likeness_countGroups).room s m ([.ref (ad 13)] : List Value).toArray below meth c s.heap [] 0 0 (MQ below (roQ (some (.int R0))) ([.ref (ad 13)] : List Value).toArray s 0 0 (fun _ => False)) (F0 m 34 ls [])) → ∀ ls : Array Slot, lv_has ls 3 [(0, .ref (ad 13)), (1, .int x1_1), (2, .int x2_2)] → W p l e (headSpec W_Likeness_countGroups RM_f_Likeness_countGroups).room s m ([.ref (ad 13)] : List Value).toArray below meth c s.heap [] 0 0 (MQ below (roQ (some (.int R0))) ([.ref (ad 13)] : List Value).toArray s 0 0 (fun _ => False)) (F0 m 4 ls []) := by
    intro n
    induction n with
    | zero =>
      intro x1_1 x2_2 o_x1_1 o_x2_2 hR
      cases (show some _ = none from hR)
    | succ n ih =>
      intro x1_1 x2_2 o_x1_1 o_x2_2 hR hk ls hl
      rw [f_Likeness_countGroups_L4_s] at hR
      obtain ⟨y, hR, hQ⟩ := ob hR
      replace hR := hR.symm
      rw [f_Likeness_countGroups_B4] at hR
      refine lv_iload_n hx hb dX3_countGroups_4 rfl (lv_at hl 2 rfl) ?_
      refine lv_aload_n hx hb dX3_countGroups_5 rfl (lv_at hl 0 rfl) ?_
      refine va_get (D := (dC, dI)) (ci := 3) (v := .ref (ad 1)) (C := RX3) (T := TX3) (N := 3) hx hb ht hinX3 hown hK hP 13 rfl rfl 0 (by decide) (ht _ k_53) (fun _ h9 => h9) rfl dX3_countGroups_6 ?_
      refine va_getN (D := (dC, dI)) (ci := 0) (v := .int cnt) (C := RX0) (T := TX0) (N := 4) hx hb ht hinX0 hown hK hP 1 rfl rfl 3 (by decide) (va_Nw.use rfl (nf_5 hN)) (fun _ h9 => h9) rfl dX3_countGroups_9 ?_
      refine lv_icmp_ge (tgt := 34) hx hb dX3_countGroups_12 (by decide) (fun c3 => ?_) (fun c3 => ?_)
      · replace hR := it_p c3 hR
        cases hR
        cases (show some _ = some _ from hQ)
        exact hk ls (lv_sub hl [0, 1, 2] rfl)
      · replace hR := it_n c3 hR
        refine lv_aload_n hx hb dX3_countGroups_15 rfl (lv_at hl 0 rfl) ?_
        refine va_get (D := (dC, dI)) (ci := 3) (v := .ref (ad 14)) (C := RX3) (T := TX3) (N := 3) hx hb ht hinX3 hown hK hP 13 rfl rfl 1 (by decide) (ht _ k_54) (fun _ h9 => h9) rfl dX3_countGroups_16 ?_
        refine lv_iload_n hx hb dX3_countGroups_19 rfl (lv_at hl 2 rfl) ?_
        obtain ⟨z4, hR⟩ := og hR
        refine va_iald hx hb hK hP 14 0 rfl rfl (ix_in z4) dX3_countGroups_20 ?_
        refine lv_iload_n hx hb dX3_countGroups_21 rfl (lv_at hl 2 rfl) ?_
        refine lv_icmp_ne (tgt := 28) hx hb dX3_countGroups_22 (by decide) (fun c5 => ?_) (fun c5 => ?_)
        · replace hR := it_n c5 hR
          refine lv_iinc (v := (x2_2 + 1)) (lv' := [(2, .int (x2_2 + 1)), (0, .ref (ad 13)), (1, .int x1_1)]) hx hb dX3_countGroups_28 hl (k := 2) rfl rfl (by decide) rfl (fun ls hl => ?_)
          refine lv_goto (tgt := 4) hx hb dX3_countGroups_31 (by decide) ?_
          cases hR
          exact ih x1_1 (x2_2 + 1) o_x1_1 o_x2_2 hQ hk ls (lv_sub hl [1, 2, 0] rfl)
        · replace hR := it_p c5 hR
          refine lv_iinc (v := (x1_1 + 1)) (lv' := [(1, .int (x1_1 + 1)), (0, .ref (ad 13)), (2, .int x2_2)]) hx hb dX3_countGroups_25 hl (k := 1) rfl rfl (by decide) rfl (fun ls hl => ?_)
          refine lv_iinc (v := (x2_2 + 1)) (lv' := [(2, .int (x2_2 + 1)), (1, .int (x1_1 + 1)), (0, .ref (ad 13))]) hx hb dX3_countGroups_28 hl (k := 2) rfl rfl (by decide) rfl (fun ls hl => ?_)
          refine lv_goto (tgt := 4) hx hb dX3_countGroups_31 (by decide) ?_
          cases hR
          exact ih (x1_1 + 1) (x2_2 + 1) o_x1_1 o_x2_2 hQ hk ls (lv_sub hl [2, 1, 0] rfl)
  obtain ⟨⟨u7, u8⟩, hL, hR⟩ := ob hR
  try dsimp only at hR
  refine L4_6 300 (0 : Int32) (0 : Int32) u7 u8 hL.symm (fun ls hl => ?_) ls (lv_sub hl [2, 1, 0] rfl)
  refine lv_iload_n hx hb dX3_countGroups_34 rfl (lv_at hl 1 rfl) ?_
  cases hR
  exact W.iret hx hb hr (fun t ht _ => ⟨rfl, ht⟩) t_nil dX3_countGroups_35
abbrev RM_f_Likeness_find : Room := { frames := 5, cells := 0, slots := 0, locals := 115 }
abbrev W_Likeness_find : List Cond := .code yX3_find cX3_find 3 none :: tblG
set_option maxHeartbeats 4000000 in
set_option maxRecDepth 100000 in
theorem c_Likeness_find (l : Launch) (dC : Nat → ClassId) (dI : Nat → Nat → Nat) (ad : Nat → Nat) (tI tL tII tLL : ClassId) (cnt : Int32) (w : Nat → Nat → Int32) (tot : Nat → Int32) (rew : Nat → Int32) (grp : Nat → Int32) (fin : Nat → Int32) (gns : Nat → Int64) (rst : Nat → Int32) (rws : Nat → Nat → Int64) (last : Int32) (now : Nat → Int64) (nxt : Nat → Int64) (whl : Int64) (au : Int64) (al : Int64) (mu : Int64) (ml : Int64)  (R_grp : Nat → Int32) (R_fin : Nat → Int32) (hR : some (R_grp, R_fin) = f_Likeness_find cnt w tot rew grp fin) : Met l yX3_find W_Likeness_find RM_f_Likeness_find (rwP (dC, dI) vwCl [(tI, .int), (tL, .long), (tII, .array .int), (tLL, .array .long)] (wC ad tI tL tII tLL cnt w tot rew grp fin gns rst rws last now nxt whl au al mu ml) ([.ref (ad 13)] : List Value)) (rwQ (dC, dI) vwCl (wC ad tI tL tII tLL cnt w tot rew R_grp R_fin gns rst rws last now nxt whl au al mu ml) none (rwA (wC ad tI tL tII tLL cnt w tot rew grp fin gns rst rws last now nxt whl au al mu ml))) 0 0 (rwA (wC ad tI tL tII tLL cnt w tot rew grp fin gns rst rws last now nxt whl au al mu ml)) := by
  refine Met.ofW (cc := cX3_find) (maxL := 3) (ret := none) (by decide) rfl ?_
  intro p e s m args below meth c s₁ B hml hv
  obtain ⟨rfl, hP, hK, hN, hD⟩ := hv
  have hx := B.exec
  have hb := B.bytes
  have hr := B.returns
  have hts := atoms_spec (ws := W_Likeness_find) B.pre
  have ht := fun (w : Cond) (h : w ∈ tblG) => hts w (List.mem_cons_of_mem _ h)
  have hown : s.vm.findClass RX3 = some m.cls := findClass_of_methodNamed B.named
  have hlocks := B.notSynchronized
  have hl := lv_entry ([.ref (ad 13)] : List Value) (n := 3) (Nat.le_of_ble_eq_true rfl)
  rw [lg_entry_eq]
  generalize (lg_sl ([.ref (ad 13)] : List Value) ++ List.replicate (3 - (lg_sl ([.ref (ad 13)] : List Value)).length) Slot.unset).toArray = ls at hl ⊢
  have hl : lv_has ls 3 [(0, .ref (ad 13))] := hl
  have hD := hD.own
  have hS : va_S (rwA (wC ad tI tL tII tLL cnt w tot rew grp fin gns rst rws last now nxt whl au al mu ml)) s.heap s.heap [] := va_S.rf
  suffices K : ∀ (H : Heap) (locs : List Loc), va_P (dC, dI) vwCl (wC ad tI tL tII tLL cnt w tot rew grp fin gns rst rws last now nxt whl au al mu ml) H → va_D (rwA (wC ad tI tL tII tLL cnt w tot rew grp fin gns rst rws last now nxt whl au al mu ml)) (wC ad tI tL tII tLL cnt w tot rew grp fin gns rst rws last now nxt whl au al mu ml) → va_S (rwA (wC ad tI tL tII tLL cnt w tot rew grp fin gns rst rws last now nxt whl au al mu ml)) s.heap H locs → W p l e (headSpec W_Likeness_find RM_f_Likeness_find).room s m ([.ref (ad 13)] : List Value).toArray below meth c H locs 0 0 (MQ below (rwQ (dC, dI) vwCl (wC ad tI tL tII tLL cnt w tot rew R_grp R_fin gns rst rws last now nxt whl au al mu ml) none (rwA (wC ad tI tL tII tLL cnt w tot rew grp fin gns rst rws last now nxt whl au al mu ml))) ([.ref (ad 13)] : List Value).toArray s 0 0 (rwA (wC ad tI tL tII tLL cnt w tot rew grp fin gns rst rws last now nxt whl au al mu ml))) (F0 m 0 ls []) from K s.heap [] hP hD hS
  clear hP hD hS
  intro H locs hP hD hS
  rw [f_Likeness_find] at hR
  refine lv_iconst (v := 0) hx hb dX3_find_0 (by decide) ?_
  refine lv_istore_n (lv' := [(1, .int (0 : Int32)), (0, .ref (ad 13))]) hx hb dX3_find_1 rfl hl (by decide) rfl (fun ls hl => ?_)
  have L2_5 : ∀ (n : Nat) (x1_1 : Int32) (grp_2 : Nat → Int32), ∀ (o_x1_1 : Int32) (o_grp_2 : Nat → Int32), some (o_x1_1, o_grp_2) = f_Likeness_find_L2 cnt n x1_1 grp_2 → (∀ (H : Heap) (locs : List Loc), va_P (dC, dI) vwCl (wC ad tI tL tII tLL cnt w tot rew o_grp_2 fin gns rst rws last now nxt whl au al mu ml) H → va_D (rwA (wC ad tI tL tII tLL cnt w tot rew grp fin gns rst rws last now nxt whl au al mu ml)) (wC ad tI tL tII tLL cnt w tot rew o_grp_2 fin gns rst rws last now nxt whl au al mu ml) → va_S (rwA (wC ad tI tL tII tLL cnt w tot rew grp fin gns rst rws last now nxt whl au al mu ml)) s.heap H locs → ∀ ls : Array Slot, lv_has ls 3 [(0, .ref (ad 13)), (1, .int o_x1_1)] → W p l e (headSpec W_Likeness_find RM_f_Likeness_find).room s m ([.ref (ad 13)] : List Value).toArray below meth c H locs 0 0 (MQ below (rwQ (dC, dI) vwCl (wC ad tI tL tII tLL cnt w tot rew R_grp R_fin gns rst rws last now nxt whl au al mu ml) none (rwA (wC ad tI tL tII tLL cnt w tot rew grp fin gns rst rws last now nxt whl au al mu ml))) ([.ref (ad 13)] : List Value).toArray s 0 0 (rwA (wC ad tI tL tII tLL cnt w tot rew grp fin gns rst rws last now nxt whl au al mu ml))) (F0 m 26 ls [])) → ∀ (H : Heap) (locs : List Loc), va_P (dC, dI) vwCl (wC ad tI tL tII tLL cnt w tot rew grp_2 fin gns rst rws last now nxt whl au al mu ml) H → va_D (rwA (wC ad tI tL tII tLL cnt w tot rew grp fin gns rst rws last now nxt whl au al mu ml)) (wC ad tI tL tII tLL cnt w tot rew grp_2 fin gns rst rws last now nxt whl au al mu ml) → va_S (rwA (wC ad tI tL tII tLL cnt w tot rew grp fin gns rst rws last now nxt whl au al mu ml)) s.heap H locs → ∀ ls : Array Slot, lv_has ls 3 [(0, .ref (ad 13)), (1, .int x1_1)] → W p l e (headSpec W_Likeness_find RM_f_Likeness_find).room s m ([.ref (ad 13)] : List Value).toArray below meth c H locs 0 0 (MQ below (rwQ (dC, dI) vwCl (wC ad tI tL tII tLL cnt w tot rew R_grp R_fin gns rst rws last now nxt whl au al mu ml) none (rwA (wC ad tI tL tII tLL cnt w tot rew grp fin gns rst rws last now nxt whl au al mu ml))) ([.ref (ad 13)] : List Value).toArray s 0 0 (rwA (wC ad tI tL tII tLL cnt w tot rew grp fin gns rst rws last now nxt whl au al mu ml))) (F0 m 2 ls []) := by
    intro n
    induction n with
    | zero =>
      intro x1_1 grp_2 o_x1_1 o_grp_2 hR
      cases (show some _ = none from hR)
    | succ n ih =>
      intro x1_1 grp_2 o_x1_1 o_grp_2 hR hk H locs hP hD hS ls hl
      rw [f_Likeness_find_L2_s] at hR
      obtain ⟨y, hR, hQ⟩ := ob hR
      replace hR := hR.symm
      rw [f_Likeness_find_B2] at hR
      refine lv_iload_n hx hb dX3_find_2 rfl (lv_at hl 1 rfl) ?_
      refine lv_aload_n hx hb dX3_find_3 rfl (lv_at hl 0 rfl) ?_
      refine va_get (D := (dC, dI)) (ci := 3) (v := .ref (ad 1)) (C := RX3) (T := TX3) (N := 3) hx hb ht hinX3 hown hK hP 13 rfl rfl 0 (by decide) (ht _ k_53) (fun _ h9 => h9) rfl dX3_find_4 ?_
      refine va_getN (D := (dC, dI)) (ci := 0) (v := .int cnt) (C := RX0) (T := TX0) (N := 4) hx hb ht hinX0 hown hK hP 1 rfl rfl 3 (by decide) (va_Nw.use rfl (nf_5 hN)) (fun _ h9 => h9) rfl dX3_find_7 ?_
      refine lv_icmp_ge (tgt := 26) hx hb dX3_find_10 (by decide) (fun c3 => ?_) (fun c3 => ?_)
      · replace hR := it_p c3 hR
        cases hR
        cases (show some _ = some _ from hQ)
        exact hk H locs hP hD hS ls (lv_sub hl [0, 1] rfl)
      · replace hR := it_n c3 hR
        refine lv_aload_n hx hb dX3_find_13 rfl (lv_at hl 0 rfl) ?_
        refine va_get (D := (dC, dI)) (ci := 3) (v := .ref (ad 14)) (C := RX3) (T := TX3) (N := 3) hx hb ht hinX3 hown hK hP 13 rfl rfl 1 (by decide) (ht _ k_54) (fun _ h9 => h9) rfl dX3_find_14 ?_
        refine lv_iload_n hx hb dX3_find_17 rfl (lv_at hl 1 rfl) ?_
        refine lv_iconst (v := 0) hx hb dX3_find_18 (by decide) ?_
        obtain ⟨z4, hR⟩ := og hR
        refine va_iast hx hb hK hP hD hS 14 0 rfl rfl (ix_in z4) dX3_find_19 (fun H locs hP hD hS => ?_)
        have hP : va_P (dC, dI) vwCl (wC ad tI tL tII tLL cnt w tot rew (upd grp_2 x1_1.toNatClampNeg (0 : Int32)) fin gns rst rws last now nxt whl au al mu ml) H := hP
        have hD : va_D (rwA (wC ad tI tL tII tLL cnt w tot rew grp fin gns rst rws last now nxt whl au al mu ml)) (wC ad tI tL tII tLL cnt w tot rew (upd grp_2 x1_1.toNatClampNeg (0 : Int32)) fin gns rst rws last now nxt whl au al mu ml) := hD
        refine lv_iinc (v := (x1_1 + 1)) (lv' := [(1, .int (x1_1 + 1)), (0, .ref (ad 13))]) hx hb dX3_find_20 hl (k := 1) rfl rfl (by decide) rfl (fun ls hl => ?_)
        refine lv_goto (tgt := 2) hx hb dX3_find_23 (by decide) ?_
        cases hR
        exact ih (x1_1 + 1) (upd grp_2 x1_1.toNatClampNeg (0 : Int32)) o_x1_1 o_grp_2 hQ hk H locs hP hD hS ls (lv_sub hl [1, 0] rfl)
  obtain ⟨⟨u6, u7⟩, hL, hR⟩ := ob hR
  try dsimp only at hR
  refine L2_5 300 (0 : Int32) grp u6 u7 hL.symm (fun H locs hP hD hS ls hl => ?_) H locs hP hD hS ls (lv_sub hl [1, 0] rfl)
  refine lv_iconst (v := 0) hx hb dX3_find_26 (by decide) ?_
  refine lv_istore_n (lv' := [(1, .int (0 : Int32)), (0, .ref (ad 13))]) hx hb dX3_find_27 rfl hl (by decide) rfl (fun ls hl => ?_)
  have L28_28 : ∀ (n : Nat) (x1_8 : Int32) (grp_9 : Nat → Int32) (fin_10 : Nat → Int32), ∀ (o_x1_8 : Int32) (o_grp_9 : Nat → Int32) (o_fin_10 : Nat → Int32), some (o_x1_8, o_grp_9, o_fin_10) = f_Likeness_find_L28 cnt w tot rew n x1_8 grp_9 fin_10 → (∀ (H : Heap) (locs : List Loc), va_P (dC, dI) vwCl (wC ad tI tL tII tLL cnt w tot rew o_grp_9 o_fin_10 gns rst rws last now nxt whl au al mu ml) H → va_D (rwA (wC ad tI tL tII tLL cnt w tot rew grp fin gns rst rws last now nxt whl au al mu ml)) (wC ad tI tL tII tLL cnt w tot rew o_grp_9 o_fin_10 gns rst rws last now nxt whl au al mu ml) → va_S (rwA (wC ad tI tL tII tLL cnt w tot rew grp fin gns rst rws last now nxt whl au al mu ml)) s.heap H locs → ∀ ls : Array Slot, lv_has ls 3 [(0, .ref (ad 13)), (1, .int o_x1_8)] → W p l e (headSpec W_Likeness_find RM_f_Likeness_find).room s m ([.ref (ad 13)] : List Value).toArray below meth c H locs 0 0 (MQ below (rwQ (dC, dI) vwCl (wC ad tI tL tII tLL cnt w tot rew R_grp R_fin gns rst rws last now nxt whl au al mu ml) none (rwA (wC ad tI tL tII tLL cnt w tot rew grp fin gns rst rws last now nxt whl au al mu ml))) ([.ref (ad 13)] : List Value).toArray s 0 0 (rwA (wC ad tI tL tII tLL cnt w tot rew grp fin gns rst rws last now nxt whl au al mu ml))) (F0 m 106 ls [])) → ∀ (H : Heap) (locs : List Loc), va_P (dC, dI) vwCl (wC ad tI tL tII tLL cnt w tot rew grp_9 fin_10 gns rst rws last now nxt whl au al mu ml) H → va_D (rwA (wC ad tI tL tII tLL cnt w tot rew grp fin gns rst rws last now nxt whl au al mu ml)) (wC ad tI tL tII tLL cnt w tot rew grp_9 fin_10 gns rst rws last now nxt whl au al mu ml) → va_S (rwA (wC ad tI tL tII tLL cnt w tot rew grp fin gns rst rws last now nxt whl au al mu ml)) s.heap H locs → ∀ ls : Array Slot, lv_has ls 3 [(0, .ref (ad 13)), (1, .int x1_8)] → W p l e (headSpec W_Likeness_find RM_f_Likeness_find).room s m ([.ref (ad 13)] : List Value).toArray below meth c H locs 0 0 (MQ below (rwQ (dC, dI) vwCl (wC ad tI tL tII tLL cnt w tot rew R_grp R_fin gns rst rws last now nxt whl au al mu ml) none (rwA (wC ad tI tL tII tLL cnt w tot rew grp fin gns rst rws last now nxt whl au al mu ml))) ([.ref (ad 13)] : List Value).toArray s 0 0 (rwA (wC ad tI tL tII tLL cnt w tot rew grp fin gns rst rws last now nxt whl au al mu ml))) (F0 m 28 ls []) := by
    intro n
    induction n with
    | zero =>
      intro x1_8 grp_9 fin_10 o_x1_8 o_grp_9 o_fin_10 hR
      cases (show some _ = none from hR)
    | succ n ih =>
      intro x1_8 grp_9 fin_10 o_x1_8 o_grp_9 o_fin_10 hR hk H locs hP hD hS ls hl
      rw [f_Likeness_find_L28_s] at hR
      obtain ⟨y, hR, hQ⟩ := ob hR
      replace hR := hR.symm
      rw [f_Likeness_find_B28] at hR
      refine lv_iload_n hx hb dX3_find_28 rfl (lv_at hl 1 rfl) ?_
      refine lv_aload_n hx hb dX3_find_29 rfl (lv_at hl 0 rfl) ?_
      refine va_get (D := (dC, dI)) (ci := 3) (v := .ref (ad 1)) (C := RX3) (T := TX3) (N := 3) hx hb ht hinX3 hown hK hP 13 rfl rfl 0 (by decide) (ht _ k_53) (fun _ h9 => h9) rfl dX3_find_30 ?_
      refine va_getN (D := (dC, dI)) (ci := 0) (v := .int cnt) (C := RX0) (T := TX0) (N := 4) hx hb ht hinX0 hown hK hP 1 rfl rfl 3 (by decide) (va_Nw.use rfl (nf_5 hN)) (fun _ h9 => h9) rfl dX3_find_33 ?_
      refine lv_icmp_gt (tgt := 106) hx hb dX3_find_36 (by decide) (fun c11 => ?_) (fun c11 => ?_)
      · replace hR := it_p c11 hR
        cases hR
        cases (show some _ = some _ from hQ)
        exact hk H locs hP hD hS ls (lv_sub hl [0, 1] rfl)
      · replace hR := it_n c11 hR
        refine lv_iconst (v := 0) hx hb dX3_find_39 (by decide) ?_
        refine lv_istore_n (lv' := [(2, .int (0 : Int32)), (0, .ref (ad 13)), (1, .int x1_8)]) hx hb dX3_find_40 rfl hl (by decide) rfl (fun ls hl => ?_)
        have L41_17 : ∀ (n : Nat) (x2_12 : Int32) (fin_13 : Nat → Int32), ∀ (o_x2_12 : Int32) (o_fin_13 : Nat → Int32), some (o_x2_12, o_fin_13) = f_Likeness_find_L41 cnt w tot rew grp_9 n x2_12 fin_13 → (∀ (H : Heap) (locs : List Loc), va_P (dC, dI) vwCl (wC ad tI tL tII tLL cnt w tot rew grp_9 o_fin_13 gns rst rws last now nxt whl au al mu ml) H → va_D (rwA (wC ad tI tL tII tLL cnt w tot rew grp fin gns rst rws last now nxt whl au al mu ml)) (wC ad tI tL tII tLL cnt w tot rew grp_9 o_fin_13 gns rst rws last now nxt whl au al mu ml) → va_S (rwA (wC ad tI tL tII tLL cnt w tot rew grp fin gns rst rws last now nxt whl au al mu ml)) s.heap H locs → ∀ ls : Array Slot, lv_has ls 3 [(0, .ref (ad 13)), (1, .int x1_8), (2, .int o_x2_12)] → W p l e (headSpec W_Likeness_find RM_f_Likeness_find).room s m ([.ref (ad 13)] : List Value).toArray below meth c H locs 0 0 (MQ below (rwQ (dC, dI) vwCl (wC ad tI tL tII tLL cnt w tot rew R_grp R_fin gns rst rws last now nxt whl au al mu ml) none (rwA (wC ad tI tL tII tLL cnt w tot rew grp fin gns rst rws last now nxt whl au al mu ml))) ([.ref (ad 13)] : List Value).toArray s 0 0 (rwA (wC ad tI tL tII tLL cnt w tot rew grp fin gns rst rws last now nxt whl au al mu ml))) (F0 m 69 ls [])) → ∀ (H : Heap) (locs : List Loc), va_P (dC, dI) vwCl (wC ad tI tL tII tLL cnt w tot rew grp_9 fin_13 gns rst rws last now nxt whl au al mu ml) H → va_D (rwA (wC ad tI tL tII tLL cnt w tot rew grp fin gns rst rws last now nxt whl au al mu ml)) (wC ad tI tL tII tLL cnt w tot rew grp_9 fin_13 gns rst rws last now nxt whl au al mu ml) → va_S (rwA (wC ad tI tL tII tLL cnt w tot rew grp fin gns rst rws last now nxt whl au al mu ml)) s.heap H locs → ∀ ls : Array Slot, lv_has ls 3 [(0, .ref (ad 13)), (1, .int x1_8), (2, .int x2_12)] → W p l e (headSpec W_Likeness_find RM_f_Likeness_find).room s m ([.ref (ad 13)] : List Value).toArray below meth c H locs 0 0 (MQ below (rwQ (dC, dI) vwCl (wC ad tI tL tII tLL cnt w tot rew R_grp R_fin gns rst rws last now nxt whl au al mu ml) none (rwA (wC ad tI tL tII tLL cnt w tot rew grp fin gns rst rws last now nxt whl au al mu ml))) ([.ref (ad 13)] : List Value).toArray s 0 0 (rwA (wC ad tI tL tII tLL cnt w tot rew grp fin gns rst rws last now nxt whl au al mu ml))) (F0 m 41 ls []) := by
          intro n
          induction n with
          | zero =>
            intro x2_12 fin_13 o_x2_12 o_fin_13 hR
            cases (show some _ = none from hR)
          | succ n ih =>
            intro x2_12 fin_13 o_x2_12 o_fin_13 hR hk H locs hP hD hS ls hl
            rw [f_Likeness_find_L41_s] at hR
            obtain ⟨y, hR, hQ⟩ := ob hR
            replace hR := hR.symm
            rw [f_Likeness_find_B41] at hR
            refine lv_iload_n hx hb dX3_find_41 rfl (lv_at hl 2 rfl) ?_
            refine lv_aload_n hx hb dX3_find_42 rfl (lv_at hl 0 rfl) ?_
            refine va_get (D := (dC, dI)) (ci := 3) (v := .ref (ad 1)) (C := RX3) (T := TX3) (N := 3) hx hb ht hinX3 hown hK hP 13 rfl rfl 0 (by decide) (ht _ k_53) (fun _ h9 => h9) rfl dX3_find_43 ?_
            refine va_getN (D := (dC, dI)) (ci := 0) (v := .int cnt) (C := RX0) (T := TX0) (N := 4) hx hb ht hinX0 hown hK hP 1 rfl rfl 3 (by decide) (va_Nw.use rfl (nf_5 hN)) (fun _ h9 => h9) rfl dX3_find_46 ?_
            refine lv_icmp_ge (tgt := 69) hx hb dX3_find_49 (by decide) (fun c14 => ?_) (fun c14 => ?_)
            · replace hR := it_p c14 hR
              cases hR
              cases (show some _ = some _ from hQ)
              exact hk H locs hP hD hS ls (lv_sub hl [0, 1, 2] rfl)
            · replace hR := it_n c14 hR
              refine lv_aload_n hx hb dX3_find_52 rfl (lv_at hl 0 rfl) ?_
              refine va_get (D := (dC, dI)) (ci := 3) (v := .ref (ad 15)) (C := RX3) (T := TX3) (N := 3) hx hb ht hinX3 hown hK hP 13 rfl rfl 2 (by decide) (ht _ k_73) (fun _ h9 => h9) rfl dX3_find_53 ?_
              refine lv_iload_n hx hb dX3_find_56 rfl (lv_at hl 2 rfl) ?_
              refine lv_aload_n hx hb dX3_find_57 rfl (lv_at hl 0 rfl) ?_
              refine lv_iload_n hx hb dX3_find_58 rfl (lv_at hl 2 rfl) ?_
              obtain ⟨r15, hC, hR⟩ := ob hR
              try dsimp only at hR
              refine ro_calli (va_runV (As := [.int x2_12]) (rest := [.int x2_12, .ref (ad 15)]) ⟨hx, hb, hml, hown, ht⟩ (c_Likeness_leastMate l dC dI ad tI tL tII tLL cnt w tot rew grp_9 fin_13 gns rst rws last now nxt whl au al mu ml x2_12 r15 hC.symm) ⟨callB_of 1 ht (goodG k_74) rfl rfl rfl (ht _ k_57) (ht _ k_75) (by decide +kernel) ⟨Nat.le_of_ble_eq_true rfl, Nat.le_of_ble_eq_true rfl⟩, (ht _ k_77), (ht _ k_76)⟩ (pre_v hK hN hP (q0 := 13) (ci := 3) rfl rfl) rfl rfl hl.1 rfl (lv_room (Nat.le_of_ble_eq_true rfl)) dX3_find_59 ⟨Nat.zero_le _, Nat.zero_le _⟩) ?_
              obtain ⟨z16, hR⟩ := og hR
              refine va_iast hx hb hK hP hD hS 15 0 rfl rfl (ix_in z16) dX3_find_62 (fun H locs hP hD hS => ?_)
              have hP : va_P (dC, dI) vwCl (wC ad tI tL tII tLL cnt w tot rew grp_9 (upd fin_13 x2_12.toNatClampNeg r15) gns rst rws last now nxt whl au al mu ml) H := hP
              have hD : va_D (rwA (wC ad tI tL tII tLL cnt w tot rew grp fin gns rst rws last now nxt whl au al mu ml)) (wC ad tI tL tII tLL cnt w tot rew grp_9 (upd fin_13 x2_12.toNatClampNeg r15) gns rst rws last now nxt whl au al mu ml) := hD
              refine lv_iinc (v := (x2_12 + 1)) (lv' := [(2, .int (x2_12 + 1)), (0, .ref (ad 13)), (1, .int x1_8)]) hx hb dX3_find_63 hl (k := 2) rfl rfl (by decide) rfl (fun ls hl => ?_)
              refine lv_goto (tgt := 41) hx hb dX3_find_66 (by decide) ?_
              cases hR
              exact ih (x2_12 + 1) (upd fin_13 x2_12.toNatClampNeg r15) o_x2_12 o_fin_13 hQ hk H locs hP hD hS ls (lv_sub hl [1, 2, 0] rfl)
        obtain ⟨⟨u18, u19⟩, hL, hR⟩ := ob hR
        try dsimp only at hR
        refine L41_17 300 (0 : Int32) fin_10 u18 u19 hL.symm (fun H locs hP hD hS ls hl => ?_) H locs hP hD hS ls (lv_sub hl [1, 2, 0] rfl)
        refine lv_iconst (v := 0) hx hb dX3_find_69 (by decide) ?_
        refine lv_istore_n (lv' := [(2, .int (0 : Int32)), (0, .ref (ad 13)), (1, .int x1_8)]) hx hb dX3_find_70 rfl hl (by decide) rfl (fun ls hl => ?_)
        have L71_25 : ∀ (n : Nat) (x2_20 : Int32) (grp_21 : Nat → Int32), ∀ (o_x2_20 : Int32) (o_grp_21 : Nat → Int32), some (o_x2_20, o_grp_21) = f_Likeness_find_L71 cnt u19 n x2_20 grp_21 → (∀ (H : Heap) (locs : List Loc), va_P (dC, dI) vwCl (wC ad tI tL tII tLL cnt w tot rew o_grp_21 u19 gns rst rws last now nxt whl au al mu ml) H → va_D (rwA (wC ad tI tL tII tLL cnt w tot rew grp fin gns rst rws last now nxt whl au al mu ml)) (wC ad tI tL tII tLL cnt w tot rew o_grp_21 u19 gns rst rws last now nxt whl au al mu ml) → va_S (rwA (wC ad tI tL tII tLL cnt w tot rew grp fin gns rst rws last now nxt whl au al mu ml)) s.heap H locs → ∀ ls : Array Slot, lv_has ls 3 [(0, .ref (ad 13)), (1, .int x1_8), (2, .int o_x2_20)] → W p l e (headSpec W_Likeness_find RM_f_Likeness_find).room s m ([.ref (ad 13)] : List Value).toArray below meth c H locs 0 0 (MQ below (rwQ (dC, dI) vwCl (wC ad tI tL tII tLL cnt w tot rew R_grp R_fin gns rst rws last now nxt whl au al mu ml) none (rwA (wC ad tI tL tII tLL cnt w tot rew grp fin gns rst rws last now nxt whl au al mu ml))) ([.ref (ad 13)] : List Value).toArray s 0 0 (rwA (wC ad tI tL tII tLL cnt w tot rew grp fin gns rst rws last now nxt whl au al mu ml))) (F0 m 100 ls [])) → ∀ (H : Heap) (locs : List Loc), va_P (dC, dI) vwCl (wC ad tI tL tII tLL cnt w tot rew grp_21 u19 gns rst rws last now nxt whl au al mu ml) H → va_D (rwA (wC ad tI tL tII tLL cnt w tot rew grp fin gns rst rws last now nxt whl au al mu ml)) (wC ad tI tL tII tLL cnt w tot rew grp_21 u19 gns rst rws last now nxt whl au al mu ml) → va_S (rwA (wC ad tI tL tII tLL cnt w tot rew grp fin gns rst rws last now nxt whl au al mu ml)) s.heap H locs → ∀ ls : Array Slot, lv_has ls 3 [(0, .ref (ad 13)), (1, .int x1_8), (2, .int x2_20)] → W p l e (headSpec W_Likeness_find RM_f_Likeness_find).room s m ([.ref (ad 13)] : List Value).toArray below meth c H locs 0 0 (MQ below (rwQ (dC, dI) vwCl (wC ad tI tL tII tLL cnt w tot rew R_grp R_fin gns rst rws last now nxt whl au al mu ml) none (rwA (wC ad tI tL tII tLL cnt w tot rew grp fin gns rst rws last now nxt whl au al mu ml))) ([.ref (ad 13)] : List Value).toArray s 0 0 (rwA (wC ad tI tL tII tLL cnt w tot rew grp fin gns rst rws last now nxt whl au al mu ml))) (F0 m 71 ls []) := by
          intro n
          induction n with
          | zero =>
            intro x2_20 grp_21 o_x2_20 o_grp_21 hR
            cases (show some _ = none from hR)
          | succ n ih =>
            intro x2_20 grp_21 o_x2_20 o_grp_21 hR hk H locs hP hD hS ls hl
            rw [f_Likeness_find_L71_s] at hR
            obtain ⟨y, hR, hQ⟩ := ob hR
            replace hR := hR.symm
            rw [f_Likeness_find_B71] at hR
            refine lv_iload_n hx hb dX3_find_71 rfl (lv_at hl 2 rfl) ?_
            refine lv_aload_n hx hb dX3_find_72 rfl (lv_at hl 0 rfl) ?_
            refine va_get (D := (dC, dI)) (ci := 3) (v := .ref (ad 1)) (C := RX3) (T := TX3) (N := 3) hx hb ht hinX3 hown hK hP 13 rfl rfl 0 (by decide) (ht _ k_53) (fun _ h9 => h9) rfl dX3_find_73 ?_
            refine va_getN (D := (dC, dI)) (ci := 0) (v := .int cnt) (C := RX0) (T := TX0) (N := 4) hx hb ht hinX0 hown hK hP 1 rfl rfl 3 (by decide) (va_Nw.use rfl (nf_5 hN)) (fun _ h9 => h9) rfl dX3_find_76 ?_
            refine lv_icmp_ge (tgt := 100) hx hb dX3_find_79 (by decide) (fun c22 => ?_) (fun c22 => ?_)
            · replace hR := it_p c22 hR
              cases hR
              cases (show some _ = some _ from hQ)
              exact hk H locs hP hD hS ls (lv_sub hl [0, 1, 2] rfl)
            · replace hR := it_n c22 hR
              refine lv_aload_n hx hb dX3_find_82 rfl (lv_at hl 0 rfl) ?_
              refine va_get (D := (dC, dI)) (ci := 3) (v := .ref (ad 14)) (C := RX3) (T := TX3) (N := 3) hx hb ht hinX3 hown hK hP 13 rfl rfl 1 (by decide) (ht _ k_54) (fun _ h9 => h9) rfl dX3_find_83 ?_
              refine lv_iload_n hx hb dX3_find_86 rfl (lv_at hl 2 rfl) ?_
              refine lv_aload_n hx hb dX3_find_87 rfl (lv_at hl 0 rfl) ?_
              refine va_get (D := (dC, dI)) (ci := 3) (v := .ref (ad 15)) (C := RX3) (T := TX3) (N := 3) hx hb ht hinX3 hown hK hP 13 rfl rfl 2 (by decide) (ht _ k_73) (fun _ h9 => h9) rfl dX3_find_88 ?_
              refine lv_iload_n hx hb dX3_find_91 rfl (lv_at hl 2 rfl) ?_
              obtain ⟨z23, hR⟩ := og hR
              refine va_iald hx hb hK hP 15 0 rfl rfl (ix_in z23) dX3_find_92 ?_
              obtain ⟨z24, hR⟩ := og hR
              refine va_iast hx hb hK hP hD hS 14 0 rfl rfl (ix_in z24) dX3_find_93 (fun H locs hP hD hS => ?_)
              have hP : va_P (dC, dI) vwCl (wC ad tI tL tII tLL cnt w tot rew (upd grp_21 x2_20.toNatClampNeg (u19 x2_20.toNatClampNeg)) u19 gns rst rws last now nxt whl au al mu ml) H := hP
              have hD : va_D (rwA (wC ad tI tL tII tLL cnt w tot rew grp fin gns rst rws last now nxt whl au al mu ml)) (wC ad tI tL tII tLL cnt w tot rew (upd grp_21 x2_20.toNatClampNeg (u19 x2_20.toNatClampNeg)) u19 gns rst rws last now nxt whl au al mu ml) := hD
              refine lv_iinc (v := (x2_20 + 1)) (lv' := [(2, .int (x2_20 + 1)), (0, .ref (ad 13)), (1, .int x1_8)]) hx hb dX3_find_94 hl (k := 2) rfl rfl (by decide) rfl (fun ls hl => ?_)
              refine lv_goto (tgt := 71) hx hb dX3_find_97 (by decide) ?_
              cases hR
              exact ih (x2_20 + 1) (upd grp_21 x2_20.toNatClampNeg (u19 x2_20.toNatClampNeg)) o_x2_20 o_grp_21 hQ hk H locs hP hD hS ls (lv_sub hl [1, 2, 0] rfl)
        obtain ⟨⟨u26, u27⟩, hL, hR⟩ := ob hR
        try dsimp only at hR
        refine L71_25 300 (0 : Int32) grp_9 u26 u27 hL.symm (fun H locs hP hD hS ls hl => ?_) H locs hP hD hS ls (lv_sub hl [1, 2, 0] rfl)
        refine lv_iinc (v := (x1_8 + 1)) (lv' := [(1, .int (x1_8 + 1)), (0, .ref (ad 13)), (2, .int u26)]) hx hb dX3_find_100 hl (k := 1) rfl rfl (by decide) rfl (fun ls hl => ?_)
        refine lv_goto (tgt := 28) hx hb dX3_find_103 (by decide) ?_
        cases hR
        exact ih (x1_8 + 1) u27 u19 o_x1_8 o_grp_9 o_fin_10 hQ hk H locs hP hD hS ls (lv_sub hl [1, 0] rfl)
  obtain ⟨⟨u29, u30, u31⟩, hL, hR⟩ := ob hR
  try dsimp only at hR
  refine L28_28 300 (0 : Int32) u7 fin u29 u30 u31 hL.symm (fun H locs hP hD hS ls hl => ?_) H locs hP hD hS ls (lv_sub hl [1, 0] rfl)
  cases hR
  exact W.vret hx hb hr (fun t ht _ => ⟨rfl, by rw [ht]; exact hP, hS.F ht⟩) hS.2.2 dX3_find_106
abbrev RM_f_FirstSteps_gainByEntering : Room := { frames := 3, cells := 0, slots := 0, locals := 67 }
abbrev W_FirstSteps_gainByEntering : List Cond := .code yX1_gainByEntering cX1_gainByEntering 3 none :: tblG
set_option maxHeartbeats 4000000 in
set_option maxRecDepth 100000 in
theorem c_FirstSteps_gainByEntering (l : Launch) (dC : Nat → ClassId) (dI : Nat → Nat → Nat) (ad : Nat → Nat) (tI tL tII tLL : ClassId) (cnt : Int32) (w : Nat → Nat → Int32) (tot : Nat → Int32) (rew : Nat → Int32) (grp : Nat → Int32) (fin : Nat → Int32) (gns : Nat → Int64) (rst : Nat → Int32) (rws : Nat → Nat → Int64) (last : Int32) (now : Nat → Int64) (nxt : Nat → Int64) (whl : Int64) (au : Int64) (al : Int64) (mu : Int64) (ml : Int64) (p1 : Int32) (R_gns : Nat → Int64) (hR : some R_gns = f_FirstSteps_gainByEntering cnt w tot gns p1) : Met l yX1_gainByEntering W_FirstSteps_gainByEntering RM_f_FirstSteps_gainByEntering (rwP (dC, dI) vwCl [(tI, .int), (tL, .long), (tII, .array .int), (tLL, .array .long)] (wC ad tI tL tII tLL cnt w tot rew grp fin gns rst rws last now nxt whl au al mu ml) ([.ref (ad 16), .int p1] : List Value)) (rwQ (dC, dI) vwCl (wC ad tI tL tII tLL cnt w tot rew grp fin R_gns rst rws last now nxt whl au al mu ml) none (rwA (wC ad tI tL tII tLL cnt w tot rew grp fin gns rst rws last now nxt whl au al mu ml))) 0 0 (rwA (wC ad tI tL tII tLL cnt w tot rew grp fin gns rst rws last now nxt whl au al mu ml)) := by
  refine Met.ofW (cc := cX1_gainByEntering) (maxL := 3) (ret := none) (by decide) rfl ?_
  intro p e s m args below meth c s₁ B hml hv
  obtain ⟨rfl, hP, hK, hN, hD⟩ := hv
  have hx := B.exec
  have hb := B.bytes
  have hr := B.returns
  have hts := atoms_spec (ws := W_FirstSteps_gainByEntering) B.pre
  have ht := fun (w : Cond) (h : w ∈ tblG) => hts w (List.mem_cons_of_mem _ h)
  have hown : s.vm.findClass RX1 = some m.cls := findClass_of_methodNamed B.named
  have hlocks := B.notSynchronized
  have hl := lv_entry ([.ref (ad 16), .int p1] : List Value) (n := 3) (Nat.le_of_ble_eq_true rfl)
  rw [lg_entry_eq]
  generalize (lg_sl ([.ref (ad 16), .int p1] : List Value) ++ List.replicate (3 - (lg_sl ([.ref (ad 16), .int p1] : List Value)).length) Slot.unset).toArray = ls at hl ⊢
  have hl : lv_has ls 3 [(0, .ref (ad 16)), (1, .int p1)] := hl
  have hD := hD.own
  have hS : va_S (rwA (wC ad tI tL tII tLL cnt w tot rew grp fin gns rst rws last now nxt whl au al mu ml)) s.heap s.heap [] := va_S.rf
  suffices K : ∀ (H : Heap) (locs : List Loc), va_P (dC, dI) vwCl (wC ad tI tL tII tLL cnt w tot rew grp fin gns rst rws last now nxt whl au al mu ml) H → va_D (rwA (wC ad tI tL tII tLL cnt w tot rew grp fin gns rst rws last now nxt whl au al mu ml)) (wC ad tI tL tII tLL cnt w tot rew grp fin gns rst rws last now nxt whl au al mu ml) → va_S (rwA (wC ad tI tL tII tLL cnt w tot rew grp fin gns rst rws last now nxt whl au al mu ml)) s.heap H locs → W p l e (headSpec W_FirstSteps_gainByEntering RM_f_FirstSteps_gainByEntering).room s m ([.ref (ad 16), .int p1] : List Value).toArray below meth c H locs 0 0 (MQ below (rwQ (dC, dI) vwCl (wC ad tI tL tII tLL cnt w tot rew grp fin R_gns rst rws last now nxt whl au al mu ml) none (rwA (wC ad tI tL tII tLL cnt w tot rew grp fin gns rst rws last now nxt whl au al mu ml))) ([.ref (ad 16), .int p1] : List Value).toArray s 0 0 (rwA (wC ad tI tL tII tLL cnt w tot rew grp fin gns rst rws last now nxt whl au al mu ml))) (F0 m 0 ls []) from K s.heap [] hP hD hS
  clear hP hD hS
  intro H locs hP hD hS
  rw [f_FirstSteps_gainByEntering] at hR
  refine lv_iconst (v := 0) hx hb dX1_gainByEntering_0 (by decide) ?_
  refine lv_istore_n (lv' := [(2, .int (0 : Int32)), (0, .ref (ad 16)), (1, .int p1)]) hx hb dX1_gainByEntering_1 rfl hl (by decide) rfl (fun ls hl => ?_)
  have L2_6 : ∀ (n : Nat) (x2_1 : Int32) (gns_2 : Nat → Int64), ∀ (o_x2_1 : Int32) (o_gns_2 : Nat → Int64), some (o_x2_1, o_gns_2) = f_FirstSteps_gainByEntering_L2 cnt w tot p1 n x2_1 gns_2 → (∀ (H : Heap) (locs : List Loc), va_P (dC, dI) vwCl (wC ad tI tL tII tLL cnt w tot rew grp fin o_gns_2 rst rws last now nxt whl au al mu ml) H → va_D (rwA (wC ad tI tL tII tLL cnt w tot rew grp fin gns rst rws last now nxt whl au al mu ml)) (wC ad tI tL tII tLL cnt w tot rew grp fin o_gns_2 rst rws last now nxt whl au al mu ml) → va_S (rwA (wC ad tI tL tII tLL cnt w tot rew grp fin gns rst rws last now nxt whl au al mu ml)) s.heap H locs → ∀ ls : Array Slot, lv_has ls 3 [(0, .ref (ad 16)), (1, .int p1), (2, .int o_x2_1)] → W p l e (headSpec W_FirstSteps_gainByEntering RM_f_FirstSteps_gainByEntering).room s m ([.ref (ad 16), .int p1] : List Value).toArray below meth c H locs 0 0 (MQ below (rwQ (dC, dI) vwCl (wC ad tI tL tII tLL cnt w tot rew grp fin R_gns rst rws last now nxt whl au al mu ml) none (rwA (wC ad tI tL tII tLL cnt w tot rew grp fin gns rst rws last now nxt whl au al mu ml))) ([.ref (ad 16), .int p1] : List Value).toArray s 0 0 (rwA (wC ad tI tL tII tLL cnt w tot rew grp fin gns rst rws last now nxt whl au al mu ml))) (F0 m 35 ls [])) → ∀ (H : Heap) (locs : List Loc), va_P (dC, dI) vwCl (wC ad tI tL tII tLL cnt w tot rew grp fin gns_2 rst rws last now nxt whl au al mu ml) H → va_D (rwA (wC ad tI tL tII tLL cnt w tot rew grp fin gns rst rws last now nxt whl au al mu ml)) (wC ad tI tL tII tLL cnt w tot rew grp fin gns_2 rst rws last now nxt whl au al mu ml) → va_S (rwA (wC ad tI tL tII tLL cnt w tot rew grp fin gns rst rws last now nxt whl au al mu ml)) s.heap H locs → ∀ ls : Array Slot, lv_has ls 3 [(0, .ref (ad 16)), (1, .int p1), (2, .int x2_1)] → W p l e (headSpec W_FirstSteps_gainByEntering RM_f_FirstSteps_gainByEntering).room s m ([.ref (ad 16), .int p1] : List Value).toArray below meth c H locs 0 0 (MQ below (rwQ (dC, dI) vwCl (wC ad tI tL tII tLL cnt w tot rew grp fin R_gns rst rws last now nxt whl au al mu ml) none (rwA (wC ad tI tL tII tLL cnt w tot rew grp fin gns rst rws last now nxt whl au al mu ml))) ([.ref (ad 16), .int p1] : List Value).toArray s 0 0 (rwA (wC ad tI tL tII tLL cnt w tot rew grp fin gns rst rws last now nxt whl au al mu ml))) (F0 m 2 ls []) := by
    intro n
    induction n with
    | zero =>
      intro x2_1 gns_2 o_x2_1 o_gns_2 hR
      cases (show some _ = none from hR)
    | succ n ih =>
      intro x2_1 gns_2 o_x2_1 o_gns_2 hR hk H locs hP hD hS ls hl
      rw [f_FirstSteps_gainByEntering_L2_s] at hR
      obtain ⟨y, hR, hQ⟩ := ob hR
      replace hR := hR.symm
      rw [f_FirstSteps_gainByEntering_B2] at hR
      refine lv_iload_n hx hb dX1_gainByEntering_2 rfl (lv_at hl 2 rfl) ?_
      refine lv_aload_n hx hb dX1_gainByEntering_3 rfl (lv_at hl 0 rfl) ?_
      refine va_get (D := (dC, dI)) (ci := 1) (v := .ref (ad 1)) (C := RX1) (T := TX1) (N := 5) hx hb ht hinX1 hown hK hP 16 rfl rfl 0 (by decide) (ht _ k_78) (fun _ h9 => h9) rfl dX1_gainByEntering_4 ?_
      refine va_getN (D := (dC, dI)) (ci := 0) (v := .int cnt) (C := RX0) (T := TX0) (N := 4) hx hb ht hinX0 hown hK hP 1 rfl rfl 3 (by decide) (va_Nw.use rfl (nf_6 hN)) (fun _ h9 => h9) rfl dX1_gainByEntering_7 ?_
      refine lv_icmp_ge (tgt := 35) hx hb dX1_gainByEntering_10 (by decide) (fun c3 => ?_) (fun c3 => ?_)
      · replace hR := it_p c3 hR
        cases hR
        cases (show some _ = some _ from hQ)
        exact hk H locs hP hD hS ls (lv_sub hl [0, 1, 2] rfl)
      · replace hR := it_n c3 hR
        refine lv_aload_n hx hb dX1_gainByEntering_13 rfl (lv_at hl 0 rfl) ?_
        refine va_get (D := (dC, dI)) (ci := 1) (v := .ref (ad 17)) (C := RX1) (T := TX1) (N := 5) hx hb ht hinX1 hown hK hP 16 rfl rfl 1 (by decide) (ht _ k_79) (fun _ h9 => h9) rfl dX1_gainByEntering_14 ?_
        refine lv_iload_n hx hb dX1_gainByEntering_17 rfl (lv_at hl 2 rfl) ?_
        refine lv_aload_n hx hb dX1_gainByEntering_18 rfl (lv_at hl 0 rfl) ?_
        refine va_get (D := (dC, dI)) (ci := 1) (v := .ref (ad 1)) (C := RX1) (T := TX1) (N := 5) hx hb ht hinX1 hown hK hP 16 rfl rfl 0 (by decide) (ht _ k_78) (fun _ h9 => h9) rfl dX1_gainByEntering_19 ?_
        refine lv_iload_n hx hb dX1_gainByEntering_22 rfl (lv_at hl 2 rfl) ?_
        refine lv_iload_n hx hb dX1_gainByEntering_23 rfl (lv_at hl 1 rfl) ?_
        obtain ⟨r4, hC, hR⟩ := ob hR
        try dsimp only at hR
        refine ro_calli (va_runV (As := [.int x2_1, .int p1]) (rest := [.int x2_1, .ref (ad 17)]) ⟨hx, hb, hml, hown, ht⟩ (c_Chain_pullInto l dC dI ad tI tL tII tLL cnt w tot rew grp fin gns_2 rst rws last now nxt whl au al mu ml x2_1 p1 r4 hC.symm) ⟨callB_of 2 ht (goodG k_61) rfl rfl rfl (ht _ k_15) (ht _ k_80) (by decide +kernel) ⟨Nat.le_of_ble_eq_true rfl, Nat.le_of_ble_eq_true rfl⟩, (ht _ k_64), (ht _ k_63)⟩ (pre_v hK hN hP (q0 := 1) (ci := 0) rfl rfl) rfl rfl hl.1 rfl (lv_room (Nat.le_of_ble_eq_true rfl)) dX1_gainByEntering_24 ⟨Nat.zero_le _, Nat.zero_le _⟩) ?_
        refine lv_i2l hx hb dX1_gainByEntering_27 rfl ?_
        obtain ⟨z5, hR⟩ := og hR
        refine va_last hx hb hK hP hD hS 17 1 rfl rfl (ix_in z5) dX1_gainByEntering_28 (fun H locs hP hD hS => ?_)
        have hP : va_P (dC, dI) vwCl (wC ad tI tL tII tLL cnt w tot rew grp fin (vp_updL gns_2 x2_1.toNatClampNeg (r4.toInt64)) rst rws last now nxt whl au al mu ml) H := hP
        have hD : va_D (rwA (wC ad tI tL tII tLL cnt w tot rew grp fin gns rst rws last now nxt whl au al mu ml)) (wC ad tI tL tII tLL cnt w tot rew grp fin (vp_updL gns_2 x2_1.toNatClampNeg (r4.toInt64)) rst rws last now nxt whl au al mu ml) := hD
        refine lv_iinc (v := (x2_1 + 1)) (lv' := [(2, .int (x2_1 + 1)), (0, .ref (ad 16)), (1, .int p1)]) hx hb dX1_gainByEntering_29 hl (k := 2) rfl rfl (by decide) rfl (fun ls hl => ?_)
        refine lv_goto (tgt := 2) hx hb dX1_gainByEntering_32 (by decide) ?_
        cases hR
        exact ih (x2_1 + 1) (vp_updL gns_2 x2_1.toNatClampNeg (r4.toInt64)) o_x2_1 o_gns_2 hQ hk H locs hP hD hS ls (lv_sub hl [1, 2, 0] rfl)
  obtain ⟨⟨u7, u8⟩, hL, hR⟩ := ob hR
  try dsimp only at hR
  refine L2_6 300 (0 : Int32) gns u7 u8 hL.symm (fun H locs hP hD hS ls hl => ?_) H locs hP hD hS ls (lv_sub hl [1, 2, 0] rfl)
  cases hR
  exact W.vret hx hb hr (fun t ht _ => ⟨rfl, by rw [ht]; exact hP, hS.F ht⟩) hS.2.2 dX1_gainByEntering_35
abbrev RM_f_FirstSteps_gainByStep : Room := { frames := 2, cells := 0, slots := 0, locals := 42 }
abbrev W_FirstSteps_gainByStep : List Cond := .code yX1_gainByStep cX1_gainByStep 2 none :: tblG
set_option maxHeartbeats 4000000 in
set_option maxRecDepth 100000 in
theorem c_FirstSteps_gainByStep (l : Launch) (dC : Nat → ClassId) (dI : Nat → Nat → Nat) (ad : Nat → Nat) (tI tL tII tLL : ClassId) (cnt : Int32) (w : Nat → Nat → Int32) (tot : Nat → Int32) (rew : Nat → Int32) (grp : Nat → Int32) (fin : Nat → Int32) (gns : Nat → Int64) (rst : Nat → Int32) (rws : Nat → Nat → Int64) (last : Int32) (now : Nat → Int64) (nxt : Nat → Int64) (whl : Int64) (au : Int64) (al : Int64) (mu : Int64) (ml : Int64)  (R_gns : Nat → Int64) (hR : some R_gns = f_FirstSteps_gainByStep cnt tot gns) : Met l yX1_gainByStep W_FirstSteps_gainByStep RM_f_FirstSteps_gainByStep (rwP (dC, dI) vwCl [(tI, .int), (tL, .long), (tII, .array .int), (tLL, .array .long)] (wC ad tI tL tII tLL cnt w tot rew grp fin gns rst rws last now nxt whl au al mu ml) ([.ref (ad 16)] : List Value)) (rwQ (dC, dI) vwCl (wC ad tI tL tII tLL cnt w tot rew grp fin R_gns rst rws last now nxt whl au al mu ml) none (rwA (wC ad tI tL tII tLL cnt w tot rew grp fin gns rst rws last now nxt whl au al mu ml))) 0 0 (rwA (wC ad tI tL tII tLL cnt w tot rew grp fin gns rst rws last now nxt whl au al mu ml)) := by
  refine Met.ofW (cc := cX1_gainByStep) (maxL := 2) (ret := none) (by decide) rfl ?_
  intro p e s m args below meth c s₁ B hml hv
  obtain ⟨rfl, hP, hK, hN, hD⟩ := hv
  have hx := B.exec
  have hb := B.bytes
  have hr := B.returns
  have hts := atoms_spec (ws := W_FirstSteps_gainByStep) B.pre
  have ht := fun (w : Cond) (h : w ∈ tblG) => hts w (List.mem_cons_of_mem _ h)
  have hown : s.vm.findClass RX1 = some m.cls := findClass_of_methodNamed B.named
  have hlocks := B.notSynchronized
  have hl := lv_entry ([.ref (ad 16)] : List Value) (n := 2) (Nat.le_of_ble_eq_true rfl)
  rw [lg_entry_eq]
  generalize (lg_sl ([.ref (ad 16)] : List Value) ++ List.replicate (2 - (lg_sl ([.ref (ad 16)] : List Value)).length) Slot.unset).toArray = ls at hl ⊢
  have hl : lv_has ls 2 [(0, .ref (ad 16))] := hl
  have hD := hD.own
  have hS : va_S (rwA (wC ad tI tL tII tLL cnt w tot rew grp fin gns rst rws last now nxt whl au al mu ml)) s.heap s.heap [] := va_S.rf
  suffices K : ∀ (H : Heap) (locs : List Loc), va_P (dC, dI) vwCl (wC ad tI tL tII tLL cnt w tot rew grp fin gns rst rws last now nxt whl au al mu ml) H → va_D (rwA (wC ad tI tL tII tLL cnt w tot rew grp fin gns rst rws last now nxt whl au al mu ml)) (wC ad tI tL tII tLL cnt w tot rew grp fin gns rst rws last now nxt whl au al mu ml) → va_S (rwA (wC ad tI tL tII tLL cnt w tot rew grp fin gns rst rws last now nxt whl au al mu ml)) s.heap H locs → W p l e (headSpec W_FirstSteps_gainByStep RM_f_FirstSteps_gainByStep).room s m ([.ref (ad 16)] : List Value).toArray below meth c H locs 0 0 (MQ below (rwQ (dC, dI) vwCl (wC ad tI tL tII tLL cnt w tot rew grp fin R_gns rst rws last now nxt whl au al mu ml) none (rwA (wC ad tI tL tII tLL cnt w tot rew grp fin gns rst rws last now nxt whl au al mu ml))) ([.ref (ad 16)] : List Value).toArray s 0 0 (rwA (wC ad tI tL tII tLL cnt w tot rew grp fin gns rst rws last now nxt whl au al mu ml))) (F0 m 0 ls []) from K s.heap [] hP hD hS
  clear hP hD hS
  intro H locs hP hD hS
  rw [f_FirstSteps_gainByStep] at hR
  refine lv_iconst (v := 0) hx hb dX1_gainByStep_0 (by decide) ?_
  refine lv_istore_n (lv' := [(1, .int (0 : Int32)), (0, .ref (ad 16))]) hx hb dX1_gainByStep_1 rfl hl (by decide) rfl (fun ls hl => ?_)
  have L2_6 : ∀ (n : Nat) (x1_1 : Int32) (gns_2 : Nat → Int64), ∀ (o_x1_1 : Int32) (o_gns_2 : Nat → Int64), some (o_x1_1, o_gns_2) = f_FirstSteps_gainByStep_L2 cnt tot n x1_1 gns_2 → (∀ (H : Heap) (locs : List Loc), va_P (dC, dI) vwCl (wC ad tI tL tII tLL cnt w tot rew grp fin o_gns_2 rst rws last now nxt whl au al mu ml) H → va_D (rwA (wC ad tI tL tII tLL cnt w tot rew grp fin gns rst rws last now nxt whl au al mu ml)) (wC ad tI tL tII tLL cnt w tot rew grp fin o_gns_2 rst rws last now nxt whl au al mu ml) → va_S (rwA (wC ad tI tL tII tLL cnt w tot rew grp fin gns rst rws last now nxt whl au al mu ml)) s.heap H locs → ∀ ls : Array Slot, lv_has ls 2 [(0, .ref (ad 16)), (1, .int o_x1_1)] → W p l e (headSpec W_FirstSteps_gainByStep RM_f_FirstSteps_gainByStep).room s m ([.ref (ad 16)] : List Value).toArray below meth c H locs 0 0 (MQ below (rwQ (dC, dI) vwCl (wC ad tI tL tII tLL cnt w tot rew grp fin R_gns rst rws last now nxt whl au al mu ml) none (rwA (wC ad tI tL tII tLL cnt w tot rew grp fin gns rst rws last now nxt whl au al mu ml))) ([.ref (ad 16)] : List Value).toArray s 0 0 (rwA (wC ad tI tL tII tLL cnt w tot rew grp fin gns rst rws last now nxt whl au al mu ml))) (F0 m 34 ls [])) → ∀ (H : Heap) (locs : List Loc), va_P (dC, dI) vwCl (wC ad tI tL tII tLL cnt w tot rew grp fin gns_2 rst rws last now nxt whl au al mu ml) H → va_D (rwA (wC ad tI tL tII tLL cnt w tot rew grp fin gns rst rws last now nxt whl au al mu ml)) (wC ad tI tL tII tLL cnt w tot rew grp fin gns_2 rst rws last now nxt whl au al mu ml) → va_S (rwA (wC ad tI tL tII tLL cnt w tot rew grp fin gns rst rws last now nxt whl au al mu ml)) s.heap H locs → ∀ ls : Array Slot, lv_has ls 2 [(0, .ref (ad 16)), (1, .int x1_1)] → W p l e (headSpec W_FirstSteps_gainByStep RM_f_FirstSteps_gainByStep).room s m ([.ref (ad 16)] : List Value).toArray below meth c H locs 0 0 (MQ below (rwQ (dC, dI) vwCl (wC ad tI tL tII tLL cnt w tot rew grp fin R_gns rst rws last now nxt whl au al mu ml) none (rwA (wC ad tI tL tII tLL cnt w tot rew grp fin gns rst rws last now nxt whl au al mu ml))) ([.ref (ad 16)] : List Value).toArray s 0 0 (rwA (wC ad tI tL tII tLL cnt w tot rew grp fin gns rst rws last now nxt whl au al mu ml))) (F0 m 2 ls []) := by
    intro n
    induction n with
    | zero =>
      intro x1_1 gns_2 o_x1_1 o_gns_2 hR
      cases (show some _ = none from hR)
    | succ n ih =>
      intro x1_1 gns_2 o_x1_1 o_gns_2 hR hk H locs hP hD hS ls hl
      rw [f_FirstSteps_gainByStep_L2_s] at hR
      obtain ⟨y, hR, hQ⟩ := ob hR
      replace hR := hR.symm
      rw [f_FirstSteps_gainByStep_B2] at hR
      refine lv_iload_n hx hb dX1_gainByStep_2 rfl (lv_at hl 1 rfl) ?_
      refine lv_aload_n hx hb dX1_gainByStep_3 rfl (lv_at hl 0 rfl) ?_
      refine va_get (D := (dC, dI)) (ci := 1) (v := .ref (ad 1)) (C := RX1) (T := TX1) (N := 5) hx hb ht hinX1 hown hK hP 16 rfl rfl 0 (by decide) (ht _ k_78) (fun _ h9 => h9) rfl dX1_gainByStep_4 ?_
      refine va_getN (D := (dC, dI)) (ci := 0) (v := .int cnt) (C := RX0) (T := TX0) (N := 4) hx hb ht hinX0 hown hK hP 1 rfl rfl 3 (by decide) (va_Nw.use rfl (nf_6 hN)) (fun _ h9 => h9) rfl dX1_gainByStep_7 ?_
      refine lv_icmp_ge (tgt := 34) hx hb dX1_gainByStep_10 (by decide) (fun c3 => ?_) (fun c3 => ?_)
      · replace hR := it_p c3 hR
        cases hR
        cases (show some _ = some _ from hQ)
        exact hk H locs hP hD hS ls (lv_sub hl [0, 1] rfl)
      · replace hR := it_n c3 hR
        refine lv_aload_n hx hb dX1_gainByStep_13 rfl (lv_at hl 0 rfl) ?_
        refine va_get (D := (dC, dI)) (ci := 1) (v := .ref (ad 17)) (C := RX1) (T := TX1) (N := 5) hx hb ht hinX1 hown hK hP 16 rfl rfl 1 (by decide) (ht _ k_79) (fun _ h9 => h9) rfl dX1_gainByStep_14 ?_
        refine lv_iload_n hx hb dX1_gainByStep_17 rfl (lv_at hl 1 rfl) ?_
        refine lv_aload_n hx hb dX1_gainByStep_18 rfl (lv_at hl 0 rfl) ?_
        refine va_get (D := (dC, dI)) (ci := 1) (v := .ref (ad 1)) (C := RX1) (T := TX1) (N := 5) hx hb ht hinX1 hown hK hP 16 rfl rfl 0 (by decide) (ht _ k_78) (fun _ h9 => h9) rfl dX1_gainByStep_19 ?_
        refine lv_iload_n hx hb dX1_gainByStep_22 rfl (lv_at hl 1 rfl) ?_
        obtain ⟨r4, hC, hR⟩ := ob hR
        try dsimp only at hR
        refine ro_calli (va_runV (As := [.int x1_1]) (rest := [.int x1_1, .ref (ad 17)]) ⟨hx, hb, hml, hown, ht⟩ (c_Chain_pullOfAll l dC dI ad tI tL tII tLL cnt w tot rew grp fin gns_2 rst rws last now nxt whl au al mu ml x1_1 r4 hC.symm) ⟨callB_of 1 ht (goodG k_65) rfl rfl rfl (ht _ k_15) (ht _ k_81) (by decide +kernel) ⟨Nat.le_of_ble_eq_true rfl, Nat.le_of_ble_eq_true rfl⟩, (ht _ k_68), (ht _ k_67)⟩ (pre_v hK hN hP (q0 := 1) (ci := 0) rfl rfl) rfl rfl hl.1 rfl (lv_room (Nat.le_of_ble_eq_true rfl)) dX1_gainByStep_23 ⟨Nat.zero_le _, Nat.zero_le _⟩) ?_
        refine lv_i2l hx hb dX1_gainByStep_26 rfl ?_
        obtain ⟨z5, hR⟩ := og hR
        refine va_last hx hb hK hP hD hS 17 1 rfl rfl (ix_in z5) dX1_gainByStep_27 (fun H locs hP hD hS => ?_)
        have hP : va_P (dC, dI) vwCl (wC ad tI tL tII tLL cnt w tot rew grp fin (vp_updL gns_2 x1_1.toNatClampNeg (r4.toInt64)) rst rws last now nxt whl au al mu ml) H := hP
        have hD : va_D (rwA (wC ad tI tL tII tLL cnt w tot rew grp fin gns rst rws last now nxt whl au al mu ml)) (wC ad tI tL tII tLL cnt w tot rew grp fin (vp_updL gns_2 x1_1.toNatClampNeg (r4.toInt64)) rst rws last now nxt whl au al mu ml) := hD
        refine lv_iinc (v := (x1_1 + 1)) (lv' := [(1, .int (x1_1 + 1)), (0, .ref (ad 16))]) hx hb dX1_gainByStep_28 hl (k := 1) rfl rfl (by decide) rfl (fun ls hl => ?_)
        refine lv_goto (tgt := 2) hx hb dX1_gainByStep_31 (by decide) ?_
        cases hR
        exact ih (x1_1 + 1) (vp_updL gns_2 x1_1.toNatClampNeg (r4.toInt64)) o_x1_1 o_gns_2 hQ hk H locs hP hD hS ls (lv_sub hl [1, 0] rfl)
  obtain ⟨⟨u7, u8⟩, hL, hR⟩ := ob hR
  try dsimp only at hR
  refine L2_6 300 (0 : Int32) gns u7 u8 hL.symm (fun H locs hP hD hS ls hl => ?_) H locs hP hD hS ls (lv_sub hl [1, 0] rfl)
  cases hR
  exact W.vret hx hb hr (fun t ht _ => ⟨rfl, by rw [ht]; exact hP, hS.F ht⟩) hS.2.2 dX1_gainByStep_34
abbrev RM_f_FirstSteps_gainByBeingIn : Room := { frames := 2, cells := 0, slots := 0, locals := 42 }
abbrev W_FirstSteps_gainByBeingIn : List Cond := .code yX1_gainByBeingIn cX1_gainByBeingIn 3 none :: tblG
set_option maxHeartbeats 4000000 in
set_option maxRecDepth 100000 in
theorem c_FirstSteps_gainByBeingIn (l : Launch) (dC : Nat → ClassId) (dI : Nat → Nat → Nat) (ad : Nat → Nat) (tI tL tII tLL : ClassId) (cnt : Int32) (w : Nat → Nat → Int32) (tot : Nat → Int32) (rew : Nat → Int32) (grp : Nat → Int32) (fin : Nat → Int32) (gns : Nat → Int64) (rst : Nat → Int32) (rws : Nat → Nat → Int64) (last : Int32) (now : Nat → Int64) (nxt : Nat → Int64) (whl : Int64) (au : Int64) (al : Int64) (mu : Int64) (ml : Int64) (p1 : Int32) (R_gns : Nat → Int64) (hR : some R_gns = f_FirstSteps_gainByBeingIn cnt tot gns p1) : Met l yX1_gainByBeingIn W_FirstSteps_gainByBeingIn RM_f_FirstSteps_gainByBeingIn (rwP (dC, dI) vwCl [(tI, .int), (tL, .long), (tII, .array .int), (tLL, .array .long)] (wC ad tI tL tII tLL cnt w tot rew grp fin gns rst rws last now nxt whl au al mu ml) ([.ref (ad 16), .int p1] : List Value)) (rwQ (dC, dI) vwCl (wC ad tI tL tII tLL cnt w tot rew grp fin R_gns rst rws last now nxt whl au al mu ml) none (rwA (wC ad tI tL tII tLL cnt w tot rew grp fin gns rst rws last now nxt whl au al mu ml))) 0 0 (rwA (wC ad tI tL tII tLL cnt w tot rew grp fin gns rst rws last now nxt whl au al mu ml)) := by
  refine Met.ofW (cc := cX1_gainByBeingIn) (maxL := 3) (ret := none) (by decide) rfl ?_
  intro p e s m args below meth c s₁ B hml hv
  obtain ⟨rfl, hP, hK, hN, hD⟩ := hv
  have hx := B.exec
  have hb := B.bytes
  have hr := B.returns
  have hts := atoms_spec (ws := W_FirstSteps_gainByBeingIn) B.pre
  have ht := fun (w : Cond) (h : w ∈ tblG) => hts w (List.mem_cons_of_mem _ h)
  have hown : s.vm.findClass RX1 = some m.cls := findClass_of_methodNamed B.named
  have hlocks := B.notSynchronized
  have hl := lv_entry ([.ref (ad 16), .int p1] : List Value) (n := 3) (Nat.le_of_ble_eq_true rfl)
  rw [lg_entry_eq]
  generalize (lg_sl ([.ref (ad 16), .int p1] : List Value) ++ List.replicate (3 - (lg_sl ([.ref (ad 16), .int p1] : List Value)).length) Slot.unset).toArray = ls at hl ⊢
  have hl : lv_has ls 3 [(0, .ref (ad 16)), (1, .int p1)] := hl
  have hD := hD.own
  have hS : va_S (rwA (wC ad tI tL tII tLL cnt w tot rew grp fin gns rst rws last now nxt whl au al mu ml)) s.heap s.heap [] := va_S.rf
  suffices K : ∀ (H : Heap) (locs : List Loc), va_P (dC, dI) vwCl (wC ad tI tL tII tLL cnt w tot rew grp fin gns rst rws last now nxt whl au al mu ml) H → va_D (rwA (wC ad tI tL tII tLL cnt w tot rew grp fin gns rst rws last now nxt whl au al mu ml)) (wC ad tI tL tII tLL cnt w tot rew grp fin gns rst rws last now nxt whl au al mu ml) → va_S (rwA (wC ad tI tL tII tLL cnt w tot rew grp fin gns rst rws last now nxt whl au al mu ml)) s.heap H locs → W p l e (headSpec W_FirstSteps_gainByBeingIn RM_f_FirstSteps_gainByBeingIn).room s m ([.ref (ad 16), .int p1] : List Value).toArray below meth c H locs 0 0 (MQ below (rwQ (dC, dI) vwCl (wC ad tI tL tII tLL cnt w tot rew grp fin R_gns rst rws last now nxt whl au al mu ml) none (rwA (wC ad tI tL tII tLL cnt w tot rew grp fin gns rst rws last now nxt whl au al mu ml))) ([.ref (ad 16), .int p1] : List Value).toArray s 0 0 (rwA (wC ad tI tL tII tLL cnt w tot rew grp fin gns rst rws last now nxt whl au al mu ml))) (F0 m 0 ls []) from K s.heap [] hP hD hS
  clear hP hD hS
  intro H locs hP hD hS
  rw [f_FirstSteps_gainByBeingIn] at hR
  refine lv_iconst (v := 0) hx hb dX1_gainByBeingIn_0 (by decide) ?_
  refine lv_istore_n (lv' := [(2, .int (0 : Int32)), (0, .ref (ad 16)), (1, .int p1)]) hx hb dX1_gainByBeingIn_1 rfl hl (by decide) rfl (fun ls hl => ?_)
  have L2_8 : ∀ (n : Nat) (x2_1 : Int32) (gns_2 : Nat → Int64), ∀ (o_x2_1 : Int32) (o_gns_2 : Nat → Int64), some (o_x2_1, o_gns_2) = f_FirstSteps_gainByBeingIn_L2 cnt tot p1 n x2_1 gns_2 → (∀ (H : Heap) (locs : List Loc), va_P (dC, dI) vwCl (wC ad tI tL tII tLL cnt w tot rew grp fin o_gns_2 rst rws last now nxt whl au al mu ml) H → va_D (rwA (wC ad tI tL tII tLL cnt w tot rew grp fin gns rst rws last now nxt whl au al mu ml)) (wC ad tI tL tII tLL cnt w tot rew grp fin o_gns_2 rst rws last now nxt whl au al mu ml) → va_S (rwA (wC ad tI tL tII tLL cnt w tot rew grp fin gns rst rws last now nxt whl au al mu ml)) s.heap H locs → ∀ ls : Array Slot, lv_has ls 3 [(0, .ref (ad 16)), (1, .int p1), (2, .int o_x2_1)] → W p l e (headSpec W_FirstSteps_gainByBeingIn RM_f_FirstSteps_gainByBeingIn).room s m ([.ref (ad 16), .int p1] : List Value).toArray below meth c H locs 0 0 (MQ below (rwQ (dC, dI) vwCl (wC ad tI tL tII tLL cnt w tot rew grp fin R_gns rst rws last now nxt whl au al mu ml) none (rwA (wC ad tI tL tII tLL cnt w tot rew grp fin gns rst rws last now nxt whl au al mu ml))) ([.ref (ad 16), .int p1] : List Value).toArray s 0 0 (rwA (wC ad tI tL tII tLL cnt w tot rew grp fin gns rst rws last now nxt whl au al mu ml))) (F0 m 43 ls [])) → ∀ (H : Heap) (locs : List Loc), va_P (dC, dI) vwCl (wC ad tI tL tII tLL cnt w tot rew grp fin gns_2 rst rws last now nxt whl au al mu ml) H → va_D (rwA (wC ad tI tL tII tLL cnt w tot rew grp fin gns rst rws last now nxt whl au al mu ml)) (wC ad tI tL tII tLL cnt w tot rew grp fin gns_2 rst rws last now nxt whl au al mu ml) → va_S (rwA (wC ad tI tL tII tLL cnt w tot rew grp fin gns rst rws last now nxt whl au al mu ml)) s.heap H locs → ∀ ls : Array Slot, lv_has ls 3 [(0, .ref (ad 16)), (1, .int p1), (2, .int x2_1)] → W p l e (headSpec W_FirstSteps_gainByBeingIn RM_f_FirstSteps_gainByBeingIn).room s m ([.ref (ad 16), .int p1] : List Value).toArray below meth c H locs 0 0 (MQ below (rwQ (dC, dI) vwCl (wC ad tI tL tII tLL cnt w tot rew grp fin R_gns rst rws last now nxt whl au al mu ml) none (rwA (wC ad tI tL tII tLL cnt w tot rew grp fin gns rst rws last now nxt whl au al mu ml))) ([.ref (ad 16), .int p1] : List Value).toArray s 0 0 (rwA (wC ad tI tL tII tLL cnt w tot rew grp fin gns rst rws last now nxt whl au al mu ml))) (F0 m 2 ls []) := by
    intro n
    induction n with
    | zero =>
      intro x2_1 gns_2 o_x2_1 o_gns_2 hR
      cases (show some _ = none from hR)
    | succ n ih =>
      intro x2_1 gns_2 o_x2_1 o_gns_2 hR hk H locs hP hD hS ls hl
      rw [f_FirstSteps_gainByBeingIn_L2_s] at hR
      obtain ⟨y, hR, hQ⟩ := ob hR
      replace hR := hR.symm
      rw [f_FirstSteps_gainByBeingIn_B2] at hR
      refine lv_iload_n hx hb dX1_gainByBeingIn_2 rfl (lv_at hl 2 rfl) ?_
      refine lv_aload_n hx hb dX1_gainByBeingIn_3 rfl (lv_at hl 0 rfl) ?_
      refine va_get (D := (dC, dI)) (ci := 1) (v := .ref (ad 1)) (C := RX1) (T := TX1) (N := 5) hx hb ht hinX1 hown hK hP 16 rfl rfl 0 (by decide) (ht _ k_78) (fun _ h9 => h9) rfl dX1_gainByBeingIn_4 ?_
      refine va_getN (D := (dC, dI)) (ci := 0) (v := .int cnt) (C := RX0) (T := TX0) (N := 4) hx hb ht hinX0 hown hK hP 1 rfl rfl 3 (by decide) (va_Nw.use rfl (nf_6 hN)) (fun _ h9 => h9) rfl dX1_gainByBeingIn_7 ?_
      refine lv_icmp_ge (tgt := 43) hx hb dX1_gainByBeingIn_10 (by decide) (fun c3 => ?_) (fun c3 => ?_)
      · replace hR := it_p c3 hR
        cases hR
        cases (show some _ = some _ from hQ)
        exact hk H locs hP hD hS ls (lv_sub hl [0, 1, 2] rfl)
      · replace hR := it_n c3 hR
        refine lv_aload_n hx hb dX1_gainByBeingIn_13 rfl (lv_at hl 0 rfl) ?_
        refine va_get (D := (dC, dI)) (ci := 1) (v := .ref (ad 17)) (C := RX1) (T := TX1) (N := 5) hx hb ht hinX1 hown hK hP 16 rfl rfl 1 (by decide) (ht _ k_79) (fun _ h9 => h9) rfl dX1_gainByBeingIn_14 ?_
        refine lv_iload_n hx hb dX1_gainByBeingIn_17 rfl (lv_at hl 2 rfl) ?_
        refine lv_iload_n hx hb dX1_gainByBeingIn_18 rfl (lv_at hl 2 rfl) ?_
        refine lv_iload_n hx hb dX1_gainByBeingIn_19 rfl (lv_at hl 1 rfl) ?_
        refine lv_icmp_ne (tgt := 35) hx hb dX1_gainByBeingIn_20 (by decide) (fun c4 => ?_) (fun c4 => ?_)
        · replace hR := it_n c4 hR
          refine lv_lconst (v := 0) hx hb dX1_gainByBeingIn_35 (by decide) ?_
          obtain ⟨z5, hR⟩ := og hR
          refine va_last hx hb hK hP hD hS 17 1 rfl rfl (ix_in z5) dX1_gainByBeingIn_36 (fun H locs hP hD hS => ?_)
          have hP : va_P (dC, dI) vwCl (wC ad tI tL tII tLL cnt w tot rew grp fin (vp_updL gns_2 x2_1.toNatClampNeg (0 : Int64)) rst rws last now nxt whl au al mu ml) H := hP
          have hD : va_D (rwA (wC ad tI tL tII tLL cnt w tot rew grp fin gns rst rws last now nxt whl au al mu ml)) (wC ad tI tL tII tLL cnt w tot rew grp fin (vp_updL gns_2 x2_1.toNatClampNeg (0 : Int64)) rst rws last now nxt whl au al mu ml) := hD
          refine lv_iinc (v := (x2_1 + 1)) (lv' := [(2, .int (x2_1 + 1)), (0, .ref (ad 16)), (1, .int p1)]) hx hb dX1_gainByBeingIn_37 hl (k := 2) rfl rfl (by decide) rfl (fun ls hl => ?_)
          refine lv_goto (tgt := 2) hx hb dX1_gainByBeingIn_40 (by decide) ?_
          cases hR
          exact ih (x2_1 + 1) (vp_updL gns_2 x2_1.toNatClampNeg (0 : Int64)) o_x2_1 o_gns_2 hQ hk H locs hP hD hS ls (lv_sub hl [1, 2, 0] rfl)
        · replace hR := it_p c4 hR
          refine lv_aload_n hx hb dX1_gainByBeingIn_23 rfl (lv_at hl 0 rfl) ?_
          refine va_get (D := (dC, dI)) (ci := 1) (v := .ref (ad 1)) (C := RX1) (T := TX1) (N := 5) hx hb ht hinX1 hown hK hP 16 rfl rfl 0 (by decide) (ht _ k_78) (fun _ h9 => h9) rfl dX1_gainByBeingIn_24 ?_
          refine lv_iload_n hx hb dX1_gainByBeingIn_27 rfl (lv_at hl 2 rfl) ?_
          obtain ⟨r6, hC, hR⟩ := ob hR
          try dsimp only at hR
          refine ro_calli (va_runV (As := [.int x2_1]) (rest := [.int x2_1, .ref (ad 17)]) ⟨hx, hb, hml, hown, ht⟩ (c_Chain_pullOfAll l dC dI ad tI tL tII tLL cnt w tot rew grp fin gns_2 rst rws last now nxt whl au al mu ml x2_1 r6 hC.symm) ⟨callB_of 1 ht (goodG k_65) rfl rfl rfl (ht _ k_15) (ht _ k_81) (by decide +kernel) ⟨Nat.le_of_ble_eq_true rfl, Nat.le_of_ble_eq_true rfl⟩, (ht _ k_68), (ht _ k_67)⟩ (pre_v hK hN hP (q0 := 1) (ci := 0) rfl rfl) rfl rfl hl.1 rfl (lv_room (Nat.le_of_ble_eq_true rfl)) dX1_gainByBeingIn_28 ⟨Nat.zero_le _, Nat.zero_le _⟩) ?_
          refine lv_i2l hx hb dX1_gainByBeingIn_31 rfl ?_
          refine lv_goto (tgt := 36) hx hb dX1_gainByBeingIn_32 (by decide) ?_
          obtain ⟨z7, hR⟩ := og hR
          refine va_last hx hb hK hP hD hS 17 1 rfl rfl (ix_in z7) dX1_gainByBeingIn_36 (fun H locs hP hD hS => ?_)
          have hP : va_P (dC, dI) vwCl (wC ad tI tL tII tLL cnt w tot rew grp fin (vp_updL gns_2 x2_1.toNatClampNeg (r6.toInt64)) rst rws last now nxt whl au al mu ml) H := hP
          have hD : va_D (rwA (wC ad tI tL tII tLL cnt w tot rew grp fin gns rst rws last now nxt whl au al mu ml)) (wC ad tI tL tII tLL cnt w tot rew grp fin (vp_updL gns_2 x2_1.toNatClampNeg (r6.toInt64)) rst rws last now nxt whl au al mu ml) := hD
          refine lv_iinc (v := (x2_1 + 1)) (lv' := [(2, .int (x2_1 + 1)), (0, .ref (ad 16)), (1, .int p1)]) hx hb dX1_gainByBeingIn_37 hl (k := 2) rfl rfl (by decide) rfl (fun ls hl => ?_)
          refine lv_goto (tgt := 2) hx hb dX1_gainByBeingIn_40 (by decide) ?_
          cases hR
          exact ih (x2_1 + 1) (vp_updL gns_2 x2_1.toNatClampNeg (r6.toInt64)) o_x2_1 o_gns_2 hQ hk H locs hP hD hS ls (lv_sub hl [1, 2, 0] rfl)
  obtain ⟨⟨u9, u10⟩, hL, hR⟩ := ob hR
  try dsimp only at hR
  refine L2_8 300 (0 : Int32) gns u9 u10 hL.symm (fun H locs hP hD hS ls hl => ?_) H locs hP hD hS ls (lv_sub hl [1, 2, 0] rfl)
  cases hR
  exact W.vret hx hb hr (fun t ht _ => ⟨rfl, by rw [ht]; exact hP, hS.F ht⟩) hS.2.2 dX1_gainByBeingIn_43
