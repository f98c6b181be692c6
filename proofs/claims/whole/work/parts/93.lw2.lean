/-! LW2: the cases of the law -/
abbrev wM0 (ad : Nat → Nat) (tI tL tII tLL : ClassId) : va_W := wM ad tI tL tII tLL 0 0 (fun _ => 0) (fun _ => 0) 0 1 (fun _ => 0) (fun _ => 0) (fun _ => 0) (fun _ => 0) (fun _ => 0) 0
def tL0 : List Cond := [.code yX6_clear cX6_clear 1 none, .initialized RX6, .methodLink RL 13 yX6_clear, .instanceMethod yX6_clear, .selects RX6 yX6_clear yX6_clear, .code yX7_clear cX7_clear 2 none, .initialized RX7, .methodLink RL 16 yX7_clear, .instanceMethod yX7_clear, .selects RX7 yX7_clear yX7_clear, .code yX6_state cX6_state 1 (some .int), .methodLink RL 17 yX6_state, .instanceMethod yX6_state, .selects RX6 yX6_state yX6_state, .code yX7_state cX7_state 1 (some .int), .methodLink RL 21 yX7_state, .instanceMethod yX7_state, .selects RX7 yX7_state yX7_state, .code yX6_part cX6_part 2 (some .int), .methodLink RL 32 yX6_part, .instanceMethod yX6_part, .selects RX6 yX6_part yX6_part, .code yX7_part cX7_part 2 (some .int), .methodLink RL 36 yX7_part, .instanceMethod yX7_part, .selects RX7 yX7_part yX7_part, .code yX6_upper cX6_upper 1 (some .long), .methodLink RL 81 yX6_upper, .instanceMethod yX6_upper, .selects RX6 yX6_upper yX6_upper, .code yX7_upper cX7_upper 1 (some .long), .methodLink RL 85 yX7_upper, .instanceMethod yX7_upper, .selects RX7 yX7_upper yX7_upper, .classLink RL 7 RX6, .instantiable RX6 7, .classLink RL 10 RX7, .instantiable RX7 12, .methodLink RL 9 yX6_init, .methodLink RL 12 yX7_init]
set_option maxRecDepth 100000 in
theorem tL0_in : ∀ w ∈ tL0, w ∈ lw_tbl := by decide +kernel
def tL1 : List Cond := [.instanceMethod yX6_init, .instanceMethod yX7_init, .code yX6_init cX6_init 1 none, .code yX7_init cX7_init 1 none]
set_option maxRecDepth 100000 in
theorem tL1_in : ∀ w ∈ tL1, w ∈ lw_tbl := by decide +kernel
theorem kl_0 : (.code yX6_clear cX6_clear 1 none : Cond) ∈ lw_tbl := tL0_in _ (List.mem_of_getElem? (i := 0) rfl)
theorem kl_1 : (.initialized RX6 : Cond) ∈ lw_tbl := tL0_in _ (List.mem_of_getElem? (i := 1) rfl)
theorem kl_2 : (.methodLink RL 13 yX6_clear : Cond) ∈ lw_tbl := tL0_in _ (List.mem_of_getElem? (i := 2) rfl)
theorem kl_3 : (.instanceMethod yX6_clear : Cond) ∈ lw_tbl := tL0_in _ (List.mem_of_getElem? (i := 3) rfl)
theorem kl_4 : (.selects RX6 yX6_clear yX6_clear : Cond) ∈ lw_tbl := tL0_in _ (List.mem_of_getElem? (i := 4) rfl)
theorem kl_5 : (.code yX7_clear cX7_clear 2 none : Cond) ∈ lw_tbl := tL0_in _ (List.mem_of_getElem? (i := 5) rfl)
theorem kl_6 : (.initialized RX7 : Cond) ∈ lw_tbl := tL0_in _ (List.mem_of_getElem? (i := 6) rfl)
theorem kl_7 : (.methodLink RL 16 yX7_clear : Cond) ∈ lw_tbl := tL0_in _ (List.mem_of_getElem? (i := 7) rfl)
theorem kl_8 : (.instanceMethod yX7_clear : Cond) ∈ lw_tbl := tL0_in _ (List.mem_of_getElem? (i := 8) rfl)
theorem kl_9 : (.selects RX7 yX7_clear yX7_clear : Cond) ∈ lw_tbl := tL0_in _ (List.mem_of_getElem? (i := 9) rfl)
theorem kl_10 : (.code yX6_state cX6_state 1 (some .int) : Cond) ∈ lw_tbl := tL0_in _ (List.mem_of_getElem? (i := 10) rfl)
theorem kl_11 : (.methodLink RL 17 yX6_state : Cond) ∈ lw_tbl := tL0_in _ (List.mem_of_getElem? (i := 11) rfl)
theorem kl_12 : (.instanceMethod yX6_state : Cond) ∈ lw_tbl := tL0_in _ (List.mem_of_getElem? (i := 12) rfl)
theorem kl_13 : (.selects RX6 yX6_state yX6_state : Cond) ∈ lw_tbl := tL0_in _ (List.mem_of_getElem? (i := 13) rfl)
theorem kl_14 : (.code yX7_state cX7_state 1 (some .int) : Cond) ∈ lw_tbl := tL0_in _ (List.mem_of_getElem? (i := 14) rfl)
theorem kl_15 : (.methodLink RL 21 yX7_state : Cond) ∈ lw_tbl := tL0_in _ (List.mem_of_getElem? (i := 15) rfl)
theorem kl_16 : (.instanceMethod yX7_state : Cond) ∈ lw_tbl := tL0_in _ (List.mem_of_getElem? (i := 16) rfl)
theorem kl_17 : (.selects RX7 yX7_state yX7_state : Cond) ∈ lw_tbl := tL0_in _ (List.mem_of_getElem? (i := 17) rfl)
theorem kl_18 : (.code yX6_part cX6_part 2 (some .int) : Cond) ∈ lw_tbl := tL0_in _ (List.mem_of_getElem? (i := 18) rfl)
theorem kl_19 : (.methodLink RL 32 yX6_part : Cond) ∈ lw_tbl := tL0_in _ (List.mem_of_getElem? (i := 19) rfl)
theorem kl_20 : (.instanceMethod yX6_part : Cond) ∈ lw_tbl := tL0_in _ (List.mem_of_getElem? (i := 20) rfl)
theorem kl_21 : (.selects RX6 yX6_part yX6_part : Cond) ∈ lw_tbl := tL0_in _ (List.mem_of_getElem? (i := 21) rfl)
theorem kl_22 : (.code yX7_part cX7_part 2 (some .int) : Cond) ∈ lw_tbl := tL0_in _ (List.mem_of_getElem? (i := 22) rfl)
theorem kl_23 : (.methodLink RL 36 yX7_part : Cond) ∈ lw_tbl := tL0_in _ (List.mem_of_getElem? (i := 23) rfl)
theorem kl_24 : (.instanceMethod yX7_part : Cond) ∈ lw_tbl := tL0_in _ (List.mem_of_getElem? (i := 24) rfl)
theorem kl_25 : (.selects RX7 yX7_part yX7_part : Cond) ∈ lw_tbl := tL0_in _ (List.mem_of_getElem? (i := 25) rfl)
theorem kl_26 : (.code yX6_upper cX6_upper 1 (some .long) : Cond) ∈ lw_tbl := tL0_in _ (List.mem_of_getElem? (i := 26) rfl)
theorem kl_27 : (.methodLink RL 81 yX6_upper : Cond) ∈ lw_tbl := tL0_in _ (List.mem_of_getElem? (i := 27) rfl)
theorem kl_28 : (.instanceMethod yX6_upper : Cond) ∈ lw_tbl := tL0_in _ (List.mem_of_getElem? (i := 28) rfl)
theorem kl_29 : (.selects RX6 yX6_upper yX6_upper : Cond) ∈ lw_tbl := tL0_in _ (List.mem_of_getElem? (i := 29) rfl)
theorem kl_30 : (.code yX7_upper cX7_upper 1 (some .long) : Cond) ∈ lw_tbl := tL0_in _ (List.mem_of_getElem? (i := 30) rfl)
theorem kl_31 : (.methodLink RL 85 yX7_upper : Cond) ∈ lw_tbl := tL0_in _ (List.mem_of_getElem? (i := 31) rfl)
theorem kl_32 : (.instanceMethod yX7_upper : Cond) ∈ lw_tbl := tL0_in _ (List.mem_of_getElem? (i := 32) rfl)
theorem kl_33 : (.selects RX7 yX7_upper yX7_upper : Cond) ∈ lw_tbl := tL0_in _ (List.mem_of_getElem? (i := 33) rfl)
theorem kl_34 : (.classLink RL 7 RX6 : Cond) ∈ lw_tbl := tL0_in _ (List.mem_of_getElem? (i := 34) rfl)
theorem kl_35 : (.instantiable RX6 7 : Cond) ∈ lw_tbl := tL0_in _ (List.mem_of_getElem? (i := 35) rfl)
theorem kl_36 : (.classLink RL 10 RX7 : Cond) ∈ lw_tbl := tL0_in _ (List.mem_of_getElem? (i := 36) rfl)
theorem kl_37 : (.instantiable RX7 12 : Cond) ∈ lw_tbl := tL0_in _ (List.mem_of_getElem? (i := 37) rfl)
theorem kl_38 : (.methodLink RL 9 yX6_init : Cond) ∈ lw_tbl := tL0_in _ (List.mem_of_getElem? (i := 38) rfl)
theorem kl_39 : (.methodLink RL 12 yX7_init : Cond) ∈ lw_tbl := tL0_in _ (List.mem_of_getElem? (i := 39) rfl)
theorem kl_40 : (.instanceMethod yX6_init : Cond) ∈ lw_tbl := tL1_in _ (List.mem_of_getElem? (i := 0) rfl)
theorem kl_41 : (.instanceMethod yX7_init : Cond) ∈ lw_tbl := tL1_in _ (List.mem_of_getElem? (i := 1) rfl)
theorem kl_42 : (.code yX6_init cX6_init 1 none : Cond) ∈ lw_tbl := tL1_in _ (List.mem_of_getElem? (i := 2) rfl)
theorem kl_43 : (.code yX7_init cX7_init 1 none : Cond) ∈ lw_tbl := tL1_in _ (List.mem_of_getElem? (i := 3) rfl)
/-- both worlds, told alike -/
def LI (D : va_G) (tI tL tII tLL : ClassId) (adC adM : Nat → Nat) (H : Heap) : Prop := ∃ (n : Nat) (Wt : Nat → Nat → Nat) (Rw : Nat → Int) (cnt : Int32) (w : Nat → Nat → Int32) (tot : Nat → Int32) (rew : Nat → Int32) (grp : Nat → Int32) (fin : Nat → Int32) (gns : Nat → Int64) (rst : Nat → Int32) (rws : Nat → Nat → Int64) (last : Int32) (now : Nat → Int64) (nxt : Nat → Int64) (whl : Int64) (au : Int64) (al : Int64) (mu : Int64) (ml : Int64) (thr : Int32) (sts : Int32) (wgt : Nat → Int32) (rwd : Nat → Int32) (cel : Nat → Int64) (rig : Nat → Int64) (sum : Nat → Int64) (gp : Nat → Int32) (bst : Nat → Int32) (few : Int32), va_P D vwCl ((wC adC tI tL tII tLL cnt w tot rew grp fin gns rst rws last now nxt whl au al mu ml) ++ (wM adM tI tL tII tLL thr sts wgt rwd au al cel rig sum gp bst few)) H ∧ Rel n Wt Rw cnt w tot rew sts wgt rwd
theorem lg_cmp_self (x : Int64) : lg_cmp x x = 0 := by unfold lg_cmp; rw [if_neg (Int64.lt_irrefl), if_pos rfl]
section LC
variable {p : Program} {e : Env} {s : State} {m : MethodId} {below : List Frame} {meth : Method} {c : Code} {b L : Nat} {xs : Nat → Int32} {Q : State → Prop} {ls : Array Slot} {dC : Nat → ClassId} {dI : Nat → Nat → Nat} {tI tL tII tLL : ClassId} {adC adM : Nat → Nat} {x : Int32} {H : Heap} {locs : List Loc}
set_option maxHeartbeats 4000000 in
set_option maxRecDepth 100000 in
theorem law_clear (l : Launch) (C0 : lw_At p s m meth c b L xs) (hin : ∀ k : Nat, k < 4 → vp_in (x + nI k) L) (hK : va_K (dC, dI) vwCl (tysA tI tL tII tLL) s) (hN : NW s) (hI : LI (dC, dI) tI tL tII tLL adC adM H) (hD : va_D (fun q : Nat => s.heap.size ≤ q) (wC0 adC tI tL tII tLL ++ wM0 adM tI tL tII tLL)) (hS : va_S (fun q : Nat => s.heap.size ≤ q) s.heap H locs) (hl : lv_has ls 4 [(0, .ref b), (1, .ref (adC 0)), (2, .ref (adM 0)), (3, .int x)]) (kk : ∀ (H : Heap) (locs : List Loc), LI (dC, dI) tI tL tII tLL adC adM H → va_S (fun q : Nat => s.heap.size ≤ q) s.heap H locs → W p l e room_1 s m #[Value.ref b] below meth c H locs 41 487 Q (F0 m 631 ls [])) : W p l e room_1 s m #[Value.ref b] below meth c H locs 41 487 Q (F0 m 124 ls []) := by
  obtain ⟨hx, hb, hr, hml, hown, hts, hX, hbl, hlocks, hgv⟩ := C0
  have hbA : ¬ (fun q : Nat => s.heap.size ≤ q) b := Nat.not_le.mpr hbl
  have hown : s.vm.findClass RL = some m.cls := hown
  obtain ⟨n, Wt, Rw, cnt, w, tot, rew, grp, fin, gns, rst, rws, last, now, nxt, whl, au, al, mu, ml, thr, sts, wgt, rwd, cel, rig, sum, gp, bst, few, hP, hR⟩ := hI
  have hD : va_D (fun q : Nat => s.heap.size ≤ q) ((wC adC tI tL tII tLL cnt w tot rew grp fin gns rst rws last now nxt whl au al mu ml) ++ (wM adM tI tL tII tLL thr sts wgt rwd au al cel rig sum gp bst few)) := hD.same rfl
  obtain ⟨cnt', w', tot', rew', au', al', sts', wgt', rwd', n', Wt', Rw', e1, e2, hR'⟩ := e_clear w tot rew wgt rwd
  refine lv_aload_n hx hb dL_law_124 rfl (lv_at hl 1 rfl) ?_
  refine rw_callL (va_runV (As := []) (rest := []) ⟨hx, hb, hml, hown, hts⟩ (c_CS_clear l dC dI adC tI tL tII tLL cnt w tot rew grp fin gns rst rws last now nxt whl au al mu ml  cnt' w' tot' rew' au' al' e1.symm) ⟨callB_of 0 hts (goodL kl_0 (by decide +kernel)) rfl rfl rfl (hts _ kl_1) (hts _ kl_2) (by decide +kernel) ⟨Nat.le_of_ble_eq_true rfl, Nat.le_of_ble_eq_true rfl⟩, (hts _ kl_3), (hts _ kl_4)⟩ (pre_vw hK hN hP.l hD.l (q0 := 0) (ci := 6) rfl rfl) rfl rfl hl.1 rfl (lv_room (Nat.le_of_ble_eq_true rfl)) dL_law_125 ⟨Nat.le_of_ble_eq_true rfl, Nat.le_of_ble_eq_true rfl⟩) hP hD hS rfl (fun H locs hP hD hS => ?_)
  refine W.eq (g2 := F0 m 128 ls []) rfl ?_
  refine lv_aload_n hx hb dL_law_128 rfl (lv_at hl 2 rfl) ?_
  refine rw_callR (va_runV (As := []) (rest := []) ⟨hx, hb, hml, hown, hts⟩ (c_M_clear l dC dI adM tI tL tII tLL thr sts wgt rwd au al cel rig sum gp bst few  0 sts' wgt' rwd' au' al' e2.symm) ⟨callB_of 0 hts (goodL kl_5 (by decide +kernel)) rfl rfl rfl (hts _ kl_6) (hts _ kl_7) (by decide +kernel) ⟨Nat.le_of_ble_eq_true rfl, Nat.le_of_ble_eq_true rfl⟩, (hts _ kl_8), (hts _ kl_9)⟩ (pre_vw hK hN hP.r hD.r (q0 := 0) (ci := 7) rfl rfl) rfl rfl hl.1 rfl (lv_room (Nat.le_of_ble_eq_true rfl)) dL_law_129 ⟨Nat.le_of_ble_eq_true rfl, Nat.le_of_ble_eq_true rfl⟩) hP hD hS rfl (fun H locs hP hD hS => ?_)
  refine W.eq (g2 := F0 m 132 ls []) rfl ?_
  refine lv_goto (tgt := 631) hx hb dL_law_132 (by decide) ?_
  exact kk H locs ⟨n', Wt', Rw', cnt', w', tot', rew', grp, fin, gns, rst, rws, last, now, nxt, whl, au', al', mu, ml, 0, sts', wgt', rwd', cel, rig, sum, gp, bst, few, hP, hR'⟩ hS
set_option maxHeartbeats 4000000 in
set_option maxRecDepth 100000 in
theorem law_state (l : Launch) (C0 : lw_At p s m meth c b L xs) (hin : ∀ k : Nat, k < 4 → vp_in (x + nI k) L) (hK : va_K (dC, dI) vwCl (tysA tI tL tII tLL) s) (hN : NW s) (hI : LI (dC, dI) tI tL tII tLL adC adM H) (hD : va_D (fun q : Nat => s.heap.size ≤ q) (wC0 adC tI tL tII tLL ++ wM0 adM tI tL tII tLL)) (hS : va_S (fun q : Nat => s.heap.size ≤ q) s.heap H locs) (hl : lv_has ls 4 [(0, .ref b), (1, .ref (adC 0)), (2, .ref (adM 0)), (3, .int x)]) (kk : ∀ (H : Heap) (locs : List Loc), LI (dC, dI) tI tL tII tLL adC adM H → va_S (fun q : Nat => s.heap.size ≤ q) s.heap H locs → W p l e room_1 s m #[Value.ref b] below meth c H locs 41 487 Q (F0 m 631 ls [])) : W p l e room_1 s m #[Value.ref b] below meth c H locs 41 487 Q (F0 m 135 ls []) := by
  obtain ⟨hx, hb, hr, hml, hown, hts, hX, hbl, hlocks, hgv⟩ := C0
  have hbA : ¬ (fun q : Nat => s.heap.size ≤ q) b := Nat.not_le.mpr hbl
  have hown : s.vm.findClass RL = some m.cls := hown
  obtain ⟨n, Wt, Rw, cnt, w, tot, rew, grp, fin, gns, rst, rws, last, now, nxt, whl, au, al, mu, ml, thr, sts, wgt, rwd, cel, rig, sum, gp, bst, few, hP, hR⟩ := hI
  have hD : va_D (fun q : Nat => s.heap.size ≤ q) ((wC adC tI tL tII tLL cnt w tot rew grp fin gns rst rws last now nxt whl au al mu ml) ++ (wM adM tI tL tII tLL thr sts wgt rwd au al cel rig sum gp bst few)) := hD.same rfl
  obtain ⟨r, cnt', sts', n', e1, e2, hR'⟩ := e_state hR
  refine lv_aload_n hx hb dL_law_135 rfl (lv_at hl 1 rfl) ?_
  refine rw_callL (va_runV (As := []) (rest := []) ⟨hx, hb, hml, hown, hts⟩ (c_CS_state l dC dI adC tI tL tII tLL cnt w tot rew grp fin gns rst rws last now nxt whl au al mu ml  r cnt' e1.symm) ⟨callB_of 0 hts (goodL kl_10 (by decide +kernel)) rfl rfl rfl (hts _ kl_1) (hts _ kl_11) (by decide +kernel) ⟨Nat.le_of_ble_eq_true rfl, Nat.le_of_ble_eq_true rfl⟩, (hts _ kl_12), (hts _ kl_13)⟩ (pre_vw hK hN hP.l hD.l (q0 := 0) (ci := 6) rfl rfl) rfl rfl hl.1 rfl (lv_room (Nat.le_of_ble_eq_true rfl)) dL_law_136 ⟨Nat.le_of_ble_eq_true rfl, Nat.le_of_ble_eq_true rfl⟩) hP hD hS rfl (fun H locs hP hD hS => ?_)
  refine W.eq (g2 := F0 m 139 ls [.int r]) rfl ?_
  refine lv_aload_n hx hb dL_law_139 rfl (lv_at hl 2 rfl) ?_
  refine rw_callR (va_runV (As := []) (rest := [.int r]) ⟨hx, hb, hml, hown, hts⟩ (c_M_state l dC dI adM tI tL tII tLL thr sts wgt rwd au al cel rig sum gp bst few  r 0 sts' e2.symm) ⟨callB_of 0 hts (goodL kl_14 (by decide +kernel)) rfl rfl rfl (hts _ kl_6) (hts _ kl_15) (by decide +kernel) ⟨Nat.le_of_ble_eq_true rfl, Nat.le_of_ble_eq_true rfl⟩, (hts _ kl_16), (hts _ kl_17)⟩ (pre_vw hK hN hP.r hD.r (q0 := 0) (ci := 7) rfl rfl) rfl rfl hl.1 rfl (lv_room (Nat.le_of_ble_eq_true rfl)) dL_law_140 ⟨Nat.le_of_ble_eq_true rfl, Nat.le_of_ble_eq_true rfl⟩) hP hD hS rfl (fun H locs hP hD hS => ?_)
  refine W.eq (g2 := F0 m 143 ls [.int r, .int r]) rfl ?_
  refine lv_icmp_eq (tgt := 631) hx hb dL_law_143 (by decide) (fun c1 => ?_) (fun c1 => absurd rfl c1)
  exact kk H locs ⟨n', Wt, Rw, cnt', w, tot, rew, grp, fin, gns, rst, rws, last, now, nxt, whl, au, al, mu, ml, 0, sts', wgt, rwd, cel, rig, sum, gp, bst, few, hP, hR'⟩ hS
set_option maxHeartbeats 4000000 in
set_option maxRecDepth 100000 in
theorem law_part (l : Launch) (C0 : lw_At p s m meth c b L xs) (hin : ∀ k : Nat, k < 4 → vp_in (x + nI k) L) (hK : va_K (dC, dI) vwCl (tysA tI tL tII tLL) s) (hN : NW s) (hI : LI (dC, dI) tI tL tII tLL adC adM H) (hD : va_D (fun q : Nat => s.heap.size ≤ q) (wC0 adC tI tL tII tLL ++ wM0 adM tI tL tII tLL)) (hS : va_S (fun q : Nat => s.heap.size ≤ q) s.heap H locs) (hl : lv_has ls 4 [(0, .ref b), (1, .ref (adC 0)), (2, .ref (adM 0)), (3, .int x)]) (kk : ∀ (H : Heap) (locs : List Loc), LI (dC, dI) tI tL tII tLL adC adM H → va_S (fun q : Nat => s.heap.size ≤ q) s.heap H locs → W p l e room_1 s m #[Value.ref b] below meth c H locs 41 487 Q (F0 m 631 ls [])) : W p l e room_1 s m #[Value.ref b] below meth c H locs 41 487 Q (F0 m 224 ls []) := by
  obtain ⟨hx, hb, hr, hml, hown, hts, hX, hbl, hlocks, hgv⟩ := C0
  have hbA : ¬ (fun q : Nat => s.heap.size ≤ q) b := Nat.not_le.mpr hbl
  have hown : s.vm.findClass RL = some m.cls := hown
  obtain ⟨n, Wt, Rw, cnt, w, tot, rew, grp, fin, gns, rst, rws, last, now, nxt, whl, au, al, mu, ml, thr, sts, wgt, rwd, cel, rig, sum, gp, bst, few, hP, hR⟩ := hI
  have hD : va_D (fun q : Nat => s.heap.size ≤ q) ((wC adC tI tL tII tLL cnt w tot rew grp fin gns rst rws last now nxt whl au al mu ml) ++ (wM adM tI tL tII tLL thr sts wgt rwd au al cel rig sum gp bst few)) := hD.same rfl
  obtain ⟨r, e1, e2⟩ := e_part hR.1 hR.2.1 (xs (x + nI 1).toNatClampNeg)
  refine lv_aload_n hx hb dL_law_224 rfl (lv_at hl 1 rfl) ?_
  refine lv_aload_n hx hb dL_law_225 rfl (lv_at hl 0 rfl) ?_
  refine lv_iload_n hx hb dL_law_226 rfl (lv_at hl 3 rfl) ?_
  refine lv_iconst (v := 1) hx hb dL_law_227 (by decide) ?_
  refine lv_iadd hx hb dL_law_228 ?_
  refine va_sld hx hb hX hbl hbA hS (hin 1 (by omega)) dL_law_229 ?_
  refine ro_calli (va_runV (As := [.int (xs (x + nI 1).toNatClampNeg)]) (rest := []) ⟨hx, hb, hml, hown, hts⟩ (c_CS_part l dC dI adC tI tL tII tLL cnt w tot rew grp fin gns rst rws last now nxt whl au al mu ml (xs (x + nI 1).toNatClampNeg) r e1.symm) ⟨callB_of 1 hts (goodL kl_18 (by decide +kernel)) rfl rfl rfl (hts _ kl_1) (hts _ kl_19) (by decide +kernel) ⟨Nat.le_of_ble_eq_true rfl, Nat.le_of_ble_eq_true rfl⟩, (hts _ kl_20), (hts _ kl_21)⟩ (pre_v hK hN hP.l (q0 := 0) (ci := 6) rfl rfl) rfl rfl hl.1 rfl (lv_room (Nat.le_of_ble_eq_true rfl)) dL_law_230 ⟨Nat.le_of_ble_eq_true rfl, Nat.le_of_ble_eq_true rfl⟩) ?_
  refine W.eq (g2 := F0 m 233 ls [.int r]) rfl ?_
  refine lv_aload_n hx hb dL_law_233 rfl (lv_at hl 2 rfl) ?_
  refine lv_aload_n hx hb dL_law_234 rfl (lv_at hl 0 rfl) ?_
  refine lv_iload_n hx hb dL_law_235 rfl (lv_at hl 3 rfl) ?_
  refine lv_iconst (v := 1) hx hb dL_law_236 (by decide) ?_
  refine lv_iadd hx hb dL_law_237 ?_
  refine va_sld hx hb hX hbl hbA hS (hin 1 (by omega)) dL_law_238 ?_
  refine rw_callR (va_runV (As := [.int (xs (x + nI 1).toNatClampNeg)]) (rest := [.int r]) ⟨hx, hb, hml, hown, hts⟩ (c_M_part l dC dI adM tI tL tII tLL thr sts wgt rwd au al cel rig sum gp bst few (xs (x + nI 1).toNatClampNeg) r 0 e2.symm) ⟨callB_of 1 hts (goodL kl_22 (by decide +kernel)) rfl rfl rfl (hts _ kl_6) (hts _ kl_23) (by decide +kernel) ⟨Nat.le_of_ble_eq_true rfl, Nat.le_of_ble_eq_true rfl⟩, (hts _ kl_24), (hts _ kl_25)⟩ (pre_vw hK hN hP.r hD.r (q0 := 0) (ci := 7) rfl rfl) rfl rfl hl.1 rfl (lv_room (Nat.le_of_ble_eq_true rfl)) dL_law_239 ⟨Nat.le_of_ble_eq_true rfl, Nat.le_of_ble_eq_true rfl⟩) hP hD hS rfl (fun H locs hP hD hS => ?_)
  refine W.eq (g2 := F0 m 242 ls [.int r, .int r]) rfl ?_
  refine lv_icmp_eq (tgt := 631) hx hb dL_law_242 (by decide) (fun c1 => ?_) (fun c1 => absurd rfl c1)
  exact kk H locs ⟨n, Wt, Rw, cnt, w, tot, rew, grp, fin, gns, rst, rws, last, now, nxt, whl, au, al, mu, ml, 0, sts, wgt, rwd, cel, rig, sum, gp, bst, few, hP, hR⟩ hS
set_option maxHeartbeats 4000000 in
set_option maxRecDepth 100000 in
theorem law_upper (l : Launch) (C0 : lw_At p s m meth c b L xs) (hin : ∀ k : Nat, k < 4 → vp_in (x + nI k) L) (hK : va_K (dC, dI) vwCl (tysA tI tL tII tLL) s) (hN : NW s) (hI : LI (dC, dI) tI tL tII tLL adC adM H) (hD : va_D (fun q : Nat => s.heap.size ≤ q) (wC0 adC tI tL tII tLL ++ wM0 adM tI tL tII tLL)) (hS : va_S (fun q : Nat => s.heap.size ≤ q) s.heap H locs) (hl : lv_has ls 4 [(0, .ref b), (1, .ref (adC 0)), (2, .ref (adM 0)), (3, .int x)]) (kk : ∀ (H : Heap) (locs : List Loc), LI (dC, dI) tI tL tII tLL adC adM H → va_S (fun q : Nat => s.heap.size ≤ q) s.heap H locs → W p l e room_1 s m #[Value.ref b] below meth c H locs 41 487 Q (F0 m 631 ls [])) : W p l e room_1 s m #[Value.ref b] below meth c H locs 41 487 Q (F0 m 580 ls []) := by
  obtain ⟨hx, hb, hr, hml, hown, hts, hX, hbl, hlocks, hgv⟩ := C0
  have hbA : ¬ (fun q : Nat => s.heap.size ≤ q) b := Nat.not_le.mpr hbl
  have hown : s.vm.findClass RL = some m.cls := hown
  obtain ⟨n, Wt, Rw, cnt, w, tot, rew, grp, fin, gns, rst, rws, last, now, nxt, whl, au, al, mu, ml, thr, sts, wgt, rwd, cel, rig, sum, gp, bst, few, hP, hR⟩ := hI
  have hD : va_D (fun q : Nat => s.heap.size ≤ q) ((wC adC tI tL tII tLL cnt w tot rew grp fin gns rst rws last now nxt whl au al mu ml) ++ (wM adM tI tL tII tLL thr sts wgt rwd au al cel rig sum gp bst few)) := hD.same rfl
  refine lv_aload_n hx hb dL_law_580 rfl (lv_at hl 1 rfl) ?_
  refine ro_calll (va_runV (As := []) (rest := []) ⟨hx, hb, hml, hown, hts⟩ (c_CS_upper l dC dI adC tI tL tII tLL cnt w tot rew grp fin gns rst rws last now nxt whl au al mu ml  au rfl) ⟨callB_of 0 hts (goodL kl_26 (by decide +kernel)) rfl rfl rfl (hts _ kl_1) (hts _ kl_27) (by decide +kernel) ⟨Nat.le_of_ble_eq_true rfl, Nat.le_of_ble_eq_true rfl⟩, (hts _ kl_28), (hts _ kl_29)⟩ (pre_v hK hN hP.l (q0 := 0) (ci := 6) rfl rfl) rfl rfl hl.1 rfl (lv_room (Nat.le_of_ble_eq_true rfl)) dL_law_581 ⟨Nat.le_of_ble_eq_true rfl, Nat.le_of_ble_eq_true rfl⟩) ?_
  refine W.eq (g2 := F0 m 584 ls [.long au]) rfl ?_
  refine lv_aload_n hx hb dL_law_584 rfl (lv_at hl 2 rfl) ?_
  refine rw_callR (va_runV (As := []) (rest := [.long au]) ⟨hx, hb, hml, hown, hts⟩ (c_M_upper l dC dI adM tI tL tII tLL thr sts wgt rwd au al cel rig sum gp bst few  au 0 rfl) ⟨callB_of 0 hts (goodL kl_30 (by decide +kernel)) rfl rfl rfl (hts _ kl_6) (hts _ kl_31) (by decide +kernel) ⟨Nat.le_of_ble_eq_true rfl, Nat.le_of_ble_eq_true rfl⟩, (hts _ kl_32), (hts _ kl_33)⟩ (pre_vw hK hN hP.r hD.r (q0 := 0) (ci := 7) rfl rfl) rfl rfl hl.1 rfl (lv_room (Nat.le_of_ble_eq_true rfl)) dL_law_585 ⟨Nat.le_of_ble_eq_true rfl, Nat.le_of_ble_eq_true rfl⟩) hP hD hS rfl (fun H locs hP hD hS => ?_)
  refine W.eq (g2 := F0 m 588 ls [.long au, .long au]) rfl ?_
  refine lv_lcmp hx hb dL_law_588 ?_
  refine lv_if_eq (tgt := 631) hx hb dL_law_589 (by decide) (fun c1 => ?_) (fun c1 => absurd (lg_cmp_self _) c1)
  exact kk H locs ⟨n, Wt, Rw, cnt, w, tot, rew, grp, fin, gns, rst, rws, last, now, nxt, whl, au, al, mu, ml, 0, sts, wgt, rwd, cel, rig, sum, gp, bst, few, hP, hR⟩ hS
end LC
