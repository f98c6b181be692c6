/-! SPF: the reference's determinants solve its system -/
theorem dt_lap_congr {α : Type} {g g' : α → Int} {F F' : List α → Int} (L : List α) : ∀ pre : List α, (∀ c ∈ L, g c = g' c) → (∀ l, l.Sublist (pre ++ L) → F l = F' l) → dt_lap g F pre L = dt_lap g' F' pre L := by
  induction L with
  | nil => intro pre _ _; rfl
  | cons c cs ih =>
    intro pre h1 h2
    simp only [dt_lap]
    rw [h1 c List.mem_cons_self, h2 (pre ++ cs) (List.Sublist.append (List.Sublist.refl pre) (List.sublist_cons_self c cs)), ih (pre ++ [c]) (fun c' hc' => h1 c' (List.mem_cons_of_mem _ hc')) (fun l hl => h2 l (by simpa using hl))]
theorem dt_D_congr {A A' : Nat → Nat → Int} {N : Nat} : ∀ p, p ≤ N → ∀ L : List Nat, (∀ s, s < N → ∀ k ∈ L, A s k = A' s k) → dt_D (mm_V A p) L = dt_D (mm_V A' p) L := by
  intro p
  induction p with
  | zero => intro _ L _; rfl
  | succ p ih =>
    intro hp L h
    show dt_lap (A p) (dt_D (mm_V A p)) [] L = dt_lap (A' p) (dt_D (mm_V A' p)) [] L
    exact dt_lap_congr L [] (fun c hc => h p (by omega) c hc) (fun l hl => ih (by omega) l (fun s hs k hk => h s hs k ((by simpa using hl : l.Sublist L).subset hk)))
theorem mm_I_mem : ∀ p k, k ∈ mm_I p ↔ k < p := by
  intro p
  induction p with
  | zero => intro k; simp [mm_I]
  | succ p ih => intro k; simp only [mm_I, List.mem_cons, ih]; omega
theorem mm_I_nodup : ∀ p, (mm_I p).Nodup := by
  intro p
  induction p with
  | zero => exact List.nodup_nil
  | succ p ih =>
    refine List.nodup_cons.mpr ⟨fun h => ?_, ih⟩
    have := (mm_I_mem p p).mp h
    omega
theorem mm_V_map (A : Nat → Nat → Int) (σ : Nat → Nat) : ∀ p, (mm_V A p).map (fun r k => r (σ k)) = mm_V (fun s k => A s (σ k)) p := by
  intro p
  induction p with
  | zero => rfl
  | succ p ih => simp only [mm_V, List.map_cons]; rw [ih]
def md_A (n : Nat) (W : Nat → Nat → Nat) (o : Nat → Bool) (v : Nat → Int) (s t : Nat) : Int := if t = 100 then mm_T (md_B n W o s) 0 n else if t = 50 then v s else md_B n W o s t
def md_D (n : Nat) (W : Nat → Nat → Nat) (o : Nat → Bool) (v : Nat → Int) : Int := mm_q (md_A n W o v) n
def md_N (n : Nat) (W : Nat → Nat → Nat) (o : Nat → Bool) (v : Nat → Int) (c : Nat) : Int := dt_D (mm_V (md_A n W o v) n) ((mm_I n).map (dt_at c 50))
section
variable {n : Nat} {W : Nat → Nat → Nat} {o : Nat → Bool} {v : Nat → Int}
theorem md_AB {s t : Nat} (ht : t < 50) : md_A n W o v s t = md_B n W o s t := by
  unfold md_A; rw [if_neg (by omega), if_neg (by omega)]
theorem md_place (hn : n ≤ 7) (c : Nat) : dt_D (mm_V (fun s t => if t = c then v s else md_B n W o s t) n) (mm_I n) = md_N n W o v c := by
  unfold md_N
  rw [← dt_D_map, mm_V_map]
  refine dt_D_congr n (Nat.le_refl n) (mm_I n) (fun s hs k hk => ?_)
  have hk := (mm_I_mem n k).mp hk
  unfold dt_at
  by_cases e : k = c
  · rw [if_pos e, if_pos e]; unfold md_A; rw [if_neg (by omega), if_pos rfl]
  · rw [if_neg e, if_neg e, md_AB (by omega)]
theorem md_none (hn : n ≤ 7) : dt_D (mm_V (fun s t => if t = 50 then v s else md_B n W o s t) n) (mm_I n) = md_D n W o v := by
  refine dt_D_congr n (Nat.le_refl n) (mm_I n) (fun s hs k hk => ?_)
  have hk := (mm_I_mem n k).mp hk
  rw [if_neg (by omega), md_AB (by omega)]
theorem md_all (hn : n ≤ 7) {cel rig : Nat → Int64} (h : md_ok n W o v n cel rig) (sum : Nat → Int64) {c : Nat} (hc : c < n) : ∃ sum', f_M_all (nI n) cel rig sum (nI c) = some (lI (md_N n W o v c), sum') := by
  have := s_all hn (B := md_B n W o) (b := v) (fun s t hs ht => (h s hs).1 t ht) (fun s hs => (h s hs).2) (pl := nI c) (c := c) (fun t ht => nI_eq (by omega) (by omega)) sum
  rw [md_place hn] at this
  exact this
theorem md_allN (hn : n ≤ 7) {cel rig : Nat → Int64} (h : md_ok n W o v n cel rig) (sum : Nat → Int64) : ∃ sum', f_M_all (nI n) cel rig sum (-1) = some (lI (md_D n W o v), sum') := by
  have := s_all hn (B := md_B n W o) (b := v) (fun s t hs ht => (h s hs).1 t ht) (fun s hs => (h s hs).2) (pl := -1) (c := 50) (fun t ht => ⟨fun z => by
    have h1 : ¬ nI t < 0 := nI_pos (by omega)
    rw [z] at h1
    exact absurd (by decide) h1, fun z => by omega⟩) sum
  rw [md_none hn] at this
  exact this
theorem md_eq {s : Nat} (hs : s < n) : mm_T (fun t => md_N n W o v t * md_A n W o v s t) 0 n = md_D n W o v * v s := by
  have hm : md_A n W o v s ∈ mm_V (md_A n W o v) n := by
    have : ∀ p, s < p → md_A n W o v s ∈ mm_V (md_A n W o v) p := by
      intro p
      induction p with
      | zero => intro h; omega
      | succ p ih =>
        intro h
        by_cases e : s = p
        · subst e; exact List.mem_cons_self
        · exact List.mem_cons_of_mem _ (ih (by omega))
    exact this n hs
  have h := dt_sol (mm_V (md_A n W o v) n) (mm_I n) (mm_I_nodup n) 50 _ hm
  rw [dt_S_I] at h
  have e : md_A n W o v s 50 = v s := by unfold md_A; rw [if_neg (by decide), if_pos rfl]
  rw [e] at h
  exact h
theorem md_Bsum (h7 : n ≤ 7) {s : Nat} (hs : s < n) : mm_T (md_B n W o s) 0 n = if o s = true then 0 else 1 := by
  by_cases h : o s = true
  · rw [if_pos h]
    have e1 : mm_T (md_B n W o s) 0 n = mm_T (fun t => (if t = s then (ch_T W s n : Int) else 0) + -(W s t : Int)) 0 n := mm_T_congr _ 0 (fun k _ _ => by unfold md_B; rw [if_pos h]; rfl)
    rw [e1, mm_T_add, mm_T_one s _ n 0 (Nat.zero_le _) (by omega)]
    have e2 := mm_T_nat (W s) n
    have e3 := mm_T_comb (fun t => (W s t : Int)) (fun _ => 0) (fun t => -(W s t : Int)) 1 (-1) 0 (fun k => by omega) n 0
    rw [ch_al_W n] at e2
    omega
  · rw [if_neg h]
    have e1 : mm_T (md_B n W o s) 0 n = mm_T (fun t => if t = s then 1 else 0) 0 n := mm_T_congr _ 0 (fun k _ _ => by unfold md_B; rw [if_neg h])
    rw [e1, mm_T_one s _ n 0 (Nat.zero_le _) (by omega)]
theorem md_mm (hW : okW n W) (hout : ∀ k, k < n → o k = true → ∃ j, ¬ (o j = true) ∧ ch_R (ch_E n W) (fun _ => False) k j) : ∃ ρ, mm_ok (md_A n W o v) n 100 ρ 12 0 := by
  have h7 := hW.1
  have e100 : ∀ s, md_A n W o v s 100 = mm_T (md_B n W o s) 0 n := fun s => by unfold md_A; rw [if_pos rfl]
  refine ⟨ch_rho (ch_E n W) (fun i => o i = true), mm_start ?_ ?_ ?_ ?_ ?_⟩
  · intro i j hi hj hij
    rw [md_AB (by omega)]
    unfold md_B
    split
    · omega
    · omega
  · intro i hi
    rw [e100, md_Bsum h7 hi]
    split <;> omega
  · intro i hi
    rw [e100]
    exact mm_T_congr _ 0 (fun k _ hk => (md_AB (by omega)).symm)
  · intro i hi
    by_cases h : o i = true
    · right
      obtain ⟨m, hE, hrho, -⟩ := ch_rho_next (E := ch_E n W) (o := fun i => o i = true) h (hout i hi h)
      have hmi : m ≠ i := fun z => by rw [z] at hrho; omega
      rcases E_mE hE with q | q
      · exact absurd q.symm hmi
      · refine ⟨m, q.2.1, hmi, ?_, hrho⟩
        rw [md_AB (by have := q.2.1; omega)]
        unfold md_B
        rw [if_pos h, if_neg hmi]
        have := q.2.2
        omega
    · left
      rw [e100, md_Bsum h7 hi, if_neg h]; decide
  · intro i hi
    rw [md_AB (by omega)]
    unfold md_B
    have := hW.2.2.1 i
    split
    · rw [if_pos rfl]; omega
    · rw [if_pos rfl]; decide
theorem md_pos (hW : okW n W) (hout : ∀ k, k < n → o k = true → ∃ j, ¬ (o j = true) ∧ ch_R (ch_E n W) (fun _ => False) k j) : 0 < md_D n W o v ∧ (md_D n W o v).natAbs ≤ 35831808 := by
  obtain ⟨ρ, h⟩ := md_mm (v := v) hW hout
  have h1 := (mm_all h n (Nat.le_refl n)).1
  have h2 := mm_qB h (by decide) n (Nat.le_refl n)
  have h3 := pw12 n hW.1
  unfold md_D
  omega
theorem md_L1 (hW : okW n W) {s : Nat} (hs : s < n) : mm_L1 (md_A n W o v s) (mm_I n) ≤ 24 := by
  have h7 := hW.1
  have h12 := hW.2.2.1 s
  have h1 := mm_L1_I (md_A n W o v s) (W s) (if o s = true then ch_T W s n else 1) s n (fun c hc => by
    rw [md_AB (by omega)]
    unfold md_B
    by_cases ho : o s = true
    · rw [if_pos ho, if_pos ho]
      split <;> omega
    · rw [if_neg ho, if_neg ho]
      split <;> omega)
  rw [ch_al_W n] at h1
  have h2 : (if s < n then (if o s = true then ch_T W s n else 1) else 0) ≤ 12 := by
    rw [if_pos hs]; split <;> omega
  omega
theorem md_Nsm (hW : okW n W) (hv : ∀ s, s < n → (v s).natAbs ≤ 1200) {c : Nat} (hc : c < n) : (md_N n W o v c).natAbs ≤ 38526359961600 := by
  have h7 := hW.1
  obtain ⟨p, q, e⟩ := List.append_of_mem ((mm_I_mem n c).mpr hc)
  have hnd := mm_I_nodup n
  rw [e] at hnd
  have h3 := List.nodup_append.mp hnd
  have h4 : c ∉ p := fun z => h3.2.2 c z c List.mem_cons_self rfl
  have h5 : c ∉ q := (List.nodup_cons.mp h3.2.1).1
  have e2 : (mm_I n).map (dt_at c 50) = p ++ 50 :: q := by
    rw [e, List.map_append, List.map_cons, dt_at_map c 50 p h4, dt_at_map c 50 q h5]
    simp [dt_at]
  unfold md_N
  rw [e2]
  have hmv := dt_alt_mv _ (dt_D_alt (mm_V (md_A n W o v) n)) 50 q p []
  simp only [List.nil_append] at hmv
  rw [hmv, Int.natAbs_mul]
  have hsg : (dt_sg p.length).natAbs = 1 := by unfold dt_sg; split <;> rfl
  rw [hsg, Nat.one_mul]
  have hsub : (p ++ q).Sublist (mm_I n) := by
    rw [e]; exact List.Sublist.append (List.Sublist.refl p) (List.sublist_cons_self c q)
  have hb := mm_col_le (mm_V (md_A n W o v) n) 50 (p ++ q) 1200 24 7 (by omega) (fun r hr => by
    obtain ⟨k, hk, rfl⟩ := mm_V_mem _ n r hr
    have e50 : md_A n W o v k 50 = v k := by unfold md_A; rw [if_neg (by decide), if_pos rfl]
    rw [e50]; exact hv k hk) (fun r hr => by
    obtain ⟨k, hk, rfl⟩ := mm_V_mem _ n r hr
    exact Nat.le_trans (mm_L1_sub _ hsub) (md_L1 hW hk)) (by rw [mm_V_len]; exact h7)
  have e7 : 7 * 1200 * 24 ^ 7 = 38526359961600 := by decide +kernel
  rw [e7] at hb
  exact hb
theorem s_solved (hW : okW n W) (hout : ∀ k, k < n → o k = true → ∃ j, ¬ (o j = true) ∧ ch_R (ch_E n W) (fun _ => False) k j) (hv : ∀ s, s < n → (v s).natAbs ≤ 1200) {cel rig : Nat → Int64} (h : md_ok n W o v n cel rig) (sum : Nat → Int64) {a : Nat} (ha : a < n) : ∃ sum', f_M_solved (nI n) cel rig sum (nI a) = some (1, lI (rdU (md_N n W o v a) (md_D n W o v)), lI (rdL (md_N n W o v a) (md_D n W o v)), sum') := by
  have hD := md_pos (v := v) hW hout
  have hN := md_Nsm (o := o) hW hv ha
  unfold f_M_solved
  obtain ⟨sum1, e1⟩ := md_all hW.1 h sum ha
  rw [e1]
  simp only [Option.bind_some]
  obtain ⟨sum2, e2⟩ := md_allN hW.1 h sum1
  rw [e2]
  simp only [Option.bind_some]
  rw [s_answer (by unfold smL; omega) (by unfold smL; omega) (by omega)]
  exact ⟨sum2, rfl⟩
end
