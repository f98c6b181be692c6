/-! SPR: the mean time of return, by minors -/
theorem ls_S_mid (f : Nat → Int) (p q : List Nat) (t : Nat) : ls_S f (p ++ t :: q) = f t + ls_S f (p ++ q) := by
  rw [ls_S_app, ls_S_app]; simp only [ls_S]; omega
theorem ls_S_zero {f : Nat → Int} : ∀ L : List Nat, (∀ k ∈ L, f k = 0) → ls_S f L = 0 := by
  intro L
  induction L with
  | nil => intro _; rfl
  | cons k L ih => intro h; simp only [ls_S]; rw [h k List.mem_cons_self, ih (fun k' hk' => h k' (List.mem_cons_of_mem _ hk'))]; rfl
def re_E (n : Nat) (W : Nat → Nat → Nat) (S : Nat → Bool) (t s c : Nat) : Int := if c = 50 then (if S s = true then (ch_T W s n : Int) else 0) else if c = t then (if s = t then (ch_T W t n : Int) else 0) else md_B n W S s c
section
variable {n : Nat} {W : Nat → Nat → Nat} {S : Nat → Bool} {t : Nat}
theorem re_EA {s c : Nat} (h1 : c ≠ 50) (h2 : c ≠ t) : re_E n W S t s c = md_B n W S s c := by unfold re_E; rw [if_neg h1, if_neg h2]
theorem re_d (h7 : n ≤ 7) (ht : t < n) : dt_D (mm_V (re_E n W S t) n) (mm_I n) = (ch_T W t n : Int) * cof n (md_B n W S) t := by
  obtain ⟨p, q, e, h4, h5, h6⟩ := mm_I_split ht
  have hlt : ∀ c, c ∈ p ++ q → c < n ∧ c ≠ t := fun c hc => by
    rw [← h6] at hc
    have := dr_mem.mp hc
    exact ⟨(mm_I_mem n c).mp this.1, this.2⟩
  unfold cof
  rw [mm_V_I, h6, e, dt_sim, dt_D_col]
  simp only [dt_lap, List.nil_append]
  rw [dt_lap_congr (g' := fun _ => 0) (F' := fun R => dt_D R (p ++ q)) ((p ++ q).map (re_E n W S t)) [re_E n W S t t] (fun r hr => by
    obtain ⟨s, hs, rfl⟩ := List.mem_map.mp hr
    have := hlt s hs
    unfold re_E
    rw [if_neg (by omega), if_pos rfl, if_neg this.2]) (fun _ _ => rfl), dt_lap_g0, dt_D_map2 (re_E n W S t) (md_B n W S) (p ++ q) (p ++ q) (fun s _ c hc => re_EA (by have := (hlt c hc).1; omega) (hlt c hc).2)]
  have e1 : re_E n W S t t t = (ch_T W t n : Int) := by unfold re_E; rw [if_neg (by omega), if_pos rfl, if_pos rfl]
  rw [e1]
  omega
theorem re_X (h7 : n ≤ 7) (ht : t < n) (hSt : S t = true) (hcl : ∀ k, k < n → S k = true → ∀ l, l < n → 0 < W k l → S l = true) : dt_D (mm_V (re_E n W S t) n) ((mm_I n).map (dt_at t 50)) = mm_T (fun k => (if S k = true then (ch_T W k n : Int) else 0) * cof n (md_B n W S) k) 0 n := by
  obtain ⟨p, q, e, h4, h5, h6⟩ := mm_I_split ht
  have hlt : ∀ c, c ∈ p ++ q → c < n ∧ c ≠ t := fun c hc => by
    rw [← h6] at hc
    have := dr_mem.mp hc
    exact ⟨(mm_I_mem n c).mp this.1, this.2⟩
  have hndI := mm_I_nodup n
  have hnd : (p ++ q).Nodup := by
    have h9 := hndI
    rw [e] at h9
    exact List.Pairwise.sublist (List.Sublist.append (List.Sublist.refl p) (List.sublist_cons_self t q)) h9
  have e50 : ∀ s, re_E n W S t s 50 = if S s = true then (ch_T W s n : Int) else 0 := fun s => by unfold re_E; rw [if_pos rfl]
  have em : (mm_I n).map (dt_at t 50) = p ++ 50 :: q := by
    rw [e, List.map_append, List.map_cons, dt_at_map t 50 p h4, dt_at_map t 50 q h5]
    simp [dt_at]
  rw [em, mm_V_I, e, dt_sim, dt_D_col]
  simp only [dt_lap, List.nil_append]
  have hG := dt_lapG (re_E n W S t) t 50 (p ++ q) hnd (p ++ q) [] rfl
  have hsg : dt_sg ([] : List Nat).length = 1 := by simp [dt_sg]
  rw [hsg, Int.one_mul, List.map_nil] at hG
  rw [hG, dt_D_map2 (re_E n W S t) (md_B n W S) (p ++ q) (p ++ q) (fun s _ c hc => re_EA (by have := (hlt c hc).1; omega) (hlt c hc).2)]
  have hrow : ∀ s, s < n → mm_T (fun j => if S j = true then md_B n W S s j else 0) 0 n = 0 := fun s hs => by
    by_cases hSs : S s = true
    · have e1 : mm_T (fun j => if S j = true then md_B n W S s j else 0) 0 n = mm_T (md_B n W S s) 0 n := mm_T_congr _ 0 (fun j _ hj => by
        by_cases hSj : S j = true
        · rw [if_pos hSj]
        · rw [if_neg hSj]
          unfold md_B
          rw [if_pos hSs, if_neg (fun z => hSj (by rw [z]; exact hSs))]
          have : W s j = 0 := by
            refine Nat.eq_zero_of_not_pos (fun z => hSj (hcl s hs hSs j (by omega) z))
          rw [this]; rfl)
      rw [e1, md_Bsum h7 hs, if_pos hSs]
    · have e1 : mm_T (fun j => if S j = true then md_B n W S s j else 0) 0 n = mm_T (fun _ => 0) 0 n := mm_T_congr _ 0 (fun j _ hj => by
        by_cases hSj : S j = true
        · rw [if_pos hSj]
          unfold md_B
          rw [if_neg hSs, if_neg (fun z => hSs (by rw [← z]; exact hSj))]
        · rw [if_neg hSj])
      rw [e1]
      have : ∀ m p, mm_T (fun _ => (0 : Int)) p m = 0 := by
        intro m
        induction m with
        | zero => intro p; rfl
        | succ m ih => intro p; simp only [mm_T]; rw [ih]; rfl
      exact this n 0
  have hk : ∀ k ∈ p ++ q, re_E n W S t k 50 * dt_D (re_E n W S t t :: (dr k (p ++ q)).map (re_E n W S t)) (k :: dr k (p ++ q)) = - ((if S k = true then (ch_T W k n : Int) else 0) * cof n (md_B n W S) k) := fun k hkm => by
    have hkl := hlt k hkm
    rw [e50]
    by_cases hSk : S k = true
    · rw [if_pos hSk]
      have hsub : ∀ c, c ∈ k :: dr k (p ++ q) → c < n ∧ c ≠ t := fun c hc => by
        rcases List.mem_cons.mp hc with z | z
        · rw [z]; exact hkl
        · exact hlt c (dr_mem.mp z).1
      have e1 : dt_D (re_E n W S t t :: (dr k (p ++ q)).map (re_E n W S t)) (k :: dr k (p ++ q)) = dt_D ((t :: dr k (p ++ q)).map (md_B n W S)) (k :: dr k (p ++ q)) := by
        rw [← List.map_cons]
        exact dt_D_map2 _ _ _ _ (fun s _ c hc => re_EA (by have := (hsub c hc).1; omega) (hsub c hc).2)
      -- k's place
      obtain ⟨p1, q1, e2⟩ := List.append_of_mem hkm
      have hnd2 := hnd
      rw [e2] at hnd2
      have h3 := List.nodup_append.mp hnd2
      have k1 : k ∉ p1 := fun z => h3.2.2 k z k List.mem_cons_self rfl
      have k2 : k ∉ q1 := (List.nodup_cons.mp h3.2.1).1
      have e3 : dr k (p ++ q) = p1 ++ q1 := by rw [e2]; exact dr_app k1 k2
      have htwo := dt_two S ((t :: dr k (p ++ q)).map (md_B n W S)) t k (dr k (p ++ q)) hSt hSk (fun z => hkl.2 z.symm) (fun r hr => by
        obtain ⟨s, hs, rfl⟩ := List.mem_map.mp hr
        have hsn : s < n := by
          rcases List.mem_cons.mp hs with z | z
          · rw [z]; exact ht
          · exact (hlt s (dr_mem.mp z).1).1
        rw [dt_S_set]
        have hz := hrow s hsn
        rw [← ls_S_I, e, ls_S_mid, e2, ls_S_mid] at hz
        simp only [ls_S]
        rw [e3]
        exact hz)
      have hcof : cof n (md_B n W S) k = dt_D ((t :: dr k (p ++ q)).map (md_B n W S)) (t :: dr k (p ++ q)) := by
        unfold cof
        have e4 : dr k (mm_I n) = dr k p ++ t :: dr k q := by
          rw [e]
          unfold dr
          rw [List.filter_append, List.filter_cons]
          simp [show t ≠ k from fun z => hkl.2 z.symm]
        have e5 : dr k (p ++ q) = dr k p ++ dr k q := by unfold dr; rw [List.filter_append]
        rw [e4, e5, dt_sim]
        rfl
      rw [e1, hcof, htwo]
      rw [Int.mul_neg, Int.neg_neg]
    · rw [if_neg hSk]; simp
  rw [ls_S_congr _ hk, ls_S_neg, e50, ← ls_S_I, e, ls_S_mid]
  have hct : cof n (md_B n W S) t = dt_D ((p ++ q).map (md_B n W S)) (p ++ q) := by unfold cof; rw [h6]
  rw [hct]
  omega
theorem cof_md (h7 : n ≤ 7) {k : Nat} (hk : k < n) (v : Nat → Int) : md_D n W (fun s => S s && !decide (s = k)) v = cof n (md_B n W S) k := by
  unfold md_D mm_q
  refine cof_unit hk (fun c hc => ?_) (fun s c hs hc hsk hck => ?_)
  · rw [md_AB (by omega)]
    unfold md_B
    rw [if_neg (by simp)]
  · rw [md_AB (by omega)]
    unfold md_B
    by_cases hS : S s = true
    · rw [if_pos hS, if_pos (by simp [hS, hsk])]
    · rw [if_neg hS, if_neg (by simp [hS])]
theorem cof_pos (hW : okW n W) (hcomm : ∀ a b, a < n → b < n → S a = true → S b = true → ch_R (ch_E n W) (fun _ => False) a b) {k : Nat} (hk : k < n) (hSk : S k = true) : 0 < cof n (md_B n W S) k ∧ (cof n (md_B n W S) k).natAbs ≤ 35831808 := by
  have h := md_pos (n := n) (W := W) (o := fun s => S s && !decide (s = k)) (v := fun _ => 0) hW (fun s hs ho => by
    have ho : S s = true ∧ s ≠ k := by simpa using ho
    exact ⟨k, by simp, hcomm s k hs hk ho.1 hSk⟩)
  rw [cof_md hW.1 hk] at h
  exact h
end
