/-! BITS: sets of states as the bits of an int (bt and its rows are of the kit's laws, BITS.to-paste) -/
def bt (x : Int32) (i : Nat) : Bool := x.toBitVec.getLsbD i
theorem b_ext {x y : Int32} (h : ∀ i, i < 32 → bt x i = bt y i) : x = y := Int32.toBitVec_inj.mp (BitVec.eq_of_getLsbD_eq (fun i hi => h i hi))
theorem b_or (x y : Int32) (i : Nat) : bt (x ||| y) i = (bt x i || bt y i) := by unfold bt; rw [Int32.toBitVec_or, BitVec.getLsbD_or]
theorem b_and (x y : Int32) (i : Nat) : bt (x &&& y) i = (bt x i && bt y i) := by unfold bt; rw [Int32.toBitVec_and, BitVec.getLsbD_and]
theorem b_xor (x y : Int32) (i : Nat) : bt (x ^^^ y) i = (bt x i ^^ bt y i) := by unfold bt; rw [Int32.toBitVec_xor, BitVec.getLsbD_xor]
theorem b_big {x : Int32} {i : Nat} (h : 32 ≤ i) : bt x i = false := BitVec.getLsbD_of_ge _ _ h
theorem b_m1 : ∀ i, i < 32 → bt (-1) i = true := by decide +kernel
theorem b_0 (i : Nat) : bt 0 i = false := BitVec.getLsbD_zero
theorem b_1 : ∀ i, i < 32 → bt 1 i = decide (i = 0) := by decide +kernel
theorem s_l : ∀ n, n < 32 → ((nI n &&& 31).toBitVec.smod 32).toNat = n := by decide +kernel
theorem b_shl (n : Nat) (hn : n < 32) (x : Int32) {i : Nat} (hi : i < 32) : bt (x <<< (nI n &&& 31)) i = (decide (n ≤ i) && bt x (i - n)) := by
  unfold bt
  rw [Int32.toBitVec_shiftLeft]
  show (x.toBitVec <<< ((nI n &&& 31).toBitVec.smod 32).toNat).getLsbD i = _
  rw [s_l n hn, BitVec.getLsbD_shiftLeft]
  rcases Nat.lt_or_ge i n with h | h
  · simp [h, Nat.not_le.mpr h]
  · simp [hi, h, Nat.not_lt.mpr h]
theorem b_sshr (n : Nat) (hn : n < 32) (x : Int32) {i : Nat} (hi : i < 32) : bt (x >>> (nI n &&& 31)) i = if n + i < 32 then bt x (n + i) else bt x 31 := by
  unfold bt
  rw [Int32.toBitVec_shiftRight]
  show (x.toBitVec.sshiftRight ((nI n &&& 31).toBitVec.smod 32).toNat).getLsbD i = _
  rw [s_l n hn, BitVec.getLsbD_sshiftRight, BitVec.msb_eq_getLsbD_last]
  simp [hi]
/-- the set of one state -/
theorem b_one (k : Nat) (hk : k < 32) {i : Nat} (hi : i < 32) : bt ((1 : Int32) <<< (nI k &&& 31)) i = decide (i = k) := by
  rw [b_shl k hk 1 hi, b_1 (i - k) (by omega)]
  by_cases h : i = k
  · subst h; simp
  · by_cases h2 : k ≤ i
    · have h3 : ¬ (i - k = 0) := by omega
      simp [h, h2, h3]
    · simp [h, h2]
theorem b_not (x : Int32) {i : Nat} (hi : i < 32) : bt (x ^^^ (-1)) i = !bt x i := by
  rw [b_xor, b_m1 i hi]; simp
theorem b_and1 (y : Int32) : y &&& 1 = if bt y 0 = true then 1 else 0 := by
  apply b_ext
  intro i hi
  rw [b_and, b_1 i hi]
  by_cases h : i = 0
  · subst h
    cases hb : bt y 0
    · simp [b_0]
    · simp [b_1 0 (by omega)]
  · cases hb : bt y 0
    · simp [b_0, h]
    · simp [b_1 i hi, h]
theorem b_bit (x : Int32) (k : Nat) (hk : k < 32) : (x >>> (nI k &&& 31)) &&& 1 = if bt x k = true then 1 else 0 := by
  rw [b_and1, b_sshr k hk x (by omega : 0 < 32)]
  simp [hk]
/-- x is the set of the states i < n with P i -/
def isS (x : Int32) (n : Nat) (P : Nat → Prop) : Prop := ∀ i, i < 32 → (bt x i = true ↔ i < n ∧ P i)
theorem isS_in {x : Int32} {n : Nat} {P : Nat → Prop} (h : isS x n P) {i : Nat} (hi : i < n) (hn : n ≤ 7) : bt x i = true ↔ P i := by
  rw [h i (by omega)]; exact ⟨fun z => z.2, fun z => ⟨hi, z⟩⟩
theorem isS_eq {x y : Int32} {n : Nat} {P Q : Nat → Prop} (hx : isS x n P) (hy : isS y n Q) (h : ∀ i, i < n → (P i ↔ Q i)) : x = y := by
  apply b_ext
  intro i hi
  have h1 := hx i hi
  have h2 := hy i hi
  rw [Bool.eq_iff_iff, h1, h2]
  exact ⟨fun z => ⟨z.1, (h i z.1).mp z.2⟩, fun z => ⟨z.1, (h i z.1).mpr z.2⟩⟩
theorem isS_0 {n : Nat} : isS 0 n (fun _ => False) := fun i _ => by rw [b_0]; simp
theorem isS_one {n k : Nat} (hk : k < n) (hn : n ≤ 7) : isS ((1 : Int32) <<< (nI k &&& 31)) n (fun i => i = k) := fun i hi => by
  rw [b_one k (by omega) hi]
  simp only [decide_eq_true_eq]
  exact ⟨fun h => ⟨by omega, h⟩, fun h => h.2⟩
theorem isS_or {x y : Int32} {n : Nat} {P Q : Nat → Prop} (hx : isS x n P) (hy : isS y n Q) : isS (x ||| y) n (fun i => P i ∨ Q i) := fun i hi => by
  rw [b_or, Bool.or_eq_true, hx i hi, hy i hi]
  constructor
  · rintro (h | h)
    · exact ⟨h.1, Or.inl h.2⟩
    · exact ⟨h.1, Or.inr h.2⟩
  · rintro ⟨h1, h | h⟩
    · exact Or.inl ⟨h1, h⟩
    · exact Or.inr ⟨h1, h⟩
theorem isS_and {x y : Int32} {n : Nat} {P Q : Nat → Prop} (hx : isS x n P) (hy : isS y n Q) : isS (x &&& y) n (fun i => P i ∧ Q i) := fun i hi => by
  rw [b_and, Bool.and_eq_true, hx i hi, hy i hi]
  exact ⟨fun h => ⟨h.1.1, h.1.2, h.2.2⟩, fun h => ⟨⟨h.1, h.2.1⟩, h.1, h.2.2⟩⟩
theorem isS_diff {x y : Int32} {n : Nat} {P Q : Nat → Prop} (hx : isS x n P) (hy : isS y n Q) : isS (x &&& (y ^^^ (-1))) n (fun i => P i ∧ ¬ Q i) := fun i hi => by
  rw [b_and, b_not y hi, Bool.and_eq_true, Bool.not_eq_true', hx i hi, ← Bool.not_eq_true, hy i hi]
  exact ⟨fun h => ⟨h.1.1, h.1.2, fun q => h.2 ⟨h.1.1, q⟩⟩, fun h => ⟨⟨h.1, h.2.1⟩, fun q => h.2.2 q.2⟩⟩
theorem isS_congr {x : Int32} {n : Nat} {P Q : Nat → Prop} (hx : isS x n P) (h : ∀ i, i < n → (P i ↔ Q i)) : isS x n Q := fun i hi => by
  rw [hx i hi]
  exact ⟨fun z => ⟨z.1, (h i z.1).mp z.2⟩, fun z => ⟨z.1, (h i z.1).mpr z.2⟩⟩
theorem isS_nil {x : Int32} {n : Nat} {P : Nat → Prop} (hn : n ≤ 7) (hx : isS x n P) : x = 0 ↔ ∀ i, i < n → ¬ P i := by
  constructor
  · intro e i hi hp
    have := (hx i (by omega)).mpr ⟨hi, hp⟩
    rw [e, b_0] at this
    cases this
  · intro h
    exact isS_eq hx isS_0 (fun i hi => ⟨fun p => h i hi p, fun q => q.elim⟩)
