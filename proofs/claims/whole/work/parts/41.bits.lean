/-! SETS IN NUMBERS: the bits of a number of 32 bits -/
def mbit (x : Int) (i : Nat) : Bool := (zi x).toBitVec.getLsbD i
theorem mbit_or (x y : Int) (i : Nat) : mbit (zor x y) i = (mbit x i || mbit y i) := by
  unfold mbit zor; rw [zi_of, Int32.toBitVec_or, BitVec.getLsbD_or]
theorem mbit_and (x y : Int) (i : Nat) : mbit (zand x y) i = (mbit x i && mbit y i) := by
  unfold mbit zand; rw [zi_of, Int32.toBitVec_and, BitVec.getLsbD_and]
theorem mbit_xor (x y : Int) (i : Nat) : mbit (zxor x y) i = (mbit x i ^^ mbit y i) := by
  unfold mbit zxor; rw [zi_of, Int32.toBitVec_xor, BitVec.getLsbD_xor]
theorem mbit_m1 : ∀ i, i < 32 → mbit (-1) i = true := by decide +kernel
theorem mbit_0 (i : Nat) : mbit 0 i = false := BitVec.getLsbD_zero
theorem mbit_hi {x : Int} {i : Nat} (h : 32 ≤ i) : mbit x i = false := BitVec.getLsbD_of_ge _ _ h
theorem mbit_not (x : Int) {i : Nat} (hi : i < 32) : mbit (zxor x (-1)) i = !mbit x i := by rw [mbit_xor, mbit_m1 i hi, Bool.xor_true]
theorem mbit_one : ∀ f, f < 32 → ∀ i, i < 32 → mbit (zshl 1 (f : Nat)) i = decide (i = f) := by decide +kernel
theorem mbit_shl {f : Int} (h0 : 0 ≤ f) (h1 : f < 32) (i : Nat) : mbit (zshl 1 f) i = decide ((i : Int) = f) := by
  by_cases hi : i < 32
  · have h := mbit_one f.toNat (by omega) i hi
    rw [show ((f.toNat : Nat) : Int) = f from by omega] at h
    rw [h]
    by_cases e : i = f.toNat
    · rw [decide_eq_true e, decide_eq_true (by omega)]
    · rw [decide_eq_false e, decide_eq_false (by omega)]
  · rw [mbit_hi (by omega), decide_eq_false (by omega)]
theorem mext {x y : Int} (hx : zr x) (hy : zr y) (h : ∀ i, i < 32 → mbit x i = mbit y i) : x = y :=
  (zi_eq hx hy).mp (Int32.toBitVec_inj.mp (BitVec.eq_of_getLsbD_eq (fun i hi => h i hi)))
theorem zshr_c : ∀ n, n < 32 → ((zi (n : Nat) &&& 31).toBitVec.smod 32).toNat = n := by decide +kernel
theorem mbit_shr {x f : Int} (h0 : 0 ≤ f) (h1 : f < 32) (i : Nat) : mbit (zshr x f) i = if f.toNat + i < 32 then mbit x (f.toNat + i) else (decide (i < 32) && mbit x 31) := by
  unfold mbit zshr
  rw [zi_of, Int32.toBitVec_shiftRight, BitVec.sshiftRight']
  have e : (((zi f &&& 31).toBitVec).smod 32).toNat = f.toNat := by
    have h := zshr_c f.toNat (by omega)
    rw [show ((f.toNat : Nat) : Int) = f from by omega] at h
    exact h
  rw [e, BitVec.getLsbD_sshiftRight]
  by_cases hi : 32 ≤ i
  · simp [hi, show ¬ i < 32 from by omega, show ¬ f.toNat + i < 32 from by omega]
  · by_cases hj : f.toNat + i < 32
    · simp [hi, hj]
    · simp [hi, hj, show i < 32 from by omega, BitVec.msb_eq_getLsbD_last]
theorem mbit_1 : ∀ i, i < 32 → mbit 1 i = decide (i = 0) := by decide +kernel
/-- the test of a bit: (x >> f) & 1 -/
theorem mtest {x f : Int} (h0 : 0 ≤ f) (h1 : f < 32) : zand (zshr x f) 1 = if mbit x f.toNat then 1 else 0 := by
  apply mext (x := zand (zshr x f) 1) (zr_of _) (by split <;> exact ⟨by decide, by decide⟩)
  intro i hi
  rw [mbit_and, mbit_shr h0 h1, mbit_1 i hi]
  by_cases e : i = 0
  · subst e
    rw [if_pos (by omega)]
    cases h : mbit x (f.toNat + 0)
    · rw [show f.toNat + 0 = f.toNat from rfl] at h
      simp [h, mbit_0]
    · rw [show f.toNat + 0 = f.toNat from rfl] at h
      simp [h, mbit_1 0 (by decide)]
  · cases h : mbit x f.toNat
    · simp [e, mbit_0]
    · simp [e, mbit_1 i hi]
theorem mtest1 {x f : Int} (h0 : 0 ≤ f) (h1 : f < 32) : zand (zshr x f) 1 = 0 ↔ mbit x f.toNat = false := by
  rw [mtest h0 h1]; cases mbit x f.toNat <;> simp
/-- a set of the fields 0 to 9: a number below 1024 -/
theorem mset_all : ∀ x, x < 1024 → ∀ i, i < 32 → mbit (x : Nat) i = x.testBit i := by decide +kernel
theorem mset_lt {x : Int} (hx : zr x) (h : ∀ i, 10 ≤ i → i < 32 → mbit x i = false) : 0 ≤ x ∧ x < 1024 := by
  have e : x = (((zi x).toBitVec.toNat % 1024 : Nat) : Int) := by
    apply mext hx ⟨by omega, by omega⟩
    intro i hi
    rw [mset_all _ (Nat.mod_lt _ (by decide)) i hi, show 1024 = 2 ^ 10 from rfl, Nat.testBit_mod_two_pow]
    by_cases h9 : i < 10
    · simp [h9]; rfl
    · simp [h9, h i (by omega) hi]
  have h1 := Nat.mod_lt (zi x).toBitVec.toNat (show 0 < 1024 by decide)
  omega
