/-! no answer is a NaN -/
theorem nan_f : ∀ a, a < 11 → ∀ c, c < 11 → 0 < c → vf_n32 (FP.fdiv (FP.i2f (zi (a : Nat))) (FP.i2f (zi (c : Nat)))) := by
  have h : ∀ a, a < 11 → ∀ c, c < 11 → 0 < c → (FP.fdiv (FP.i2f (zi (a : Nat))) (FP.i2f (zi (c : Nat)))) &&& 0x7fffffff ≤ 0x7f800000 := by decide +kernel
  exact h
theorem nan_fd : ∀ a, a < 11 → ∀ c, c < 11 → 0 < c → vf_n64 (FP.f2d (FP.fdiv (FP.i2f (zi (a : Nat))) (FP.i2f (zi (c : Nat))))) := by
  have h : ∀ a, a < 11 → ∀ c, c < 11 → 0 < c → (FP.f2d (FP.fdiv (FP.i2f (zi (a : Nat))) (FP.i2f (zi (c : Nat))))) &&& 0x7fffffffffffffff ≤ 0x7ff0000000000000 := by decide +kernel
  exact h
theorem l2d_i2d {a : Nat} (h : a < 100000) : FP.l2d (zl (a : Nat)) = FP.i2d (zi (a : Nat)) := by
  show FP.l2d (zl ((a : Nat) : Int)) = FP.i2d (zi ((a : Nat) : Int))
  unfold FP.l2d FP.i2d FP.Core.l2d FP.Core.i2d
  rw [zl_toInt ⟨by omega, by omega⟩, zi_toInt ⟨by omega, by omega⟩]
theorem nan_d1 : ∀ q, q < 63 → ∀ r, r < 64 → (FP.ddiv (FP.i2d (zi ((64 * q + r : Nat) : Int))) (FP.i2d (zi ((1 : Nat) : Int)))) &&& 0x7fffffffffffffff ≤ 0x7ff0000000000000 := by decide +kernel
theorem nan_d2 : ∀ q, q < 63 → ∀ r, r < 64 → (FP.ddiv (FP.i2d (zi ((64 * q + r : Nat) : Int))) (FP.i2d (zi ((2 : Nat) : Int)))) &&& 0x7fffffffffffffff ≤ 0x7ff0000000000000 := by decide +kernel
theorem nan_d3 : ∀ q, q < 63 → ∀ r, r < 64 → (FP.ddiv (FP.i2d (zi ((64 * q + r : Nat) : Int))) (FP.i2d (zi ((3 : Nat) : Int)))) &&& 0x7fffffffffffffff ≤ 0x7ff0000000000000 := by decide +kernel
theorem nan_d4 : ∀ q, q < 63 → ∀ r, r < 64 → (FP.ddiv (FP.i2d (zi ((64 * q + r : Nat) : Int))) (FP.i2d (zi ((4 : Nat) : Int)))) &&& 0x7fffffffffffffff ≤ 0x7ff0000000000000 := by decide +kernel
theorem nan_d5 : ∀ q, q < 63 → ∀ r, r < 64 → (FP.ddiv (FP.i2d (zi ((64 * q + r : Nat) : Int))) (FP.i2d (zi ((5 : Nat) : Int)))) &&& 0x7fffffffffffffff ≤ 0x7ff0000000000000 := by decide +kernel
theorem nan_d6 : ∀ q, q < 63 → ∀ r, r < 64 → (FP.ddiv (FP.i2d (zi ((64 * q + r : Nat) : Int))) (FP.i2d (zi ((6 : Nat) : Int)))) &&& 0x7fffffffffffffff ≤ 0x7ff0000000000000 := by decide +kernel
theorem nan_d7 : ∀ q, q < 63 → ∀ r, r < 64 → (FP.ddiv (FP.i2d (zi ((64 * q + r : Nat) : Int))) (FP.i2d (zi ((7 : Nat) : Int)))) &&& 0x7fffffffffffffff ≤ 0x7ff0000000000000 := by decide +kernel
theorem nan_d8 : ∀ q, q < 63 → ∀ r, r < 64 → (FP.ddiv (FP.i2d (zi ((64 * q + r : Nat) : Int))) (FP.i2d (zi ((8 : Nat) : Int)))) &&& 0x7fffffffffffffff ≤ 0x7ff0000000000000 := by decide +kernel
theorem nan_d9 : ∀ q, q < 63 → ∀ r, r < 64 → (FP.ddiv (FP.i2d (zi ((64 * q + r : Nat) : Int))) (FP.i2d (zi ((9 : Nat) : Int)))) &&& 0x7fffffffffffffff ≤ 0x7ff0000000000000 := by decide +kernel
theorem nan_d10 : ∀ q, q < 63 → ∀ r, r < 64 → (FP.ddiv (FP.i2d (zi ((64 * q + r : Nat) : Int))) (FP.i2d (zi ((10 : Nat) : Int)))) &&& 0x7fffffffffffffff ≤ 0x7ff0000000000000 := by decide +kernel
theorem nan_d {a c : Nat} (hc : c < 11) (h0 : 0 < c) (ha : a < 4001) : vf_n64 (FP.ddiv (FP.i2d (zi (a : Nat))) (FP.i2d (zi (c : Nat)))) := by
  have key : (FP.ddiv (FP.i2d (zi ((64 * (a / 64) + a % 64 : Nat) : Int))) (FP.i2d (zi (c : Nat)))) &&& 0x7fffffffffffffff ≤ 0x7ff0000000000000 := by
    have h1 : a / 64 < 63 := by omega
    have h2 : a % 64 < 64 := by omega
    rcases (show c = 1 ∨ c = 2 ∨ c = 3 ∨ c = 4 ∨ c = 5 ∨ c = 6 ∨ c = 7 ∨ c = 8 ∨ c = 9 ∨ c = 10 by omega) with rfl | rfl | rfl | rfl | rfl | rfl | rfl | rfl | rfl | rfl
    · exact nan_d1 _ h1 _ h2
    · exact nan_d2 _ h1 _ h2
    · exact nan_d3 _ h1 _ h2
    · exact nan_d4 _ h1 _ h2
    · exact nan_d5 _ h1 _ h2
    · exact nan_d6 _ h1 _ h2
    · exact nan_d7 _ h1 _ h2
    · exact nan_d8 _ h1 _ h2
    · exact nan_d9 _ h1 _ h2
    · exact nan_d10 _ h1 _ h2
  rw [show 64 * (a / 64) + a % 64 = a by omega] at key
  exact key
