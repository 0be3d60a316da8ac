/-! bits counted, sets of 14 lines -/
theorem bc14_0 : ∀ a, a < 8 → ∀ b, b < 128 → bcnt (nI (128 * (0 + a) + b)) = nI (onb (128 * (0 + a) + b) 14) := by decide +kernel
theorem bc14_1 : ∀ a, a < 8 → ∀ b, b < 128 → bcnt (nI (128 * (8 + a) + b)) = nI (onb (128 * (8 + a) + b) 14) := by decide +kernel
theorem bc14_2 : ∀ a, a < 8 → ∀ b, b < 128 → bcnt (nI (128 * (16 + a) + b)) = nI (onb (128 * (16 + a) + b) 14) := by decide +kernel
theorem bc14_3 : ∀ a, a < 8 → ∀ b, b < 128 → bcnt (nI (128 * (24 + a) + b)) = nI (onb (128 * (24 + a) + b) 14) := by decide +kernel
theorem bc14_4 : ∀ a, a < 8 → ∀ b, b < 128 → bcnt (nI (128 * (32 + a) + b)) = nI (onb (128 * (32 + a) + b) 14) := by decide +kernel
theorem bc14_5 : ∀ a, a < 8 → ∀ b, b < 128 → bcnt (nI (128 * (40 + a) + b)) = nI (onb (128 * (40 + a) + b) 14) := by decide +kernel
theorem bc14_6 : ∀ a, a < 8 → ∀ b, b < 128 → bcnt (nI (128 * (48 + a) + b)) = nI (onb (128 * (48 + a) + b) 14) := by decide +kernel
theorem bc14_7 : ∀ a, a < 8 → ∀ b, b < 128 → bcnt (nI (128 * (56 + a) + b)) = nI (onb (128 * (56 + a) + b) 14) := by decide +kernel
theorem bc14_8 : ∀ a, a < 8 → ∀ b, b < 128 → bcnt (nI (128 * (64 + a) + b)) = nI (onb (128 * (64 + a) + b) 14) := by decide +kernel
theorem bc14_9 : ∀ a, a < 8 → ∀ b, b < 128 → bcnt (nI (128 * (72 + a) + b)) = nI (onb (128 * (72 + a) + b) 14) := by decide +kernel
theorem bc14_10 : ∀ a, a < 8 → ∀ b, b < 128 → bcnt (nI (128 * (80 + a) + b)) = nI (onb (128 * (80 + a) + b) 14) := by decide +kernel
theorem bc14_11 : ∀ a, a < 8 → ∀ b, b < 128 → bcnt (nI (128 * (88 + a) + b)) = nI (onb (128 * (88 + a) + b) 14) := by decide +kernel
theorem bc14_12 : ∀ a, a < 8 → ∀ b, b < 128 → bcnt (nI (128 * (96 + a) + b)) = nI (onb (128 * (96 + a) + b) 14) := by decide +kernel
theorem bc14_13 : ∀ a, a < 8 → ∀ b, b < 128 → bcnt (nI (128 * (104 + a) + b)) = nI (onb (128 * (104 + a) + b) 14) := by decide +kernel
theorem bc14_14 : ∀ a, a < 8 → ∀ b, b < 128 → bcnt (nI (128 * (112 + a) + b)) = nI (onb (128 * (112 + a) + b) 14) := by decide +kernel
theorem bc14_15 : ∀ a, a < 8 → ∀ b, b < 128 → bcnt (nI (128 * (120 + a) + b)) = nI (onb (128 * (120 + a) + b) 14) := by decide +kernel
theorem bc14 (a : Nat) (ha : a < 128) (b : Nat) (hb : b < 128) : bcnt (nI (128 * a + b)) = nI (onb (128 * a + b) 14) := by
  have key : ∀ c : Nat, c ≤ a → a - c < 8 → (∀ x, x < 8 → ∀ b, b < 128 → bcnt (nI (128 * (c + x) + b)) = nI (onb (128 * (c + x) + b) 14)) → bcnt (nI (128 * a + b)) = nI (onb (128 * a + b) 14) := fun c h1 h2 h => by
    have := h (a - c) h2 b hb
    rw [show c + (a - c) = a by omega] at this
    exact this
  by_cases h0 : a < 8
  · exact key 0 (by omega) (by omega) bc14_0
  by_cases h1 : a < 16
  · exact key 8 (by omega) (by omega) bc14_1
  by_cases h2 : a < 24
  · exact key 16 (by omega) (by omega) bc14_2
  by_cases h3 : a < 32
  · exact key 24 (by omega) (by omega) bc14_3
  by_cases h4 : a < 40
  · exact key 32 (by omega) (by omega) bc14_4
  by_cases h5 : a < 48
  · exact key 40 (by omega) (by omega) bc14_5
  by_cases h6 : a < 56
  · exact key 48 (by omega) (by omega) bc14_6
  by_cases h7 : a < 64
  · exact key 56 (by omega) (by omega) bc14_7
  by_cases h8 : a < 72
  · exact key 64 (by omega) (by omega) bc14_8
  by_cases h9 : a < 80
  · exact key 72 (by omega) (by omega) bc14_9
  by_cases h10 : a < 88
  · exact key 80 (by omega) (by omega) bc14_10
  by_cases h11 : a < 96
  · exact key 88 (by omega) (by omega) bc14_11
  by_cases h12 : a < 104
  · exact key 96 (by omega) (by omega) bc14_12
  by_cases h13 : a < 112
  · exact key 104 (by omega) (by omega) bc14_13
  by_cases h14 : a < 120
  · exact key 112 (by omega) (by omega) bc14_14
  exact key 120 (by omega) (by omega) bc14_15
