/-! PURE PART: what the small tests answer -/
theorem zb_0 : narrow .boolean (.int 0) = .int 0 := rfl
theorem zb_1 : narrow .boolean (.int 1) = .int 1 := rfl
theorem i32_nlt {a b : Int32} : ¬ a < b ↔ b ≤ a := by
  rw [Int32.lt_iff_toInt_lt, Int32.le_iff_toInt_le]
  omega
theorem i32_nle {a b : Int32} : ¬ a ≤ b ↔ b < a := by
  rw [Int32.lt_iff_toInt_lt, Int32.le_iff_toInt_le]
  omega
theorem nI_pred_toInt {n : Nat} (h : n < 2 ^ 31) : (nI n - 1).toInt = (n : Int) - 1 := by
  have h1 := nI_toInt h
  cases n with
  | zero => decide
  | succ k =>
    rw [nI_pred, nI_toInt (by omega)]
    omega
theorem vp_in_cmp {a : Int32} {n : Nat} (hn : n < 2 ^ 31) : vp_in a n ↔ ¬ a < 0 ∧ ¬ nI n - 1 < a := by
  rw [vp_in_iff, Int32.lt_iff_toInt_lt, Int32.lt_iff_toInt_lt, nI_pred_toInt hn]
  show 0 ≤ a.toInt ∧ a.toInt < n ↔ ¬ a.toInt < 0 ∧ ¬ (n : Int) - 1 < a.toInt
  omega
theorem vp_in_ge {a : Int32} {n : Nat} (hn : n < 2 ^ 31) : vp_in a n ↔ ¬ a < 0 ∧ ¬ nI n ≤ a := by
  rw [vp_in_iff, Int32.lt_iff_toInt_lt, Int32.le_iff_toInt_le, nI_toInt hn]
  show 0 ≤ a.toInt ∧ a.toInt < n ↔ ¬ a.toInt < 0 ∧ ¬ (n : Int) ≤ a.toInt
  omega
theorem vp_in_le {a : Int32} {n k : Nat} (h : vp_in a n) (hk : n ≤ k) : vp_in a k := by
  rw [vp_in_iff] at h ⊢
  omega
theorem sp_in {a b c : Int32} {S : Sg} {Q : Int32 → Sg → Prop} (h1 : ¬ a < b → ¬ c < a → Q 1 S) (h0 : (a < b ∨ c < a) → Q 0 S) : wp_X10_in a b c S Q :=
  ⟨fun h => h0 (Or.inl h), fun h => ⟨fun g => h0 (Or.inr g), fun g => h1 h g⟩⟩
theorem sp_isMark {a : Int32} {S : Sg} {Q : Int32 → Sg → Prop} {n : Nat} (hn : gI S 40 0 1 = nI n) (h10 : n ≤ 10) (h1 : vp_in a n → Q 1 S) (h0 : ¬ vp_in a n → Q 0 S) : wp_X10_isMark a S Q := by
  unfold wp_X10_isMark
  rw [hn]
  have hv := vp_in_cmp (a := a) (n := n) (by omega)
  exact sp_in (fun x y => ⟨zb_1, h1 (hv.mpr ⟨x, y⟩)⟩) (fun x => ⟨zb_0, h0 (fun q => x.elim (hv.mp q).1 (hv.mp q).2)⟩)
theorem sp_isEpoch {a : Int32} {S : Sg} {Q : Int32 → Sg → Prop} (h1 : vp_in a 40 → Q 1 S) (h0 : ¬ vp_in a 40 → Q 0 S) : wp_X10_isEpoch a S Q := by
  unfold wp_X10_isEpoch
  have hv := vp_in_cmp (a := a) (n := 40) (by omega)
  exact sp_in (fun x y => ⟨zb_1, h1 (hv.mpr ⟨x, y⟩)⟩) (fun x => ⟨zb_0, h0 (fun q => x.elim (hv.mp q).1 (hv.mp q).2)⟩)
theorem sp_isShelf {a : Int32} {S : Sg} {Q : Int32 → Sg → Prop} (h1 : vp_in a 8 → Q 1 S) (h0 : ¬ vp_in a 8 → Q 0 S) : wp_X10_isShelf a S Q := by
  unfold wp_X10_isShelf
  have hv := vp_in_cmp (a := a) (n := 8) (by omega)
  exact sp_in (fun x y => ⟨zb_1, h1 (hv.mpr ⟨x, y⟩)⟩) (fun x => ⟨zb_0, h0 (fun q => x.elim (hv.mp q).1 (hv.mp q).2)⟩)
theorem sp_spot {a b : Int32} {S : Sg} {Q : Int32 → Sg → Prop} (h : Q (40 * a + b) S) : wp_X10_spot a b S Q := h
theorem sp_markAt {a : Int32} {S : Sg} {Q : Option Nat → Sg → Prop} {n : Nat} (hc : gI S 0 0 6 = nI n) (hm : nM S = n) (h10 : n ≤ 10) (h1 : vp_in a n → Q (some a.toNatClampNeg) S) (h0 : ¬ vp_in a n → Q none S) : wp_X9_markAt a S Q := by
  have hv := vp_in_ge (a := a) (n := n) (by omega)
  refine ⟨fun h => h0 (fun q => (hv.mp q).1 h), fun h => ?_⟩
  rw [hc]
  refine ⟨fun g => h0 (fun q => (hv.mp q).2 g), fun g => ?_⟩
  have hin : vp_in a n := hv.mpr ⟨h, g⟩
  have hin10 : vp_in a 10 := vp_in_le hin h10
  refine ⟨fun x => ?_, fun _ => ⟨hin10, fun _ => h1 hin, fun x => absurd (by rw [hm]; exact vp_lt hin) x⟩⟩
  exact absurd x ((vp_in_ge (n := 10) (by omega)).mp hin10).2
theorem sp_cEpoch {a : Int32} {S : Sg} {Q : Int32 → Sg → Prop} (h1 : vp_in a 40 → Q 1 S) (h0 : ¬ vp_in a 40 → Q 0 S) : wp_X9_isEpoch a S Q := by
  have hv := vp_in_ge (a := a) (n := 40) (by omega)
  exact ⟨fun h => h0 (fun q => (hv.mp q).1 h), fun h => ⟨fun g => h0 (fun q => (hv.mp q).2 g), fun g => h1 (hv.mpr ⟨h, g⟩)⟩⟩
