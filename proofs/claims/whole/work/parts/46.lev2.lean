/-! Levels.find: the class -/
section
variable {n m : Nat} {fr to_ ri : Nat → Int32}
/-- while the class looks for wrong lines -/
def lvP (n m : Nat) (fr to_ ri : Nat → Int32) (S : Sg) : Prop := Rel S ∧ gI S 14 0 10 = 0 ∧ nM S = n ∧ gI S 14 0 3 = nI m ∧ gA S 15 0 = fr ∧ gA S 16 0 = to_ ∧ gA S 17 0 = ri
def lvU (m : Nat) (fr to_ ri : Nat → Int32) (X : Nat) (S : Sg) : Prop := lvV m fr to_ ri X (gI S 14 0 9) (fun w => gI S 14 0 8 = nI w ∧ MinL 10 (Rt m w) fr to_ ri (gA S 22 0) (fun k => (gA S 23 0 k).toInt))
def lvW (m : Nat) (fr to_ ri : Nat → Int32) (l q r : Nat) (G L : Nat → Int32) : Prop := MinL 10 (RQ m l q) fr to_ ri G (fun k => (L k).toInt) ∧ RTS G r ∧ LBN 10 (fun k => (L k).toInt) r
theorem LP19 {S : Sg} (h : lvP n m fr to_ ri S) (k i : Nat) (v : Int32) : lvP n m fr to_ ri (uA S 19 k i v) := h
theorem LP21 {S : Sg} (h : lvP n m fr to_ ri S) (k i : Nat) (v : Int32) : lvP n m fr to_ ri (uA S 21 k i v) := h
theorem BU19 {S : Sg} {X : Nat} (h : lvU m fr to_ ri X S) (k i : Nat) (v : Int32) : lvU m fr to_ ri X (uA S 19 k i v) := h
theorem BU21 {S : Sg} {X : Nat} (h : lvU m fr to_ ri X S) (k i : Nat) (v : Int32) : lvU m fr to_ ri X (uA S 21 k i v) := h
theorem LP9 {S : Sg} (h : lvP n m fr to_ ri S) (v : Int32) : lvP n m fr to_ ri (uI S 14 0 9 v) := by
  obtain ⟨⟨hA, hB, hC, hD, hE, hF, hG, hH, hS, hX⟩, h0, hn, h3, h5, h6, h7⟩ := h
  exact ⟨⟨hA, hB, hC, hD, hE, hF, hG, hH, hS, hX.1, hX.2.1, fun z => absurd h0 z⟩, h0, hn, h3, h5, h6, h7⟩
theorem LP_leaf {S : Sg} (h : lvP n m fr to_ ri S) (c w : Int32) (f g : Nat → Int32) : lvP n m fr to_ ri (uAr (uAr (uI (uI S 14 0 9 c) 14 0 8 w) 22 0 f) 23 0 g) := by
  obtain ⟨⟨hA, hB, hC, hD, hE, hF, hG, hH, hS, hX⟩, h0, hn, h3, h5, h6, h7⟩ := h
  exact ⟨⟨hA, hB, hC, hD, hE, hF, hG, hH, hS, hX.1, hX.2.1, fun z => absurd h0 z⟩, h0, hn, h3, h5, h6, h7⟩
theorem LP_done {S : Sg} {w : Nat} (hm : m ≤ 14) (h : lvP n m fr to_ ri S) (hF : FirstW (2 ^ m) m fr to_ ri w) (h8 : gI S 14 0 8 = nI w) (hM : MinL 10 (Rt m w) fr to_ ri (gA S 22 0) (fun k => (gA S 23 0 k).toInt)) : Rel (uI S 14 0 10 1) := by
  obtain ⟨⟨hA, hB, hC, hD, hE, hF1, hG, hH, hS, hX⟩, h0, hn, h3, rfl, rfl, rfl⟩ := h
  exact ⟨hA, hB, hC, hD, hE, hF1, hG, hH, hS, hX.1, hX.2.1, fun _ => ⟨m, w, hm, h3, hF, h8, hM⟩⟩
theorem sp_join {X r i a b : Nat} {S : Sg} (hr : r + 1 < 10) (hi : i < 14) (ha : a < 10) (hb : b < 10) (ea : fr i = nI a) (eb : to_ i = nI b) (hK : lvP n m fr to_ ri S) (hU : lvU m fr to_ ri X S) {Q : Sg → Prop} (hq : ∀ S', lvP n m fr to_ ri S' → lvU m fr to_ ri X S' → (∀ r', r' ≤ r → gA S' 19 r' = gA S 19 r' ∧ gA S' 21 r' = gA S 21 r') → (∀ k, k < 10 → gA S' 19 (r + 1) k = (if gA S 19 r k = gA S 19 r b then gA S 19 r a else gA S 19 r k) ∧ gA S' 21 (r + 1) k = (if gA S 19 r k = gA S 19 r b then gA S 21 r k + (gA S 21 r a + ri i - gA S 21 r b) else gA S 21 r k)) → Q S') : wp_X2_join (nI r) (nI i) S Q := by
  have hK' := hK
  obtain ⟨-, -, -, -, h15, h16, h17⟩ := hK'
  have ir : vp_in (nI r) 10 := in_nI (by omega) (by omega)
  have ii : vp_in (nI i) 14 := in_nI hi (by omega)
  have ia : vp_in (nI a) 10 := in_nI ha (by omega)
  have ib : vp_in (nI b) 10 := in_nI hb (by omega)
  have cr : (nI r).toNatClampNeg = r := nI_clamp (by omega)
  have ci : (nI i).toNatClampNeg = i := nI_clamp (by omega)
  have ca : (nI a).toNatClampNeg = a := nI_clamp (by omega)
  have cb : (nI b).toNatClampNeg = b := nI_clamp (by omega)
  have er : nI r + 1 = nI (r + 1) := nI_1 r
  have ir1 : vp_in (nI r + 1) 10 := by rw [er]; exact in_nI hr (by omega)
  have cr1 : (nI r + 1).toNatClampNeg = r + 1 := by rw [er]; exact nI_clamp (by omega)
  refine ⟨ii, fun x3 e3 => ⟨ii, fun x4 e4 => ?_⟩⟩
  rw [ci, h15, ea] at e3
  rw [ci, h16, eb] at e4
  subst e3
  subst e4
  refine ⟨ir, ia, fun x5 e5 => ⟨ir, ib, fun x6 e6 => ⟨ir, ia, ii, ir, ib, fun x7 e7 => ?_⟩⟩⟩
  rw [cr, ca] at e5
  rw [cr, cb] at e6
  rw [cr, ca, cb, ci, h17] at e7
  refine ⟨fun v S1 => lvP n m fr to_ ri S1 ∧ lvU m fr to_ ri X S1 ∧ (∀ r', r' ≤ r → gA S1 19 r' = gA S 19 r' ∧ gA S1 21 r' = gA S 21 r') ∧ ∃ t, t ≤ 10 ∧ v = nI t ∧ ∀ k, k < t → gA S1 19 (r + 1) k = (if gA S 19 r k = gA S 19 r b then gA S 19 r a else gA S 19 r k) ∧ gA S1 21 (r + 1) k = (if gA S 19 r k = gA S 19 r b then gA S 21 r k + (gA S 21 r a + ri i - gA S 21 r b) else gA S 21 r k), fun v _ => 10 - v.toNatClampNeg, ⟨hK, hU, fun r' _ => ⟨rfl, rfl⟩, 0, by omega, rfl, fun k hk => absurd hk (Nat.not_lt_zero k)⟩, ?_⟩
  rintro v S1 ⟨hK1, hU1, hrow, t, ht, rfl, hv⟩
  refine ⟨fun q => ?_, fun q => ?_⟩
  · have q := (le_nI (a := 10) (by omega) (by omega)).mp q
    have e : t = 10 := by omega
    subst e
    exact hq S1 hK1 hU1 hrow hv
  · have hlt : t < 10 := by
      have := mt (le_nI (a := 10) (b := t) (by omega) (by omega)).mpr q
      omega
    have ct : (nI t).toNatClampNeg = t := nI_clamp (by omega)
    have it : vp_in (nI t) 10 := in_nI hlt (by omega)
    have hrr := hrow r (Nat.le_refl r)
    have fin : ∀ (g v x : Int32) (S3 : Sg), g = (if gA S 19 r t = gA S 19 r b then gA S 19 r a else gA S 19 r t) → v = (if gA S 19 r t = gA S 19 r b then gA S 21 r t + (gA S 21 r a + ri i - gA S 21 r b) else gA S 21 r t) → S3 = uA (uA S1 19 (r + 1) t g) 21 (r + 1) t v → x = nI t + 1 → (lvP n m fr to_ ri S3 ∧ lvU m fr to_ ri X S3 ∧ (∀ r', r' ≤ r → gA S3 19 r' = gA S 19 r' ∧ gA S3 21 r' = gA S 21 r') ∧ ∃ t, t ≤ 10 ∧ x = nI t ∧ ∀ k, k < t → gA S3 19 (r + 1) k = (if gA S 19 r k = gA S 19 r b then gA S 19 r a else gA S 19 r k) ∧ gA S3 21 (r + 1) k = (if gA S 19 r k = gA S 19 r b then gA S 21 r k + (gA S 21 r a + ri i - gA S 21 r b) else gA S 21 r k)) ∧ 10 - x.toNatClampNeg < 10 - (nI t).toNatClampNeg := by
      intro g v x S3 eg ev e3 ex
      rw [ex]
      subst e3
      refine ⟨⟨LP21 (LP19 hK1 _ _ _) _ _ _, BU21 (BU19 hU1 _ _ _) _ _ _, fun r' hr' => ⟨?_, ?_⟩, t + 1, by omega, nI_1 t, fun k hk => ?_⟩, mu_lt hlt (by omega)⟩
      · have z : gA (uA (uA S1 19 (r + 1) t g) 21 (r + 1) t v) 19 r' = gA (uA S1 19 (r + 1) t g) 19 r' := rfl
        rw [z, gA_uA, if_neg (by omega)]
        exact (hrow r' hr').1
      · rw [gA_uA, if_neg (by omega)]
        exact (hrow r' hr').2
      · have z : gA (uA (uA S1 19 (r + 1) t g) 21 (r + 1) t v) 19 (r + 1) k = gA (uA S1 19 (r + 1) t g) 19 (r + 1) k := rfl
        rw [z]
        by_cases e : k = t
        · subst e
          rw [gA_at, gA_at]
          exact ⟨eg, ev⟩
        · rw [gA_off (by omega), gA_off (by omega)]
          exact hv k (by omega)
    refine ⟨ir, it, fun u S2 => S1 = S2 ∧ ((u = 0 ∧ ¬ gA S 19 r t = gA S 19 r b) ∨ (u = 1 ∧ gA S 19 r t = gA S 19 r b)), ?_, fun z => ⟨rfl, Or.inl ⟨rfl, ?_⟩⟩, fun z => ⟨rfl, Or.inr ⟨rfl, ?_⟩⟩⟩
    · rintro u _ ⟨rfl, hu⟩
      refine ⟨ir1, fun g S2 => S1 = S2 ∧ g = (if gA S 19 r t = gA S 19 r b then gA S 19 r a else gA S 19 r t), ?_, fun z => ⟨ir, it, rfl, ?_⟩, fun z => ⟨rfl, ?_⟩⟩
      · rintro g _ ⟨rfl, hg⟩
        refine ⟨it, fun S25 e25 => ⟨ir1, fun z => ⟨ir, it, it, fun S31 e31 x8 e8 => ?_⟩, fun z => ⟨ir, it, it, fun S36 e36 x8 e8 => ?_⟩⟩⟩
        · rw [cr1, ct] at e25
          rw [cr1, cr, ct, e25] at e31
          refine fin g _ x8 S31 hg ?_ e31 e8
          have hP : ¬ gA S 19 r t = gA S 19 r b := by
            rcases hu with ⟨-, y⟩ | ⟨y, -⟩
            · exact y
            · exact absurd (y.symm.trans z) i10
          rw [if_neg hP]
          have z2 : gA (uA S1 19 (r + 1) t g) 21 r t = gA S1 21 r t := rfl
          rw [z2, hrr.2]
        · rw [cr1, ct] at e25
          rw [cr1, cr, ct, e25, e7] at e36
          refine fin g _ x8 S36 hg ?_ e36 e8
          have hP : gA S 19 r t = gA S 19 r b := by
            rcases hu with ⟨y, -⟩ | ⟨-, y⟩
            · exact absurd y z
            · exact y
          rw [if_pos hP]
          have z2 : gA (uA S1 19 (r + 1) t g) 21 r t = gA S1 21 r t := rfl
          rw [z2, hrr.2]
      · have hP : ¬ gA S 19 r t = gA S 19 r b := by
          rcases hu with ⟨-, y⟩ | ⟨y, -⟩
          · exact y
          · exact absurd (y.symm.trans z) i10
        rw [cr, ct, hrr.1, if_neg hP]
      · have hP : gA S 19 r t = gA S 19 r b := by
          rcases hu with ⟨y, -⟩ | ⟨-, y⟩
          · exact absurd y z
          · exact y
        rw [e5, if_pos hP]
    · rw [cr, ct, hrr.1, e6] at z
      exact z
    · rw [cr, ct, hrr.1, e6] at z
      exact z
end
