/-! wrong and height -/
theorem bc_onb {w : Nat} (h : w < 16384) : bcnt (nI w) = nI (onb w 14) := by
  have := bc14 (w / 128) (by omega) (w % 128) (by omega)
  rw [show 128 * (w / 128) + w % 128 = w by omega] at this
  exact this
theorem lv_known {S : Sg} (h : Rel S) (hk : ¬ gI S 14 0 10 = 0) : ∃ m w, m ≤ 14 ∧ lvN (nM S) m (gA S 15 0) (gA S 16 0) (gA S 17 0) ∧ lvR (nM S) m (gA S 15 0) (gA S 16 0) (gA S 17 0) (gL S 39 0 0) S ∧ FirstW (2 ^ m) m (gA S 15 0) (gA S 16 0) (gA S 17 0) w ∧ gI S 14 0 8 = nI w ∧ MinL 10 (Rt m w) (gA S 15 0) (gA S 16 0) (gA S 17 0) (gA S 22 0) (fun k => (gA S 23 0 k).toInt) := by
  have h' := h
  obtain ⟨hA, -, -, -, -, -, -, hH, -, hX⟩ := h'
  obtain ⟨m, w, hm, h3, hF, h8, hM⟩ := hX.2.2 hk
  obtain ⟨m', hm', h3', h22, hlines⟩ := hH
  have e := nI_inj (by omega) (by omega) (h3'.symm.trans h3)
  subst e
  refine ⟨m', w, hm, fun l hl => ?_, ⟨h, hA.2.2.1, h22, fun l hl => ?_, rfl⟩, hF, h8, hM⟩
  · obtain ⟨-, -, -, hb, a, b, ha, hb', -, ea, eb⟩ := hlines l hl
    exact ⟨a, b, ha, hb', ea, eb, hb⟩
  · obtain ⟨g1, g2, g3, -⟩ := hlines l hl
    exact ⟨g1, g2, g3⟩
theorem rl_wrong {S : Sg} (h : Rel S) (a1 : Int32) : wp_X9_wrong a1 S (fun r S1 => wp_X10_wrong a1 S1 (fun r2 S2 => r = r2 ∧ Rel S2)) := by
  have bad : ¬ a1 = 0 → ¬ a1 = 1 → wp_X10_wrong a1 S (fun r2 S2 => (-1 : Int32) = r2 ∧ Rel S2) := fun z0 z1 => ⟨fun _ => ⟨fun _ => ⟨rfl, h⟩, fun z => absurd z z1⟩, fun z => absurd z z0⟩
  refine ⟨fun q => bad (fun z => ?_) (fun z => ?_), fun q => ⟨fun q2 => ?_, fun q2 => bad (fun z => ?_) (fun z => ?_)⟩⟩
  · rw [z] at q
    exact absurd q (by decide)
  · rw [z] at q
    exact absurd q (by decide)
  · refine sp_findL h (fun S1 h1 hk1 hn1 => ?_)
    obtain ⟨m, w, hm, hl, hR, hF, h8, hM⟩ := lv_known h1 hk1
    have hn := h1.1.1
    have hp : 2 ^ m ≤ 16384 := Nat.pow_le_pow_right (n := 2) (by omega) hm
    refine ⟨fun z => ?_, fun z => ?_⟩
    · show wp_X10_wrong a1 S1 (fun r2 S2 => gI S1 14 0 8 = r2 ∧ Rel S2)
      have e : a1 = 1 := by
        apply Int32.toInt_inj.mp
        rw [Int32.lt_iff_toInt_lt] at q
        rw [Int32.le_iff_toInt_le] at q2
        have o1 : (1 : Int32).toInt = 1 := rfl
        have o0 : (0 : Int32).toInt = 0 := rfl
        have : ¬ a1.toInt = 0 := fun y => z (Int32.toInt_inj.mp (y.trans o0.symm))
        omega
      exact ⟨fun _ => ⟨fun z1 => absurd e z1, fun _ => rf_findWrong hn hm hl hR (fun S' w' hK' hF' => ⟨by rw [h8, FirstW_uniq hF hF'], hK'.1⟩)⟩, fun z0 => absurd z0 z⟩
    · refine sp_bcnt ?_
      show wp_X10_wrong a1 S1 (fun r2 S2 => bcnt (gI S1 14 0 8) = r2 ∧ Rel S2)
      exact ⟨fun z0 => absurd z z0, fun _ => rf_findWrong hn hm hl hR (fun S' w' hK' hF' => rf_ones (by have := hF'.1; omega) ⟨by rw [h8, FirstW_uniq hF hF', bc_onb (by have := hF'.1; omega)], hK'.1⟩)⟩
  · rw [z] at q2
    exact q2 (by decide)
  · rw [z] at q2
    exact q2 (by decide)
theorem rf_height_bad {S : Sg} (hA : rA S) {a1 : Int32} (hb : ¬ vp_in a1 (nM S)) {Q : Int64 → Sg → Prop} (hq : Q 0 (uI S 40 0 0 1)) : wp_X10_height a1 S Q := by
  unfold wp_X10_height
  refine hA.ref (fun z => absurd z hb) (fun _ => ⟨fun t S' => t = 1 ∧ S = S', ?_, fun _ => ⟨rfl, rfl⟩, fun z => absurd rfl z⟩)
  rintro _ _ ⟨rfl, rfl⟩ S3 e3
  subst e3
  exact ⟨fun z => absurd z (by rw [gI_at]; decide), fun _ => hq⟩
theorem rf_height {n m : Nat} {fr to_ ri : Nat → Int32} {o : Int64} (hn : n ≤ 10) (hm : m ≤ 14) (hl : lvN n m fr to_ ri) {S : Sg} (h : lvR n m fr to_ ri o S) (hA : rA S) {a1 : Int32} {k : Nat} (hv : vp_in a1 (nM S)) (e2 : a1.toNatClampNeg = k) {Q : Int64 → Sg → Prop} (hq : ∀ S' w, lvR n m fr to_ ri o S' → FirstW (2 ^ m) m fr to_ ri w → MinL n (Rt m w) fr to_ ri (gA S' 62 0) (fun k => (gL S' 63 0 k).toInt) → LBN n (fun k => (gL S' 63 0 k).toInt) m → (gA S' 62 0 k = gA S' 62 0 0 → Q (gL S' 63 0 k - gL S' 63 0 0) (uI S' 40 0 0 0)) ∧ (¬ gA S' 62 0 k = gA S' 62 0 0 → Q 0 (uI S' 40 0 0 2))) : wp_X10_height a1 S Q := by
  unfold wp_X10_height
  have hv10 : vp_in a1 10 := vp_in_le hv hA.1
  have i0 : vp_in 0 10 := in_nI (k := 0) (by omega) (by omega)
  have hp : 2 ^ m ≤ 16384 := Nat.pow_le_pow_right (n := 2) (by omega) hm
  refine hA.ref (fun _ => ⟨fun t S' => t = 0 ∧ S = S', ?_, fun z => absurd z i10, fun _ => ⟨rfl, rfl⟩⟩) (fun z => absurd hv z)
  rintro _ _ ⟨rfl, rfl⟩ S3 e3
  subst e3
  refine ⟨fun _ => ?_, fun z => absurd (by rw [gI_at]; decide) z⟩
  refine rf_findWrong hn hm hl (LRth h 0) (fun S5 w hK5 hF => ?_)
  refine rf_agree hn hm (by have := hF.1; omega) hl hK5 (fun S6 hK6 hM hB => ?_) (fun S6 _ hc => absurd hF.2.1 hc)
  obtain ⟨q1, q2⟩ := hq S6 w hK6 hF hM hB
  refine ⟨fun t S' => S6 = S' ∧ ((t = 0 ∧ gA S6 62 0 k = gA S6 62 0 0) ∨ (t = 2 ∧ ¬ gA S6 62 0 k = gA S6 62 0 0)), ?_, fun S' => S6 = S' ∧ ¬ gA S6 62 0 k = gA S6 62 0 0, ?_, fun z => absurd z i10, fun _ => ⟨hv10, i0, fun z => ⟨rfl, ?_⟩, fun z => ⟨rfl, Or.inl ⟨rfl, ?_⟩⟩⟩⟩
  · rintro t _ ⟨rfl, ht⟩ S8 e8
    subst e8
    rcases ht with ⟨rfl, hg⟩ | ⟨rfl, hg⟩
    · refine ⟨fun _ => ⟨hv10, i0, ?_⟩, fun z => absurd (by rw [gI_at]; decide) z⟩
      rw [e2]
      exact q1 hg
    · exact ⟨fun z => absurd z (by rw [gI_at]; decide), fun _ => q2 hg⟩
  · rintro _ ⟨rfl, hg⟩
    exact ⟨rfl, Or.inr ⟨rfl, hg⟩⟩
  · rw [e2] at z
    exact z
  · rw [e2] at z
    exact z
theorem LR39 {n m : Nat} {fr to_ ri : Nat → Int32} {o : Int64} {S : Sg} (h : lvR n m fr to_ ri o S) (v : Int64) : lvR n m fr to_ ri v (uL S 39 0 0 v) := ⟨h.1, h.2.1, h.2.2.1, h.2.2.2.1, gL_at⟩
theorem rl_height {S : Sg} (h : Rel S) (a1 : Int32) : wp_L_height a1 S (fun k S1 => wp_X10_height a1 S1 (fun b S2 => gI S2 40 0 0 = k ∧ (k = 0 → gL S2 39 0 0 = b) ∧ Rel S2)) := by
  have hA := h.1
  have hn := hA.1
  have i0 : vp_in 0 10 := in_nI (k := 0) (by omega) (by omega)
  have c0 : (0 : Int32).toNatClampNeg = 0 := rfl
  unfold wp_L_height wp_X9_height
  refine hA.in (fun k hkn hk e1 e2 hv hvn => ⟨fun z => (by cases z), fun j hj => ?_⟩) (fun hb => ⟨fun _ => Or.inl ⟨rfl, rf_height_bad hA hb ⟨gI_at, fun z => absurd z i10, h⟩⟩, fun j hj => by cases hj⟩)
  cases hj
  refine sp_findL h (fun S1 h1 hk1 hn1 => ?_)
  obtain ⟨m, w, hm, hl, hR, hF, h8, hM⟩ := lv_known h1 hk1
  have hA1 := h1.1
  have hn2 := hA1.1
  have hvn1 : vp_in a1 (nM S1) := by
    rw [hn1]
    exact hvn
  have hkn1 : k < nM S1 := by omega
  have cmp : ∀ (S' : Sg) (w' : Nat), FirstW (2 ^ m) m (gA S1 15 0) (gA S1 16 0) (gA S1 17 0) w' → MinL (nM S1) (Rt m w') (gA S1 15 0) (gA S1 16 0) (gA S1 17 0) (gA S' 62 0) (fun k => (gL S' 63 0 k).toInt) → (gA S' 62 0 k = gA S' 62 0 0 → gA S1 22 0 k = gA S1 22 0 0) ∧ (gA S1 22 0 k = gA S1 22 0 0 → gA S' 62 0 k = gA S' 62 0 0 ∧ (gL S' 63 0 k).toInt - (gL S' 63 0 0).toInt = (gA S1 23 0 k).toInt - (gA S1 23 0 0).toInt) := by
    intro S' w' hF' hM'
    have e := FirstW_uniq hF hF'
    subst e
    refine ⟨fun y => ?_, fun y => ?_⟩
    · exact (hM'.2 _ _ hM.1 0 k (by omega) hkn1 y.symm).1.symm
    · have := hM.2 _ _ hM'.1 0 k (by omega) hk y.symm
      exact ⟨this.1.symm, this.2⟩
  refine ⟨hv, i0, fun zg => ?_, fun zg => ?_⟩
  · rw [e2, c0] at zg
    refine ⟨fun z => absurd rfl z, fun _ => Or.inr ⟨rfl, ?_⟩⟩
    refine rf_height hn2 hm hl hR hA1 hvn1 e2 (fun S' w' hK' hF' hM' hB' => ⟨fun y => ?_, fun y => ⟨gI_at, fun z => absurd z (by decide), (LRth hK' 2).1⟩⟩)
    exact absurd ((cmp S' w' hF' hM').1 y) zg
  · rw [e2, c0] at zg
    refine ⟨fun _ => ?_, fun z => absurd z i10⟩
    refine ⟨fun z => absurd z hk1, fun _ => ⟨hv, i0, fun S2 es => ?_⟩⟩
    rw [e2, c0] at es
    subst es
    have hA2 : rA (uL S1 39 0 0 (Int32.toInt64 (gA S1 23 0 k) - Int32.toInt64 (gA S1 23 0 0))) := hA1
    refine rf_height hn2 hm hl (LR39 hR _) hA2 hvn1 e2 (fun S' w' hK' hF' hM' hB' => ⟨fun y => ⟨gI_at, fun _ => ?_, (LRth hK' 0).1⟩, fun y => absurd ((cmp S' w' hF' hM').2 zg).1 y⟩)
    have hd := ((cmp S' w' hF' hM').2 zg).2
    have z1 : gL (uI S' 40 0 0 0) 39 0 0 = gL S' 39 0 0 := rfl
    rw [z1, hK'.2.2.2.2]
    have hbm := b3_14 m (by omega)
    have bk : -lvb m ≤ (gL S' 63 0 k).toInt ∧ (gL S' 63 0 k).toInt ≤ lvb m := hB' k hkn1
    have b0 : -lvb m ≤ (gL S' 63 0 0).toInt ∧ (gL S' 63 0 0).toInt ≤ lvb m := hB' 0 (by omega)
    apply Int64.toInt_inj.mp
    rw [Int64.toInt_sub, Int64.toInt_sub, Int32.toInt_toInt64, Int32.toInt_toInt64, hd]
