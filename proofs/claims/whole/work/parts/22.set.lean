/-! what changes the state: class against reference -/
section
variable {S S' : Sg}
theorem rA_of (h : rA S) (e1 : nM S' = nM S) (e2 : kM S' = kM S) (e3 : gI S' 0 0 6 = gI S 0 0 6) (e4 : gI S' 40 0 1 = gI S 40 0 1) (e5 : gA S' 41 0 = gA S 41 0) (e6 : gA S' 42 0 = gA S 42 0) (e7 : gA S' 43 0 = gA S 43 0) (e8 : ∀ j, gI S' 26 j 0 = gI S 26 j 0) (e9 : ∀ j, gI S' 26 j 1 = gI S 26 j 1) (e10 : ∀ j, gI S' 26 j 2 = gI S 26 j 2) : rA S' := by
  unfold rA
  simp only [e1, e2, e3, e4, e5, e6, e7, e8, e9, e10]
  exact h
theorem rB_of (h : rB S) (e1 : nM S' = nM S) (e2 : gA S' 44 0 = gA S 44 0) (e3 : gA S' 45 0 = gA S 45 0) (e5 : ∀ j, gI S' 26 j 5 = gI S 26 j 5) (e6 : ∀ j, gI S' 26 j 6 = gI S 26 j 6) : rB S' := by
  unfold rB
  simp only [e1, e2, e3, e5, e6]
  exact h
theorem rC_of (h : rC S) (e1 : nM S' = nM S) (e2 : gA S' 47 0 = gA S 47 0) (e3 : ∀ j, gA S' 27 j = gA S 27 j) (e5 : ∀ j, gI S' 26 j 3 = gI S 26 j 3) : rC S' := by
  unfold rC nP
  simp only [e1, e2, e3, e5]
  exact h
theorem rE_of (h : rE S) (e1 : nM S' = nM S) (e2 : gA S' 46 0 = gA S 46 0) (e3 : gA S' 49 0 = gA S 49 0) (e4 : gA S' 50 0 = gA S 50 0) (e5 : ∀ j, gA S' 30 j = gA S 30 j) (e6 : ∀ j, gA S' 32 j = gA S 32 j) (e7 : ∀ j, gI S' 26 j 4 = gI S 26 j 4) : rE S' := by
  unfold rE
  simp only [e1, e2, e3, e4, e5, e6, e7]
  exact h
theorem rX_of (h : rX S) (e1 : nM S' = nM S) (e2 : ∀ j, gI S' 26 j 1 = gI S 26 j 1) (e3 : ∀ j, gI S' 26 j 2 = gI S 26 j 2) (e4 : gI S' 6 0 = gI S 6 0) (e5 : gI S' 11 0 = gI S 11 0) (e6 : gI S' 14 0 = gI S 14 0) (e7 : gI S' 0 0 7 = gI S 0 0 7) (e8 : gA S' 33 = gA S 33) (e9 : gA S' 34 = gA S 34) (e10 : gA S' 10 0 = gA S 10 0) (e11 : gA S' 12 0 = gA S 12 0) (e12 : gA S' 13 0 = gA S 13 0) (e13 : gA S' 15 0 = gA S 15 0) (e14 : gA S' 16 0 = gA S 16 0) (e15 : gA S' 17 0 = gA S 17 0) (e16 : gA S' 22 0 = gA S 22 0) (e17 : gA S' 23 0 = gA S 23 0) (e18 : gA S' 8 0 = gA S 8 0 := by rfl) : rX S' := by
  unfold rX
  simp only [e1, e2, e3, e4, e5, e6, e7, e8, e9, e10, e11, e12, e13, e14, e15, e16, e17, e18]
  exact h
end
section
variable {S S' : Sg}
theorem rB_up (h : rB S) (e1 : nM S ≤ nM S') (e2 : gA S' 44 0 = gA S 44 0) (e3 : gA S' 45 0 = gA S 45 0) (e5 : ∀ j, gI S' 26 j 5 = gI S 26 j 5) (e6 : ∀ j, gI S' 26 j 6 = gI S 26 j 6) : rB S' := by
  refine ⟨fun k hk => ?_, fun k hk => ?_⟩
  · rw [e2, e3, e5, e6]
    exact h.1 k hk
  · rw [e5, e6]
    exact h.2 k (Nat.le_trans e1 hk)
theorem rC_up (h : rC S) (e1 : nM S ≤ nM S') (e2 : gA S' 47 0 = gA S 47 0) (e3 : ∀ j, gA S' 27 j = gA S 27 j) (e5 : ∀ j, gI S' 26 j 3 = gI S 26 j 3) : rC S' := by
  refine ⟨fun k t hk ht => ?_, fun k t hk => ?_, fun k hk => ?_⟩
  · rw [e2, e3]
    exact h.1 k t hk ht
  · rw [e3]
    exact h.2.1 k t (Nat.le_trans e1 hk)
  · unfold nP
    rw [e5, e3]
    exact h.2.2 k hk
theorem rD_up (h : rD S) (e1 : nM S ≤ nM S') (e2 : gA S' 48 0 = gA S 48 0) (e3 : ∀ j, gA S' 29 j = gA S 29 j) : rD S' := by
  refine ⟨fun k t s hk ht hs => ?_, fun k t s hk hs => ?_⟩
  · rw [e2, e3]
    exact h.1 k t s hk ht hs
  · rw [e3]
    exact h.2 k t s (Nat.le_trans e1 hk) hs
theorem rE_up (h : rE S) (e1 : nM S ≤ nM S') (e2 : gA S' 46 0 = gA S 46 0) (e3 : gA S' 49 0 = gA S 49 0) (e4 : gA S' 50 0 = gA S 50 0) (e5 : ∀ j, gA S' 30 j = gA S 30 j) (e6 : ∀ j, gA S' 32 j = gA S 32 j) (e7 : ∀ j, gI S' 26 j 4 = gI S 26 j 4) : rE S' := by
  refine ⟨fun k hk => ?_, fun k i hk hi => ?_, fun k i s hk hi hs => ?_, fun k hk => ?_, fun k i hk => ?_, fun k i s hk hs => ?_⟩
  · rw [e2, e7]
    exact h.1 k hk
  · rw [e3, e5]
    exact h.2.1 k i hk hi
  · rw [e4, e6]
    exact h.2.2.1 k i s hk hi hs
  · rw [e7]
    exact h.2.2.2.1 k (Nat.le_trans e1 hk)
  · rw [e5]
    exact h.2.2.2.2.1 k i (Nat.le_trans e1 hk)
  · rw [e6]
    exact h.2.2.2.2.2 k i s (Nat.le_trans e1 hk) hs
theorem rF_up (h : rF S) (e1 : nM S ≤ nM S') (e2 : gA S' 51 0 = gA S 51 0) (e3 : gA S' 52 0 = gA S 52 0) (e4 : ∀ j, gA S' 33 j = gA S 33 j) : rF S' := by
  refine ⟨fun k hk => ?_, fun k i hk => ?_⟩
  · rw [e2, e3, e4]
    exact h.1 k hk
  · rw [e4]
    exact h.2 k i (Nat.le_trans e1 hk)
theorem rG_up (h : rG S) (e1 : nM S ≤ nM S') (e2 : gA S' 56 0 = gA S 56 0) (e3 : ∀ j, gA S' 34 j = gA S 34 j) (e4 : gI S' 40 0 17 = gI S 40 0 17) (e5 : gI S' 0 0 7 = gI S 0 0 7) : rG S' := by
  refine ⟨fun k i hk hi => ?_, fun k i hk => ?_, ?_⟩
  · rw [e2, e3]
    exact h.1 k i hk hi
  · rw [e3]
    exact h.2.1 k i (Nat.le_trans e1 hk)
  · rw [e4, e5]
    exact h.2.2
theorem rH_up (h : rH S) (e1 : nM S ≤ nM S') (e2 : gI S' 14 0 3 = gI S 14 0 3) (e3 : gI S' 40 0 22 = gI S 40 0 22) (e4 : gA S' 59 0 = gA S 59 0) (e5 : gA S' 60 0 = gA S 60 0) (e6 : gA S' 61 0 = gA S 61 0) (e7 : gA S' 15 0 = gA S 15 0) (e8 : gA S' 16 0 = gA S 16 0) (e9 : gA S' 17 0 = gA S 17 0) : rH S' := by
  obtain ⟨m, hm, c1, c2, hl⟩ := h
  refine ⟨m, hm, e2.trans c1, e3.trans c2, fun i hi => ?_⟩
  obtain ⟨l1, l2, l3, l4, a, b, ha, hb, hab, l5, l6⟩ := hl i hi
  rw [e4, e5, e6, e7, e8, e9]
  exact ⟨l1, l2, l3, l4, a, b, Nat.lt_of_lt_of_le ha e1, Nat.lt_of_lt_of_le hb e1, hab, l5, l6⟩
theorem rS_up (h : rS S) (e1 : nM S ≤ nM S') (e2 : gA S' 64 0 = gA S 64 0) (e3 : gA S' 65 0 = gA S 65 0) (e4 : gA S' 66 0 = gA S 66 0) (e5 : ∀ d, gI S' 24 d = gI S 24 d) (e6 : sM S' = sM S) (e7 : ∀ d, gL S' 25 d = gL S 25 d) (e8 : gL S' 67 0 = gL S 67 0) : rS S' := by
  intro d hd
  obtain ⟨h1, h2⟩ := h d hd
  unfold rS1
  rw [e2, e3, e4, e5, e6, e7, e8]
  refine ⟨h1, h2.imp id (fun h2 => h2.imp (fun h2 => ⟨h2.1, ?_⟩) id)⟩
  obtain ⟨j, hj, h3⟩ := h2.2
  exact ⟨j, Nat.lt_of_lt_of_le hj e1, h3⟩
end
theorem sp_cSide {a : Int32} {S : Sg} {Q : Int32 → Sg → Prop} (h1 : vp_in a 2 → Q 1 S) (h0 : ¬ vp_in a 2 → Q 0 S) : wp_X9_isSide a S Q := by
  have hv := vp_in_ge (a := a) (n := 2) (by omega)
  exact ⟨fun h => h0 (fun q => (hv.mp q).1 h), fun h => ⟨fun g => h0 (fun q => (hv.mp q).2 g), fun g => h1 (hv.mpr ⟨h, g⟩)⟩⟩
theorem sp_cCut {a : Int32} {S : Sg} {Q : Int32 → Sg → Prop} (h1 : vp_in a 3 → Q 1 S) (h0 : ¬ vp_in a 3 → Q 0 S) : wp_X9_isCut a S Q := by
  have hv := vp_in_ge (a := a) (n := 3) (by omega)
  exact ⟨fun h => h0 (fun q => (hv.mp q).1 h), fun h => ⟨fun g => h0 (fun q => (hv.mp q).2 g), fun g => h1 (hv.mpr ⟨h, g⟩)⟩⟩
theorem sp_cShelf {a : Int32} {S : Sg} {Q : Option Nat → Sg → Prop} (h1 : ∀ k, k < 8 → a = nI k → a.toNatClampNeg = k → vp_in a 8 → Q (some k) S) (h0 : ¬ vp_in a 8 → Q none S) : wp_X9_shelfAt a S Q := by
  have hv := vp_in_ge (a := a) (n := 8) (by omega)
  refine ⟨fun h => h0 (fun q => (hv.mp q).1 h), fun h => ⟨fun g => h0 (fun q => (hv.mp q).2 g), fun g => ?_⟩⟩
  have hin : vp_in a 8 := hv.mpr ⟨h, g⟩
  obtain ⟨k, hk, e1, e2⟩ := vp_nat hin (by omega)
  exact ⟨hin, by rw [e2]; exact h1 k hk e1 e2 hin⟩
theorem sp_side {a : Int32} {S : Sg} {Q : Int32 → Sg → Prop} (h1 : vp_in a 2 → Q 1 S) (h0 : ¬ vp_in a 2 → Q 0 S) : wp_X10_isSide a S Q := by
  refine ⟨fun e => h1 ?_, fun n0 => ⟨fun n1 => h0 (fun hv => ?_), fun e => h1 ?_⟩⟩
  · rw [e, vp_in_iff]
    decide
  · obtain ⟨k, hk, e1, -⟩ := vp_nat hv (by omega)
    rcases (show k = 0 ∨ k = 1 by omega) with rfl | rfl
    · exact n0 e1
    · exact n1 e1
  · rw [e, vp_in_iff]
    decide
theorem nI_eq_iff {a b : Nat} (ha : a < 2 ^ 31) (hb : b < 2 ^ 31) : nI a = nI b ↔ a = b := ⟨nI_inj ha hb, fun h => by rw [h]⟩
theorem rf_hasAnt {S : Sg} (hA : rA S) {a : Int32} {k : Nat} (hk : k < 10) (e2 : a.toNatClampNeg = k) (hv : vp_in a 10) {Q : Int32 → Sg → Prop} (h1 : (kM S k = 1 ∨ kM S k = 2) → Q 1 S) (h0 : ¬ (kM S k = 1 ∨ kM S k = 2) → Q 0 S) : wp_X10_hasAntenna a S Q := by
  unfold wp_X10_hasAntenna
  have hkd := (hA.2.2.2.2.1 k hk).1
  have h4 := hA.2.2.2.1 k
  rw [e2, hkd]
  have q1 : nI (kM S k) = 1 ↔ kM S k = 1 := nI_eq_iff (b := 1) (by omega) (by omega)
  have q2 : nI (kM S k) = 2 ↔ kM S k = 2 := nI_eq_iff (b := 2) (by omega) (by omega)
  rw [q1, q2]
  exact ⟨hv, fun e => h1 (Or.inl e), fun n1 => ⟨hv, fun n2 => h0 (fun h => h.elim n1 n2), fun e => h1 (Or.inr e)⟩⟩
/-! antenna -/
theorem rf_antenna_bad {S : Sg} (hA : rA S) {a1 a2 a3 : Int32} {Q : Int32 → Sg → Prop} (hb : ¬ vp_in a1 (nM S) ∨ ¬ vp_in a2 40 ∨ (a3 < -99 ∨ 99 < a3)) (hq : Q (-1001) S) : wp_X10_antenna a1 a2 a3 S Q := by
  unfold wp_X10_antenna
  refine hA.ref (fun v1 => bq_f i10 ?_) (fun _ => bq_t rfl hq)
  refine sp_isEpoch (fun v2 => bq_f i10 ?_) (fun _ => bq_t rfl hq)
  refine sp_in (fun q1 q2 => ?_) (fun _ => bq_nt rfl hq)
  exfalso
  rcases hb with hb | hb | hb | hb
  · exact hb v1
  · exact hb v2
  · exact q1 hb
  · exact q2 hb
theorem rl_antenna {S : Sg} (h : Rel S) (a1 a2 a3 : Int32) : wp_X9_antenna a1 a2 a3 S (fun r S1 => wp_X10_antenna a1 a2 a3 S1 (fun r2 S2 => r = r2 ∧ Rel S2)) := by
  have h' := h
  obtain ⟨hA, hB, hC, hD, hE, hF, hG, hH, hS, hX⟩ := h'
  unfold wp_X9_antenna
  refine hA.in (fun k hkn hk e1 e2 hv hvn => ⟨fun z => (by cases z), fun j hj => ?_⟩) (fun hb => ⟨fun _ => rf_antenna_bad hA (Or.inl hb) ⟨rfl, h⟩, fun j hj => by cases hj⟩)
  cases hj
  refine sp_cEpoch (fun hv2 => bq_f i10 ?_) (fun hb => bq_t rfl (rf_antenna_bad hA (Or.inr (Or.inl hb)) ⟨rfl, h⟩))
  refine sp_within (fun p1 p2 => bq_nf i10 ⟨hkn, ?_⟩) (fun hb => bq_nt rfl (rf_antenna_bad hA (Or.inr (Or.inr hb)) ⟨rfl, h⟩))
  refine ⟨fun hkd => ⟨hkn, hkd, fun x ex S1 es1 S2 es2 => ?_⟩, fun hkd => ?_⟩
  · subst es1 es2
    have hA' : rA (uI (uI S 26 k 5 a2) 26 k 6 a3) := rA_of hA rfl rfl rfl rfl rfl rfl rfl (fun j => (gI_off (by omega)).trans (gI_off (by omega))) (fun j => (gI_off (by omega)).trans (gI_off (by omega))) (fun j => (gI_off (by omega)).trans (gI_off (by omega)))
    unfold wp_X10_antenna
    refine hA'.ref (fun _ => bq_f i10 ?_) (fun n => absurd hvn n)
    refine sp_isEpoch (fun _ => bq_f i10 ?_) (fun n => absurd hv2 n)
    refine sp_in (fun _ _ => bq_nf i10 ?_) (fun n => (n.elim p1 p2).elim)
    refine rf_hasAnt hA' hk e2 hv (fun _ => bq_nf i10 ⟨hv, fun y ey => ⟨hv, fun S3 es3 => ⟨hv, fun S4 es4 => ?_⟩⟩⟩) (fun n => absurd hkd n)
    subst es3 es4
    rw [e2]
    rw [e2] at ey
    refine ⟨by rw [ex, ey]; exact (hB.1 k hk).1.symm, rA_of hA' rfl rfl rfl rfl rfl rfl rfl (fun _ => rfl) (fun _ => rfl) (fun _ => rfl), ⟨fun j hj => ?_, fun j hj => ?_⟩, rC_of hC rfl rfl (fun _ => rfl) (fun j => (gI_off (by omega)).trans (gI_off (by omega))), hD, rE_of hE rfl rfl rfl rfl (fun _ => rfl) (fun _ => rfl) (fun j => (gI_off (by omega)).trans (gI_off (by omega))), hF, hG, hH, hS, rX_of hX rfl (fun j => (gI_off (by omega)).trans (gI_off (by omega))) (fun j => (gI_off (by omega)).trans (gI_off (by omega))) rfl rfl rfl rfl rfl rfl rfl rfl rfl rfl rfl rfl rfl rfl⟩
    · show gA (uA (uI (uI S 26 k 5 a2) 26 k 6 a3) 44 0 k a3) 44 0 j = gI (uI (uI S 26 k 5 a2) 26 k 6 a3) 26 j 6 ∧ gA (uA (uA (uI (uI S 26 k 5 a2) 26 k 6 a3) 44 0 k a3) 45 0 k a2) 45 0 j = gI (uI (uI S 26 k 5 a2) 26 k 6 a3) 26 j 5
      by_cases hjk : j = k
      · subst hjk
        rw [gA_at, gA_at, gI_at, gI_off (by omega), gI_at]
        exact ⟨rfl, rfl⟩
      · rw [gA_off (by omega), gA_off (by omega), gI_off (by omega), gI_off (by omega), gI_off (by omega), gI_off (by omega)]
        exact hB.1 j hj
    · have hj : nM S ≤ j := hj
      show gI (uI (uI S 26 k 5 a2) 26 k 6 a3) 26 j 5 = 0 ∧ gI (uI (uI S 26 k 5 a2) 26 k 6 a3) 26 j 6 = 0
      rw [gI_off (by omega), gI_off (by omega), gI_off (by omega), gI_off (by omega)]
      exact hB.2 j hj
  · unfold wp_X10_antenna
    refine hA.ref (fun _ => bq_f i10 ?_) (fun n => absurd hvn n)
    refine sp_isEpoch (fun _ => bq_f i10 ?_) (fun n => absurd hv2 n)
    refine sp_in (fun _ _ => bq_nf i10 ?_) (fun n => (n.elim p1 p2).elim)
    exact rf_hasAnt hA hk e2 hv (fun n => absurd n hkd) (fun _ => bq_nt rfl ⟨rfl, h⟩)
/-! read -/
theorem rf_read_bad {S : Sg} (hA : rA S) {a1 a2 a3 a4 : Int32} {Q : Int32 → Sg → Prop} (hb : ¬ vp_in a1 (nM S) ∨ ¬ vp_in a2 40 ∨ (a3 < -100000 ∨ 100000 < a3) ∨ (a4 < -100000 ∨ 100000 < a4)) (hq : Q (-1) S) : wp_X10_read a1 a2 a3 a4 S Q := by
  unfold wp_X10_read
  refine hA.ref (fun v1 => bq_f i10 ?_) (fun _ => bq_t rfl hq)
  refine sp_isEpoch (fun v2 => bq_f i10 ?_) (fun _ => bq_t rfl hq)
  refine sp_in (fun q1 q2 => bq_f i10 ?_) (fun _ => bq_t rfl hq)
  refine sp_in (fun q3 q4 => ?_) (fun _ => bq_nt rfl hq)
  exfalso
  rcases hb with hb | hb | (hb | hb) | hb | hb
  · exact hb v1
  · exact hb v2
  · exact q1 hb
  · exact q2 hb
  · exact q3 hb
  · exact q4 hb
theorem in02 : vp_in 0 2 := by rw [vp_in_iff]; decide
theorem in12 : vp_in 1 2 := by rw [vp_in_iff]; decide
abbrev wrR (S : Sg) (k t : Nat) (a b : Int32) : Sg := uA (uA S 29 (2 * k + 0) t a) 29 (2 * k + 1) t b
theorem sp_put {S : Sg} {k : Nat} {a1 a2 a3 : Int32} {Q : Int32 → Sg → Prop} (hk : k < nM S) (hv : vp_in a1 40) (h1 : ¬ gA S 27 k a1.toNatClampNeg = 0 → Q 0 (wrR S k a1.toNatClampNeg a2 a3)) (h0 : gA S 27 k a1.toNatClampNeg = 0 → Q 1 (wrR (uI (uA S 27 k a1.toNatClampNeg 1) 26 k 3 (gI S 26 k 3 + 1)) k a1.toNatClampNeg a2 a3)) : wp_X3_putReading k a1 a2 a3 S Q := by
  refine ⟨hk, hv, _, fun _ _ h => h, fun q => ?_, fun q => ?_⟩
  · refine ⟨_, fun _ h => h, bq_t rfl ⟨hk, in02, hv, fun S8 e8 => ⟨in12, hv, fun S12 e12 => ⟨rfl, ?_⟩⟩⟩⟩
    subst e8 e12
    exact h1 q
  · refine ⟨_, fun _ h => h, bq_f i10 ⟨hk, hv, fun S16 e16 S18 e18 => ?_⟩⟩
    subst e16 e18
    refine ⟨hk, in02, hv, fun S8 e8 => ⟨in12, hv, fun S12 e12 => ⟨rfl, ?_⟩⟩⟩
    subst e8 e12
    exact h0 q
theorem rD_put {S : Sg} {k t : Nat} {a b : Int32} (hk : k < nM S) (hk10 : k < 10) (ht : t < 40) (h : rD S) : rD (uA (uA (wrR S k t a b) 48 0 (2 * (40 * k + t)) a) 48 0 (2 * (40 * k + t) + 1) b) := by
  refine ⟨fun j u s hj hu hs => ?_, fun j u s hj hs => ?_⟩
  · show gA (uA (uA (wrR S k t a b) 48 0 (2 * (40 * k + t)) a) 48 0 (2 * (40 * k + t) + 1) b) 48 0 (2 * (40 * j + u) + s) = gA (wrR S k t a b) 29 (2 * j + s) u
    by_cases hc : j = k ∧ u = t
    · obtain ⟨rfl, rfl⟩ := hc
      rcases (show s = 0 ∨ s = 1 by omega) with rfl | rfl
      · exact ((gA_off (by omega)).trans gA_at).trans ((gA_off (by omega)).trans gA_at).symm
      · exact gA_at.trans gA_at.symm
    · exact ((gA_off (by omega)).trans (gA_off (by omega))).trans ((h.1 j u s hj hu hs).trans ((gA_off (by omega)).trans (gA_off (by omega))).symm)
  · have hj : nM S ≤ j := hj
    show gA (wrR S k t a b) 29 (2 * j + s) u = 0
    rw [gA_off (by omega), gA_off (by omega)]
    exact h.2 j u s hj hs
theorem rl_read {S : Sg} (h : Rel S) (a1 a2 a3 a4 : Int32) : wp_X9_read a1 a2 a3 a4 S (fun r S1 => wp_X10_read a1 a2 a3 a4 S1 (fun r2 S2 => r = r2 ∧ Rel S2)) := by
  have h' := h
  obtain ⟨hA, hB, hC, hD, hE, hF, hG, hH, hS, hX⟩ := h'
  unfold wp_X9_read
  refine hA.in (fun k hkn hk e1 e2 hv hvn => ⟨fun z => (by cases z), fun j hj => ?_⟩) (fun hb => ⟨fun _ => rf_read_bad hA (Or.inl hb) ⟨rfl, h⟩, fun j hj => by cases hj⟩)
  cases hj
  refine sp_cEpoch (fun hv2 => bq_f i10 ?_) (fun hb => bq_t rfl (rf_read_bad hA (Or.inr (Or.inl hb)) ⟨rfl, h⟩))
  refine sp_within (fun p1 p2 => bq_f i10 ?_) (fun hb => bq_t rfl (rf_read_bad hA (Or.inr (Or.inr (Or.inl hb))) ⟨rfl, h⟩))
  refine sp_within (fun p3 p4 => bq_nf i10 ⟨hkn, ?_⟩) (fun hb => bq_nt rfl (rf_read_bad hA (Or.inr (Or.inr (Or.inr hb))) ⟨rfl, h⟩))
  obtain ⟨t, ht, et1, et2⟩ := vp_nat hv2 (by omega)
  have hsp : (40 : Int32) * a1 + a2 = nI (40 * k + t) := by rw [e1, et1]; exact spot_eq k t
  have hspc : ((40 : Int32) * a1 + a2).toNatClampNeg = 40 * k + t := by rw [hsp]; exact nI_clamp (by omega)
  have hs0 : (2 : Int32) * ((40 : Int32) * a1 + a2) = nI (2 * (40 * k + t)) := by rw [hsp]; exact nI_mul 2 _
  have hs1 : (2 : Int32) * ((40 : Int32) * a1 + a2) + 1 = nI (2 * (40 * k + t) + 1) := by rw [hs0]; exact nI_1 _
  have hc0 : ((2 : Int32) * ((40 : Int32) * a1 + a2)).toNatClampNeg = 2 * (40 * k + t) := by rw [hs0]; exact nI_clamp (by omega)
  have hc1 : ((2 : Int32) * ((40 : Int32) * a1 + a2) + 1).toNatClampNeg = 2 * (40 * k + t) + 1 := by rw [hs1]; exact nI_clamp (by omega)
  have hi : vp_in ((40 : Int32) * a1 + a2) 400 := by rw [hsp]; exact in_nI (by omega) (by omega)
  have hi0 : vp_in ((2 : Int32) * ((40 : Int32) * a1 + a2)) 800 := by rw [hs0]; exact in_nI (by omega) (by omega)
  have hi1 : vp_in ((2 : Int32) * ((40 : Int32) * a1 + a2) + 1) 800 := by rw [hs1]; exact in_nI (by omega) (by omega)
  have ref : ∀ (S1 : Sg) (Q : Int32 → Sg → Prop), rA S1 → nM S1 = nM S → Q (if gA S1 47 0 (40 * k + t) = 0 then 1 else 0) (uA (uA (uA S1 47 0 (40 * k + t) 1) 48 0 (2 * (40 * k + t)) a3) 48 0 (2 * (40 * k + t) + 1) a4) → wp_X10_read a1 a2 a3 a4 S1 Q := by
    intro S1 Q hA1 hn hq
    unfold wp_X10_read
    refine hA1.ref (fun _ => bq_f i10 ?_) (fun n => absurd (by rw [hn]; exact hvn) n)
    refine sp_isEpoch (fun _ => bq_f i10 ?_) (fun n => absurd hv2 n)
    refine sp_in (fun _ _ => bq_f i10 ?_) (fun n => (n.elim p1 p2).elim)
    refine sp_in (fun _ _ => bq_nf i10 ?_) (fun n => (n.elim p3 p4).elim)
    refine sp_spot ⟨hi, _, fun _ _ h => h, fun q => ?_, fun q => ?_⟩
    · rw [hspc] at q
      rw [if_pos q] at hq
      refine sp_spot ⟨hi, fun S2 e2 => sp_spot ⟨hi0, fun S3 e3 => sp_spot ⟨hi1, fun S4 e4 => ?_⟩⟩⟩
      subst e2 e3 e4
      rw [hspc, hc0, hc1]
      exact hq
    · rw [hspc] at q
      rw [if_neg q] at hq
      refine sp_spot ⟨hi, fun S2 e2 => sp_spot ⟨hi0, fun S3 e3 => sp_spot ⟨hi1, fun S4 e4 => ?_⟩⟩⟩
      subst e2 e3 e4
      rw [hspc, hc0, hc1]
      exact hq
  have h47 := hC.1 k t hk ht
  refine sp_put hkn hv2 (fun q => bq_t rfl ?_) (fun q => bq_f i10 ?_)
  · rw [et2] at q ⊢
    refine ref _ _ hA rfl ?_
    have e47 : ¬ gA (wrR S k t a3 a4) 47 0 (40 * k + t) = 0 := fun e => q (h47.1.symm.trans e)
    rw [if_neg e47]
    refine ⟨rfl, hA, hB, ⟨fun j u hj hu => ?_, hC.2.1, hC.2.2⟩, rD_put hkn hk ht hD, hE, hF, hG, hH, hS, hX⟩
    show gA (uA (wrR S k t a3 a4) 47 0 (40 * k + t) 1) 47 0 (40 * j + u) = gA S 27 j u ∧ _
    by_cases hc : j = k ∧ u = t
    · obtain ⟨rfl, rfl⟩ := hc
      rw [gA_at]
      rcases h47.2 with h0 | h0
      · exact absurd h0 q
      · exact ⟨h0.symm, h47.2⟩
    · rw [gA_off (by omega)]
      exact hC.1 j u hj hu
  · rw [et2] at q ⊢
    have hA1 : rA (wrR (uI (uA S 27 k t 1) 26 k 3 (gI S 26 k 3 + 1)) k t a3 a4) := rA_of hA rfl rfl rfl rfl rfl rfl rfl (fun j => gI_off (by omega)) (fun j => gI_off (by omega)) (fun j => gI_off (by omega))
    refine ref _ _ hA1 rfl ?_
    have e47 : gA (wrR (uI (uA S 27 k t 1) 26 k 3 (gI S 26 k 3 + 1)) k t a3 a4) 47 0 (40 * k + t) = 0 := h47.1.trans q
    rw [if_pos e47]
    refine ⟨rfl, rA_of hA1 rfl rfl rfl rfl rfl rfl rfl (fun _ => rfl) (fun _ => rfl) (fun _ => rfl), rB_of hB rfl rfl rfl (fun j => gI_off (by omega)) (fun j => gI_off (by omega)), ⟨fun j u hj hu => ?_, fun j u hj => ?_, fun j hj => ?_⟩, rD_put (S := uI (uA S 27 k t 1) 26 k 3 (gI S 26 k 3 + 1)) hkn hk ht hD, rE_of hE rfl rfl rfl rfl (fun _ => rfl) (fun _ => rfl) (fun j => gI_off (by omega)), hF, hG, hH, hS, rX_of hX rfl (fun j => gI_off (by omega)) (fun j => gI_off (by omega)) rfl rfl rfl rfl rfl rfl rfl rfl rfl rfl rfl rfl rfl rfl⟩
    · show gA (uA (wrR (uI (uA S 27 k t 1) 26 k 3 (gI S 26 k 3 + 1)) k t a3 a4) 47 0 (40 * k + t) 1) 47 0 (40 * j + u) = gA (uA S 27 k t 1) 27 j u ∧ (gA (uA S 27 k t 1) 27 j u = 0 ∨ gA (uA S 27 k t 1) 27 j u = 1)
      by_cases hc : j = k ∧ u = t
      · obtain ⟨rfl, rfl⟩ := hc
        rw [gA_at, gA_at]
        exact ⟨rfl, Or.inr rfl⟩
      · have e27 : gA (uA S 27 k t 1) 27 j u = gA S 27 j u := gA_off (by omega)
        rw [e27]
        exact ⟨(gA_off (by omega)).trans (hC.1 j u hj hu).1, (hC.1 j u hj hu).2⟩
    · have hj : nM S ≤ j := hj
      show gA (uA S 27 k t 1) 27 j u = 0
      rw [gA_off (by omega)]
      exact hC.2.1 j u hj
    · show gI (uI (uA S 27 k t 1) 26 k 3 (gI S 26 k 3 + 1)) 26 j 3 = nI (cntP (gA (uA S 27 k t 1) 27 j) 40)
      by_cases hjk : j = k
      · subst hjk
        rw [gI_at, gA_same, cntP_set ht q (by decide), hC.2.2 j hj]
        exact nI_1 _
      · rw [gI_off (by omega), gA_uA, if_neg (by omega)]
        exact hC.2.2 j hj
