/-! gap -/
theorem rf_gap_bad {S : Sg} (hA : rA S) {a1 a2 : Int32} {Q : Int32 → Sg → Prop} (hb : ¬ vp_in a1 (nM S) ∨ ¬ vp_in a2 40) (hq : Q (-1) S) : wp_X10_gap a1 a2 S Q := by
  unfold wp_X10_gap
  refine hA.ref (fun v1 => bq_f i10 ?_) (fun _ => bq_t rfl hq)
  refine sp_isEpoch (fun v2 => ?_) (fun _ => bq_nt rfl hq)
  exfalso
  rcases hb with hb | hb
  · exact hb v1
  · exact hb v2
theorem z_or1 {x : Int32} (h : x = 0 ∨ x = 1) : narrow .boolean (.int x) = .int x := by
  rcases h with rfl | rfl <;> rfl
theorem sp_drop {S : Sg} {k : Nat} {a1 : Int32} {Q : Int32 → Sg → Prop} (hk : k < nM S) (hv : vp_in a1 40) (hz : gA S 27 k a1.toNatClampNeg = 0 ∨ gA S 27 k a1.toNatClampNeg = 1) (h0 : gA S 27 k a1.toNatClampNeg = 0 → Q 0 S) (h1 : ¬ gA S 27 k a1.toNatClampNeg = 0 → Q 1 (uI (uA S 27 k a1.toNatClampNeg 0) 26 k 3 (gI S 26 k 3 - 1))) : wp_X3_dropReading k a1 S Q := by
  refine ⟨hk, hv, fun x ex => ⟨fun q => ⟨z_or1 (by rw [ex]; exact hz), ?_⟩, fun q => ⟨hv, fun S6 e6 S8 e8 => ⟨z_or1 (by rw [ex]; exact hz), ?_⟩⟩⟩⟩
  · rw [q]
    exact h0 (ex.symm.trans q)
  · subst e6 e8
    have hx : x = 1 := by
      rcases hz with hz | hz
      · exact absurd (ex.trans hz) q
      · exact ex.trans hz
    rw [hx]
    exact h1 (fun e => q (ex.trans e))
theorem rl_gap {S : Sg} (h : Rel S) (a1 a2 : Int32) : wp_X9_gap a1 a2 S (fun r S1 => wp_X10_gap a1 a2 S1 (fun r2 S2 => r = r2 ∧ Rel S2)) := by
  have h' := h
  obtain ⟨hA, hB, hC, hD, hE, hF, hG, hH, hS, hX⟩ := h'
  unfold wp_X9_gap
  refine hA.in (fun k hkn hk e1 e2 hv hvn => ⟨fun z => (by cases z), fun j hj => ?_⟩) (fun hb => ⟨fun _ => rf_gap_bad hA (Or.inl hb) ⟨rfl, h⟩, fun j hj => by cases hj⟩)
  cases hj
  refine sp_cEpoch (fun hv2 => bq_nf i10 ⟨hkn, ?_⟩) (fun hb => bq_nt rfl (rf_gap_bad hA (Or.inr hb) ⟨rfl, h⟩))
  obtain ⟨t, ht, et1, et2⟩ := vp_nat hv2 (by omega)
  have hsp : (40 : Int32) * a1 + a2 = nI (40 * k + t) := by rw [e1, et1]; exact spot_eq k t
  have hspc : ((40 : Int32) * a1 + a2).toNatClampNeg = 40 * k + t := by rw [hsp]; exact nI_clamp (by omega)
  have hi : vp_in ((40 : Int32) * a1 + a2) 400 := by rw [hsp]; exact in_nI (by omega) (by omega)
  have ref : ∀ (S1 : Sg) (Q : Int32 → Sg → Prop), rA S1 → nM S1 = nM S → Q (if gA S1 47 0 (40 * k + t) = 0 then 0 else 1) (uA S1 47 0 (40 * k + t) 0) → wp_X10_gap a1 a2 S1 Q := by
    intro S1 Q hA1 hn hq
    unfold wp_X10_gap
    refine hA1.ref (fun _ => bq_f i10 ?_) (fun n => absurd (by rw [hn]; exact hvn) n)
    refine sp_isEpoch (fun _ => bq_nf i10 ?_) (fun n => absurd hv2 n)
    refine sp_spot ⟨hi, _, fun _ _ h => h, fun q => ?_, fun q => ?_⟩
    · rw [hspc] at q
      rw [if_pos q] at hq
      refine sp_spot ⟨hi, fun S2 e2 => ?_⟩
      subst e2
      rw [hspc]
      exact hq
    · rw [hspc] at q
      rw [if_neg q] at hq
      refine sp_spot ⟨hi, fun S2 e2 => ?_⟩
      subst e2
      rw [hspc]
      exact hq
  have h47 := hC.1 k t hk ht
  refine sp_drop hkn hv2 (by rw [et2]; exact h47.2) (fun q => bq_t rfl ?_) (fun q => bq_f i10 ?_)
  · rw [et2] at q
    refine ref _ _ hA rfl ?_
    have e47 : gA S 47 0 (40 * k + t) = 0 := h47.1.trans q
    rw [if_pos e47]
    refine ⟨rfl, hA, hB, ⟨fun j u hj hu => ?_, hC.2.1, hC.2.2⟩, hD, hE, hF, hG, hH, hS, hX⟩
    show gA (uA S 47 0 (40 * k + t) 0) 47 0 (40 * j + u) = gA S 27 j u ∧ _
    by_cases hc : j = k ∧ u = t
    · obtain ⟨rfl, rfl⟩ := hc
      rw [gA_at]
      exact ⟨q.symm, h47.2⟩
    · rw [gA_off (by omega)]
      exact hC.1 j u hj hu
  · rw [et2] at q ⊢
    have hA1 : rA (uI (uA S 27 k t 0) 26 k 3 (gI S 26 k 3 - 1)) := rA_of hA rfl rfl rfl rfl rfl rfl rfl (fun j => gI_off (by omega)) (fun j => gI_off (by omega)) (fun j => gI_off (by omega))
    refine ref _ _ hA1 rfl ?_
    have e47 : ¬ gA (uI (uA S 27 k t 0) 26 k 3 (gI S 26 k 3 - 1)) 47 0 (40 * k + t) = 0 := fun e => q (h47.1.symm.trans e)
    rw [if_neg e47]
    refine ⟨rfl, rA_of hA1 rfl rfl rfl rfl rfl rfl rfl (fun _ => rfl) (fun _ => rfl) (fun _ => rfl), rB_of hB rfl rfl rfl (fun j => gI_off (by omega)) (fun j => gI_off (by omega)), ⟨fun j u hj hu => ?_, fun j u hj => ?_, fun j hj => ?_⟩, hD, rE_of hE rfl rfl rfl rfl (fun _ => rfl) (fun _ => rfl) (fun j => gI_off (by omega)), hF, hG, hH, hS, rX_of hX rfl (fun j => gI_off (by omega)) (fun j => gI_off (by omega)) rfl rfl rfl rfl rfl rfl rfl rfl rfl rfl rfl rfl rfl rfl⟩
    · show gA (uA (uI (uA S 27 k t 0) 26 k 3 (gI S 26 k 3 - 1)) 47 0 (40 * k + t) 0) 47 0 (40 * j + u) = gA (uA S 27 k t 0) 27 j u ∧ (gA (uA S 27 k t 0) 27 j u = 0 ∨ gA (uA S 27 k t 0) 27 j u = 1)
      by_cases hc : j = k ∧ u = t
      · obtain ⟨rfl, rfl⟩ := hc
        rw [gA_at, gA_at]
        exact ⟨rfl, Or.inl rfl⟩
      · have e27 : gA (uA S 27 k t 0) 27 j u = gA S 27 j u := gA_off (by omega)
        rw [e27]
        exact ⟨(gA_off (by omega)).trans (hC.1 j u hj hu).1, (hC.1 j u hj hu).2⟩
    · have hj : nM S ≤ j := hj
      show gA (uA S 27 k t 0) 27 j u = 0
      rw [gA_off (by omega)]
      exact hC.2.1 j u hj
    · show gI (uI (uA S 27 k t 0) 26 k 3 (gI S 26 k 3 - 1)) 26 j 3 = nI (cntP (gA (uA S 27 k t 0) 27 j) 40)
      by_cases hjk : j = k
      · subst hjk
        have hc := cntP_clr (f := gA S 27 j) ht q
        have h3 : gI S 26 j 3 = nI (cntP (gA S 27 j) 40) := hC.2.2 j hj
        rw [gI_at, gA_same, h3, ← hc]
        exact nI_pred _
      · rw [gI_off (by omega), gA_uA, if_neg (by omega)]
        exact hC.2.2 j hj
/-! velocity -/
theorem rf_velocity_bad {S : Sg} (hA : rA S) {a1 a2 a3 : Int32} {Q : Int32 → Sg → Prop} (hb : ¬ vp_in a1 (nM S) ∨ (a2 < -1000 ∨ 1000 < a2) ∨ (a3 < -1000 ∨ 1000 < a3)) (hq : Q (-1) S) : wp_X10_velocity a1 a2 a3 S Q := by
  unfold wp_X10_velocity
  refine hA.ref (fun v1 => bq_f i10 ?_) (fun _ => bq_t rfl hq)
  refine sp_in (fun q1 q2 => bq_f i10 ?_) (fun _ => bq_t rfl hq)
  refine sp_in (fun q3 q4 => ?_) (fun _ => bq_nt rfl hq)
  exfalso
  rcases hb with hb | (hb | hb) | hb | hb
  · exact hb v1
  · exact q1 hb
  · exact q2 hb
  · exact q3 hb
  · exact q4 hb
theorem btw_le {a : Int32} {m M : Int} (h : btw a m) (hm : m ≤ M) : btw a M := by
  unfold btw at *
  omega
abbrev wrV (S : Sg) (k : Nat) (a b : Int32) : Sg := uI (uI (uA (uA S 33 k 0 a) 33 k 1 b) 6 0 5 0) 11 0 5 0
theorem rF_set {S : Sg} {k : Nat} {a b : Int32} (hk : k < nM S) (hk10 : k < 10) (ha : btw a 100000) (hb : btw b 100000) (h : rF S) : rF (uA (uA (wrV S k a b) 51 0 k a) 52 0 k b) := by
  refine ⟨fun j hj => ?_, fun j i hj => ?_⟩
  · show gA (uA (wrV S k a b) 51 0 k a) 51 0 j = gA (uA (uA S 33 k 0 a) 33 k 1 b) 33 j 0 ∧ gA (uA (uA (wrV S k a b) 51 0 k a) 52 0 k b) 52 0 j = gA (uA (uA S 33 k 0 a) 33 k 1 b) 33 j 1 ∧ btw (gA (uA (uA S 33 k 0 a) 33 k 1 b) 33 j 0) 100000 ∧ btw (gA (uA (uA S 33 k 0 a) 33 k 1 b) 33 j 1) 100000
    by_cases hjk : j = k
    · subst hjk
      have e0 : gA (uA (uA S 33 j 0 a) 33 j 1 b) 33 j 0 = a := by rw [gA_off (by omega), gA_at]
      have e1 : gA (uA (uA S 33 j 0 a) 33 j 1 b) 33 j 1 = b := gA_at
      rw [e0, e1, gA_at, gA_at]
      exact ⟨rfl, rfl, ha, hb⟩
    · have e0 : gA (uA (uA S 33 k 0 a) 33 k 1 b) 33 j 0 = gA S 33 j 0 := by rw [gA_off (by omega), gA_off (by omega)]
      have e1 : gA (uA (uA S 33 k 0 a) 33 k 1 b) 33 j 1 = gA S 33 j 1 := by rw [gA_off (by omega), gA_off (by omega)]
      rw [e0, e1]
      exact ⟨(gA_off (by omega)).trans (h.1 j hj).1, (gA_off (by omega)).trans (h.1 j hj).2.1, (h.1 j hj).2.2⟩
  · have hj : nM S ≤ j := hj
    show gA (uA (uA S 33 k 0 a) 33 k 1 b) 33 j i = 0
    rw [gA_off (by omega), gA_off (by omega)]
    exact h.2 j i hj
theorem rl_velocity {S : Sg} (h : Rel S) (a1 a2 a3 : Int32) : wp_X9_velocity a1 a2 a3 S (fun r S1 => wp_X10_velocity a1 a2 a3 S1 (fun r2 S2 => r = r2 ∧ Rel S2)) := by
  have h' := h
  obtain ⟨hA, hB, hC, hD, hE, hF, hG, hH, hS, hX⟩ := h'
  unfold wp_X9_velocity
  refine hA.in (fun k hkn hk e1 e2 hv hvn => ⟨fun z => (by cases z), fun j hj => ?_⟩) (fun hb => ⟨fun _ => rf_velocity_bad hA (Or.inl hb) ⟨rfl, h⟩, fun j hj => by cases hj⟩)
  cases hj
  refine sp_within (fun p1 p2 => bq_f i10 ?_) (fun hb => bq_t rfl (rf_velocity_bad hA (Or.inr (Or.inl hb)) ⟨rfl, h⟩))
  refine sp_within (fun p3 p4 => bq_nf i10 ⟨hkn, ?_⟩) (fun hb => bq_nt rfl (rf_velocity_bad hA (Or.inr (Or.inr hb)) ⟨rfl, h⟩))
  have hF1 := hF.1 k hk
  have ba : btw a2 100000 := btw_le (btw_of (m := 1000) (M := 1000) (by decide) (by decide) p1 p2) (by omega)
  have bb : btw a3 100000 := btw_le (btw_of (m := 1000) (M := 1000) (by decide) (by decide) p3 p4) (by omega)
  have fin : ∀ c : Int32, c = (if gA S 33 k 0 = a2 ∧ gA S 33 k 1 = a3 then 0 else 1) → wp_X10_velocity a1 a2 a3 (wrV S k a2 a3) (fun r2 S2 => c = r2 ∧ Rel S2) := by
    intro c hc
    have hR : Rel (uA (uA (wrV S k a2 a3) 51 0 k a2) 52 0 k a3) := ⟨hA, hB, hC, hD, hE, rF_set hkn hk ba bb hF, hG, hH, hS, ⟨hX.1.1, fun n => absurd rfl n⟩, fun n => absurd rfl n, hX.2.2⟩
    have hA1 : rA (wrV S k a2 a3) := hA
    unfold wp_X10_velocity
    refine hA1.ref (fun _ => bq_f i10 ?_) (fun n => absurd hvn n)
    refine sp_in (fun _ _ => bq_f i10 ?_) (fun n => (n.elim p1 p2).elim)
    refine sp_in (fun _ _ => bq_nf i10 ?_) (fun n => (n.elim p3 p4).elim)
    refine ⟨hv, _, fun _ _ h => h, _, fun _ h => h, fun q => ?_, fun q => ⟨hv, fun q' => ?_, fun q' => ?_⟩⟩
    · refine ⟨hv, fun S2 es2 => ⟨hv, fun S3 es3 => ?_⟩⟩
      subst es2 es3
      rw [e2] at q ⊢
      refine ⟨?_, hR⟩
      rw [hc, if_neg (fun z => q (hF1.1.trans z.1))]
    · refine ⟨hv, fun S2 es2 => ⟨hv, fun S3 es3 => ?_⟩⟩
      subst es2 es3
      rw [e2] at q' ⊢
      refine ⟨?_, hR⟩
      rw [hc, if_neg (fun z => q' (hF1.2.1.trans z.2))]
    · refine ⟨hv, fun S2 es2 => ⟨hv, fun S3 es3 => ?_⟩⟩
      subst es2 es3
      rw [e2] at q q' ⊢
      refine ⟨?_, hR⟩
      rw [hc, if_pos ⟨hF1.1.symm.trans q, hF1.2.1.symm.trans q'⟩]
  refine ⟨hkn, in02, _, fun _ _ h => h, _, fun _ h => h, fun q => ?_, fun q => ⟨hkn, hkn, in12, fun q' => ?_, fun q' => ?_⟩⟩
  · refine ⟨hkn, hkn, in02, fun S2 es2 => ⟨in12, fun S3 es3 S4 es4 S5 es5 => ?_⟩⟩
    subst es2 es3 es4 es5
    exact bq_f i10 (fin 1 (by rw [if_neg (fun z => q z.1)]))
  · refine ⟨hkn, hkn, in02, fun S2 es2 => ⟨in12, fun S3 es3 S4 es4 S5 es5 => ?_⟩⟩
    subst es2 es3 es4 es5
    exact bq_t rfl (fin 0 (by rw [if_pos ⟨q, q'⟩]))
  · refine ⟨hkn, hkn, in02, fun S2 es2 => ⟨in12, fun S3 es3 S4 es4 S5 es5 => ?_⟩⟩
    subst es2 es3 es4 es5
    exact bq_f i10 (fin 1 (by rw [if_neg (fun z => q' z.2)]))
/-! green -/
theorem rf_green_bad {S : Sg} (hA : rA S) {a1 a2 a3 : Int32} {Q : Int32 → Sg → Prop} (hb : ¬ vp_in a1 (nM S) ∨ ¬ vp_in a2 3 ∨ (a3 < -20 ∨ 20 < a3)) (hq : Q (-1001) S) : wp_X10_green a1 a2 a3 S Q := by
  unfold wp_X10_green
  have hv := vp_in_cmp (a := a2) (n := 3) (by omega)
  refine hA.ref (fun v1 => bq_f i10 ?_) (fun _ => bq_t rfl hq)
  refine sp_in (fun q1 q2 => bq_f i10 ?_) (fun _ => bq_t rfl hq)
  refine sp_in (fun q3 q4 => ?_) (fun _ => bq_nt rfl hq)
  exfalso
  rcases hb with hb | hb | hb | hb
  · exact hb v1
  · exact hb (hv.mpr ⟨q1, q2⟩)
  · exact q3 hb
  · exact q4 hb
theorem rl_green {S : Sg} (h : Rel S) (a1 a2 a3 : Int32) : wp_X9_green a1 a2 a3 S (fun r S1 => wp_X10_green a1 a2 a3 S1 (fun r2 S2 => r = r2 ∧ Rel S2)) := by
  have h' := h
  obtain ⟨hA, hB, hC, hD, hE, hF, hG, hH, hS, hX⟩ := h'
  unfold wp_X9_green
  refine hA.in (fun k hkn hk e1 e2 hv hvn => ⟨fun z => (by cases z), fun j hj => ?_⟩) (fun hb => ⟨fun _ => rf_green_bad hA (Or.inl hb) ⟨rfl, h⟩, fun j hj => by cases hj⟩)
  cases hj
  refine sp_cCut (fun hv2 => bq_f i10 ?_) (fun hb => bq_t rfl (rf_green_bad hA (Or.inr (Or.inl hb)) ⟨rfl, h⟩))
  refine sp_within (fun p1 p2 => bq_nf i10 ⟨hkn, ?_⟩) (fun hb => bq_nt rfl (rf_green_bad hA (Or.inr (Or.inr hb)) ⟨rfl, h⟩))
  obtain ⟨c, hc, ec1, ec2⟩ := vp_nat hv2 (by omega)
  have hsp : (3 : Int32) * a1 + a2 = nI (3 * k + c) := by
    rw [e1, ec1, ← nI_plus, ← nI_mul]
    rfl
  have hspc : ((3 : Int32) * a1 + a2).toNatClampNeg = 3 * k + c := by rw [hsp]; exact nI_clamp (by omega)
  have hi : vp_in ((3 : Int32) * a1 + a2) 30 := by rw [hsp]; exact in_nI (by omega) (by omega)
  have b20 : btw a3 20 := btw_of (m := 20) (M := 20) (by decide) (by decide) p1 p2
  refine ⟨hkn, hv2, hkn, hkn, hv2, fun S1 es1 S2 es2 => ?_⟩
  subst es1 es2
  rw [ec2]
  have hA1 : rA (uI (uA S 34 k c a3) 11 0 5 0) := hA
  have hv3 := (vp_in_cmp (a := a2) (n := 3) (by omega)).mp hv2
  unfold wp_X10_green
  refine hA1.ref (fun _ => bq_f i10 ?_) (fun n => absurd hvn n)
  refine sp_in (fun _ _ => bq_f i10 ?_) (fun n => (n.elim hv3.1 hv3.2).elim)
  refine sp_in (fun _ _ => bq_nf i10 ?_) (fun n => (n.elim p1 p2).elim)
  refine ⟨hi, fun x ex => ⟨hi, fun S3 es3 => ?_⟩⟩
  subst es3
  rw [hspc] at ex ⊢
  refine ⟨by rw [ex]; exact (hG.1 k c hk hc).1.symm, hA, hB, hC, hD, hE, hF, ⟨fun j i hj hi => ?_, fun j i hj => ?_, hG.2.2⟩, hH, hS, hX.1, fun n => absurd rfl n, hX.2.2⟩
  · show gA (uA (uI (uA S 34 k c a3) 11 0 5 0) 56 0 (3 * k + c) a3) 56 0 (3 * j + i) = gA (uA S 34 k c a3) 34 j i ∧ btw (gA (uA S 34 k c a3) 34 j i) 20
    by_cases hcc : j = k ∧ i = c
    · obtain ⟨rfl, rfl⟩ := hcc
      rw [gA_at, gA_at]
      exact ⟨rfl, b20⟩
    · have e34 : gA (uA S 34 k c a3) 34 j i = gA S 34 j i := gA_off (by omega)
      rw [e34]
      exact ⟨(gA_off (by omega)).trans (hG.1 j i hj hi).1, (hG.1 j i hj hi).2⟩
  · have hj : nM S ≤ j := hj
    show gA (uA S 34 k c a3) 34 j i = 0
    rw [gA_off (by omega)]
    exact hG.2.1 j i hj
