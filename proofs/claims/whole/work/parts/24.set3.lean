/-! step, line, unline, mark -/
theorem le_nI {a b : Nat} (ha : a < 2 ^ 31) (hb : b < 2 ^ 31) : nI a ≤ nI b ↔ a ≤ b := by
  rw [Int32.le_iff_toInt_le, nI_toInt ha, nI_toInt hb]
  omega
theorem lt_nI {a b : Nat} (ha : a < 2 ^ 31) (hb : b < 2 ^ 31) : nI a < nI b ↔ a < b := by
  rw [Int32.lt_iff_toInt_lt, nI_toInt ha, nI_toInt hb]
  omega
theorem rf_step_bad {S : Sg} (hA : rA S) {a1 a2 a3 a4 : Int32} {Q : Int32 → Sg → Prop} (hb : ¬ vp_in a1 (nM S) ∨ ¬ vp_in a2 40 ∨ (a3 < -10000 ∨ 10000 < a3) ∨ (a4 < -10000 ∨ 10000 < a4)) (hq : Q (-1) S) : wp_X10_step a1 a2 a3 a4 S Q := by
  unfold wp_X10_step
  refine hA.ref (fun v1 => bq_f i10 ?_) (fun _ => bq_t rfl hq)
  refine sp_isEpoch (fun v2 => bq_f i10 ?_) (fun _ => bq_t rfl hq)
  refine sp_in (fun q1 q2 => bq_f i10 ?_) (fun _ => bq_t rfl hq)
  refine sp_in (fun q3 q4 => ?_) (fun _ => bq_nt rfl hq)
  exfalso
  rcases hb with hb | hb | (hb | hb) | hb | hb
  · exact hb v1
  · exact hb v2
  · exact q1 hb
  · exact q2 hb
  · exact q3 hb
  · exact q4 hb
abbrev wrS (S : Sg) (k c : Nat) (a b e : Int32) : Sg := uI (uA (uA (uA S 30 k c a) 32 (2 * k + 0) c b) 32 (2 * k + 1) c e) 26 k 4 (nI c + 1)
abbrev wrT (S : Sg) (k c : Nat) (a b e : Int32) : Sg := uA (uA (uA (uA S 49 0 (10 * k + c) a) 50 0 (2 * (10 * k + c)) b) 50 0 (2 * (10 * k + c) + 1) e) 46 0 k (nI c + 1)
theorem rE_step {S : Sg} {k c : Nat} {a b e : Int32} (hk : k < nM S) (hk10 : k < 10) (hc : c < 10) (h : rE S) : rE (wrT (wrS S k c a b e) k c a b e) := by
  refine ⟨fun j hj => ?_, fun j i hj hi => ?_, fun j i s hj hi hs => ?_, fun j hj => ?_, fun j i hj => ?_, fun j i s hj hs => ?_⟩
  · show gA (uA (uA (uA (uA (wrS S k c a b e) 49 0 (10 * k + c) a) 50 0 (2 * (10 * k + c)) b) 50 0 (2 * (10 * k + c) + 1) e) 46 0 k (nI c + 1)) 46 0 j = gI (wrS S k c a b e) 26 j 4 ∧ ∃ x, x ≤ 10 ∧ gI (wrS S k c a b e) 26 j 4 = nI x
    by_cases hjk : j = k
    · subst hjk
      rw [gA_at, gI_at]
      exact ⟨rfl, c + 1, by omega, nI_1 c⟩
    · rw [gA_off (by omega), gI_off (by omega)]
      exact h.1 j hj
  · show gA (uA (wrS S k c a b e) 49 0 (10 * k + c) a) 49 0 (10 * j + i) = gA (uA S 30 k c a) 30 j i
    by_cases hc2 : j = k ∧ i = c
    · obtain ⟨rfl, rfl⟩ := hc2
      rw [gA_at, gA_at]
    · rw [gA_off (by omega), gA_off (by omega)]
      exact h.2.1 j i hj hi
  · show gA (uA (uA (uA (wrS S k c a b e) 49 0 (10 * k + c) a) 50 0 (2 * (10 * k + c)) b) 50 0 (2 * (10 * k + c) + 1) e) 50 0 (2 * (10 * j + i) + s) = gA (uA (uA (uA S 30 k c a) 32 (2 * k + 0) c b) 32 (2 * k + 1) c e) 32 (2 * j + s) i
    by_cases hc2 : j = k ∧ i = c
    · obtain ⟨rfl, rfl⟩ := hc2
      rcases (show s = 0 ∨ s = 1 by omega) with rfl | rfl
      · exact ((gA_off (by omega)).trans gA_at).trans ((gA_off (by omega)).trans gA_at).symm
      · exact gA_at.trans gA_at.symm
    · exact ((gA_off (by omega)).trans (gA_off (by omega))).trans ((h.2.2.1 j i s hj hi hs).trans ((gA_off (by omega)).trans (gA_off (by omega))).symm)
  · have hj : nM S ≤ j := hj
    show gI (wrS S k c a b e) 26 j 4 = 0
    rw [gI_off (by omega)]
    exact h.2.2.2.1 j hj
  · have hj : nM S ≤ j := hj
    show gA (uA S 30 k c a) 30 j i = 0
    rw [gA_off (by omega)]
    exact h.2.2.2.2.1 j i hj
  · have hj : nM S ≤ j := hj
    show gA (uA (uA (uA S 30 k c a) 32 (2 * k + 0) c b) 32 (2 * k + 1) c e) 32 (2 * j + s) i = 0
    rw [gA_off (by omega), gA_off (by omega)]
    exact h.2.2.2.2.2 j i s hj hs
theorem rl_step {S : Sg} (h : Rel S) (a1 a2 a3 a4 : Int32) : wp_X9_step a1 a2 a3 a4 S (fun r S1 => wp_X10_step a1 a2 a3 a4 S1 (fun r2 S2 => r = r2 ∧ Rel S2)) := by
  have h' := h
  obtain ⟨hA, hB, hC, hD, hE, hF, hG, hH, hS, hX⟩ := h'
  unfold wp_X9_step
  refine hA.in (fun k hkn hk e1 e2 hv hvn => ⟨fun z => (by cases z), fun j hj => ?_⟩) (fun hb => ⟨fun _ => rf_step_bad hA (Or.inl hb) ⟨rfl, h⟩, fun j hj => by cases hj⟩)
  cases hj
  refine sp_cEpoch (fun hv2 => bq_f i10 ?_) (fun hb => bq_t rfl (rf_step_bad hA (Or.inr (Or.inl hb)) ⟨rfl, h⟩))
  refine sp_within (fun p1 p2 => bq_f i10 ?_) (fun hb => bq_t rfl (rf_step_bad hA (Or.inr (Or.inr (Or.inl hb))) ⟨rfl, h⟩))
  refine sp_within (fun p3 p4 => bq_nf i10 ⟨hkn, ?_⟩) (fun hb => bq_nt rfl (rf_step_bad hA (Or.inr (Or.inr (Or.inr hb))) ⟨rfl, h⟩))
  obtain ⟨h46, c, hc, h4⟩ := hE.1 k hk
  unfold wp_X3_addStep
  refine ⟨hkn, fun q => ?_, fun q => bq_t rfl ?_⟩
  · rw [h4] at q
    have hc' : c < 10 := (lt_nI (b := 10) (by omega) (by omega)).mp q
    have hin : vp_in (nI c) 10 := in_nI hc' (by omega)
    have hcl : (nI c).toNatClampNeg = c := nI_clamp (by omega)
    refine ⟨by rw [h4]; exact hin, fun S4 es4 => ⟨in02, ?_⟩⟩
    have g4 : gI S4 26 k 4 = nI c := by rw [es4]; exact h4
    refine ⟨by rw [g4]; exact hin, fun S8 es8 => ⟨in12, ?_⟩⟩
    have g8 : gI S8 26 k 4 = nI c := by rw [es8]; exact g4
    refine ⟨by rw [g8]; exact hin, fun S12 es12 S14 es14 => bq_f i10 ?_⟩
    have g12 : gI S12 26 k 4 = nI c := by rw [es12]; exact g8
    rw [h4, hcl] at es4
    rw [g4, hcl] at es8
    rw [g8, hcl] at es12
    rw [g12] at es14
    have eS : S14 = wrS S k c a2 a3 a4 := by
      rw [es14, es12, es8, es4]
      rfl
    subst eS
    clear es14 es12 es8 es4 g12 g8 g4
    refine ⟨hkn, hkn, ?_⟩
    have hA1 : rA (wrS S k c a2 a3 a4) := rA_of hA rfl rfl rfl rfl rfl rfl rfl (fun j => gI_off (by omega)) (fun j => gI_off (by omega)) (fun j => gI_off (by omega))
    have hsp : (10 : Int32) * a1 + nI c = nI (10 * k + c) := by
      rw [e1, ← nI_plus, ← nI_mul]
      rfl
    have hs0 : (2 : Int32) * nI (10 * k + c) = nI (2 * (10 * k + c)) := nI_mul 2 _
    have hs1 : nI (2 * (10 * k + c)) + 1 = nI (2 * (10 * k + c) + 1) := nI_1 _
    have c0 : (nI (10 * k + c)).toNatClampNeg = 10 * k + c := nI_clamp (by omega)
    have c1 : (nI (2 * (10 * k + c))).toNatClampNeg = 2 * (10 * k + c) := nI_clamp (by omega)
    have c2 : (nI (2 * (10 * k + c) + 1)).toNatClampNeg = 2 * (10 * k + c) + 1 := nI_clamp (by omega)
    have i0 : vp_in (nI (10 * k + c)) 100 := in_nI (by omega) (by omega)
    have i1 : vp_in (nI (2 * (10 * k + c))) 200 := in_nI (by omega) (by omega)
    have i2 : vp_in (nI (2 * (10 * k + c) + 1)) 200 := in_nI (by omega) (by omega)
    have g46 : gA (wrS S k c a2 a3 a4) 46 0 k = nI c := h46.trans h4
    unfold wp_X10_step
    refine hA1.ref (fun _ => bq_f i10 ?_) (fun n => absurd hvn n)
    refine sp_isEpoch (fun _ => bq_f i10 ?_) (fun n => absurd hv2 n)
    refine sp_in (fun _ _ => bq_f i10 ?_) (fun n => (n.elim p1 p2).elim)
    refine sp_in (fun _ _ => bq_nf i10 ?_) (fun n => (n.elim p3 p4).elim)
    rw [e2, g46, hsp]
    refine ⟨hv, bq_nf (fun z => ?_) ⟨hv, fun x ex => ?_⟩⟩
    · have := nI_inj (b := 10) (by omega) (by omega) z
      omega
    subst ex
    rw [c0, hs0, c1, hs1, c2]
    refine ⟨i0, fun T1 et1 => ⟨i1, fun T2 et2 => ⟨i2, fun T3 et3 => ⟨hv, hv, fun T4 et4 => ⟨hv, ?_⟩⟩⟩⟩⟩
    have g3 : gA T3 46 0 k = nI c := by rw [et3, et2, et1]; exact g46
    rw [g3] at et4
    have eT : T4 = wrT (wrS S k c a2 a3 a4) k c a2 a3 a4 := by rw [et4, et3, et2, et1]
    subst eT
    refine ⟨?_, rA_of hA1 rfl rfl rfl rfl rfl rfl rfl (fun _ => rfl) (fun _ => rfl) (fun _ => rfl), rB_of hB rfl rfl rfl (fun j => gI_off (by omega)) (fun j => gI_off (by omega)), rC_of hC rfl rfl (fun _ => rfl) (fun j => gI_off (by omega)), hD, rE_step hkn hk hc' hE, hF, hG, hH, hS, rX_of hX rfl (fun j => gI_off (by omega)) (fun j => gI_off (by omega)) rfl rfl rfl rfl rfl rfl rfl rfl rfl rfl rfl rfl rfl rfl⟩
    rw [gI_at, gA_at]
  · have hc' : c = 10 := by
      rw [h4] at q
      have := mt (lt_nI (a := c) (b := 10) (by omega) (by omega)).mpr q
      omega
    unfold wp_X10_step
    refine hA.ref (fun _ => bq_f i10 ?_) (fun n => absurd hvn n)
    refine sp_isEpoch (fun _ => bq_f i10 ?_) (fun n => absurd hv2 n)
    refine sp_in (fun _ _ => bq_f i10 ?_) (fun n => (n.elim p1 p2).elim)
    refine sp_in (fun _ _ => bq_nf i10 ?_) (fun n => (n.elim p3 p4).elim)
    rw [e2, h46, h4, hc']
    exact ⟨hv, bq_nt rfl ⟨rfl, h⟩⟩
/-! line -/
theorem rf_line_bad {S : Sg} (hA : rA S) {a1 a2 a3 : Int32} {Q : Int32 → Sg → Prop} (hb : ¬ vp_in a1 (nM S) ∨ ¬ vp_in a2 (nM S) ∨ a1 = a2 ∨ (a3 < -10000 ∨ 10000 < a3)) (hq : Q (-1) S) : wp_X10_line a1 a2 a3 S Q := by
  unfold wp_X10_line
  refine hA.ref (fun v1 => bq_f i10 ?_) (fun _ => bq_t rfl hq)
  refine hA.ref (fun v2 => bq_f i10 ⟨fun _ => hq, fun q0 => ?_⟩) (fun _ => bq_t rfl hq)
  refine sp_in (fun q3 q4 => ?_) (fun _ => bq_nt rfl hq)
  exfalso
  rcases hb with hb | hb | hb | hb | hb
  · exact hb v1
  · exact hb v2
  · exact q0 hb
  · exact q3 hb
  · exact q4 hb
theorem rl_line {S : Sg} (h : Rel S) (a1 a2 a3 : Int32) : wp_X9_line a1 a2 a3 S (fun r S1 => wp_X10_line a1 a2 a3 S1 (fun r2 S2 => r = r2 ∧ Rel S2)) := by
  have h' := h
  obtain ⟨hA, hB, hC, hD, hE, hF, hG, hH, hS, hX⟩ := h'
  unfold wp_X9_line
  refine hA.in (fun k hkn hk e1 e2 hv hvn => ⟨fun z => (by cases z), fun j hj => ?_⟩) (fun hb => ⟨fun _ => rf_line_bad hA (Or.inl hb) ⟨rfl, h⟩, fun j hj => by cases hj⟩)
  cases hj
  refine hA.in (fun k2 hkn2 hk2 f1 f2 hw hwn => ⟨fun z => (by cases z), fun j hj => ?_⟩) (fun hb => ⟨fun _ => rf_line_bad hA (Or.inr (Or.inl hb)) ⟨rfl, h⟩, fun j hj => by cases hj⟩)
  cases hj
  refine ⟨fun e => rf_line_bad hA (Or.inr (Or.inr (Or.inl e))) ⟨rfl, h⟩, fun ne => ?_⟩
  refine sp_within (fun p1 p2 => bq_nf i10 ?_) (fun hb => bq_nt rfl (rf_line_bad hA (Or.inr (Or.inr (Or.inr hb))) ⟨rfl, h⟩))
  obtain ⟨m, hm, c1, c2, hl⟩ := hH
  have b1 : btw a3 10000 := btw_of (m := 10000) (M := 10000) (by decide) (by decide) p1 p2
  unfold wp_X2_addLine
  refine ⟨fun q => ?_, fun q => bq_t rfl ?_⟩
  · rw [c1] at q
    have hm' : m < 14 := (lt_nI (b := 14) (by omega) (by omega)).mp q
    have hin : vp_in (nI m) 14 := in_nI hm' (by omega)
    have hcl : (nI m).toNatClampNeg = m := nI_clamp (by omega)
    refine ⟨by rw [c1]; exact hin, fun S3 es3 => ?_⟩
    have g3 : gI S3 14 0 3 = nI m := by rw [es3]; exact c1
    refine ⟨by rw [g3]; exact hin, fun S5 es5 => ?_⟩
    have g5 : gI S5 14 0 3 = nI m := by rw [es5]; exact g3
    refine ⟨by rw [g5]; exact hin, fun S7 es7 S8 es8 S9 es9 => bq_f i10 ?_⟩
    have g7 : gI S7 14 0 3 = nI m := by rw [es7]; exact g5
    rw [c1, hcl] at es3
    rw [g3, hcl] at es5
    rw [g5, hcl] at es7
    rw [g7] at es8
    have eS : S9 = uI (uI (uA (uA (uA S 15 0 m a1) 16 0 m a2) 17 0 m a3) 14 0 3 (nI m + 1)) 14 0 10 0 := by rw [es9, es8, es7, es5, es3]
    subst eS
    clear es9 es8 es7 es5 es3 g7 g5 g3
    have hA1 : rA (uI (uI (uA (uA (uA S 15 0 m a1) 16 0 m a2) 17 0 m a3) 14 0 3 (nI m + 1)) 14 0 10 0) := hA
    have d22 : gI (uI (uI (uA (uA (uA S 15 0 m a1) 16 0 m a2) 17 0 m a3) 14 0 3 (nI m + 1)) 14 0 10 0) 40 0 22 = nI m := c2
    unfold wp_X2_lineCount wp_X10_line
    refine hA1.ref (fun _ => bq_f i10 ?_) (fun n => absurd hvn n)
    refine hA1.ref (fun _ => bq_f i10 (bq_f ne ?_)) (fun n => absurd hwn n)
    refine sp_in (fun _ _ => bq_nf i10 ?_) (fun n => (n.elim p1 p2).elim)
    rw [d22, hcl]
    refine bq_nf (fun z => by have := nI_inj (b := 14) (by omega) (by omega) z; omega) ⟨hin, fun T1 et1 => ?_⟩
    have t1 : gI T1 40 0 22 = nI m := by rw [et1]; exact d22
    rw [t1, hcl]
    refine ⟨hin, fun T2 et2 => ?_⟩
    have t2 : gI T2 40 0 22 = nI m := by rw [et2]; exact t1
    rw [t2, hcl]
    refine ⟨hin, fun T3 et3 T4 et4 => ?_⟩
    have t3 : gI T3 40 0 22 = nI m := by rw [et3]; exact t2
    rw [t3] at et4
    have eT : T4 = uI (uA (uA (uA (uI (uI (uA (uA (uA S 15 0 m a1) 16 0 m a2) 17 0 m a3) 14 0 3 (nI m + 1)) 14 0 10 0) 59 0 m a1) 60 0 m a2) 61 0 m a3) 40 0 22 (nI m + 1) := by rw [et4, et3, et2, et1]
    subst eT
    refine ⟨rfl, hA, hB, hC, hD, hE, hF, hG, ⟨m + 1, by omega, nI_1 m, nI_1 m, fun i hi => ?_⟩, hS, hX.1, hX.2.1, fun n => absurd rfl n⟩
    show gA (uA (uI (uI (uA (uA (uA S 15 0 m a1) 16 0 m a2) 17 0 m a3) 14 0 3 (nI m + 1)) 14 0 10 0) 59 0 m a1) 59 0 i = gA (uA S 15 0 m a1) 15 0 i ∧ gA (uA (uA (uI (uI (uA (uA (uA S 15 0 m a1) 16 0 m a2) 17 0 m a3) 14 0 3 (nI m + 1)) 14 0 10 0) 59 0 m a1) 60 0 m a2) 60 0 i = gA (uA (uA S 15 0 m a1) 16 0 m a2) 16 0 i ∧ gA (uA (uA (uA (uI (uI (uA (uA (uA S 15 0 m a1) 16 0 m a2) 17 0 m a3) 14 0 3 (nI m + 1)) 14 0 10 0) 59 0 m a1) 60 0 m a2) 61 0 m a3) 61 0 i = gA (uA (uA (uA S 15 0 m a1) 16 0 m a2) 17 0 m a3) 17 0 i ∧ btw (gA (uA (uA (uA S 15 0 m a1) 16 0 m a2) 17 0 m a3) 17 0 i) 10000 ∧ ∃ a b, a < nM S ∧ b < nM S ∧ a ≠ b ∧ gA (uA S 15 0 m a1) 15 0 i = nI a ∧ gA (uA (uA S 15 0 m a1) 16 0 m a2) 16 0 i = nI b
    by_cases him : i = m
    · subst him
      rw [gA_at, gA_at, gA_at, gA_at, gA_at, gA_at]
      refine ⟨rfl, rfl, rfl, b1, k, k2, hkn, hkn2, fun e => ne (by rw [e1, f1, e]), e1, f1⟩
    · obtain ⟨l1, l2, l3, l4, a, b, ha, hb, hab, l5, l6⟩ := hl i (by omega)
      have e15 : gA (uA S 15 0 m a1) 15 0 i = gA S 15 0 i := gA_off (by omega)
      have e16 : gA (uA (uA S 15 0 m a1) 16 0 m a2) 16 0 i = gA S 16 0 i := gA_off (by omega)
      have e17 : gA (uA (uA (uA S 15 0 m a1) 16 0 m a2) 17 0 m a3) 17 0 i = gA S 17 0 i := gA_off (by omega)
      rw [e15, e16, e17]
      exact ⟨(gA_off (by omega)).trans l1, (gA_off (by omega)).trans l2, (gA_off (by omega)).trans l3, l4, a, b, ha, hb, hab, l5, l6⟩
  · have hm' : m = 14 := by
      rw [c1] at q
      have := mt (lt_nI (a := m) (b := 14) (by omega) (by omega)).mpr q
      omega
    subst hm'
    unfold wp_X10_line
    refine hA.ref (fun _ => bq_f i10 ?_) (fun n => absurd hvn n)
    refine hA.ref (fun _ => bq_f i10 (bq_f ne ?_)) (fun n => absurd hwn n)
    refine sp_in (fun _ _ => bq_nf i10 ?_) (fun n => (n.elim p1 p2).elim)
    exact bq_nt c2 ⟨rfl, h⟩
theorem rl_unline {S : Sg} (h : Rel S) : wp_X9_unline S (fun r S1 => wp_X10_unline S1 (fun r2 S2 => r = r2 ∧ Rel S2)) := by
  have h' := h
  obtain ⟨hA, hB, hC, hD, hE, hF, hG, hH, hS, hX⟩ := h'
  obtain ⟨m, hm, c1, c2, hl⟩ := hH
  unfold wp_X9_unline wp_X2_dropLine
  refine ⟨fun q S2 es2 S3 es3 => bq_f i10 ?_, fun q => bq_t rfl ?_⟩
  · subst es2 es3
    rw [c1] at q ⊢
    have hm0 : 0 < m := (lt_nI (a := 0) (by omega) (by omega)).mp q
    obtain ⟨k, rfl⟩ : ∃ k, m = k + 1 := ⟨m - 1, by omega⟩
    rw [nI_pred]
    unfold wp_X2_lineCount wp_X10_unline
    have d22 : gI (uI (uI S 14 0 3 (nI k)) 14 0 10 0) 40 0 22 = nI (k + 1) := c2
    refine bq_nf (fun z => by have := nI_inj (b := 0) (by omega) (by omega) (d22.symm.trans z); omega) (fun T et => ?_)
    rw [d22, nI_pred] at et
    subst et
    exact ⟨rfl, hA, hB, hC, hD, hE, hF, hG, ⟨k, by omega, rfl, rfl, fun i hi => hl i (by omega)⟩, hS, hX.1, hX.2.1, fun n => absurd rfl n⟩
  · rw [c1] at q
    have hm0 : m = 0 := by
      have := mt (lt_nI (a := 0) (b := m) (by omega) (by omega)).mpr q
      omega
    subst hm0
    unfold wp_X10_unline
    exact bq_nt c2 ⟨rfl, h⟩
/-! mark -/
theorem rf_mark_bad {S : Sg} {a1 a2 a3 : Int32} {Q : Int32 → Sg → Prop} (hb : a1 < 0 ∨ 3 < a1 ∨ (a2 < -1000 ∨ 1000 < a2) ∨ (a3 < -1000 ∨ 1000 < a3)) (hq : Q (-1) S) : wp_X10_mark a1 a2 a3 S Q := by
  unfold wp_X10_mark
  refine sp_in (fun q1 q2 => bq_f i10 ?_) (fun _ => bq_t rfl hq)
  refine sp_in (fun q3 q4 => bq_f i10 ?_) (fun _ => bq_t rfl hq)
  refine sp_in (fun q5 q6 => ?_) (fun _ => bq_nt rfl hq)
  exfalso
  rcases hb with hb | hb | (hb | hb) | hb | hb
  · exact q1 hb
  · exact q2 hb
  · exact q3 hb
  · exact q4 hb
  · exact q5 hb
  · exact q6 hb
theorem kdOf_nI {a : Int32} (h0 : ¬ a < 0) (h3 : ¬ 3 < a) : nI (kdOf a) = a := by
  have hv : vp_in a 4 := (vp_in_cmp (a := a) (n := 4) (by omega)).mpr ⟨h0, h3⟩
  obtain ⟨k, hk, rfl, -⟩ := vp_nat hv (by omega)
  rcases (show k = 0 ∨ k = 1 ∨ k = 2 ∨ k = 3 by omega) with rfl | rfl | rfl | rfl <;> decide
theorem rl_mark {S : Sg} (h : Rel S) (a1 a2 a3 : Int32) : wp_X9_mark a1 a2 a3 S (fun r S1 => wp_X10_mark a1 a2 a3 S1 (fun r2 S2 => r = r2 ∧ Rel S2)) := by
  have h' := h
  obtain ⟨hA, hB, hC, hD, hE, hF, hG, hH, hS, hX⟩ := h'
  unfold wp_X9_mark
  refine ⟨fun q => rf_mark_bad (Or.inl q) ⟨rfl, h⟩, fun q0 => ⟨fun q => rf_mark_bad (Or.inr (Or.inl q)) ⟨rfl, h⟩, fun q1 => ?_⟩⟩
  refine sp_within (fun p1 p2 => bq_f i10 ?_) (fun hb => bq_t rfl (rf_mark_bad (Or.inr (Or.inr (Or.inl hb))) ⟨rfl, h⟩))
  refine sp_within (fun p3 p4 => bq_f i10 ?_) (fun hb => bq_t rfl (rf_mark_bad (Or.inr (Or.inr (Or.inr hb))) ⟨rfl, h⟩))
  have hc6 := hA.2.1
  have hc1 := hA.2.2.1
  have hn10 := hA.1
  refine ⟨fun q => ?_, fun q => ?_⟩
  · have hn : nM S = 10 := by
      rw [hc6] at q
      have := mt (lt_nI (a := nM S) (b := 10) (by omega) (by omega)).mpr q
      omega
    unfold wp_X10_mark
    refine sp_in (fun _ _ => bq_f i10 ?_) (fun n => (n.elim q0 q1).elim)
    refine sp_in (fun _ _ => bq_f i10 ?_) (fun n => (n.elim p1 p2).elim)
    refine sp_in (fun _ _ => bq_nf i10 ?_) (fun n => (n.elim p3 p4).elim)
    rw [hc1, hn]
    exact bq_nt rfl ⟨rfl, h⟩
  · have hn : nM S < 10 := by
      rw [hc6] at q
      exact (lt_nI (b := 10) (by omega) (by omega)).mp q
    refine ⟨hc6, hn, fun d j hd hj => ?_, fun S3 es3 S4 es4 S5 es5 S6 es6 => ?_⟩
    · rcases (hS d hd).2 with ⟨-, e⟩ | ⟨-, i, hi, e, -⟩ | ⟨-, e, -⟩
      · rw [e] at hj
        cases hj
      · rw [e] at hj
        cases hj
        exact hi
      · rw [e] at hj
        cases hj
    have g3 : gI S3 0 0 6 = nI (nM S) := by rw [es3]; exact hc6
    rw [hc6] at es3
    rw [g3, nI_1] at es4
    subst es6 es5 es4 es3
    have e40 : gI (uI (uI (uI (nwM S (kdOf a1) (nI (nM S)) a2 a3) 0 0 6 (nI (nM S + 1))) 6 0 5 0) 11 0 5 0) 40 0 1 = nI (nM S) := hc1
    have hin : vp_in (nI (nM S)) 10 := in_nI hn (by omega)
    have hcl : (nI (nM S)).toNatClampNeg = nM S := nI_clamp (by omega)
    unfold wp_X10_mark
    refine sp_in (fun _ _ => bq_f i10 ?_) (fun n => (n.elim q0 q1).elim)
    refine sp_in (fun _ _ => bq_f i10 ?_) (fun n => (n.elim p1 p2).elim)
    refine sp_in (fun _ _ => bq_nf i10 ?_) (fun n => (n.elim p3 p4).elim)
    rw [e40, hcl]
    refine bq_nf (fun z => by have := nI_inj (b := 10) (by omega) (by omega) z; omega) ⟨hin, fun T1 et1 => ?_⟩
    have t1 : gI T1 40 0 1 = nI (nM S) := by rw [et1]; exact e40
    rw [t1, hcl]
    refine ⟨hin, fun T2 et2 => ?_⟩
    have t2 : gI T2 40 0 1 = nI (nM S) := by rw [et2]; exact t1
    rw [t2, hcl]
    refine ⟨hin, fun T3 et3 T4 et4 => ?_⟩
    have t3 : gI T3 40 0 1 = nI (nM S) := by rw [et3]; exact t2
    rw [t3, nI_1] at et4
    subst et4 et3 et2 et1
    have hA5 := hA.2.2.2.2.1
    have b2 : btw a2 1000 := btw_of (m := 1000) (M := 1000) (by decide) (by decide) p1 p2
    have b3 : btw a3 1000 := btw_of (m := 1000) (M := 1000) (by decide) (by decide) p3 p4
    have hle : nM S ≤ nM S + 1 := Nat.le_succ _
    have o26 : ∀ j, j ≠ nM S → gI (nwM S (kdOf a1) (nI (nM S)) a2 a3) 26 j = gI S 26 j := fun j hj => if_neg hj
    have n26 : gI (nwM S (kdOf a1) (nI (nM S)) a2 a3) 26 (nM S) = (fun f => if f = 0 then nI (nM S) else if f = 1 then a2 else if f = 2 then a3 else 0) := if_pos rfl
    have z3 : gI S 26 (nM S) 3 = 0 := by
      rw [hC.2.2 _ hn]
      have : nP S (nM S) 40 = 0 := by
        unfold nP
        rw [cntP_congr (g := fun _ => 0) (fun t _ => hC.2.1 (nM S) t (Nat.le_refl _))]
        rfl
      rw [this]
      rfl
    have k3 : ∀ j, gI (nwM S (kdOf a1) (nI (nM S)) a2 a3) 26 j 3 = gI S 26 j 3 := fun j => by
      by_cases hj : j = nM S
      · subst hj
        rw [n26, z3]
        rfl
      · rw [o26 j hj]
    have k4 : ∀ j, gI (nwM S (kdOf a1) (nI (nM S)) a2 a3) 26 j 4 = gI S 26 j 4 := fun j => by
      by_cases hj : j = nM S
      · subst hj
        rw [n26, hE.2.2.2.1 _ (Nat.le_refl _)]
        rfl
      · rw [o26 j hj]
    have k5 : ∀ j, gI (nwM S (kdOf a1) (nI (nM S)) a2 a3) 26 j 5 = gI S 26 j 5 := fun j => by
      by_cases hj : j = nM S
      · subst hj
        rw [n26, (hB.2 _ (Nat.le_refl _)).1]
        rfl
      · rw [o26 j hj]
    have k6 : ∀ j, gI (nwM S (kdOf a1) (nI (nM S)) a2 a3) 26 j 6 = gI S 26 j 6 := fun j => by
      by_cases hj : j = nM S
      · subst hj
        rw [n26, (hB.2 _ (Nat.le_refl _)).2]
        rfl
      · rw [o26 j hj]
    have r27 : ∀ j, gA (nwM S (kdOf a1) (nI (nM S)) a2 a3) 27 j = gA S 27 j := fun j => by
      show (if j = nM S then (fun _ => 0) else gA S 27 j) = gA S 27 j
      split
      · next e => exact funext (fun i => (hC.2.1 j i (by omega)).symm)
      · rfl
    have r30 : ∀ j, gA (nwM S (kdOf a1) (nI (nM S)) a2 a3) 30 j = gA S 30 j := fun j => by
      show (if j = nM S then (fun _ => 0) else gA S 30 j) = gA S 30 j
      split
      · next e => exact funext (fun i => (hE.2.2.2.2.1 j i (by omega)).symm)
      · rfl
    have r33 : ∀ j, gA (nwM S (kdOf a1) (nI (nM S)) a2 a3) 33 j = gA S 33 j := fun j => by
      show (if j = nM S then (fun _ => 0) else gA S 33 j) = gA S 33 j
      split
      · next e => exact funext (fun i => (hF.2 j i (by omega)).symm)
      · rfl
    have r34 : ∀ j, gA (nwM S (kdOf a1) (nI (nM S)) a2 a3) 34 j = gA S 34 j := fun j => by
      show (if j = nM S then (fun _ => 0) else gA S 34 j) = gA S 34 j
      split
      · next e => exact funext (fun i => (hG.2.1 j i (by omega)).symm)
      · rfl
    have r29 : ∀ j, gA (nwM S (kdOf a1) (nI (nM S)) a2 a3) 29 j = gA S 29 j := fun j => by
      show (if j = 2 * nM S then (fun _ => 0) else if j = 2 * nM S + 1 then (fun _ => 0) else gA S 29 j) = gA S 29 j
      split
      · next e => rw [e]; exact funext (fun i => (hD.2 (nM S) i 0 (Nat.le_refl _) (by omega)).symm)
      · split
        · next e => rw [e]; exact funext (fun i => (hD.2 (nM S) i 1 (Nat.le_refl _) (by omega)).symm)
        · rfl
    have r32 : ∀ j, gA (nwM S (kdOf a1) (nI (nM S)) a2 a3) 32 j = gA S 32 j := fun j => by
      show (if j = 2 * nM S then (fun _ => 0) else if j = 2 * nM S + 1 then (fun _ => 0) else gA S 32 j) = gA S 32 j
      split
      · next e => rw [e]; exact funext (fun i => (hE.2.2.2.2.2 (nM S) i 0 (Nat.le_refl _) (by omega)).symm)
      · split
        · next e => rw [e]; exact funext (fun i => (hE.2.2.2.2.2 (nM S) i 1 (Nat.le_refl _) (by omega)).symm)
        · rfl
    refine ⟨rfl, ⟨Nat.succ_le_of_lt hn, rfl, rfl, fun k => ?_, fun k hk => ?_, fun k hk => ?_⟩, rB_up hB hle rfl rfl k5 k6, rC_up hC hle rfl r27 k3, rD_up hD hle rfl r29, rE_up hE hle rfl rfl rfl r30 r32 k4, rF_up hF hle rfl rfl r33, rG_up hG hle rfl r34 rfl rfl, rH_up hH hle rfl rfl rfl rfl rfl rfl rfl rfl, rS_up hS hle rfl rfl rfl (fun _ => rfl) rfl (fun _ => rfl) rfl, ⟨hX.1.1, fun n => absurd rfl n⟩, fun n => absurd rfl n, hX.2.2⟩
    · show (if k = nM S then kdOf a1 else kM S k) < 4
      split
      · exact kdOf_lt a1
      · exact hA.2.2.2.1 k
    · show gA (uA (uI (uI (uI (nwM S (kdOf a1) (nI (nM S)) a2 a3) 0 0 6 (nI (nM S + 1))) 6 0 5 0) 11 0 5 0) 41 0 (nM S) a1) 41 0 k = nI (if k = nM S then kdOf a1 else kM S k) ∧ gA (uA (uA (uI (uI (uI (nwM S (kdOf a1) (nI (nM S)) a2 a3) 0 0 6 (nI (nM S + 1))) 6 0 5 0) 11 0 5 0) 41 0 (nM S) a1) 42 0 (nM S) a2) 42 0 k = gI (nwM S (kdOf a1) (nI (nM S)) a2 a3) 26 k 1 ∧ gA (uA (uA (uA (uI (uI (uI (nwM S (kdOf a1) (nI (nM S)) a2 a3) 0 0 6 (nI (nM S + 1))) 6 0 5 0) 11 0 5 0) 41 0 (nM S) a1) 42 0 (nM S) a2) 43 0 (nM S) a3) 43 0 k = gI (nwM S (kdOf a1) (nI (nM S)) a2 a3) 26 k 2 ∧ btw (gI (nwM S (kdOf a1) (nI (nM S)) a2 a3) 26 k 1) 1000 ∧ btw (gI (nwM S (kdOf a1) (nI (nM S)) a2 a3) 26 k 2) 1000
      by_cases hkn : k = nM S
      · subst hkn
        rw [gA_at, gA_at, gA_at, if_pos rfl, n26]
        exact ⟨(kdOf_nI q0 q1).symm, rfl, rfl, b2, b3⟩
      · rw [if_neg hkn, o26 k hkn]
        have h5 := hA5 k hk
        exact ⟨(gA_off (by omega)).trans h5.1, (gA_off (by omega)).trans h5.2.1, (gA_off (by omega)).trans h5.2.2.1, h5.2.2.2⟩
    · have hk : k < nM S + 1 := hk
      show gI (nwM S (kdOf a1) (nI (nM S)) a2 a3) 26 k 0 = nI k
      by_cases hkn : k = nM S
      · subst hkn
        rw [n26]
        rfl
      · rw [o26 k hkn]
        exact hA.2.2.2.2.2 k (by omega)
