/-! common -/
def se (p : Nat → Bool) : Nat → Nat → Nat
  | 0, i => i
  | f + 1, i => if p i = true then i else se p f (i + 1)
theorem se_ok {p : Nat → Bool} {t : Nat} (hp : p t = true) : ∀ f i, i ≤ t → t < i + f → i ≤ se p f i ∧ se p f i ≤ t ∧ p (se p f i) = true ∧ ∀ u, i ≤ u → u < se p f i → ¬ p u = true := by
  intro f
  induction f with
  | zero => intro i h1 h2; omega
  | succ f ih =>
    intro i h1 h2
    by_cases hi : p i = true
    · have e : se p (f + 1) i = i := if_pos hi
      rw [e]
      exact ⟨Nat.le_refl _, h1, hi, fun u h3 h4 => by omega⟩
    · have e : se p (f + 1) i = se p f (i + 1) := if_neg hi
      have hit : i ≠ t := fun z => hi (by rw [z]; exact hp)
      obtain ⟨q1, q2, q3, q4⟩ := ih (i + 1) (by omega) (by omega)
      rw [e]
      refine ⟨by omega, q2, q3, fun u h3 h4 => ?_⟩
      by_cases hu : u = i
      · rw [hu]
        exact hi
      · exact q4 u (by omega) h4
abbrev fE (S : Sg) (k : Nat) : Nat := se (clf (kM S k) (gA S 27 k)) 40 0
theorem sp_first {S : Sg} (hC : rC S) {k t : Nat} (hkn : k < nM S) (hk : k < 10) (ht : t < 40) (hc : clB S k t = true) {Q : Int32 → Sg → Prop} (hq : Q (nI (fE S k)) S) : wp_X3_firstCleared k (nI t) S Q := by
  obtain ⟨-, q2, q3, q4⟩ := se_ok (p := clf (kM S k) (gA S 27 k)) hc 40 0 (Nat.zero_le _) (by omega)
  have q2 : fE S k ≤ t := q2
  have q3 : clB S k (fE S k) = true := q3
  have q4 : ∀ u, u < fE S k → ¬ clB S k u = true := fun u hu => q4 u (Nat.zero_le _) hu
  generalize fE S k = e at q2 q3 q4 hq
  refine ⟨hkn, sp_clearFrom hC hkn hk (fun c hcl hcc => ?_)⟩
  have hce : c ≤ e := (hcc e (by omega)).mpr (clf_iff.mp q3).2
  refine ⟨fun v S1 => S1 = S ∧ ∃ u, c ≤ u ∧ u ≤ e ∧ v = nI u, fun v _ => 40 - v.toNatClampNeg, ⟨rfl, c, Nat.le_refl _, hce, rfl⟩, ?_⟩
  rintro v S1 ⟨rfl, u, h1, h2, rfl⟩
  refine ⟨fun q => ?_, fun q => ?_⟩
  · have h3 := (le_nI (by omega) (by omega)).mp q
    have : e = t := by omega
    subst this
    exact hq
  · have h3 : u < t := by
      have := mt (le_nI (a := t) (b := u) (by omega) (by omega)).mpr q
      omega
    have hu40 : u < 40 := by omega
    refine ⟨hkn, in_nI hu40 (by omega), ?_⟩
    rw [nI_clamp (by omega)]
    refine ⟨fun q0 y ey => ?_, fun q0 => ?_⟩
    · subst ey
      have hne : u ≠ e := fun z => (clf_iff.mp q3).1 (by rw [← z]; exact q0)
      exact ⟨⟨rfl, u + 1, by omega, by omega, nI_1 u⟩, mu_lt hu40 (by omega)⟩
    · have hcu : clB S1 k u = true := clf_iff.mpr ⟨q0, (hcc u hu40).mp h1⟩
      have : u = e := Classical.byContradiction (fun hne => q4 u (by omega) hcu)
      rw [this]
      exact hq
theorem rf_first {S : Sg} (hA : rA S) (hB : rB S) (hC : rC S) (hD : rD S) (hE : rE S) {k t s : Nat} (hk : k < 10) (ht : t < 40) (hs : s < 2) (hc : clB S k t = true) {Q : Int64 → Sg → Prop} (hq : Q (vL S k (fE S k) s) S) : wp_X10_firstOf (nI k) (nI s) S Q := by
  obtain ⟨-, q2, q3, q4⟩ := se_ok (p := clf (kM S k) (gA S 27 k)) hc 40 0 (Nat.zero_le _) (by omega)
  have q2 : fE S k ≤ t := q2
  have q3 : clB S k (fE S k) = true := q3
  have q4 : ∀ u, u < fE S k → ¬ clB S k u = true := fun u hu => q4 u (Nat.zero_le _) hu
  generalize fE S k = e at q2 q3 q4 hq
  refine ⟨fun v S1 => S1 = S ∧ ∃ u, u ≤ e ∧ v = nI u, fun v _ => 40 - v.toNatClampNeg, ⟨rfl, 0, Nat.zero_le _, rfl⟩, ?_⟩
  rintro v S1 ⟨rfl, u, h2, rfl⟩
  have hu40 : u < 40 := by omega
  refine rf_isCl hA hC hk hu40 (fun hcu => bq_nf i10 ?_) (fun hcu => bq_nt rfl (fun y ey => ?_))
  · have : u = e := Classical.byContradiction (fun hne => q4 u (by omega) hcu)
    subst this
    exact rf_clear hA hB hC hD hE hk hu40 hs (clf_iff.mp hcu).1 hq
  · subst ey
    have hne : u ≠ e := fun z => hcu (by rw [z]; exact q3)
    exact ⟨⟨rfl, u + 1, by omega, nI_1 u⟩, mu_lt hu40 (by omega)⟩
def cmS (S : Sg) (t s : Nat) : Nat → Int64
  | 0 => 0
  | k + 1 => if clB S k t = true then cmS S t s k + (vL S k t s - vL S k (fE S k) s) else cmS S t s k
def cmN (S : Sg) (t : Nat) : Nat → Nat
  | 0 => 0
  | k + 1 => if clB S k t = true then cmN S t k + 1 else cmN S t k
theorem cmN_le (S : Sg) (t k : Nat) : cmN S t k ≤ k := by
  induction k with
  | zero => exact Nat.le_refl _
  | succ k ih =>
    unfold cmN
    split <;> omega
theorem rl_common {S : Sg} (h : Rel S) (a1 a2 : Int32) : wp_L_common a1 a2 S (fun k S1 => wp_X10_common a1 a2 S1 (fun b S2 => gI S2 40 0 0 = k ∧ (k = 0 → gL S2 39 0 0 = b) ∧ Rel S2)) := by
  have h' := h
  obtain ⟨hA, hB, hC, hD, hE, hF, hG, hH, hS, hX⟩ := h'
  have hn := hA.1
  unfold wp_L_common wp_X9_common
  have R1 : Rel (uI S 40 0 0 1) := ⟨hA, hB, hC, hD, hE, hF, hG, hH, hS, hX⟩
  have bad : (¬ vp_in a1 40 ∨ ¬ vp_in a2 2) → wp_X10_common a1 a2 S (fun b S2 => gI S2 40 0 0 = 1 ∧ ((1 : Int32) = 0 → gL S2 39 0 0 = b) ∧ Rel S2) := by
    intro hb
    refine ⟨fun v3 v4 v6 S1 => S1 = S ∧ v3 = 0 ∧ v4 = 0 ∧ v6 = 0, fun _ _ _ _ => 0, ⟨rfl, rfl, rfl, rfl⟩, ?_⟩
    rintro v3 v4 v6 S1 ⟨rfl, rfl, rfl, rfl⟩
    refine ⟨fun S2 => S2 = S1, ?_, fun _ => rfl, fun _ => ?_⟩
    · rintro S2 rfl
      refine sp_isEpoch (fun v1 => ⟨fun t S4 => t = 1 ∧ S4 = S2, ?_, fun S8 => S8 = S2, ?_, ?_⟩) (fun _ => ⟨fun t S4 => t = 1 ∧ S4 = S2, ?_, fun S8 => S8 = S2, ?_, bq_t rfl rfl⟩)
      · rintro t S4 ⟨rfl, rfl⟩ S5 rfl
        exact bq_f (by rw [gI_at]; decide) ⟨gI_at, fun z => absurd z i10, R1⟩
      · rintro S8 rfl
        exact ⟨rfl, rfl⟩
      · refine bq_f i10 (sp_side (fun v2 => ?_) (fun _ => bq_nt rfl rfl))
        exfalso
        rcases hb with hb | hb
        · exact hb v1
        · exact hb v2
      · rintro t S4 ⟨rfl, rfl⟩ S5 rfl
        exact bq_f (by rw [gI_at]; decide) ⟨gI_at, fun z => absurd z i10, R1⟩
      · rintro S8 rfl
        exact ⟨rfl, rfl⟩
    · refine sp_isEpoch (fun v1 => bq_f i10 ?_) (fun _ => bq_t rfl rfl)
      refine sp_side (fun v2 => ?_) (fun _ => bq_t rfl rfl)
      exfalso
      rcases hb with hb | hb
      · exact hb v1
      · exact hb v2
  refine sp_cEpoch (fun hv1 => bq_f i10 ?_) (fun hb => bq_t rfl (Or.inl ⟨rfl, bad (Or.inl hb)⟩))
  refine sp_cSide (fun hv2 => bq_nf i10 ?_) (fun hb => bq_nt rfl (Or.inl ⟨rfl, bad (Or.inr hb)⟩))
  obtain ⟨t, ht, et1, -⟩ := vp_nat hv1 (by omega)
  obtain ⟨s, hs, es1, -⟩ := vp_nat hv2 (by omega)
  subst et1 es1
  -- the reference, from a state that reads as this one
  have ref : ∀ (T : Sg) (Q : Int64 → Sg → Prop), rA T → rB T → rC T → rD T → rE T → nM T = nM S → (∀ k, k < nM S → clB T k t = clB S k t) → (∀ k, k < nM S → vL T k t s = vL S k t s) → (∀ k, k < nM S → vL T k (fE T k) s = vL S k (fE S k) s) → (cmN S t (nM S) = 0 → Q 0 (uI T 40 0 0 2)) → (¬ cmN S t (nM S) = 0 → Q (cmS S t s (nM S) / Int32.toInt64 (nI (cmN S t (nM S)))) (uI T 40 0 0 0)) → wp_X10_common (nI t) (nI s) T Q := by
    intro T Q tA tB tC tD tE tn tc tv tf h2 h0
    refine ⟨fun v3 v4 v6 S1 => S1 = T ∧ ∃ k, k ≤ nM S ∧ v6 = nI k ∧ v3 = nI (cmN S t k) ∧ v4 = cmS S t s k, fun _ _ v6 _ => nM S - v6.toNatClampNeg, ⟨rfl, 0, by omega, rfl, rfl, rfl⟩, ?_⟩
    rintro v3 v4 v6 S1 ⟨rfl, k, hk, rfl, rfl, rfl⟩
    have hcn := cmN_le S t k
    refine ⟨fun S2 => S2 = S1 ∧ k = nM S, ?_, fun q => ⟨rfl, ?_⟩, fun q => ?_⟩
    · rintro S2 ⟨rfl, rfl⟩
      refine sp_isEpoch (fun _ => ?_) (fun n => absurd hv1 n)
      refine ⟨fun c S4 => S4 = S2 ∧ ((c = 2 ∧ cmN S t (nM S) = 0) ∨ (c = 0 ∧ ¬ cmN S t (nM S) = 0)), ?_, fun _ => False, fun _ z => z.elim, bq_f i10 ?_⟩
      · rintro c S4 ⟨rfl, (⟨rfl, hz⟩ | ⟨rfl, hz⟩)⟩ S5 rfl
        · exact bq_f (by rw [gI_at]; decide) (h2 hz)
        · exact bq_t (by rw [gI_at]; decide) ⟨fun z => hz ((n64_0 (by omega)).mp z), h0 hz⟩
      · refine sp_side (fun _ => bq_nf i10 ⟨fun q => ⟨rfl, Or.inr ⟨rfl, fun z => q (by rw [z]; rfl)⟩⟩, fun q => ⟨rfl, Or.inl ⟨rfl, nI_inj (b := 0) (by omega) (by omega) q⟩⟩⟩) (fun n => absurd hv2 n)
    · rw [tA.2.2.1, tn] at q
      have := (le_nI (by omega) (by omega)).mp q
      omega
    · rw [tA.2.2.1, tn] at q
      have h1 : k < nM S := by
        have := mt (le_nI (a := nM S) (b := k) (by omega) (by omega)).mpr q
        omega
      refine sp_isEpoch (fun _ => bq_f i10 ?_) (fun n => absurd hv1 n)
      refine sp_side (fun _ => bq_f i10 ?_) (fun n => absurd hv2 n)
      refine rf_isCl tA tC (by omega) ht (fun hc => bq_nf i10 ?_) (fun hc => bq_nt rfl (fun y ey => ?_))
      · refine rf_clear tA tB tC tD tE (by omega) ht hs (clf_iff.mp hc).1 ?_
        refine rf_first tA tB tC tD tE (by omega) ht hs hc (fun x ex y ey z ez => ?_)
        have hc' : clB S k t = true := by rw [← tc k h1]; exact hc
        rw [tv k h1, tf k h1] at ex
        subst ex ey ez
        refine ⟨⟨rfl, k + 1, by omega, nI_1 k, ?_, ?_⟩, mu_lt h1 (by omega)⟩
        · show _ = nI (if _ then _ else _)
          rw [if_pos hc']
          exact nI_1 _
        · show _ = if _ then _ else _
          rw [if_pos hc']
      · subst ey
        have hc' : ¬ clB S k t = true := by rw [← tc k h1]; exact hc
        refine ⟨⟨rfl, k + 1, by omega, nI_1 k, ?_, ?_⟩, mu_lt h1 (by omega)⟩
        · show _ = nI (if _ then _ else _)
          rw [if_neg hc']
        · show _ = if _ then _ else _
          rw [if_neg hc']
  refine ⟨fun v3 v5 v6 S1 => S1 = S ∧ ∃ k, k ≤ nM S ∧ v6 = nI k ∧ v5 = nI (cmN S t k) ∧ v3 = cmS S t s k, fun _ _ v6 _ => nM S - v6.toNatClampNeg, ⟨rfl, 0, by omega, rfl, rfl, rfl⟩, ?_⟩
  rintro v3 v5 v6 S1 ⟨rfl, k, hk, rfl, rfl, rfl⟩
  have hcn := cmN_le S1 t k
  rw [hA.2.1]
  refine ⟨fun q => ?_, fun q => ?_⟩
  · have h1 := (le_nI (by omega) (by omega)).mp q
    have : k = nM S1 := by omega
    subst this
    refine ⟨fun q0 => ⟨fun z => q0 (by rw [(n64_0 (by omega)).mp z]; rfl), fun S2 es2 => ?_⟩, fun q0 => Or.inr ⟨rfl, ?_⟩⟩
    · subst es2
      exact ref (uL S1 39 0 (Int32.toNatClampNeg 0) (cmS S1 t s (nM S1) / Int32.toInt64 (nI (cmN S1 t (nM S1))))) _ hA hB hC hD hE rfl (fun _ _ => rfl) (fun _ _ => rfl) (fun _ _ => rfl) (fun z => absurd (by rw [z]; rfl) q0) (fun _ => ⟨gI_at, fun _ => rfl, hA, hB, hC, hD, hE, hF, hG, hH, hS, hX⟩)
    · exact ref S1 _ hA hB hC hD hE rfl (fun _ _ => rfl) (fun _ _ => rfl) (fun _ _ => rfl) (fun _ => ⟨gI_at, fun z => absurd z (by decide), hA, hB, hC, hD, hE, hF, hG, hH, hS, hX⟩) (fun z => absurd (nI_inj (b := 0) (by omega) (by omega) q0) z)
  · have h1 : k < nM S1 := by
      have := mt (le_nI (a := nM S1) (b := k) (by omega) (by omega)).mpr q
      omega
    refine hA.in (fun k' hkn hk' e1 e2 hv hvn => ⟨fun z => (by cases z), fun j hj => ?_⟩) (fun hb => absurd (in_nI h1 (by omega)) hb)
    cases hj
    have hkk := nI_inj (by omega) (by omega) e1
    subst hkk
    refine ⟨hkn, sp_isCl hC hkn hk' ht (fun hc => bq_f i10 ⟨hkn, ?_⟩) (fun hc => bq_t rfl (fun y ey => ?_))⟩
    · refine sp_value hA hC hE hkn ht hs ⟨hkn, sp_first hC hkn hk' ht hc ⟨hkn, ?_⟩⟩
      have hfe : fE S1 k < 40 := by
        have := (se_ok (p := clf (kM S1 k) (gA S1 27 k)) hc 40 0 (Nat.zero_le _) (by omega)).2.1
        have : fE S1 k ≤ t := this
        omega
      refine sp_value hA hC hE hkn hfe hs (fun x ex y ey z ez => ?_)
      subst ex ey ez
      refine ⟨⟨rfl, k + 1, by omega, nI_1 k, ?_, ?_⟩, mu_lt h1 (by omega)⟩
      · show _ = nI (if _ then _ else _)
        rw [if_pos hc]
        exact nI_1 _
      · show _ = if _ then _ else _
        rw [if_pos hc]
    · subst ey
      refine ⟨⟨rfl, k + 1, by omega, nI_1 k, ?_, ?_⟩, mu_lt h1 (by omega)⟩
      · show _ = nI (if _ then _ else _)
        rw [if_neg hc]
      · show _ = if _ then _ else _
        rw [if_neg hc]
