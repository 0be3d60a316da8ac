/-! which readings are cleared; the series of them -/
theorem cntP_mono (f : Nat → Int32) {t u : Nat} (h : t ≤ u) : cntP f t ≤ cntP f u := by
  induction u with
  | zero =>
    have : t = 0 := by omega
    subst this
    exact Nat.le_refl _
  | succ u ih =>
    by_cases e : t = u + 1
    · rw [e]
      exact Nat.le_refl _
    · refine Nat.le_trans (ih (by omega)) ?_
      show cntP f u ≤ if f u = 0 then cntP f u else cntP f u + 1
      split <;> omega
theorem sp_clearFrom {S : Sg} (hC : rC S) {k : Nat} (hkn : k < nM S) (hk : k < 10) {Q : Int32 → Sg → Prop} (hq : ∀ c, c ≤ 40 → (∀ t, t < 40 → (c ≤ t ↔ (¬ kM S k = 2 ∨ 2 ≤ cntP (gA S 27 k) t))) → Q (nI c) S) : wpv_clearFrom k S Q := by
  refine ⟨fun hkd => ?_, fun hkd => ?_⟩
  · refine ⟨fun v1 v2 S1 => S1 = S ∧ ∃ t, t ≤ 40 ∧ v2 = nI t ∧ v1 = nI (cntP (gA S 27 k) t) ∧ cntP (gA S 27 k) t < 2, fun _ v2 _ => 40 - v2.toNatClampNeg, ⟨rfl, 0, by omega, rfl, rfl, (by show 0 < 2; decide)⟩, ?_⟩
    rintro v1 v2 S1 ⟨rfl, t, ht, rfl, rfl, h2⟩
    refine ⟨fun q => ?_, fun q => ?_⟩
    · have h40 : 40 ≤ t := (le_nI (a := 40) (by omega) (by omega)).mp q
      have : t = 40 := by omega
      subst this
      refine hq 40 (by omega) (fun u hu => ?_)
      have := cntP_mono (gA S1 27 k) (t := u) (u := 40) (by omega)
      omega
    · have h40 : t < 40 := by
        have := mt (le_nI (a := 40) (b := t) (by omega) (by omega)).mpr q
        omega
      refine ⟨hkn, hkd, hkn, in_nI h40 (by omega), ?_⟩
      rw [nI_clamp (by omega)]
      refine ⟨z_or1 (hC.1 k t hk h40).2, fun q0 y ey => ?_, fun q0 x ex => ⟨fun n2 y ey => ?_, fun e2 => ?_⟩⟩
      · subst ey
        have e : cntP (gA S1 27 k) (t + 1) = cntP (gA S1 27 k) t := if_pos q0
        exact ⟨⟨rfl, t + 1, by omega, nI_1 t, by rw [e], by rw [e]; exact h2⟩, mu_lt h40 (by omega)⟩
      · subst ex ey
        have e : cntP (gA S1 27 k) (t + 1) = cntP (gA S1 27 k) t + 1 := if_neg q0
        refine ⟨⟨rfl, t + 1, by omega, nI_1 t, by rw [e]; exact nI_1 _, ?_⟩, mu_lt h40 (by omega)⟩
        rw [e]
        rcases (show cntP (gA S1 27 k) t = 0 ∨ cntP (gA S1 27 k) t = 1 by omega) with z | z
        · rw [z]
          decide
        · rw [z] at n2
          exact absurd (by decide) n2
      · subst ex
        have e : cntP (gA S1 27 k) (t + 1) = cntP (gA S1 27 k) t + 1 := if_neg q0
        rw [nI_1] at e2 ⊢
        have hc := nI_inj (b := 2) (by omega) (by omega) e2
        refine hq (t + 1) (by omega) (fun u hu => ?_)
        constructor
        · intro hu2
          have := cntP_mono (gA S1 27 k) hu2
          omega
        · intro hu2
          refine Classical.byContradiction (fun hn => ?_)
          have := cntP_mono (gA S1 27 k) (t := u) (u := t) (by omega)
          omega
  · exact hq 0 (by omega) (fun u hu => ⟨fun _ => Or.inl hkd, fun _ => Nat.zero_le _⟩)
theorem clf_iff {kd : Nat} {P : Nat → Int32} {t : Nat} : clf kd P t = true ↔ ¬ P t = 0 ∧ (¬ kd = 2 ∨ 2 ≤ cntP P t) := by
  unfold clf
  rw [Bool.and_eq_true, Bool.or_eq_true, decide_eq_true_eq, decide_eq_true_eq, decide_eq_true_eq]
theorem sp_isCl {S : Sg} (hC : rC S) {k t : Nat} (hkn : k < nM S) (hk : k < 10) (ht : t < 40) {Q : Int32 → Sg → Prop} (h1 : clB S k t = true → Q 1 S) (h0 : ¬ clB S k t = true → Q 0 S) : wp_X3_isCleared k (nI t) S Q := by
  have hct : (nI t).toNatClampNeg = t := nI_clamp (by omega)
  refine ⟨hkn, in_nI ht (by omega), fun q => h0 (fun z => (clf_iff.mp z).1 (by rw [hct] at q; exact q)), fun q => ?_⟩
  rw [hct] at q
  refine sp_clearFrom hC hkn hk (fun c hc hcc => ⟨fun q2 => h0 (fun z => ?_), fun q2 => h1 ?_⟩)
  · have := (lt_nI (by omega) (by omega)).mp q2
    have := (hcc t ht).mpr (clf_iff.mp z).2
    omega
  · have h3 := mt (lt_nI (a := t) (b := c) (by omega) (by omega)).mpr q2
    exact clf_iff.mpr ⟨q, (hcc t ht).mp (by omega)⟩
theorem rf_isCl {S : Sg} (hA : rA S) (hC : rC S) {k t : Nat} (hk : k < 10) (ht : t < 40) {Q : Int32 → Sg → Prop} (h1 : clB S k t = true → Q 1 S) (h0 : ¬ clB S k t = true → Q 0 S) : wp_X10_isCleared (nI k) (nI t) S Q := by
  have hck : (nI k).toNatClampNeg = k := nI_clamp (by omega)
  have hvk : vp_in (nI k) 10 := in_nI hk (by omega)
  have h41 := (hA.2.2.2.2.1 k hk).1
  have h4 := hA.2.2.2.1 k
  have q2' : nI (kM S k) = 2 ↔ kM S k = 2 := nI_eq_iff (b := 2) (by omega) (by omega)
  obtain ⟨s1, s2⟩ := spot_at hC hk ht
  refine sp_spot ⟨s1, fun q => ?_, fun q => ?_⟩
  · rw [s2] at q
    exact h0 (fun z => (clf_iff.mp z).1 q)
  rw [s2] at q
  refine ⟨fun v3 v4 S1 => S1 = S ∧ ∃ u, u ≤ t ∧ v4 = nI u ∧ v3 = nI (cntP (gA S 27 k) u), fun _ v4 _ => t - v4.toNatClampNeg, ⟨rfl, 0, by omega, rfl, rfl⟩, ?_⟩
  rintro v3 v4 S1 ⟨rfl, u, hu, rfl, rfl⟩
  have hcu := cntP_le (gA S1 27 k) u
  refine ⟨fun q1 => ?_, fun q1 => ?_⟩
  · have h5 := (le_nI (by omega) (by omega)).mp q1
    have : u = t := by omega
    subst this
    rw [hck, h41, q2']
    refine ⟨hvk, fun n2 => bq_nt rfl (h1 (clf_iff.mpr ⟨q, Or.inl n2⟩)), fun e2 => ⟨fun q3 => bq_nt rfl (h1 (clf_iff.mpr ⟨q, Or.inr ?_⟩)), fun q3 => bq_nf i10 (h0 (fun z => ?_))⟩⟩
    · exact (le_nI (a := 2) (by omega) (by omega)).mp q3
    · have := mt (le_nI (a := 2) (b := cntP (gA S1 27 k) u) (by omega) (by omega)).mpr q3
      have := (clf_iff.mp z).2
      omega
  · have h5 : u < t := by
      have := mt (le_nI (a := t) (b := u) (by omega) (by omega)).mpr q1
      omega
    obtain ⟨s3, s4⟩ := spot_at hC hk (t := u) (by omega)
    refine sp_spot ⟨s3, fun q0 x ex y ey => ?_, fun q0 x ex y ey => ?_⟩
    · rw [s4] at q0
      subst ex ey
      have e : cntP (gA S1 27 k) (u + 1) = cntP (gA S1 27 k) u := if_pos q0
      exact ⟨⟨rfl, u + 1, by omega, nI_1 u, by rw [e, Int32.add_zero]⟩, mu_lt h5 (by omega)⟩
    · rw [s4] at q0
      subst ex ey
      have e : cntP (gA S1 27 k) (u + 1) = cntP (gA S1 27 k) u + 1 := if_neg q0
      exact ⟨⟨rfl, u + 1, by omega, nI_1 u, by rw [e]; exact nI_1 _⟩, mu_lt h5 (by omega)⟩
/-! cleared -/
theorem rf_cleared_1 {S : Sg} (hA : rA S) {a1 a2 a3 : Int32} {Q : Int64 → Sg → Prop} (hb : ¬ vp_in a1 (nM S) ∨ ¬ vp_in a2 40 ∨ ¬ vp_in a3 2) (hq : Q 0 (thr S 1)) : wp_X10_cleared a1 a2 a3 S Q := by
  unfold wp_X10_cleared
  have fin : ∀ S3 : Sg, S3 = uI S 40 0 0 1 → ((gI S3 40 0 0 ≤ 0 → wp_X10_clear a1 a2 a3 S3 (fun r_5 S_5 => Q r_5 S_5)) ∧ (¬ gI S3 40 0 0 ≤ 0 → Q 0 S3)) := by
    intro S3 es
    subst es
    exact bq_f (by rw [gI_at]; decide) hq
  refine hA.ref (fun v1 => ⟨_, fun _ _ h => h, _, fun _ h => h, bq_f i10 ?_⟩) (fun _ => ⟨_, fun _ _ h => h, _, fun _ h => h, bq_t rfl fin⟩)
  refine sp_isEpoch (fun v2 => bq_f i10 ?_) (fun _ => bq_t rfl fin)
  refine sp_side (fun v3 => ?_) (fun _ => bq_nt rfl fin)
  exfalso
  rcases hb with hb | hb | hb
  · exact hb v1
  · exact hb v2
  · exact hb v3
theorem rl_cleared {S : Sg} (h : Rel S) (a1 a2 a3 : Int32) : wp_L_cleared a1 a2 a3 S (fun k S1 => wp_X10_cleared a1 a2 a3 S1 (fun b S2 => gI S2 40 0 0 = k ∧ (k = 0 → gL S2 39 0 0 = b) ∧ Rel S2)) := by
  have h' := h
  obtain ⟨hA, hB, hC, hD, hE, hF, hG, hH, hS, hX⟩ := h'
  unfold wp_L_cleared wp_X9_cleared
  have bad : (¬ vp_in a1 (nM S) ∨ ¬ vp_in a2 40 ∨ ¬ vp_in a3 2) → wp_X10_cleared a1 a2 a3 S (fun b S2 => gI S2 40 0 0 = 1 ∧ ((1 : Int32) = 0 → gL S2 39 0 0 = b) ∧ Rel S2) := fun hb => rf_cleared_1 hA hb ⟨gI_at, fun z => absurd z i10, hA, hB, hC, hD, hE, hF, hG, hH, hS, hX⟩
  refine hA.in (fun k hkn hk e1 e2 hv hvn => ⟨fun z => (by cases z), fun j hj => ?_⟩) (fun hb => ⟨fun _ => Or.inl ⟨rfl, bad (Or.inl hb)⟩, fun j hj => by cases hj⟩)
  cases hj
  refine sp_cEpoch (fun hv2 => bq_f i10 ?_) (fun hb => bq_t rfl (Or.inl ⟨rfl, bad (Or.inr (Or.inl hb))⟩))
  refine sp_cSide (fun hv3 => bq_nf i10 ⟨hkn, ?_⟩) (fun hb => bq_nt rfl (Or.inl ⟨rfl, bad (Or.inr (Or.inr hb))⟩))
  obtain ⟨t, ht, et1, et2⟩ := vp_nat hv2 (by omega)
  obtain ⟨s, hs, es1, es2⟩ := vp_nat hv3 (by omega)
  subst et1 es1 e1
  refine sp_isCl hC hkn hk ht (fun hc => bq_nf i10 ⟨hkn, sp_value hA hC hE hkn ht hs (fun S2 eS2 => ?_)⟩) (fun hc => bq_nt rfl (Or.inr ⟨rfl, ?_⟩))
  · subst eS2
    have hA1 : rA (uL S 39 0 (Int32.toNatClampNeg 0) (vL S k t s)) := hA
    unfold wp_X10_cleared
    refine hA1.ref (fun _ => ⟨_, fun _ _ h => h, _, fun _ h => h, bq_f i10 ?_⟩) (fun n => absurd hvn n)
    refine sp_isEpoch (fun _ => bq_f i10 ?_) (fun n => absurd hv2 n)
    refine sp_side (fun _ => bq_nf i10 ?_) (fun n => absurd hv3 n)
    refine rf_isCl (S := uL S 39 0 (Int32.toNatClampNeg 0) (vL S k t s)) hA hC hk ht (fun _ => bq_f i10 (fun S3 es3 => ?_)) (fun n => absurd hc n)
    subst es3
    refine bq_t (by rw [gI_at]; decide) ?_
    exact rf_clear (S := uI (uL S 39 0 (Int32.toNatClampNeg 0) (vL S k t s)) 40 0 0 0) hA hB hC hD hE hk ht hs (clf_iff.mp hc).1 ⟨gI_at, fun _ => rfl, hA, hB, hC, hD, hE, hF, hG, hH, hS, hX⟩
  · unfold wp_X10_cleared
    refine hA.ref (fun _ => ⟨_, fun _ _ h => h, _, fun _ h => h, bq_f i10 ?_⟩) (fun n => absurd hvn n)
    refine sp_isEpoch (fun _ => bq_f i10 ?_) (fun n => absurd hv2 n)
    refine sp_side (fun _ => bq_nf i10 ?_) (fun n => absurd hv3 n)
    refine rf_isCl hA hC hk ht (fun n => absurd n hc) (fun _ => bq_t rfl (fun S3 es3 => ?_))
    subst es3
    exact bq_f (by rw [gI_at]; decide) ⟨gI_at, fun z => absurd z (by decide), hA, hB, hC, hD, hE, hF, hG, hH, hS, hX⟩
/-! the series -/
abbrev srs (S : Sg) (m : Int32) (f : Nat → Int32) (g : Nat → Int64) : Sg := uLr (uAr (uI S 3 0 2 m) 4 0 f) 5 0 g
theorem uAr_self (S : Sg) (t k : Nat) : uAr S t k (gA S t k) = S := by
  have e : (fun a b => if a = t ∧ b = k then gA S t k else S.2.1 a b) = S.2.1 := by
    funext a b
    by_cases h : a = t ∧ b = k
    · rw [if_pos h, h.1, h.2]
      rfl
    · rw [if_neg h]
  show (S.1, (fun a b => if a = t ∧ b = k then gA S t k else S.2.1 a b), S.2.2) = S
  rw [e]
theorem srs_0 (S : Sg) : uI S 3 0 2 0 = srs S 0 (gA S 4 0) (gL S 5 0) := by
  have e1 : uAr (uI S 3 0 2 0) 4 0 (gA S 4 0) = uI S 3 0 2 0 := uAr_self (uI S 3 0 2 0) 4 0
  have e2 : uLr (uI S 3 0 2 0) 5 0 (gL S 5 0) = uI S 3 0 2 0 := uLr_self (uI S 3 0 2 0) 5 0
  unfold srs
  rw [e1, e2]
theorem srs_A (S : Sg) (m : Int32) (f : Nat → Int32) (g : Nat → Int64) (i : Nat) (v : Int32) : uA (srs S m f g) 4 0 i v = srs S m (upd f i v) g := by
  have e : (fun a b => if a = 4 ∧ b = 0 then upd (if 4 = 4 ∧ 0 = 0 then f else S.2.1 4 0) i v else (if a = 4 ∧ b = 0 then f else S.2.1 a b)) = (fun a b => if a = 4 ∧ b = 0 then upd f i v else S.2.1 a b) := by
    funext a b
    by_cases h : a = 4 ∧ b = 0
    · rw [if_pos h, if_pos h, if_pos ⟨rfl, rfl⟩]
    · rw [if_neg h, if_neg h, if_neg h]
  show ((srs S m f g).1, (fun a b => if a = 4 ∧ b = 0 then upd (if 4 = 4 ∧ 0 = 0 then f else S.2.1 4 0) i v else (if a = 4 ∧ b = 0 then f else S.2.1 a b)), (srs S m f g).2.2) = _
  rw [e]
  rfl
theorem srs_L (S : Sg) (m : Int32) (f : Nat → Int32) (g : Nat → Int64) (i : Nat) (v : Int64) : uL (srs S m f g) 5 0 i v = srs S m f (vp_updL g i v) := uL_uLr _ _ _ _ _ _
theorem upd_upd (f : Nat → Int32) (i : Nat) (a b : Int32) : upd (upd f i a) i b = upd f i b := by
  funext j
  by_cases h : j = i
  · rw [h, upd_same, upd_same]
  · rw [upd_ne h, upd_ne h, upd_ne h]
theorem srs_I (S : Sg) (m m' : Int32) (f : Nat → Int32) (g : Nat → Int64) : uI (srs S m f g) 3 0 2 m' = srs S m' f g := by
  have e : (fun a b => if a = 3 ∧ b = 0 then upd (if 3 = 3 ∧ 0 = 0 then upd (S.1 3 0) 2 m else S.1 3 0) 2 m' else (if a = 3 ∧ b = 0 then upd (S.1 3 0) 2 m else S.1 a b)) = (fun a b => if a = 3 ∧ b = 0 then upd (S.1 3 0) 2 m' else S.1 a b) := by
    funext a b
    by_cases h : a = 3 ∧ b = 0
    · rw [if_pos h, if_pos h, if_pos ⟨rfl, rfl⟩, upd_upd]
    · rw [if_neg h, if_neg h, if_neg h]
  show ((fun a b => if a = 3 ∧ b = 0 then upd (if 3 = 3 ∧ 0 = 0 then upd (S.1 3 0) 2 m else S.1 3 0) 2 m' else (if a = 3 ∧ b = 0 then upd (S.1 3 0) 2 m else S.1 a b)), (srs S m f g).2) = _
  rw [e]
  rfl
/-- the cleared epochs ahead of t -/
def ceT (kd : Nat) (P : Nat → Int32) (t : Nat) : List Nat := (List.range t).filter (clf kd P)
theorem ceT_t {kd : Nat} {P : Nat → Int32} {t : Nat} (h : clf kd P t = true) : ceT kd P (t + 1) = ceT kd P t ++ [t] := by
  unfold ceT
  rw [List.range_succ, List.filter_append, List.filter_cons, if_pos h]
  rfl
theorem ceT_f {kd : Nat} {P : Nat → Int32} {t : Nat} (h : ¬ clf kd P t = true) : ceT kd P (t + 1) = ceT kd P t := by
  unfold ceT
  rw [List.range_succ, List.filter_append, List.filter_cons, if_neg h]
  exact List.append_nil _
theorem ceT_len (kd : Nat) (P : Nat → Int32) (t : Nat) : (ceT kd P t).length ≤ t := by
  unfold ceT
  exact Nat.le_trans (List.length_filter_le _ _) (by rw [List.length_range]; exact Nat.le_refl _)
theorem ceT_lt {kd : Nat} {P : Nat → Int32} {t e : Nat} (h : e ∈ ceT kd P t) : e < t ∧ clf kd P e = true := by
  unfold ceT at h
  obtain ⟨h1, h2⟩ := List.mem_filter.mp h
  exact ⟨List.mem_range.mp h1, h2⟩
/-- what the series holds -/
def serOK (S : Sg) (k s : Nat) (L : List Nat) (f : Nat → Int32) (g : Nat → Int64) : Prop := ∀ i e, L[i]? = some e → f i = nI e ∧ g i = vL S k e s
theorem sp_gather {S : Sg} (hA : rA S) (hC : rC S) (hE : rE S) {k s : Nat} (hkn : k < nM S) (hs : s < 2) {Q : Sg → Prop} (hq : ∀ f g, serOK S k s (ceT (kM S k) (gA S 27 k) 40) f g → Q (srs S (nI (ceT (kM S k) (gA S 27 k) 40).length) f g)) : wp_X5_gather k (nI s) S Q := by
  have hk : k < 10 := by have := hA.1; omega
  intro S1 es1
  rw [srs_0] at es1
  subst es1
  refine ⟨hkn, sp_clearFrom (S := srs S 0 (gA S 4 0) (gL S 5 0)) hC hkn hk (fun c hc hcc => ?_)⟩
  have hcc : ∀ t, t < 40 → (c ≤ t ↔ (¬ kM S k = 2 ∨ 2 ≤ cntP (gA S 27 k) t)) := hcc
  have hc0 : ceT (kM S k) (gA S 27 k) c = [] := by
    unfold ceT
    rw [List.filter_eq_nil_iff]
    intro u hu hcl
    have hu := List.mem_range.mp hu
    have := (hcc u (by omega)).mpr (clf_iff.mp hcl).2
    omega
  refine ⟨fun v S1 => ∃ t f g, c ≤ t ∧ t ≤ 40 ∧ v = nI t ∧ S1 = srs S (nI (ceT (kM S k) (gA S 27 k) t).length) f g ∧ serOK S k s (ceT (kM S k) (gA S 27 k) t) f g, fun v _ => 40 - v.toNatClampNeg, ⟨c, _, _, Nat.le_refl _, hc, rfl, by rw [hc0]; rfl, by rw [hc0]; intro i e he; cases he⟩, ?_⟩
  rintro v S1 ⟨t, f, g, hct, ht, rfl, rfl, hok⟩
  refine ⟨fun q => ?_, fun q => ?_⟩
  · have h40 : 40 ≤ t := (le_nI (a := 40) (by omega) (by omega)).mp q
    have : t = 40 := by omega
    subst this
    exact hq f g hok
  · have h40 : t < 40 := by
      have := mt (le_nI (a := 40) (b := t) (by omega) (by omega)).mpr q
      omega
    have hlen := ceT_len (kM S k) (gA S 27 k) t
    refine ⟨hkn, hkn, in_nI h40 (by omega), ?_⟩
    rw [nI_clamp (n := t) (by omega)]
    refine ⟨z_or1 (hC.1 k t hk h40).2, fun q0 y ey => ?_, fun q0 => ?_⟩
    · subst ey
      have e := ceT_f (kd := kM S k) (P := gA S 27 k) (t := t) (fun z => (clf_iff.mp z).1 q0)
      exact ⟨⟨t + 1, f, g, by omega, by omega, nI_1 t, by rw [e], by rw [e]; exact hok⟩, mu_lt h40 (by omega)⟩
    · have e := ceT_t (kd := kM S k) (P := gA S 27 k) (t := t) (clf_iff.mpr ⟨q0, (hcc t h40).mp hct⟩)
      generalize hLe : ceT (kM S k) (gA S 27 k) t = L at hlen hok e ⊢
      have hcl : (nI L.length).toNatClampNeg = L.length := nI_clamp (by omega)
      have hin : vp_in (nI L.length) 40 := in_nI (by omega) (by omega)
      have g3 : ∀ (f : Nat → Int32) (g : Nat → Int64), gI (srs S (nI L.length) f g) 3 0 2 = nI L.length := fun _ _ => rfl
      rw [g3, hcl]
      refine ⟨hin, fun S12 e12 => ⟨hkn, ?_⟩⟩
      rw [srs_A] at e12
      subst e12
      refine sp_value (S := srs S (nI L.length) (upd f L.length (nI t)) g) hA hC hE hkn h40 hs ?_
      rw [g3, hcl]
      refine ⟨hin, fun S17 e17 S18 e18 x ex => ?_⟩
      rw [srs_L] at e17
      subst e17
      rw [g3, nI_1, srs_I] at e18
      subst e18 ex
      refine ⟨⟨t + 1, _, _, by omega, by omega, nI_1 t, by rw [e, List.length_append]; rfl, ?_⟩, mu_lt h40 (by omega)⟩
      rw [e]
      intro i x hx
      by_cases hi : i < L.length
      · rw [List.getElem?_append_left hi] at hx
        rw [upd_ne (by omega), updL_ne (by omega)]
        exact hok i x hx
      · rw [List.getElem?_append_right (by omega)] at hx
        have hi2 : i = L.length := by
          have := (List.getElem?_eq_some_iff.mp hx).1
          simp only [List.length_cons, List.length_nil] at this
          omega
        subst hi2
        rw [Nat.sub_self] at hx
        cases hx
        rw [upd_same, updL_same]
        exact ⟨rfl, rfl⟩
theorem rf_manyOf {S : Sg} (hA : rA S) (hC : rC S) {k : Nat} (hk : k < 10) {Q : Int32 → Sg → Prop} (hq : Q (nI (ceT (kM S k) (gA S 27 k) 40).length) S) : wp_X10_manyOf (nI k) S Q := by
  refine ⟨fun v2 v3 S1 => S1 = S ∧ ∃ t, t ≤ 40 ∧ v3 = nI t ∧ v2 = nI (ceT (kM S k) (gA S 27 k) t).length, fun _ v3 _ => 40 - v3.toNatClampNeg, ⟨rfl, 0, by omega, rfl, rfl⟩, ?_⟩
  rintro v2 v3 S1 ⟨rfl, t, ht, rfl, rfl⟩
  refine ⟨fun q => ?_, fun q => ?_⟩
  · have h40 : 40 ≤ t := (le_nI (a := 40) (by omega) (by omega)).mp q
    have : t = 40 := by omega
    subst this
    exact hq
  · have h40 : t < 40 := by
      have := mt (le_nI (a := 40) (b := t) (by omega) (by omega)).mpr q
      omega
    refine rf_isCl hA hC hk h40 (fun hc => bq_f i10 (fun x ex y ey => ?_)) (fun hc => bq_t rfl (fun x ex y ey => ?_))
    · subst ex ey
      refine ⟨⟨rfl, t + 1, by omega, nI_1 t, ?_⟩, mu_lt h40 (by omega)⟩
      rw [ceT_t hc, List.length_append]
      exact nI_1 _
    · subst ex ey
      refine ⟨⟨rfl, t + 1, by omega, nI_1 t, ?_⟩, mu_lt h40 (by omega)⟩
      rw [ceT_f hc, Int32.add_zero]
theorem rl_many {S : Sg} (h : Rel S) (a : Int32) : wp_X9_many a S (fun r S1 => wp_X10_many a S1 (fun r2 S2 => r = r2 ∧ Rel S2)) := by
  have h' := h
  obtain ⟨hA, hB, hC, hD, hE, hF, hG, hH, hS, hX⟩ := h'
  unfold wp_X9_many
  refine hA.in (fun k hkn hk e1 e2 hv hvn => ⟨fun z => (by cases z), fun j hj => ?_⟩) (fun hb => ⟨fun _ => ?_, fun j hj => by cases hj⟩)
  · cases hj
    refine sp_gather (s := 0) hA hC hE hkn (by omega) (fun f g _ => ?_)
    unfold wp_X10_many
    have hA1 : rA (srs S (nI (ceT (kM S k) (gA S 27 k) 40).length) f g) := hA
    refine hA1.ref (fun _ => bq_f i10 ?_) (fun n => absurd hvn n)
    subst e1
    exact rf_manyOf (S := srs S (nI (ceT (kM S k) (gA S 27 k) 40).length) f g) hA hC hk ⟨rfl, hA, hB, hC, hD, hE, hF, hG, hH, hS, hX⟩
  · unfold wp_X10_many
    exact hA.ref (fun v => absurd v hb) (fun _ => bq_t rfl ⟨rfl, h⟩)
