/-! count, moves, weight, toss, element, make, copy -/
theorem nP_succ (S : Sg) (k t : Nat) : nP S k (t + 1) = if gA S 27 k t = 0 then nP S k t else nP S k t + 1 := rfl
theorem mu_lt {t N : Nat} (h : t < N) (hN : N < 2 ^ 31) : N - (nI t + 1).toNatClampNeg < N - (nI t).toNatClampNeg := by
  rw [nI_1, nI_clamp (by omega), nI_clamp (by omega)]
  omega
theorem spot_at {S : Sg} (hC : rC S) {k t : Nat} (hk : k < 10) (ht : t < 40) : vp_in ((40 : Int32) * nI k + nI t) 400 ∧ gA S 47 0 ((40 : Int32) * nI k + nI t).toNatClampNeg = gA S 27 k t := by
  rw [spot_eq]
  refine ⟨in_nI (by omega) (by omega), ?_⟩
  rw [nI_clamp (by omega)]
  exact (hC.1 k t hk ht).1
theorem rf_readingsOf {S : Sg} (hC : rC S) {k : Nat} (hk : k < 10) {Q : Int32 → Sg → Prop} (hq : Q (nI (nP S k 40)) S) : wp_X10_readingsOf (nI k) S Q := by
  refine ⟨fun v2 v3 S1 => S1 = S ∧ ∃ t, t ≤ 40 ∧ v3 = nI t ∧ v2 = nI (nP S k t), fun _ v3 _ => 40 - v3.toNatClampNeg, ⟨rfl, 0, by omega, rfl, rfl⟩, ?_⟩
  rintro v2 v3 S1 ⟨rfl, t, ht, rfl, rfl⟩
  refine ⟨fun q => ?_, fun q => ?_⟩
  · have h40 : 40 ≤ t := (le_nI (a := 40) (by omega) (by omega)).mp q
    have : t = 40 := by omega
    subst this
    exact hq
  · have h40 : t < 40 := by
      have := mt (le_nI (a := 40) (b := t) (by omega) (by omega)).mpr q
      omega
    obtain ⟨s1, s2⟩ := spot_at hC hk h40
    refine sp_spot ⟨s1, fun q0 x ex y ey => ?_, fun q0 x ex y ey => ?_⟩
    · rw [s2] at q0
      subst ex ey
      refine ⟨⟨rfl, t + 1, by omega, nI_1 t, ?_⟩, mu_lt h40 (by omega)⟩
      rw [nP_succ, if_pos q0, Int32.add_zero]
    · rw [s2] at q0
      subst ex ey
      refine ⟨⟨rfl, t + 1, by omega, nI_1 t, ?_⟩, mu_lt h40 (by omega)⟩
      rw [nP_succ, if_neg q0]
      exact nI_1 _
def sumI (f : Nat → Int32) : Nat → Int32
  | 0 => 0
  | k + 1 => sumI f k + f k
theorem sumI_congr {f g : Nat → Int32} {n : Nat} (h : ∀ k, k < n → f k = g k) : sumI f n = sumI g n := by
  induction n with
  | zero => rfl
  | succ n ih =>
    show sumI f n + f n = sumI g n + g n
    rw [ih (fun k hk => h k (by omega)), h n (by omega)]
theorem sp_allReadings {S : Sg} (hA : rA S) {Q : Int32 → Sg → Prop} (hq : Q (sumI (fun k => gI S 26 k 3) (nM S)) S) : wp_X9_allReadings S Q := by
  have hn := hA.1
  refine ⟨fun v1 v2 S1 => S1 = S ∧ ∃ t, t ≤ nM S ∧ v2 = nI t ∧ v1 = sumI (fun k => gI S 26 k 3) t, fun _ v2 _ => nM S - v2.toNatClampNeg, ⟨rfl, 0, by omega, rfl, rfl⟩, ?_⟩
  rintro v1 v2 S1 ⟨rfl, t, ht, rfl, rfl⟩
  rw [hA.2.1]
  refine ⟨fun q => ?_, fun q => ?_⟩
  · have h1 := (le_nI (by omega) (by omega)).mp q
    have : t = nM S1 := by omega
    subst this
    exact hq
  · have h1 : t < nM S1 := by
      have := mt (le_nI (a := nM S1) (b := t) (by omega) (by omega)).mpr q
      omega
    refine hA.in (fun k hkn hk e1 e2 hv hvn => ⟨fun z => (by cases z), fun j hj => ?_⟩) (fun hb => absurd (in_nI h1 (by omega)) hb)
    cases hj
    have hkt := nI_inj (by omega) (by omega) e1
    subst hkt
    refine ⟨hkn, hkn, fun x ex y ey => ?_⟩
    subst ex ey
    exact ⟨⟨rfl, t + 1, by omega, nI_1 t, rfl⟩, mu_lt h1 (by omega)⟩
theorem sp_allSteps {S : Sg} (hA : rA S) {Q : Int32 → Sg → Prop} (hq : Q (sumI (fun k => gI S 26 k 4) (nM S)) S) : wp_X9_allSteps S Q := by
  have hn := hA.1
  refine ⟨fun v1 v2 S1 => S1 = S ∧ ∃ t, t ≤ nM S ∧ v2 = nI t ∧ v1 = sumI (fun k => gI S 26 k 4) t, fun _ v2 _ => nM S - v2.toNatClampNeg, ⟨rfl, 0, by omega, rfl, rfl⟩, ?_⟩
  rintro v1 v2 S1 ⟨rfl, t, ht, rfl, rfl⟩
  rw [hA.2.1]
  refine ⟨fun q => ?_, fun q => ?_⟩
  · have h1 := (le_nI (by omega) (by omega)).mp q
    have : t = nM S1 := by omega
    subst this
    exact hq
  · have h1 : t < nM S1 := by
      have := mt (le_nI (a := nM S1) (b := t) (by omega) (by omega)).mpr q
      omega
    refine hA.in (fun k hkn hk e1 e2 hv hvn => ⟨fun z => (by cases z), fun j hj => ?_⟩) (fun hb => absurd (in_nI h1 (by omega)) hb)
    cases hj
    have hkt := nI_inj (by omega) (by omega) e1
    subst hkt
    refine ⟨hkn, hkn, fun x ex y ey => ?_⟩
    subst ex ey
    exact ⟨⟨rfl, t + 1, by omega, nI_1 t, rfl⟩, mu_lt h1 (by omega)⟩
theorem rl_count {S : Sg} (h : Rel S) (a : Int32) : wp_X9_count a S (fun r S1 => wp_X10_count a S1 (fun r2 S2 => r = r2 ∧ Rel S2)) := by
  have h' := h
  obtain ⟨hA, hB, hC, hD, hE, hF, hG, hH, hS, hX⟩ := h'
  have hn := hA.1
  unfold wp_X9_count
  have other : ∀ c : Int32, c = 0 ∨ c = 1 ∨ c = 2 ∨ c = 3 ∨ c = 4 → (¬ c = 0 ∧ ¬ c = 1 ∧ ¬ c = 2 ∧ ¬ c = 3 ∧ ¬ c = 4) → False := by
    rintro c (e | e | e | e | e) ⟨n0, n1, n2, n3, n4⟩
    · exact n0 e
    · exact n1 e
    · exact n2 e
    · exact n3 e
    · exact n4 e
  refine ⟨fun e => ?_, fun e => ?_, fun e => ?_, fun e => ?_, fun e => ?_, fun e => ?_⟩
  · subst e
    refine ⟨fun _ => ⟨by rw [hA.2.1, hA.2.2.1], h⟩, fun z => absurd z (by decide), fun z => absurd z (by decide), fun z => absurd z (by decide), fun z => absurd z (by decide), fun z => (other 0 (Or.inl rfl) z).elim⟩
  · subst e
    refine sp_allReadings hA ?_
    refine ⟨fun z => absurd z (by decide), fun _ => ?_, fun z => absurd z (by decide), fun z => absurd z (by decide), fun z => absurd z (by decide), fun z => (other 1 (Or.inr (Or.inl rfl)) z).elim⟩
    refine ⟨fun v2 v3 S1 => S1 = S ∧ ∃ t, t ≤ nM S ∧ v3 = nI t ∧ v2 = sumI (fun k => gI S 26 k 3) t, fun _ v3 _ => nM S - v3.toNatClampNeg, ⟨rfl, 0, by omega, rfl, rfl⟩, ?_⟩
    rintro v2 v3 S1 ⟨rfl, t, ht, rfl, rfl⟩
    rw [hA.2.2.1]
    refine ⟨fun q => ?_, fun q => bq_nt rfl ?_⟩
    · have h1 := (le_nI (by omega) (by omega)).mp q
      have : t = nM S1 := by omega
      subst this
      exact ⟨rfl, h⟩
    · have h1 : t < nM S1 := by
        have := mt (le_nI (a := nM S1) (b := t) (by omega) (by omega)).mpr q
        omega
      refine rf_readingsOf hC (by omega) (fun x ex y ey => ?_)
      subst ex ey
      refine ⟨⟨rfl, t + 1, by omega, nI_1 t, ?_⟩, mu_lt h1 (by omega)⟩
      show _ = sumI _ t + gI S1 26 t 3
      rw [hC.2.2 t (by omega)]
  · subst e
    refine sp_allSteps hA ?_
    refine ⟨fun z => absurd z (by decide), fun z => absurd z (by decide), fun _ => ?_, fun z => absurd z (by decide), fun z => absurd z (by decide), fun z => (other 2 (Or.inr (Or.inr (Or.inl rfl))) z).elim⟩
    refine ⟨fun v2 v3 S1 => S1 = S ∧ ∃ t, t ≤ nM S ∧ v3 = nI t ∧ v2 = sumI (fun k => gI S 26 k 4) t, fun _ v3 _ => nM S - v3.toNatClampNeg, ⟨rfl, 0, by omega, rfl, rfl⟩, ?_⟩
    rintro v2 v3 S1 ⟨rfl, t, ht, rfl, rfl⟩
    rw [hA.2.2.1]
    refine ⟨fun q => ?_, fun q => bq_nf (by decide) ?_⟩
    · have h1 := (le_nI (by omega) (by omega)).mp q
      have : t = nM S1 := by omega
      subst this
      exact ⟨rfl, h⟩
    · have h1 : t < nM S1 := by
        have := mt (le_nI (a := nM S1) (b := t) (by omega) (by omega)).mpr q
        omega
      refine ⟨in_nI (by omega) (by omega), fun x ex y ey => ?_⟩
      subst ex ey
      refine ⟨⟨rfl, t + 1, by omega, nI_1 t, ?_⟩, mu_lt h1 (by omega)⟩
      show _ = sumI _ t + gI S1 26 t 4
      rw [nI_clamp (by omega), (hE.1 t (by omega)).1]
  · subst e
    obtain ⟨m, hm, c1, c2, hl⟩ := hH
    exact ⟨fun z => absurd z (by decide), fun z => absurd z (by decide), fun z => absurd z (by decide), fun _ => ⟨by rw [c1, c2], h⟩, fun z => absurd z (by decide), fun z => (other 3 (Or.inr (Or.inr (Or.inr (Or.inl rfl)))) z).elim⟩
  · subst e
    exact ⟨fun z => absurd z (by decide), fun z => absurd z (by decide), fun z => absurd z (by decide), fun z => absurd z (by decide), fun _ => ⟨hG.2.2.1.symm, h⟩, fun z => (other 4 (Or.inr (Or.inr (Or.inr (Or.inr rfl)))) z).elim⟩
  · obtain ⟨n0, n1, n2, n3, n4⟩ := e
    exact ⟨fun z => absurd z n0, fun z => absurd z n1, fun z => absurd z n2, fun z => absurd z n3, fun z => absurd z n4, fun _ => ⟨rfl, h⟩⟩
/-! moves -/
abbrev thr (S : Sg) (c : Int32) : Sg := uI S 40 0 0 c
theorem rf_moves_bad {S : Sg} (hA : rA S) {a1 a2 : Int32} {Q : Int64 → Sg → Prop} (hb : ¬ vp_in a1 (nM S) ∨ ¬ vp_in a2 2) (hq : Q 0 (thr S 1)) : wp_X10_moves a1 a2 S Q := by
  unfold wp_X10_moves
  have fin : ∀ S3 : Sg, S3 = uI S 40 0 0 1 → ((gI S3 40 0 0 ≤ 0 → ((¬ a2 = 0 → (vp_in a1 10 ∧ Q (Int32.toInt64 (gA S3 52 0 (Int32.toNatClampNeg a1))) S3)) ∧ (a2 = 0 → (vp_in a1 10 ∧ Q (Int32.toInt64 (gA S3 51 0 (Int32.toNatClampNeg a1))) S3)))) ∧ (¬ gI S3 40 0 0 ≤ 0 → Q 0 S3)) := by
    intro S3 es
    subst es
    exact bq_f (by rw [gI_at]; decide) hq
  refine hA.ref (fun v1 => ⟨_, fun _ _ h => h, _, fun _ h => h, bq_f i10 ?_⟩) (fun _ => ⟨_, fun _ _ h => h, _, fun _ h => h, bq_t rfl fin⟩)
  refine sp_side (fun v2 => ?_) (fun _ => bq_t rfl fin)
  exfalso
  rcases hb with hb | hb
  · exact hb v1
  · exact hb v2
theorem rl_moves {S : Sg} (h : Rel S) (a1 a2 : Int32) : wp_L_moves a1 a2 S (fun k S1 => wp_X10_moves a1 a2 S1 (fun b S2 => gI S2 40 0 0 = k ∧ (k = 0 → gL S2 39 0 0 = b) ∧ Rel S2)) := by
  have h' := h
  obtain ⟨hA, hB, hC, hD, hE, hF, hG, hH, hS, hX⟩ := h'
  unfold wp_L_moves wp_X9_moves
  have bad : (¬ vp_in a1 (nM S) ∨ ¬ vp_in a2 2) → wp_X10_moves a1 a2 S (fun b S2 => gI S2 40 0 0 = 1 ∧ ((1 : Int32) = 0 → gL S2 39 0 0 = b) ∧ Rel S2) := fun hb => rf_moves_bad hA hb ⟨gI_at, fun z => absurd z i10, hA, hB, hC, hD, hE, hF, hG, hH, hS, hX⟩
  refine hA.in (fun k hkn hk e1 e2 hv hvn => ⟨fun z => (by cases z), fun j hj => ?_⟩) (fun hb => ⟨fun _ => ⟨rfl, bad (Or.inl hb)⟩, fun j hj => by cases hj⟩)
  cases hj
  refine sp_cSide (fun hv2 => bq_nf i10 ⟨hkn, hkn, hv2, fun S2 es2 => ?_⟩) (fun hb => bq_nt rfl ⟨rfl, bad (Or.inr hb)⟩)
  subst es2
  unfold wp_X10_moves
  have hA1 : rA (uL S 39 0 (Int32.toNatClampNeg 0) (Int32.toInt64 (gA S 33 k (Int32.toNatClampNeg a2)))) := hA
  refine hA1.ref (fun _ => ⟨_, fun _ _ h => h, _, fun _ h => h, bq_f i10 ?_⟩) (fun n => absurd hvn n)
  refine sp_side (fun _ => bq_f i10 (fun S3 es3 => ?_)) (fun n => absurd hv2 n)
  subst es3
  have hF1 := hF.1 k hk
  refine bq_t (by rw [gI_at]; decide) ⟨fun n0 => ⟨hv, gI_at, fun _ => ?_, hA, hB, hC, hD, hE, hF, hG, hH, hS, hX⟩, fun e0 => ⟨hv, gI_at, fun _ => ?_, hA, hB, hC, hD, hE, hF, hG, hH, hS, hX⟩⟩
  · rw [e2]
    show Int32.toInt64 (gA S 33 k a2.toNatClampNeg) = Int32.toInt64 (gA S 52 0 k)
    obtain ⟨i, hi, f1, f2⟩ := vp_nat hv2 (by omega)
    have hi1 : i = 1 := by
      rcases (show i = 0 ∨ i = 1 by omega) with rfl | rfl
      · exact absurd f1 n0
      · rfl
    rw [f2, hi1, hF1.2.1]
  · rw [e2]
    show Int32.toInt64 (gA S 33 k a2.toNatClampNeg) = Int32.toInt64 (gA S 51 0 k)
    rw [e0, hF1.1]
    rfl
/-! a mark on a shelf: weight, toss -/
theorem sp_refusal {S : Sg} {a : Int32} {Q : Int32 → Sg → Prop} (h0 : ¬ vp_in a 8 → Q (-1) S) (h1 : ∀ d, d < 8 → a = nI d → a.toNatClampNeg = d → vp_in a 8 → (gI S 24 d 1 = 0 → Q (-11) S) ∧ (gI S 24 d 1 = 1 → Q 0 S) ∧ ((¬ gI S 24 d 1 = 0 ∧ ¬ gI S 24 d 1 = 1) → Q (-12) S)) : wp_X9_refusalOfMarkOn a S Q := by
  unfold wp_X9_refusalOfMarkOn
  refine sp_cShelf (fun d hd e1 e2 hv => ⟨fun z => (by cases z), fun j hj => ?_⟩) (fun hb => ⟨fun _ => h0 hb, fun j hj => by cases hj⟩)
  cases hj
  obtain ⟨q0, q1, q2⟩ := h1 d hd e1 e2 hv
  exact ⟨hd, hd, fun n0 => ⟨hd, fun n1 => q2 ⟨n0, n1⟩, fun e => q1 e⟩, fun e => q0 e⟩
theorem sp_markOn {S : Sg} {a : Int32} {d : Nat} {Q : Option Nat → Sg → Prop} (hd : d < 8) (e2 : a.toNatClampNeg = d) (hv : vp_in a 8) (hq : Q (sM S d) S) : wp_X9_markOn a S Q := by
  unfold wp_X9_markOn
  refine sp_cShelf (fun d' hd' e1 e2' hv' => ⟨fun z => (by cases z), fun j hj => ?_⟩) (fun hb => absurd hv hb)
  cases hj
  have : d' = d := e2'.symm.trans e2
  subst this
  refine ⟨hd, hd, fun z => ?_, fun j z => ?_⟩
  · rw [z] at hq
    exact hq
  · rw [z] at hq
    exact hq
theorem held3 {x : Int32} (h : x = 3 ∨ x = 4) : ¬ x = 0 ∧ ¬ x = 1 := by
  rcases h with rfl | rfl <;> exact ⟨by decide, by decide⟩
theorem rl_weight {S : Sg} (h : Rel S) (a : Int32) : wp_X9_weight a S (fun r S1 => wp_X10_weight a S1 (fun r2 S2 => r = r2 ∧ Rel S2)) := by
  have h' := h
  obtain ⟨hA, hB, hC, hD, hE, hF, hG, hH, hS, hX⟩ := h'
  have hn := hA.1
  unfold wp_X9_weight
  refine sp_refusal (fun hb => bq_f (by decide) ?_) (fun d hd e1 e2 hv => ?_)
  · unfold wp_X10_weight
    exact sp_isShelf (fun v => absurd v hb) (fun _ => bq_nt rfl ⟨by decide, h⟩)
  obtain ⟨h64, hsh⟩ := hS d hd
  refine ⟨fun q => bq_f (by decide) ?_, fun q => bq_t rfl ?_, fun q => bq_f (by decide) ?_⟩
  · unfold wp_X10_weight
    refine sp_isShelf (fun _ => bq_nf i10 ⟨hv, ?_⟩) (fun n => absurd hv n)
    rw [e2, h64, q]
    exact bq_nt rfl ⟨by decide, h⟩
  · rcases hsh with ⟨e, -⟩ | ⟨-, j, hj, hm, h65⟩ | ⟨e, -⟩
    · rw [q] at e
      exact absurd e i10
    · refine sp_markOn hd e2 hv ?_
      rw [hm]
      refine ⟨fun z => (by cases z), fun j' hj' => ?_⟩
      cases hj'
      refine ⟨hj, ?_⟩
      have hj10 : j < 10 := by omega
      have hk41 := (hA.2.2.2.2.1 j hj10).1
      have hk4 := hA.2.2.2.1 j
      have h44 := (hB.1 j hj10).1
      have h3 : gI S 26 j 3 = nI (nP S j 40) := hC.2.2 j hj10
      have hvj : vp_in (nI j) 10 := in_nI hj10 (by omega)
      have hcj : (nI j).toNatClampNeg = j := nI_clamp (by omega)
      have ref : ∀ (Q : Int32 → Sg → Prop), Q (if kM S j = 2 then 2 * (((10 + nI (nP S j 40)) + (gI S 26 j 6 + 100)) + 0) else if kM S j = 1 then (((10 + nI (nP S j 40)) + (gI S 26 j 6 + 100)) + 0) else if kM S j = 3 then (((10 + nI (nP S j 40)) + 0) + 7) else (((10 + nI (nP S j 40)) + 0) + 0)) S → wp_X10_weight a S Q := by
        intro Q hq
        unfold wp_X10_weight
        refine sp_isShelf (fun _ => bq_nf i10 ⟨hv, ?_⟩) (fun n => absurd hv n)
        rw [e2, h64, q]
        refine bq_nf (by decide) ⟨hv, bq_t rfl ⟨hv, fun x ex => ?_⟩⟩
        rw [h65] at ex
        subst ex
        refine rf_readingsOf hC hj10 ?_
        have q2 : nI (kM S j) = 2 ↔ kM S j = 2 := nI_eq_iff (b := 2) (by omega) (by omega)
        have q3 : nI (kM S j) = 3 ↔ kM S j = 3 := nI_eq_iff (b := 3) (by omega) (by omega)
        refine rf_hasAnt hA hj10 hcj hvj (fun hk => ⟨_, fun _ _ h => h, bq_f i10 ⟨hvj, hvj, _, fun _ _ h => h, ?_⟩⟩) (fun hk => ⟨_, fun _ _ h => h, bq_t rfl ⟨hvj, _, fun _ _ h => h, ?_⟩⟩)
        · rw [hcj, hk41, q3, h44, q2]
          refine bq_nf (by omega) (fun x ex => ⟨hvj, fun n2 => ?_, fun e2 => ?_⟩)
          · subst ex
            rw [if_neg n2, if_pos (hk.resolve_right n2)] at hq
            exact hq
          · subst ex
            rw [if_pos e2] at hq
            exact hq
        · rw [hcj, hk41, q3, q2]
          refine ⟨fun n3 x ex => ⟨hvj, bq_nf (fun e => hk (Or.inr e)) ?_⟩, fun e3 x ex => ⟨hvj, bq_nf (fun e => hk (Or.inr e)) ?_⟩⟩
          · subst ex
            rw [if_neg (fun e => hk (Or.inr e)), if_neg (fun e => hk (Or.inl e)), if_neg n3] at hq
            exact hq
          · subst ex
            rw [if_neg (fun e => hk (Or.inr e)), if_neg (fun e => hk (Or.inl e)), if_pos e3] at hq
            exact hq
      refine ⟨fun e => ⟨hj, ref _ ⟨?_, h⟩⟩, fun e => ⟨hj, Or.inl e, hj, hj, Or.inl e, ref _ ⟨?_, h⟩⟩, fun e => ⟨hj, e, hj, Or.inr e, hj, hj, Or.inr e, ref _ ⟨?_, h⟩⟩, fun e => ⟨hj, e, hj, ref _ ⟨?_, h⟩⟩⟩
      · rw [if_neg (by omega), if_neg (by omega), if_neg (by omega), h3, Int32.add_zero, Int32.add_zero]
      · rw [if_neg (by omega), if_pos e, h3, Int32.add_zero, Int32.add_assoc]
      · rw [if_pos e, h3, Int32.add_zero, Int32.add_assoc (10 + nI (nP S j 40))]
      · rw [if_neg (by omega), if_neg (by omega), if_pos (by omega), h3, Int32.add_zero]
    · exact absurd q (held3 e).2
  · unfold wp_X10_weight
    refine sp_isShelf (fun _ => bq_nf i10 ⟨hv, ?_⟩) (fun n => absurd hv n)
    rw [e2, h64]
    exact bq_nf q.1 ⟨hv, bq_f q.2 ⟨by decide, h⟩⟩
theorem rl_toss {S : Sg} (h : Rel S) (a : Int32) : wp_X9_toss a S (fun r S1 => wp_X10_toss a S1 (fun r2 S2 => r = r2 ∧ Rel S2)) := by
  have h' := h
  obtain ⟨hA, hB, hC, hD, hE, hF, hG, hH, hS, hX⟩ := h'
  have hn := hA.1
  unfold wp_X9_toss
  refine sp_refusal (fun hb => bq_f (by decide) ?_) (fun d hd e1 e2 hv => ?_)
  · unfold wp_X10_toss
    exact sp_isShelf (fun v => absurd v hb) (fun _ => bq_nt rfl ⟨rfl, h⟩)
  obtain ⟨h64, hsh⟩ := hS d hd
  refine ⟨fun q => bq_f (by decide) ?_, fun q => bq_t rfl ?_, fun q => bq_f (by decide) ?_⟩
  · unfold wp_X10_toss
    refine sp_isShelf (fun _ => bq_nf i10 ⟨hv, ?_⟩) (fun n => absurd hv n)
    rw [e2, h64, q]
    exact bq_nt rfl ⟨rfl, h⟩
  · rcases hsh with ⟨e, -⟩ | ⟨-, j, hj, hm, h65⟩ | ⟨e, -⟩
    · rw [q] at e
      exact absurd e i10
    · refine sp_markOn hd e2 hv ?_
      rw [hm]
      refine ⟨fun z => (by cases z), fun j' hj' => ?_⟩
      cases hj'
      have hj10 : j < 10 := by omega
      have hvj : vp_in (nI j) 10 := in_nI hj10 (by omega)
      have hcj : (nI j).toNatClampNeg = j := nI_clamp (by omega)
      refine ⟨hj, fun hk => ⟨rfl, hj, hj, ?_⟩, fun hk => ?_⟩
      · unfold wp_X10_toss
        refine sp_isShelf (fun _ => bq_nf i10 ⟨hv, ?_⟩) (fun n => absurd hv n)
        rw [e2, h64, q]
        refine bq_nf (by decide) ⟨hv, bq_t rfl ⟨hv, ?_⟩⟩
        rw [h65]
        refine rf_hasAnt hA hj10 hcj hvj (fun _ => bq_f i10 ⟨hv, ?_⟩) (fun n => absurd hk n)
        refine ⟨?_, h⟩
        rw [h65]
        exact hA.2.2.2.2.2 j hj
      · show wp_X10_toss a S (fun r2 S2 => (-15 : Int32) = r2 ∧ Rel S2)
        unfold wp_X10_toss
        refine sp_isShelf (fun _ => bq_nf i10 ⟨hv, ?_⟩) (fun n => absurd hv n)
        rw [e2, h64, q]
        refine bq_nf (by decide) ⟨hv, bq_t rfl ⟨hv, ?_⟩⟩
        rw [h65]
        exact rf_hasAnt hA hj10 hcj hvj (fun n => absurd n hk) (fun _ => bq_t rfl ⟨rfl, h⟩)
    · exact absurd q (held3 e).2
  · unfold wp_X10_toss
    refine sp_isShelf (fun _ => bq_nf i10 ⟨hv, ?_⟩) (fun n => absurd hv n)
    rw [e2, h64]
    exact bq_nf q.1 ⟨hv, bq_f q.2 ⟨rfl, h⟩⟩
