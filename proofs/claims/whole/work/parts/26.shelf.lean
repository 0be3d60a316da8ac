/-! element, make, copy -/
theorem updL_same {f : Nat → Int64} {i : Nat} {v : Int64} : vp_updL f i v i = v := by unfold vp_updL; rw [if_pos rfl]
theorem updL_ne {f : Nat → Int64} {i j : Nat} {v : Int64} (h : j ≠ i) : vp_updL f i v j = f j := by unfold vp_updL; rw [if_neg h]
theorem uLr_self (S : Sg) (t k : Nat) : uLr S t k (gL S t k) = S := by
  have e : (fun a b => if a = t ∧ b = k then gL S t k else S.2.2.1 a b) = S.2.2.1 := by
    funext a b
    by_cases h : a = t ∧ b = k
    · rw [if_pos h, h.1, h.2]
      rfl
    · rw [if_neg h]
  show (S.1, S.2.1, (fun a b => if a = t ∧ b = k then gL S t k else S.2.2.1 a b), S.2.2.2) = S
  rw [e]
theorem uL_uLr (S : Sg) (t k i : Nat) (f : Nat → Int64) (v : Int64) : uL (uLr S t k f) t k i v = uLr S t k (vp_updL f i v) := by
  have e : (fun a b => if a = t ∧ b = k then vp_updL (if t = t ∧ k = k then f else S.2.2.1 t k) i v else (if a = t ∧ b = k then f else S.2.2.1 a b)) = (fun a b => if a = t ∧ b = k then vp_updL f i v else S.2.2.1 a b) := by
    funext a b
    by_cases h : a = t ∧ b = k
    · rw [if_pos h, if_pos h, if_pos ⟨rfl, rfl⟩]
    · rw [if_neg h, if_neg h, if_neg h]
  show (S.1, S.2.1, (fun a b => if a = t ∧ b = k then vp_updL (if t = t ∧ k = k then f else S.2.2.1 t k) i v else (if a = t ∧ b = k then f else S.2.2.1 a b)), S.2.2.2) = _
  rw [e]
  rfl
theorem gL_uLr_at (S : Sg) (t k : Nat) (f : Nat → Int64) : gL (uLr S t k f) t k = f := by rw [gL_uLr, if_pos ⟨rfl, rfl⟩]
theorem gL_uLr_off (S : Sg) (t k a b : Nat) (f : Nat → Int64) (h : ¬ (a = t ∧ b = k)) : gL (uLr S t k f) a b = gL S a b := by rw [gL_uLr, if_neg h]
/-- the shelf d holds noughts, or what f says -/
abbrev wrH (S : Sg) (d : Nat) (w z : Int32) (f : Nat → Int64) : Sg := uLr (uI (uI (uH (uI (uI S 24 d 1 0) 24 d 2 0) d none) 24 d 1 w) 24 d 2 z) 25 d f
theorem sp_noughts {S : Sg} {d : Nat} {w : Int32} {z : Nat} {Q : Sg → Prop} (hd : d < 8) (hz : z ≤ 60) (hq : ∀ f : Nat → Int64, (∀ i, i < z → f i = 0) → Q (wrH S d w (nI z) f)) : wp_X6_holdNoughts d w (nI z) S Q := by
  refine ⟨hd, hd, fun S1 e1 S3 e3 S4 e4 S5 e5 S6 e6 => ?_⟩
  subst e1 e3 e4 e5 e6
  refine ⟨fun v S1 => ∃ t f, t ≤ z ∧ v = nI t ∧ S1 = wrH S d w (nI z) f ∧ ∀ i, i < t → f i = 0, fun v _ => z - v.toNatClampNeg, ⟨0, _, by omega, rfl, (uLr_self _ 25 d).symm, fun i h => absurd h (Nat.not_lt_zero i)⟩, ?_⟩
  rintro v S1 ⟨t, f, ht, rfl, rfl, hf⟩
  refine ⟨fun q => ?_, fun q => ⟨fun q2 => ?_, fun q2 => ?_⟩⟩
  · have h1 := (le_nI (by omega) (by omega)).mp q
    exact hq f (fun i hi => hf i (by omega))
  · have h1 := (le_nI (a := 60) (by omega) (by omega)).mp q2
    exact hq f (fun i hi => hf i (by omega))
  · have h1 : t < z := by
      have := mt (le_nI (a := z) (b := t) (by omega) (by omega)).mpr q
      omega
    refine ⟨in_nI (by omega) (by omega), fun S2 e2 x ex => ?_⟩
    subst e2 ex
    rw [nI_clamp (by omega)]
    refine ⟨⟨t + 1, vp_updL f t 0, by omega, nI_1 t, uL_uLr _ _ _ _ _ _, fun i hi => ?_⟩, ?_⟩
    · by_cases hit : i = t
      · subst hit
        exact updL_same
      · rw [updL_ne hit]
        exact hf i (by omega)
    · exact mu_lt h1 (by omega)
theorem it_eq (d i : Nat) : (60 : Int32) * nI d + nI i = nI (60 * d + i) := by
  rw [← nI_plus, ← nI_mul]
  rfl
theorem rf_wipe {S : Sg} {d : Nat} {Q : Sg → Prop} (hd : d < 8) (hq : ∀ g : Nat → Int64, (∀ i, i < 60 → g (60 * d + i) = 0) → (∀ j, (j < 60 * d ∨ 60 * d + 60 ≤ j) → g j = gL S 67 0 j) → Q (uLr S 67 0 g)) : wp_X10_wipe (nI d) S Q := by
  refine ⟨fun v S1 => ∃ t g, t ≤ 60 ∧ v = nI t ∧ S1 = uLr S 67 0 g ∧ (∀ i, i < t → g (60 * d + i) = 0) ∧ ∀ j, (j < 60 * d ∨ 60 * d + 60 ≤ j) → g j = gL S 67 0 j, fun v _ => 60 - v.toNatClampNeg, ⟨0, _, by omega, rfl, (uLr_self _ 67 0).symm, fun i h => absurd h (Nat.not_lt_zero i), fun _ _ => rfl⟩, ?_⟩
  rintro v S1 ⟨t, g, ht, rfl, rfl, hg1, hg2⟩
  refine ⟨fun q => ?_, fun q => ?_⟩
  · have h1 := (le_nI (a := 60) (by omega) (by omega)).mp q
    exact hq g (fun i hi => hg1 i (by omega)) hg2
  · have h1 : t < 60 := by
      have := mt (le_nI (a := 60) (b := t) (by omega) (by omega)).mpr q
      omega
    rw [it_eq, nI_clamp (by omega)]
    refine ⟨in_nI (by omega) (by omega), fun S2 e2 x ex => ?_⟩
    subst e2 ex
    refine ⟨⟨t + 1, vp_updL g (60 * d + t) 0, by omega, nI_1 t, uL_uLr _ _ _ _ _ _, fun i hi => ?_, fun j hj => ?_⟩, mu_lt h1 (by omega)⟩
    · by_cases hit : i = t
      · subst hit
        exact updL_same
      · rw [updL_ne (by omega)]
        exact hg1 i (by omega)
    · rw [updL_ne (by omega)]
      exact hg2 j hj
/-- a shelf of a row: the others stay -/
theorem rS_row {S : Sg} {d : Nat} {w : Int32} {z : Nat} {f g : Nat → Int64} (hd : d < 8) (hw : w = 3 ∨ w = 4) (hz : z ≤ 60) (hfg : ∀ i, i < z → f i = g (60 * d + i)) (hg : ∀ j, (j < 60 * d ∨ 60 * d + 60 ≤ j) → g j = gL S 67 0 j) (h : rS S) {T : Sg} (e1 : nM T = nM S) (e2 : gA T 64 0 = upd (gA S 64 0) d w) (e3 : ∀ j, j ≠ d → gA T 65 0 j = gA S 65 0 j) (e4 : gA T 66 0 = upd (gA S 66 0) d (nI z)) (e5 : ∀ j, j ≠ d → gI T 24 j = gI S 24 j) (e6 : gI T 24 d 1 = w) (e7 : gI T 24 d 2 = nI z) (e8 : ∀ j, sM T j = if j = d then none else sM S j) (e9 : ∀ j, j ≠ d → gL T 25 j = gL S 25 j) (e10 : gL T 25 d = f) (e11 : gL T 67 0 = g) : rS T := by
  intro j hj
  by_cases hjd : j = d
  · subst hjd
    refine ⟨by rw [e2, e6, upd_same], Or.inr (Or.inr ⟨by rw [e6]; exact hw, by rw [e8, if_pos rfl], z, hz, e7, by rw [e4, upd_same], fun i hi => ?_⟩)⟩
    rw [e10, e11]
    exact hfg i hi
  · obtain ⟨h1, h2⟩ := h j hj
    unfold rS1
    rw [e2, upd_ne hjd, e5 j hjd, e8, if_neg hjd, e1, e3 j hjd, e4, upd_ne hjd, e9 j hjd, e11]
    refine ⟨h1, h2.imp id (fun h2 => h2.imp id (fun h2 => ⟨h2.1, h2.2.1, ?_⟩))⟩
    obtain ⟨z2, hz2, q1, q2, q3⟩ := h2.2.2
    exact ⟨z2, hz2, q1, q2, fun i hi => by rw [hg _ (by omega)]; exact q3 i hi⟩
theorem rf_make_bad {S : Sg} {a1 a2 a3 : Int32} {Q : Int32 → Sg → Prop} (hb : ¬ vp_in a1 8 ∨ (¬ a2 = 3 ∧ ¬ a2 = 4) ∨ ¬ a3 ≤ 60) (hq : Q (-1) S) : wp_X10_make a1 a2 a3 S Q := by
  unfold wp_X10_make
  refine sp_isShelf (fun v1 => bq_f i10 ?_) (fun _ => bq_t rfl hq)
  refine sp_in (fun q1 q2 => bq_f i10 ⟨fun q3 => ?_, fun _ => hq⟩) (fun _ => bq_t rfl hq)
  exfalso
  rcases hb with hb | hb | hb
  · exact hb v1
  · rw [Int32.lt_iff_toInt_lt] at q1 q2
    have : a2.toInt = 3 ∨ a2.toInt = 4 := by
      have z1 : (3 : Int32).toInt = 3 := by decide
      have z2 : (4 : Int32).toInt = 4 := by decide
      omega
    rcases this with e | e
    · exact hb.1 (Int32.toInt_inj.mp e)
    · exact hb.2 (Int32.toInt_inj.mp e)
  · exact hb q3
theorem rl_make {S : Sg} (h : Rel S) (a1 a2 a3 : Int32) : wp_X9_make a1 a2 a3 S (fun r S1 => wp_X10_make a1 a2 a3 S1 (fun r2 S2 => r = r2 ∧ Rel S2)) := by
  have h' := h
  obtain ⟨hA, hB, hC, hD, hE, hF, hG, hH, hS, hX⟩ := h'
  unfold wp_X9_make
  refine sp_cShelf (fun d hd e1 e2 hv => ⟨fun z => (by cases z), fun j hj => ?_⟩) (fun hb => ⟨fun _ => rf_make_bad (Or.inl hb) ⟨rfl, h⟩, fun j hj => by cases hj⟩)
  cases hj
  have good : (a2 = 3 ∨ a2 = 4) → ((a3 ≤ 60 → ((0 ≤ a3 → (d < 8 ∧ wp_X6_holdNoughts d a2 a3 S (fun S5 => wp_X10_make a1 a2 a3 S5 (fun r2 S2 => (0 : Int32) = r2 ∧ Rel S2)))) ∧ (¬ 0 ≤ a3 → wp_X10_make a1 a2 a3 S (fun r2 S2 => (-14 : Int32) = r2 ∧ Rel S2)))) ∧ (¬ a3 ≤ 60 → wp_X10_make a1 a2 a3 S (fun r2 S2 => (-1 : Int32) = r2 ∧ Rel S2))) := by
    intro hw
    have k1 : ¬ a2 < 3 := by rcases hw with rfl | rfl <;> decide
    have k2 : ¬ (4 : Int32) < a2 := by rcases hw with rfl | rfl <;> decide
    refine ⟨fun q => ⟨fun q0 => ⟨hd, ?_⟩, fun q0 => ?_⟩, fun q => rf_make_bad (Or.inr (Or.inr q)) ⟨rfl, h⟩⟩
    · have hv3 : vp_in a3 61 := by
        rw [Int32.le_iff_toInt_le] at q q0
        rw [vp_in_iff]
        have z1 : (60 : Int32).toInt = 60 := by decide
        have z2 : (0 : Int32).toInt = 0 := by decide
        omega
      obtain ⟨z, hz, rfl, -⟩ := vp_nat hv3 (by omega)
      refine sp_noughts hd (by omega) (fun f hf => ?_)
      unfold wp_X10_make
      refine sp_isShelf (fun _ => bq_f i10 ?_) (fun n => absurd hv n)
      refine sp_in (fun _ _ => bq_f i10 (bq_t q (bq_t q0 ?_))) (fun n => (n.elim k1 k2).elim)
      refine ⟨hv, fun T1 et1 => ⟨hv, fun T2 et2 => ?_⟩⟩
      subst et1 et2
      rw [e2, e1]
      refine rf_wipe hd (fun g hg1 hg2 => ⟨rfl, hA, hB, hC, hD, hE, hF, hG, hH, ?_, hX⟩)
      refine rS_row (S := S) (z := z) (f := f) (g := g) hd hw (by omega) (fun i hi => by rw [hf i hi, hg1 i (by omega)]) hg2 hS rfl ?_ (fun _ _ => rfl) ?_ (fun j hj => ?_) ?_ ?_ (fun j => rfl) (fun j hj => ?_) ?_ ?_
      · exact gA_same _ 64 0 d a2
      · exact gA_same _ 66 0 d (nI z)
      · show gI (uI (uI (uI (uI S 24 d 1 0) 24 d 2 0) 24 d 1 a2) 24 d 2 (nI z)) 24 j = gI S 24 j
        rw [gI_uI, if_neg (by omega), gI_uI, if_neg (by omega), gI_uI, if_neg (by omega), gI_uI, if_neg (by omega)]
      · show gI (uI (uI (uI (uI S 24 d 1 0) 24 d 2 0) 24 d 1 a2) 24 d 2 (nI z)) 24 d 1 = a2
        rw [gI_off (by omega), gI_at]
      · show gI (uI (uI (uI (uI S 24 d 1 0) 24 d 2 0) 24 d 1 a2) 24 d 2 (nI z)) 24 d 2 = nI z
        rw [gI_at]
      · show gL (wrH S d a2 (nI z) f) 25 j = gL S 25 j
        exact gL_uLr_off _ _ _ _ _ _ (by omega)
      · show gL (wrH S d a2 (nI z) f) 25 d = f
        exact gL_uLr_at _ _ _ _
      · exact gL_uLr_at _ 67 0 g
    · unfold wp_X10_make
      refine sp_isShelf (fun _ => bq_f i10 ?_) (fun n => absurd hv n)
      exact sp_in (fun _ _ => bq_f i10 (bq_t q (bq_f q0 ⟨rfl, h⟩))) (fun n => (n.elim k1 k2).elim)
  refine ⟨_, fun _ h => h, fun e => good (Or.inl e), fun n3 => ⟨fun n4 => rf_make_bad (Or.inr (Or.inl ⟨n3, n4⟩)) ⟨rfl, h⟩, fun e => good (Or.inr e)⟩⟩
/-! element -/
theorem rf_element_bad {S : Sg} {a1 a2 : Int32} {Q : Int64 → Sg → Prop} (hb : ¬ vp_in a1 8) (hq : Q 0 (thr S 1)) : wp_X10_element a1 a2 S Q := by
  unfold wp_X10_element
  refine sp_isShelf (fun v1 => absurd v1 hb) (fun _ => ⟨_, fun _ _ h => h, bq_nt rfl (fun S3 es => ?_)⟩)
  subst es
  exact bq_f (by rw [gI_at]; decide) hq
theorem rl_element {S : Sg} (h : Rel S) (a1 a2 : Int32) : wp_L_element a1 a2 S (fun k S1 => wp_X10_element a1 a2 S1 (fun b S2 => gI S2 40 0 0 = k ∧ (k = 0 → gL S2 39 0 0 = b) ∧ Rel S2)) := by
  have h' := h
  obtain ⟨hA, hB, hC, hD, hE, hF, hG, hH, hS, hX⟩ := h'
  unfold wp_L_element wp_X9_element
  refine sp_cShelf (fun d hd e1 e2 hv => ⟨fun z => (by cases z), fun j hj => ?_⟩) (fun hb => ⟨fun _ => Or.inl ⟨rfl, rf_element_bad hb ⟨gI_at, fun z => absurd z i10, hA, hB, hC, hD, hE, hF, hG, hH, hS, hX⟩⟩, fun j hj => by cases hj⟩)
  cases hj
  obtain ⟨h64, hsh⟩ := hS d hd
  have two : ∀ S3 : Sg, S3 = uI S 40 0 0 2 → ((gI S3 40 0 0 ≤ 0 → (vp_in ((60 * a1) + a2) 480 ∧ (gI S3 40 0 0 = 2 ∧ ((2 : Int32) = 0 → gL S3 39 0 0 = gL S3 67 0 (Int32.toNatClampNeg ((60 * a1) + a2))) ∧ Rel S3))) ∧ (¬ gI S3 40 0 0 ≤ 0 → (gI S3 40 0 0 = 2 ∧ ((2 : Int32) = 0 → gL S3 39 0 0 = 0) ∧ Rel S3))) := by
    intro S3 es
    subst es
    exact bq_f (by rw [gI_at]; decide) ⟨gI_at, fun z => absurd z (by decide), hA, hB, hC, hD, hE, hF, hG, hH, hS, hX⟩
  have bad2 : (gI S 24 d 1 = 0 ∨ gI S 24 d 1 = 1) → wp_X10_element a1 a2 S (fun b S2 => gI S2 40 0 0 = 2 ∧ ((2 : Int32) = 0 → gL S2 39 0 0 = b) ∧ Rel S2) := by
    intro hh
    unfold wp_X10_element
    refine sp_isShelf (fun _ => ⟨_, fun _ _ h => h, bq_nf i10 ⟨hv, _, fun _ h => h, bq_t ?_ two⟩⟩) (fun n => absurd hv n)
    rw [e2, h64]
    rcases hh with e | e <;> rw [e] <;> decide
  rcases hsh with ⟨e, -⟩ | ⟨e, -⟩ | ⟨e, -, z, hz, g2, g66, hrow⟩
  · refine ⟨hd, hd, ?_⟩
    rw [e]
    exact bq_f (by decide) (bq_nf (by decide) (bq_t rfl (Or.inr ⟨rfl, bad2 (Or.inl e)⟩)))
  · refine ⟨hd, hd, ?_⟩
    rw [e]
    exact bq_f (by decide) (bq_nf (by decide) (bq_t rfl (Or.inr ⟨rfl, bad2 (Or.inr e)⟩)))
  · have lt3 : ¬ gI S 24 d 1 < 3 := by rcases e with e | e <;> rw [e] <;> decide
    have bad3 : ¬ vp_in a2 z → wp_X10_element a1 a2 S (fun b S2 => gI S2 40 0 0 = 2 ∧ ((2 : Int32) = 0 → gL S2 39 0 0 = b) ∧ Rel S2) := by
      intro hh
      unfold wp_X10_element
      have hv2 := vp_in_cmp (a := a2) (n := z) (by omega)
      refine sp_isShelf (fun _ => ⟨_, fun _ _ h => h, bq_nf i10 ⟨hv, _, fun _ h => h, bq_f (by rw [e2, h64]; exact lt3) ⟨hv, ?_⟩⟩⟩) (fun n => absurd hv n)
      rw [e2, g66]
      exact sp_in (fun q1 q2 => absurd (hv2.mpr ⟨q1, q2⟩) hh) (fun _ => bq_nt rfl two)
    have go : (a2 < 0 → (ISE = IAE ∧ wp_X10_element a1 a2 S (fun b S2 => gI S2 40 0 0 = 1 ∧ ((1 : Int32) = 0 → gL S2 39 0 0 = b) ∧ Rel S2)) ∨ (ISE = ISE ∧ wp_X10_element a1 a2 S (fun b S2 => gI S2 40 0 0 = 2 ∧ ((2 : Int32) = 0 → gL S2 39 0 0 = b) ∧ Rel S2))) ∧ (¬ a2 < 0 → wp_X6_size d S (fun r6 S6 => ((a2 < r6 → wp_X6_valueAt d a2 S6 (fun r S' => ∀ S'' : Sg, S'' = uL S' 39 0 (Int32.toNatClampNeg 0) r → wp_X10_element a1 a2 S'' (fun b S2 => gI S2 40 0 0 = 0 ∧ ((0 : Int32) = 0 → gL S2 39 0 0 = b) ∧ Rel S2))) ∧ (¬ a2 < r6 → (ISE = IAE ∧ wp_X10_element a1 a2 S6 (fun b S2 => gI S2 40 0 0 = 1 ∧ ((1 : Int32) = 0 → gL S2 39 0 0 = b) ∧ Rel S2)) ∨ (ISE = ISE ∧ wp_X10_element a1 a2 S6 (fun b S2 => gI S2 40 0 0 = 2 ∧ ((2 : Int32) = 0 → gL S2 39 0 0 = b) ∧ Rel S2)))))) := by
      have hv2 := vp_in_ge (a := a2) (n := z) (by omega)
      refine ⟨fun q => Or.inr ⟨rfl, bad3 (fun v => (hv2.mp v).1 q)⟩, fun q => ⟨hd, ?_⟩⟩
      rw [g2]
      refine ⟨fun q2 => ?_, fun q2 => Or.inr ⟨rfl, bad3 (fun v => (hv2.mp v).2 (i32_nlt.mp q2))⟩⟩
      have vz : vp_in a2 z := hv2.mpr ⟨q, i32_nle.mpr q2⟩
      obtain ⟨i, hi, f1, f2⟩ := vp_nat vz (by omega)
      refine ⟨hd, vp_in_le vz hz, fun S2 es2 => ?_⟩
      subst es2
      have hs : (60 : Int32) * a1 + a2 = nI (60 * d + i) := by rw [e1, f1]; exact it_eq d i
      unfold wp_X10_element
      have hvc := (vp_in_cmp (a := a2) (n := z) (by omega)).mp vz
      refine sp_isShelf (fun _ => ⟨_, fun _ _ h => h, bq_nf i10 ⟨hv, _, fun _ h => h, bq_f (by rw [e2]; show ¬ gA S 64 0 d < 3; rw [h64]; exact lt3) ⟨hv, ?_⟩⟩⟩) (fun n => absurd hv n)
      rw [e2]
      show wp_X10_in a2 0 (gA S 66 0 d - 1) _ _
      rw [g66]
      refine sp_in (fun _ _ => bq_nf i10 (fun S3 es3 => ?_)) (fun n => (n.elim hvc.1 hvc.2).elim)
      subst es3
      refine bq_t (by rw [gI_at]; decide) ⟨by rw [hs]; exact in_nI (by omega) (by omega), gI_at, fun _ => ?_, hA, hB, hC, hD, hE, hF, hG, hH, hS, hX⟩
      rw [hs, nI_clamp (by omega), f2]
      exact hrow i hi
    refine ⟨hd, hd, ?_⟩
    rcases e with e | e
    · rw [e]
      exact bq_t rfl (bq_f i10 go)
    · rw [e]
      exact bq_f (by decide) (bq_nt rfl (bq_f i10 go))
