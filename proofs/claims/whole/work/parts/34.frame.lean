/-! frame -/
def u33 (S : Sg) (f : Nat → Nat → Int32) : Sg := (S.1, fun a b => if a = 33 then f b else S.2.1 a b, S.2.2)
theorem u33_self (S : Sg) : u33 S (gA S 33) = S := by
  have e : (fun a b => if a = 33 then gA S 33 b else S.2.1 a b) = S.2.1 := by
    funext a b
    by_cases h : a = 33
    · rw [if_pos h, h]
      rfl
    · rw [if_neg h]
  show (S.1, (fun a b => if a = 33 then gA S 33 b else S.2.1 a b), S.2.2) = S
  rw [e]
theorem u33_A (S : Sg) (f : Nat → Nat → Int32) (k i : Nat) (v : Int32) : uA (u33 S f) 33 k i v = u33 S (fun b => if b = k then upd (f k) i v else f b) := by
  have e : (fun a b => if a = 33 ∧ b = k then upd (if 33 = 33 then f k else S.2.1 33 k) i v else (if a = 33 then f b else S.2.1 a b)) = (fun a b => if a = 33 then (if b = k then upd (f k) i v else f b) else S.2.1 a b) := by
    funext a b
    by_cases h : a = 33
    · rw [if_pos h, if_pos h, if_pos rfl]
      by_cases hb : b = k
      · rw [if_pos ⟨h, hb⟩, if_pos hb]
      · rw [if_neg (fun z => hb z.2), if_neg hb]
    · rw [if_neg (fun z => h z.1), if_neg h, if_neg h]
  show (S.1, (fun a b => if a = 33 ∧ b = k then upd (if 33 = 33 then f k else S.2.1 33 k) i v else (if a = 33 then f b else S.2.1 a b)), S.2.2) = _
  rw [e]
  rfl
/-- a mark's velocity in the frame -/
abbrev frE (S : Sg) (a1 a3 : Int32) (k : Nat) : Int32 := gA S 33 k 0 - (a1 - (a3 * gI S 26 k 2))
abbrev frN (S : Sg) (a2 a3 : Int32) (k : Nat) : Int32 := gA S 33 k 1 - (a2 + (a3 * gI S 26 k 1))
abbrev frOk (S : Sg) (a1 a2 a3 : Int32) (k : Nat) : Prop := (¬ frE S a1 a3 k < -100000 ∧ ¬ (100000 : Int32) < frE S a1 a3 k) ∧ (¬ frN S a2 a3 k < -100000 ∧ ¬ (100000 : Int32) < frN S a2 a3 k)
theorem rf_frame_bad {S : Sg} {a1 a2 a3 : Int32} {Q : Int32 → Sg → Prop} (hb : (a1 < -1000 ∨ 1000 < a1) ∨ (a2 < -1000 ∨ 1000 < a2) ∨ (a3 < -9 ∨ 9 < a3)) (hq : Q (-1) S) : wp_X10_frame a1 a2 a3 S Q := by
  unfold wp_X10_frame
  refine sp_in (fun q1 q2 => bq_f i10 ?_) (fun _ => bq_t rfl hq)
  refine sp_in (fun q3 q4 => bq_f i10 ?_) (fun _ => bq_t rfl hq)
  refine sp_in (fun q5 q6 => ?_) (fun _ => bq_nt rfl hq)
  exfalso
  rcases hb with (hb | hb) | (hb | hb) | hb | hb
  · exact q1 hb
  · exact q2 hb
  · exact q3 hb
  · exact q4 hb
  · exact q5 hb
  · exact q6 hb
theorem rf_frame {S T : Sg} (hA : rA S) (hF : rF S) (tA : rA T) (tn : nM T = nM S) (t51 : ∀ k, k < 10 → gA T 51 0 k = gA S 33 k 0) (t52 : ∀ k, k < 10 → gA T 52 0 k = gA S 33 k 1) (t42 : ∀ k, k < 10 → gA T 42 0 k = gI S 26 k 1) (t43 : ∀ k, k < 10 → gA T 43 0 k = gI S 26 k 2) {a1 a2 a3 : Int32} {Q : Int32 → Sg → Prop} (p1 : ¬ a1 < -1000) (p2 : ¬ (1000 : Int32) < a1) (p3 : ¬ a2 < -1000) (p4 : ¬ (1000 : Int32) < a2) (p5 : ¬ a3 < -9) (p6 : ¬ (9 : Int32) < a3) (h0 : (∃ k, k < nM S ∧ ¬ frOk S a1 a2 a3 k) → Q (-2) T) (h1 : (∀ k, k < nM S → frOk S a1 a2 a3 k) → ∀ f g : Nat → Int32, (∀ k, k < nM S → f k = frE S a1 a3 k ∧ g k = frN S a2 a3 k) → (∀ k, nM S ≤ k → f k = gA T 51 0 k ∧ g k = gA T 52 0 k) → Q 1 (uAr (uAr T 51 0 f) 52 0 g)) : wp_X10_frame a1 a2 a3 T Q := by
  have hn := hA.1
  unfold wp_X10_frame
  refine sp_in (fun _ _ => bq_f i10 ?_) (fun n => (n.elim p1 p2).elim)
  refine sp_in (fun _ _ => bq_f i10 ?_) (fun n => (n.elim p3 p4).elim)
  refine sp_in (fun _ _ => bq_nf i10 ?_) (fun n => (n.elim p5 p6).elim)
  refine ⟨fun v S1 => S1 = T ∧ ∃ k, k ≤ nM S ∧ v = nI k ∧ ∀ j, j < k → frOk S a1 a2 a3 j, fun v _ => nM S - v.toNatClampNeg, ⟨rfl, 0, by omega, rfl, fun j hj => absurd hj (Nat.not_lt_zero j)⟩, ?_⟩
  rintro v S1 ⟨rfl, k, hk, rfl, hj⟩
  rw [tA.2.2.1, tn]
  refine ⟨fun q => ?_, fun q => ?_⟩
  · have e := (le_nI (by omega) (by omega)).mp q
    have : k = nM S := by omega
    subst this
    refine ⟨fun v S2 => ∃ k f g, k ≤ nM S ∧ v = nI k ∧ S2 = uAr (uAr S1 51 0 f) 52 0 g ∧ (∀ j, j < k → f j = frE S a1 a3 j ∧ g j = frN S a2 a3 j) ∧ ∀ j, k ≤ j → f j = gA S1 51 0 j ∧ g j = gA S1 52 0 j, fun v _ => nM S - v.toNatClampNeg, ⟨0, gA S1 51 0, gA S1 52 0, by omega, rfl, ?_, fun j hj => absurd hj (Nat.not_lt_zero j), fun j _ => ⟨rfl, rfl⟩⟩, ?_⟩
    · rw [uAr_self, uAr_self]
    rintro v S2 ⟨k, f, g, hk, rfl, rfl, hfg, hfo⟩
    have s40 : gI (uAr (uAr S1 51 0 f) 52 0 g) 40 0 1 = nI (nM S) := by
      rw [← tn]
      exact tA.2.2.1
    rw [s40]
    refine ⟨fun q => ?_, fun q => ?_⟩
    · have e := (le_nI (by omega) (by omega)).mp q
      have : k = nM S := by omega
      subst this
      exact h1 hj f g hfg hfo
    · have e : k < nM S := by
        have := mt (le_nI (a := nM S) (b := k) (by omega) (by omega)).mpr q
        omega
      have hv : vp_in (nI k) 10 := in_nI (by omega) (by omega)
      have hc : (nI k).toNatClampNeg = k := nI_clamp (by omega)
      have hk10 : k < 10 := by omega
      rw [hc]
      refine ⟨hv, hv, hv, fun S3 e3 => ⟨hv, hv, hv, fun S4 e4 y ey => ?_⟩⟩
      have w51 : gA (uAr (uAr S1 51 0 f) 52 0 g) 51 0 k = gA S 33 k 0 := ((hfo k (Nat.le_refl _)).1).trans (t51 k hk10)
      have w43 : gA (uAr (uAr S1 51 0 f) 52 0 g) 43 0 k = gI S 26 k 2 := t43 k hk10
      rw [w51, w43] at e3
      have e3' : S3 = uAr (uAr S1 51 0 (upd f k (frE S a1 a3 k))) 52 0 g := by
        rw [e3]
        have e : (fun a b => if a = 51 ∧ b = 0 then upd (if 51 = 52 ∧ 0 = 0 then g else if 51 = 51 ∧ 0 = 0 then f else S1.2.1 51 0) k (frE S a1 a3 k) else (if a = 52 ∧ b = 0 then g else if a = 51 ∧ b = 0 then f else S1.2.1 a b)) = (fun a b => if a = 52 ∧ b = 0 then g else if a = 51 ∧ b = 0 then upd f k (frE S a1 a3 k) else S1.2.1 a b) := by
          funext a b
          by_cases h52 : a = 52 ∧ b = 0
          · rw [if_neg (by omega), if_pos h52, if_pos h52]
          · by_cases h51 : a = 51 ∧ b = 0
            · rw [if_pos h51, if_neg h52, if_pos h51, if_neg (by omega), if_pos ⟨rfl, rfl⟩]
            · rw [if_neg h51, if_neg h52, if_neg h51, if_neg h52, if_neg h51]
        show (S1.1, (fun a b => if a = 51 ∧ b = 0 then upd (if 51 = 52 ∧ 0 = 0 then g else if 51 = 51 ∧ 0 = 0 then f else S1.2.1 51 0) k (frE S a1 a3 k) else (if a = 52 ∧ b = 0 then g else if a = 51 ∧ b = 0 then f else S1.2.1 a b)), S1.2.2) = _
        rw [e]
        rfl
      subst e3'
      have w52 : gA (uAr (uAr S1 51 0 (upd f k (frE S a1 a3 k))) 52 0 g) 52 0 k = gA S 33 k 1 := ((hfo k (Nat.le_refl _)).2).trans (t52 k hk10)
      have w42 : gA (uAr (uAr S1 51 0 (upd f k (frE S a1 a3 k))) 52 0 g) 42 0 k = gI S 26 k 1 := t42 k hk10
      rw [w52, w42] at e4
      have e4' : S4 = uAr (uAr S1 51 0 (upd f k (frE S a1 a3 k))) 52 0 (upd g k (frN S a2 a3 k)) := by
        rw [e4]
        have e : (fun a b => if a = 52 ∧ b = 0 then upd (if 52 = 52 ∧ 0 = 0 then g else S1.2.1 52 0) k (frN S a2 a3 k) else (if a = 52 ∧ b = 0 then g else if a = 51 ∧ b = 0 then upd f k (frE S a1 a3 k) else S1.2.1 a b)) = (fun a b => if a = 52 ∧ b = 0 then upd g k (frN S a2 a3 k) else if a = 51 ∧ b = 0 then upd f k (frE S a1 a3 k) else S1.2.1 a b) := by
          funext a b
          by_cases h52 : a = 52 ∧ b = 0
          · rw [if_pos h52, if_pos ⟨rfl, rfl⟩, if_pos h52]
          · rw [if_neg h52, if_neg h52, if_neg h52]
        show (S1.1, (fun a b => if a = 52 ∧ b = 0 then upd (if 52 = 52 ∧ 0 = 0 then g else S1.2.1 52 0) k (frN S a2 a3 k) else (if a = 52 ∧ b = 0 then g else if a = 51 ∧ b = 0 then upd f k (frE S a1 a3 k) else S1.2.1 a b)), S1.2.2) = _
        rw [e]
        rfl
      subst e4' ey
      refine ⟨⟨k + 1, _, _, by omega, nI_1 k, rfl, fun j hj => ?_, fun j hj => ?_⟩, mu_lt e (by omega)⟩
      · by_cases hjk : j = k
        · subst hjk
          rw [upd_same, upd_same]
          exact ⟨rfl, rfl⟩
        · rw [upd_ne hjk, upd_ne hjk]
          exact hfg j (by omega)
      · rw [upd_ne (by omega), upd_ne (by omega)]
        exact hfo j (by omega)
  · have e : k < nM S := by
      have := mt (le_nI (a := nM S) (b := k) (by omega) (by omega)).mpr q
      omega
    have hv : vp_in (nI k) 10 := in_nI (by omega) (by omega)
    have hc : (nI k).toNatClampNeg = k := nI_clamp (by omega)
    have hk10 : k < 10 := by omega
    rw [hc, t51 k hk10, t43 k hk10]
    refine ⟨hv, hv, sp_in (fun q1 q2 => bq_f i10 ⟨hv, hv, ?_⟩) (fun n => bq_t rfl (h0 ⟨k, e, fun z => n.elim z.1.1 z.1.2⟩))⟩
    rw [t52 k hk10, t42 k hk10]
    refine sp_in (fun q3 q4 => bq_nf i10 (fun y ey => ?_)) (fun n => bq_nt rfl (h0 ⟨k, e, fun z => n.elim z.2.1 z.2.2⟩))
    subst ey
    refine ⟨⟨rfl, k + 1, by omega, nI_1 k, fun j hj2 => ?_⟩, mu_lt e (by omega)⟩
    by_cases hjk : j = k
    · subst hjk
      exact ⟨⟨q1, q2⟩, q3, q4⟩
    · exact hj j (by omega)
theorem sp_east {S : Sg} {k : Nat} {a1 a3 : Int32} {Q : Int32 → Sg → Prop} (hk : k < nM S) (hq : Q (frE S a1 a3 k) S) : wp_X9_eastInFrame k a1 a3 S Q := ⟨hk, hk, in02, hk, hk, hq⟩
theorem sp_north {S : Sg} {k : Nat} {a2 a3 : Int32} {Q : Int32 → Sg → Prop} (hk : k < nM S) (hq : Q (frN S a2 a3 k) S) : wp_X9_northInFrame k a2 a3 S Q := ⟨hk, hk, in12, hk, hk, hq⟩
theorem rl_frame {S : Sg} (h : Rel S) (a1 a2 a3 : Int32) : wp_X9_frame a1 a2 a3 S (fun r S1 => wp_X10_frame a1 a2 a3 S1 (fun r2 S2 => r = r2 ∧ Rel S2)) := by
  have h' := h
  obtain ⟨hA, hB, hC, hD, hE, hF, hG, hH, hS, hX⟩ := h'
  have hn := hA.1
  unfold wp_X9_frame
  refine sp_within (fun p1 p2 => bq_f i10 ?_) (fun hb => bq_t rfl (rf_frame_bad (Or.inl hb) ⟨rfl, h⟩))
  refine sp_within (fun p3 p4 => bq_f i10 ?_) (fun hb => bq_t rfl (rf_frame_bad (Or.inr (Or.inl hb)) ⟨rfl, h⟩))
  refine sp_within (fun p5 p6 => bq_nf i10 ?_) (fun hb => bq_nt rfl (rf_frame_bad (Or.inr (Or.inr hb)) ⟨rfl, h⟩))
  refine ⟨fun v S1 => S1 = S ∧ ∃ k, k ≤ nM S ∧ v = nI k ∧ ∀ j, j < k → frOk S a1 a2 a3 j, fun v _ => nM S - v.toNatClampNeg, ⟨rfl, 0, by omega, rfl, fun j hj => absurd hj (Nat.not_lt_zero j)⟩, ?_⟩
  rintro v S1 ⟨rfl, k, hk, rfl, hj⟩
  rw [hA.2.1]
  refine ⟨fun q => ?_, fun q => ?_⟩
  · have e := (le_nI (by omega) (by omega)).mp q
    have : k = nM S1 := by omega
    subst this
    refine ⟨fun v S2 => ∃ k f, k ≤ nM S1 ∧ v = nI k ∧ S2 = u33 S1 f ∧ (∀ j, j < k → f j 0 = frE S1 a1 a3 j ∧ f j 1 = frN S1 a2 a3 j) ∧ ∀ j, k ≤ j → f j = gA S1 33 j, fun v _ => nM S1 - v.toNatClampNeg, ⟨0, gA S1 33, by omega, rfl, (u33_self S1).symm, fun j hj => absurd hj (Nat.not_lt_zero j), fun j _ => rfl⟩, ?_⟩
    rintro v S2 ⟨k, f, hk, rfl, rfl, hfg, hfo⟩
    have uA1 : rA (u33 S1 f) := hA
    have u6 : gI (u33 S1 f) 0 0 6 = nI (nM S1) := hA.2.1
    rw [u6]
    refine ⟨fun q S3 e3 S4 e4 => ?_, fun q => ?_⟩
    · have e := (le_nI (by omega) (by omega)).mp q
      have : k = nM S1 := by omega
      subst this
      subst e3 e4
      refine rf_frame (T := uI (uI (u33 S1 f) 6 0 5 0) 11 0 5 0) hA hF hA rfl (fun k hk => (hF.1 k hk).1) (fun k hk => (hF.1 k hk).2.1) (fun k hk => (hA.2.2.2.2.1 k hk).2.1) (fun k hk => (hA.2.2.2.2.1 k hk).2.2.1) p1 p2 p3 p4 p5 p6 (fun ⟨k, hk, z⟩ => absurd (hj k hk) z) (fun _ ff gg h3 h4 => ⟨rfl, hA, hB, hC, hD, hE, ⟨fun j hj10 => ?_, fun j i hj10 => ?_⟩, hG, hH, hS, ⟨hX.1.1, fun n => absurd rfl n⟩, fun n => absurd rfl n, hX.2.2⟩)
      · show ff j = f j 0 ∧ gg j = f j 1 ∧ btw (f j 0) 100000 ∧ btw (f j 1) 100000
        by_cases hjn : j < nM S1
        · obtain ⟨z1, z2⟩ := hfg j hjn
          obtain ⟨z3, z4⟩ := h3 j hjn
          rw [z1, z2, z3, z4]
          have ok := hj j hjn
          exact ⟨rfl, rfl, btw_of (m := 100000) (M := 100000) (by decide) (by decide) ok.1.1 ok.1.2, btw_of (m := 100000) (M := 100000) (by decide) (by decide) ok.2.1 ok.2.2⟩
        · obtain ⟨z3, z4⟩ := h4 j (by omega)
          rw [hfo j (by omega), z3, z4]
          exact hF.1 j hj10
      · have hj10 : nM S1 ≤ j := hj10
        show f j i = 0
        rw [hfo j hj10]
        exact hF.2 j i hj10
    · have e : k < nM S1 := by
        have := mt (le_nI (a := nM S1) (b := k) (by omega) (by omega)).mpr q
        omega
      refine uA1.in (fun k' hkn hk' e1 e2 hv hvn => ⟨fun z => (by cases z), fun j hj => ?_⟩) (fun hb => absurd (in_nI e (by omega)) hb)
      cases hj
      have hkk := nI_inj (by omega) (by omega) e1
      subst hkk
      have hfk : f k = gA S1 33 k := hfo k (Nat.le_refl _)
      have fe : frE (u33 S1 f) a1 a3 k = frE S1 a1 a3 k := by
        show f k 0 - _ = gA S1 33 k 0 - _
        rw [hfk]
        rfl
      have fn : frN (u33 S1 f) a2 a3 k = frN S1 a2 a3 k := by
        show f k 1 - _ = gA S1 33 k 1 - _
        rw [hfk]
        rfl
      refine sp_east hkn (sp_north hkn ⟨hkn, hkn, in02, fun S3 e3 => ⟨in12, fun S4 e4 y ey => ?_⟩⟩)
      rw [fe, u33_A] at e3
      subst e3
      rw [fn, u33_A] at e4
      subst e4 ey
      refine ⟨⟨k + 1, _, by omega, nI_1 k, rfl, fun j hj => ?_, fun j hj => ?_⟩, mu_lt e (by omega)⟩
      · by_cases hjk : j = k
        · subst hjk
          rw [if_pos rfl, if_pos rfl]
          refine ⟨?_, ?_⟩
          · show upd (upd (f j) 0 _) 1 _ 0 = _
            rw [upd_ne (by omega), upd_same]
          · show upd (upd (f j) 0 _) 1 _ 1 = _
            rw [upd_same]
        · rw [if_neg hjk, if_neg hjk]
          exact hfg j (by omega)
      · rw [if_neg (by omega), if_neg (by omega)]
        exact hfo j (by omega)
  · have e : k < nM S1 := by
      have := mt (le_nI (a := nM S1) (b := k) (by omega) (by omega)).mpr q
      omega
    refine hA.in (fun k' hkn hk' e1 e2 hv hvn => ⟨fun z => (by cases z), fun j hj' => ?_⟩) (fun hb => absurd (in_nI e (by omega)) hb)
    cases hj'
    have hkk := nI_inj (by omega) (by omega) e1
    subst hkk
    have room : ¬ frOk S1 a1 a2 a3 k → wp_X10_frame a1 a2 a3 S1 (fun r2 S2 => (-2 : Int32) = r2 ∧ Rel S2) := fun z => rf_frame hA hF hA rfl (fun k hk => (hF.1 k hk).1) (fun k hk => (hF.1 k hk).2.1) (fun k hk => (hA.2.2.2.2.1 k hk).2.1) (fun k hk => (hA.2.2.2.2.1 k hk).2.2.1) p1 p2 p3 p4 p5 p6 (fun _ => ⟨rfl, h⟩) (fun all => absurd (all k hkn) z)
    refine sp_east hkn (sp_within (fun q1 q2 => bq_f i10 ?_) (fun n => bq_t rfl (room (fun z => n.elim z.1.1 z.1.2))))
    refine sp_north hkn (sp_within (fun q3 q4 => bq_nf i10 (fun y ey => ?_)) (fun n => bq_nt rfl (room (fun z => n.elim z.2.1 z.2.2))))
    subst ey
    refine ⟨⟨rfl, k + 1, by omega, nI_1 k, fun j hj2 => ?_⟩, mu_lt e (by omega)⟩
    by_cases hjk : j = k
    · subst hjk
      exact ⟨⟨q1, q2⟩, q3, q4⟩
    · exact hj j (by omega)
