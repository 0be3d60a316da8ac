/-! fits, slip, locked -/
theorem mm_uniq {p : Nat → Bool} {Q i m M m' M' : Nat} (h : minmax p Q i m M) (h' : minmax p Q i m' M') : m = m' ∧ M = M' := by
  obtain ⟨⟨a, a1, a2, a3⟩, ⟨b, b1, b2, b3⟩, h5⟩ := h
  obtain ⟨⟨c, c1, c2, c3⟩, ⟨d, d1, d2, d3⟩, k5⟩ := h'
  have q1 := h5 c c1 c2
  have q2 := h5 d d1 d2
  have q3 := k5 a a1 a2
  have q4 := k5 b b1 b2
  omega
/-- what class and reference have found is the same -/
theorem slp_same {n : Nat} {V G : Nat → Nat → Int32} {tol c2 : Int32} {L M L' M' : Nat → Int32} (h : slpP n V G tol c2 L M) (h' : ∀ i, i < 3 → rMM (fitC n V G tol) 4096 i (L' i) (M' i)) (hne : ¬ c2 = 0) : ∀ i, i < 3 → L i = L' i ∧ M i = M' i := by
  intro i hi
  have hle := cntC_le (fitC n V G tol) 4096
  have hn : ¬ cntC (fitC n V G tol) 4096 = 0 := fun z => hne (by rw [h.1, z]; rfl)
  obtain ⟨m, M1, -, -, e1, e2, mm⟩ := h.2 hn i hi
  rcases h' i hi with z | ⟨-, m', M1', -, -, f1, f2, mm'⟩
  · exact absurd z.1 hn
  · obtain ⟨u1, u2⟩ := mm_uniq mm mm'
    rw [e1, e2, f1, f2, u1, u2]
    exact ⟨rfl, rfl⟩
theorem slp_0 {n : Nat} {V G : Nat → Nat → Int32} {tol c2 : Int32} {L M : Nat → Int32} (h : slpP n V G tol c2 L M) : c2 = nI (cntC (fitC n V G tol) 4096) := h.1
theorem rl_fits {S : Sg} (h : Rel S) : wp_X9_fits S (fun r S1 => wp_X10_fits S1 (fun r2 S2 => r = r2 ∧ Rel S2)) := by
  have h' := h
  obtain ⟨hA, hB, hC, hD, hE, hF, hG, hH, hS, hX⟩ := h'
  unfold wp_X9_fits
  refine sp_findS hA hF hG hX (fun I L M h5 hsl => ?_)
  show wp_X10_fits (sl S I L M) (fun r2 S2 => I 2 = r2 ∧ Rel S2)
  unfold wp_X10_fits
  refine rf_findSlips (S := sl S I L M) hA hF hG (fun L' M' _ => ⟨hsl.1, hA, hB, hC, hD, hE, hF, hG, hH, hS, hX.1, fun _ => hsl, hX.2.2⟩)
theorem rl_slip {S : Sg} (h : Rel S) (a1 a2 : Int32) : wp_X9_slip a1 a2 S (fun r S1 => wp_X10_slip a1 a2 S1 (fun r2 S2 => r = r2 ∧ Rel S2)) := by
  have h' := h
  obtain ⟨hA, hB, hC, hD, hE, hF, hG, hH, hS, hX⟩ := h'
  unfold wp_X9_slip
  have hv2 := vp_in_cmp (a := a1) (n := 3) (by omega)
  refine sp_cCut (fun hv => bq_nf i10 ?_) (fun hb => bq_nt rfl ?_)
  · have hvc := hv2.mp hv
    obtain ⟨i, hi, e1, e2⟩ := vp_nat hv (by omega)
    refine sp_findS hA hF hG hX (fun I L M h5 hsl => ?_)
    have R : ∀ (x : Int32) (L' M' : Nat → Int32), Rel (rsl (sl S I L M) x L' M') := fun _ _ _ => ⟨hA, hB, hC, hD, hE, hF, hG, hH, hS, hX.1, fun _ => hsl, hX.2.2⟩
    show ((¬ I 2 = 0 → _) ∧ (I 2 = 0 → _))
    refine ⟨fun n0 => ?_, fun e0 => ?_⟩
    · refine ⟨fun a0 => ⟨hv, ?_⟩, fun a0 => ⟨hv, ?_⟩⟩
      · unfold wp_X10_slip
        refine sp_in (fun _ _ => bq_nf i10 ?_) (fun z => (z.elim hvc.1 hvc.2).elim)
        refine rf_findSlips (S := sl S I L M) hA hF hG (fun L' M' hr => ?_)
        refine bq_nf (fun z => n0 (hsl.1.trans z)) (bq_t a0 ⟨hv, ?_, R _ _ _⟩)
        rw [e2]
        exact (slp_same hsl hr n0 i hi).1
      · unfold wp_X10_slip
        refine sp_in (fun _ _ => bq_nf i10 ?_) (fun z => (z.elim hvc.1 hvc.2).elim)
        refine rf_findSlips (S := sl S I L M) hA hF hG (fun L' M' hr => ?_)
        refine bq_nf (fun z => n0 (hsl.1.trans z)) (bq_f a0 ⟨hv, ?_, R _ _ _⟩)
        rw [e2]
        exact (slp_same hsl hr n0 i hi).2
    · unfold wp_X10_slip
      refine sp_in (fun _ _ => bq_nf i10 ?_) (fun z => (z.elim hvc.1 hvc.2).elim)
      refine rf_findSlips (S := sl S I L M) hA hF hG (fun L' M' hr => ?_)
      exact bq_nt (hsl.1.symm.trans e0) ⟨rfl, R _ _ _⟩
  · unfold wp_X10_slip
    exact sp_in (fun q1 q2 => absurd (hv2.mpr ⟨q1, q2⟩) hb) (fun _ => bq_nt rfl ⟨rfl, h⟩)
def lkB (M : Nat → Int32) : Nat → Int32
  | 0 => 0
  | c + 1 => if M c = 0 then lkB M c ||| ((1 : Int32) <<< (nI c &&& 31)) else lkB M c
theorem lkB_congr {M M' : Nat → Int32} {c : Nat} (h : ∀ i, i < c → M i = M' i) : lkB M c = lkB M' c := by
  induction c with
  | zero => rfl
  | succ c ih =>
    unfold lkB
    rw [ih (fun i hi => h i (by omega)), h c (by omega)]
theorem rl_locked {S : Sg} (h : Rel S) : wp_X9_locked S (fun r S1 => wp_X10_locked S1 (fun r2 S2 => r = r2 ∧ Rel S2)) := by
  have h' := h
  obtain ⟨hA, hB, hC, hD, hE, hF, hG, hH, hS, hX⟩ := h'
  unfold wp_X9_locked
  refine sp_findS hA hF hG hX (fun I L M h5 hsl => ?_)
  have R : ∀ (x : Int32) (L' M' : Nat → Int32), Rel (rsl (sl S I L M) x L' M') := fun _ _ _ => ⟨hA, hB, hC, hD, hE, hF, hG, hH, hS, hX.1, fun _ => hsl, hX.2.2⟩
  show ((¬ I 2 = 0 → _) ∧ (I 2 = 0 → _))
  refine ⟨fun n0 => ?_, fun e0 => ?_⟩
  · refine ⟨fun v1 v2 S1 => S1 = sl S I L M ∧ ∃ c, c ≤ 3 ∧ v2 = nI c ∧ v1 = lkB M c, fun _ v2 _ => 3 - v2.toNatClampNeg, ⟨rfl, 0, by omega, rfl, rfl⟩, ?_⟩
    rintro v1 v2 S1 ⟨rfl, c, hc, rfl, rfl⟩
    refine ⟨fun q => ?_, fun q => ?_⟩
    · have e := (le_nI (a := 3) (by omega) (by omega)).mp q
      have : c = 3 := by omega
      subst this
      unfold wp_X10_locked
      refine rf_findSlips (S := sl S I L M) hA hF hG (fun L' M' hr => ?_)
      refine bq_nf (fun z => n0 (hsl.1.trans z)) ?_
      generalize hT : rsl (sl S I L M) (nI (cntC (fitC (nM (sl S I L M)) (gA (sl S I L M) 33) (gA (sl S I L M) 34) (gI (sl S I L M) 0 0 7)) 4096)) L' M' = T
      have tR : Rel T := by rw [← hT]; exact R _ _ _
      have t58 : gA T 58 0 = M' := by rw [← hT]; rfl
      refine ⟨fun v1 v2 S1 => S1 = T ∧ ∃ c, c ≤ 3 ∧ v2 = nI c ∧ v1 = lkB M' c, fun _ v2 _ => 3 - v2.toNatClampNeg, ⟨rfl, 0, by omega, rfl, rfl⟩, ?_⟩
      rintro v1 v2 S1 ⟨rfl, c, hc, rfl, rfl⟩
      refine ⟨fun q => ?_, fun q => ?_⟩
      · have e := (le_nI (a := 3) (by omega) (by omega)).mp q
        have : c = 3 := by omega
        subst this
        exact ⟨lkB_congr (fun i hi => (slp_same hsl hr n0 i hi).2), tR⟩
      · have e : c < 3 := by
          have := mt (le_nI (a := 3) (b := c) (by omega) (by omega)).mpr q
          omega
        rw [nI_clamp (by omega), t58]
        refine ⟨in_nI e (by omega), fun z x ex y ey => ?_, fun z x ex y ey => ?_⟩
        · subst ex ey
          refine ⟨⟨rfl, c + 1, by omega, nI_1 c, ?_⟩, mu_lt e (by omega)⟩
          show _ = if M' c = 0 then _ else _
          rw [if_neg z, Int32.or_zero]
        · subst ex ey
          refine ⟨⟨rfl, c + 1, by omega, nI_1 c, ?_⟩, mu_lt e (by omega)⟩
          show _ = if M' c = 0 then _ else _
          rw [if_pos z]
    · have e : c < 3 := by
        have := mt (le_nI (a := 3) (b := c) (by omega) (by omega)).mpr q
        omega
      refine ⟨in_nI e (by omega), ?_⟩
      rw [nI_clamp (by omega)]
      show ((¬ M c = 0 → _) ∧ (M c = 0 → _))
      refine ⟨fun z y ey => ?_, fun z x ex y ey => ?_⟩
      · subst ey
        refine ⟨⟨rfl, c + 1, by omega, nI_1 c, ?_⟩, mu_lt e (by omega)⟩
        show _ = if M c = 0 then _ else _
        rw [if_neg z]
      · subst ex ey
        refine ⟨⟨rfl, c + 1, by omega, nI_1 c, ?_⟩, mu_lt e (by omega)⟩
        show _ = if M c = 0 then _ else _
        rw [if_pos z]
  · unfold wp_X10_locked
    refine rf_findSlips (S := sl S I L M) hA hF hG (fun L' M' hr => ?_)
    exact bq_nt (hsl.1.symm.trans e0) ⟨rfl, R _ _ _⟩
