/-! copy: the good way -/
theorem nn_nat {a : Int32} (h : ¬ a < 0) : ∃ k, k < 2 ^ 31 ∧ a = nI k ∧ a.toNatClampNeg = k := by
  have h1 : ¬ a.toInt < 0 := by
    rw [Int32.lt_iff_toInt_lt] at h
    exact h
  have h2 := a.toInt_lt
  refine ⟨a.toInt.toNat, by omega, ?_, rfl⟩
  apply Int32.toInt_inj.mp
  rw [nI_toInt (by omega)]
  omega
theorem nI_sub {a b : Nat} (ha : a < 2 ^ 31) (hb : b < 2 ^ 31) : (nI a - nI b).toInt = (a : Int) - b := by
  rw [Int32.toInt_sub, nI_toInt ha, nI_toInt hb]
  apply Int.bmod_eq_of_le <;> omega
theorem rf_copy {S T : Sg} (hS : rS S) {d e i j n z1 z2 : Nat} (hd : d < 8) (he : e < 8) (t64 : ∀ k, k < 8 → gA T 64 0 k = gI S 24 k 1) (t66d : gA T 66 0 d = nI z1) (t66e : gA T 66 0 e = nI z2) (w3 : ¬ gI S 24 d 1 < 3) (w0 : ¬ gI S 24 d 1 = 0) (we : gI S 24 d 1 = gI S 24 e 1) (hz1 : z1 ≤ 60) (hz2 : z2 ≤ 60) (hi : i + n ≤ z1) (hj : j + n ≤ z2) {Q : Int32 → Sg → Prop} (hq : ∀ h g : Nat → Int64, (∀ k, k < n → g (60 * e + j + k) = gL T 67 0 (60 * d + i + k)) → (∀ x, (x < 60 * e + j ∨ 60 * e + j + n ≤ x) → g x = gL T 67 0 x) → Q (nI n) (uLr (uLr T 68 0 h) 67 0 g)) : wp_X10_copy (nI d) (nI i) (nI e) (nI j) (nI n) T Q := by
  have cd : (nI d).toNatClampNeg = d := nI_clamp (by omega)
  have ce : (nI e).toNatClampNeg = e := nI_clamp (by omega)
  have vd : vp_in (nI d) 8 := in_nI hd (by omega)
  have ve : vp_in (nI e) 8 := in_nI he (by omega)
  have nn : ∀ k : Nat, k < 2 ^ 31 → ¬ nI k < 0 := fun k hk z => by
    rw [Int32.lt_iff_toInt_lt, nI_toInt hk] at z
    have z0 : (0 : Int32).toInt = 0 := by decide
    omega
  unfold wp_X10_copy
  refine sp_isShelf (fun _ => bq_f i10 (sp_isShelf (fun _ => bq_nf i10 ?_) (fun z => absurd ve z))) (fun z => absurd vd z)
  rw [cd, ce, t64 d hd, t64 e he, t66d, t66e]
  refine ⟨vd, bq_f w0 ⟨ve, bq_nf (by rw [← we]; exact w0) ⟨vd, bq_f w3 ⟨vd, ve, bq_t we (bq_f (nn n (by omega)) (bq_f (nn i (by omega)) (bq_f (nn j (by omega)) ⟨vd, bq_f ?_ ⟨ve, bq_t ?_ ?_⟩⟩)))⟩⟩⟩⟩
  · intro z
    rw [Int32.lt_iff_toInt_lt, nI_sub (by omega) (by omega), nI_toInt (by omega)] at z
    omega
  · rw [Int32.le_iff_toInt_le, nI_sub (by omega) (by omega), nI_toInt (by omega)]
    omega
  · have i1 : ∀ k, (60 : Int32) * nI d + nI i + nI k = nI (60 * d + i + k) := fun k => by rw [it_eq, nI_plus]
    have i2 : ∀ k, (60 : Int32) * nI e + nI j + nI k = nI (60 * e + j + k) := fun k => by rw [it_eq, nI_plus]
    refine ⟨fun v S1 => ∃ t h, t ≤ n ∧ v = nI t ∧ S1 = uLr T 68 0 h ∧ ∀ k, k < t → h k = gL T 67 0 (60 * d + i + k), fun v _ => n - v.toNatClampNeg, ⟨0, gL T 68 0, by omega, rfl, (uLr_self T 68 0).symm, fun k hk => absurd hk (Nat.not_lt_zero k)⟩, ?_⟩
    rintro v S1 ⟨t, h, ht, rfl, rfl, hh⟩
    refine ⟨fun q => ?_, fun q => ?_⟩
    · have e1 := (le_nI (by omega) (by omega)).mp q
      have : t = n := by omega
      subst this
      refine ⟨fun v S1 => ∃ u g, u ≤ t ∧ v = nI u ∧ S1 = uLr (uLr T 68 0 h) 67 0 g ∧ (∀ k, k < u → g (60 * e + j + k) = h k) ∧ ∀ x, (x < 60 * e + j ∨ 60 * e + j + u ≤ x) → g x = gL T 67 0 x, fun v _ => t - v.toNatClampNeg, ⟨0, gL T 67 0, by omega, rfl, (uLr_self (uLr T 68 0 h) 67 0).symm, fun k hk => absurd hk (Nat.not_lt_zero k), fun _ _ => rfl⟩, ?_⟩
      rintro v S1 ⟨u, g, hu, rfl, rfl, hg1, hg2⟩
      refine ⟨fun q => ?_, fun q => ?_⟩
      · have e1 := (le_nI (by omega) (by omega)).mp q
        have : u = t := by omega
        subst this
        exact hq h g (fun k hk => by rw [hg1 k hk, hh k hk]) hg2
      · have e1 : u < t := by
          have := mt (le_nI (a := t) (b := u) (by omega) (by omega)).mpr q
          omega
        rw [i2, nI_clamp (n := u) (by omega), nI_clamp (n := 60 * e + j + u) (by omega)]
        refine ⟨in_nI (by omega) (by omega), in_nI (by omega) (by omega), fun S2 e2 y ey => ?_⟩
        rw [uL_uLr] at e2
        subst e2 ey
        refine ⟨⟨u + 1, _, by omega, nI_1 u, rfl, fun k hk => ?_, fun x hx => ?_⟩, mu_lt e1 (by omega)⟩
        · by_cases hku : k = u
          · subst hku
            rw [updL_same]
            rfl
          · rw [updL_ne (by omega)]
            exact hg1 k (by omega)
        · rw [updL_ne (by omega)]
          exact hg2 x (by omega)
    · have e1 : t < n := by
        have := mt (le_nI (a := n) (b := t) (by omega) (by omega)).mpr q
        omega
      rw [i1, nI_clamp (n := t) (by omega), nI_clamp (n := 60 * d + i + t) (by omega)]
      refine ⟨in_nI (by omega) (by omega), in_nI (by omega) (by omega), fun S2 e2 y ey => ?_⟩
      rw [uL_uLr] at e2
      subst e2 ey
      refine ⟨⟨t + 1, _, by omega, nI_1 t, rfl, fun k hk => ?_⟩, mu_lt e1 (by omega)⟩
      by_cases hkt : k = t
      · subst hkt
        rw [updL_same]
        rfl
      · rw [updL_ne hkt]
        exact hh k (by omega)
theorem sp_places {S : Sg} {d : Nat} {a n : Int32} {Q : Int32 → Sg → Prop} (hd : d < 8) (h1 : ¬ a < 0 → ¬ n < 0 → ¬ gI S 24 d 2 - n < a → Q 1 S) (h0 : (a < 0 ∨ n < 0 ∨ gI S 24 d 2 - n < a) → Q 0 S) : wp_X6_hasPlaces d a n S Q :=
  ⟨fun z => h0 (Or.inl z), fun z1 => ⟨fun z => h0 (Or.inr (Or.inl z)), fun z2 => ⟨hd, fun z => h0 (Or.inr (Or.inr z)), fun z3 => h1 z1 z2 z3⟩⟩⟩
theorem rl_copy {S : Sg} (h : Rel S) (a1 a2 a3 a4 a5 : Int32) : wp_X9_copy a1 a2 a3 a4 a5 S (fun r S1 => wp_X10_copy a1 a2 a3 a4 a5 S1 (fun r2 S2 => r = r2 ∧ Rel S2)) := by
  have h' := h
  obtain ⟨hA, hB, hC, hD, hE, hF, hG, hH, hS, hX⟩ := h'
  unfold wp_X9_copy
  refine sp_cShelf (fun d hd e1 e2 hv => ⟨fun z => (by cases z), fun j hj => ?_⟩) (fun hb => ⟨fun _ => ?_, fun j hj => by cases hj⟩)
  · cases hj
    refine sp_cShelf (fun e he f1 f2 hw => ⟨fun z => (by cases z), fun j hj => ?_⟩) (fun hb => ⟨fun _ => rf_copy_bad hS (Or.inl ⟨rfl, Or.inr hb⟩) ⟨rfl, h⟩, fun j hj => by cases hj⟩)
    cases hj
    refine ⟨hd, hd, fun q1 => ?_, fun n1 => ⟨he, he, fun n3 => ?_, fun q3 => ?_⟩⟩
    · exact rf_copy_bad hS (Or.inr ⟨hv, hw, Or.inl ⟨rfl, Or.inl (by rw [e2]; exact q1)⟩⟩) ⟨rfl, h⟩
    · obtain ⟨h64, hsh⟩ := hS d hd
      obtain ⟨k64, ksh⟩ := hS e he
      rcases hsh with ⟨z, -⟩ | ⟨z, -⟩ | ⟨z, z0, z1, hz1, zs, z66, zr⟩
      · exact absurd z n1
      · refine ⟨hd, ?_⟩
        rw [z]
        refine bq_f (by decide) (bq_nf (by decide) (bq_t rfl ?_))
        exact rf_copy_bad hS (Or.inr ⟨hv, hw, Or.inr ⟨⟨by rw [e2]; exact n1, by rw [f2]; exact n3⟩, Or.inl ⟨rfl, Or.inl (by rw [e2, z]; decide)⟩⟩⟩) ⟨rfl, h⟩
      · have l3 : ¬ gI S 24 d 1 < 3 := by rcases z with z | z <;> rw [z] <;> decide
        have go : wp_X6_holds d S (fun r12 S12 => wp_X6_holds e S12 (fun r13 S13 => ((r12 = r13 → wp_X6_hasPlaces d a2 a5 S13 (fun r15 S15 => ((r15 = 0 → wp_X10_copy a1 a2 a3 a4 a5 S15 (fun r2 S2 => (-13 : Int32) = r2 ∧ Rel S2)) ∧ (¬ r15 = 0 → wp_X6_hasPlaces e a4 a5 S15 (fun r17 S17 => ((¬ r17 = 0 → wp_X6_copyPlaces d a2 e a4 a5 S17 (fun S19 => wp_X10_copy a1 a2 a3 a4 a5 S19 (fun r2 S2 => a5 = r2 ∧ Rel S2))) ∧ (r17 = 0 → wp_X10_copy a1 a2 a3 a4 a5 S17 (fun r2 S2 => (-13 : Int32) = r2 ∧ Rel S2)))))))) ∧ (¬ r12 = r13 → wp_X10_copy a1 a2 a3 a4 a5 S13 (fun r2 S2 => (-12 : Int32) = r2 ∧ Rel S2))))) := by
          refine ⟨hd, he, fun we => ?_, fun wn => ?_⟩
          · have beyond : (a5 < 0 ∨ a2 < 0 ∨ a4 < 0 ∨ gI S 24 d 2 - a5 < a2 ∨ ¬ a4 ≤ gI S 24 e 2 - a5) → wp_X10_copy a1 a2 a3 a4 a5 S (fun r2 S2 => (-13 : Int32) = r2 ∧ Rel S2) := fun hb => rf_copy_bad hS (Or.inr ⟨hv, hw, Or.inr ⟨⟨by rw [e2]; exact n1, by rw [f2]; exact n3⟩, Or.inr ⟨rfl, by rw [e2]; exact l3, by rw [e2, f2]; exact we, by rw [e2, f2]; exact hb⟩⟩⟩) ⟨rfl, h⟩
            refine sp_places hd (fun p1 p2 p3 => bq_f i10 ?_) (fun hb => bq_t rfl (beyond (by
              rcases hb with hb | hb | hb
              · exact Or.inr (Or.inl hb)
              · exact Or.inl hb
              · exact Or.inr (Or.inr (Or.inr (Or.inl hb))))))
            refine sp_places he (fun p4 p5 p6 => bq_nf i10 ?_) (fun hb => bq_nt rfl (beyond (by
              rcases hb with hb | hb | hb
              · exact Or.inr (Or.inr (Or.inl hb))
              · exact Or.inl hb
              · exact Or.inr (Or.inr (Or.inr (Or.inr (i32_nle.mpr hb)))))))
            rcases ksh with ⟨y, -⟩ | ⟨y, -⟩ | ⟨y, y0, z2, hz2, ys, y66, yr⟩
            · exact absurd y n3
            · rw [we, y] at l3
              exact absurd (by decide) l3
            obtain ⟨i, hi, g1, g2⟩ := nn_nat p1
            obtain ⟨n, hn, g3, g4⟩ := nn_nat p2
            obtain ⟨j, hj, g5, g6⟩ := nn_nat p4
            have b1 : i + n ≤ z1 := by
              rw [zs, g1, g3, Int32.lt_iff_toInt_lt, nI_sub (by omega) hn, nI_toInt hi] at p3
              omega
            have b2 : j + n ≤ z2 := by
              rw [ys, g5, g3, Int32.lt_iff_toInt_lt, nI_sub (by omega) hn, nI_toInt hj] at p6
              omega
            refine ⟨hd, he, ⟨p1, p4, p2, by rw [g2, g4]; omega, by rw [g6, g4]; omega⟩, fun S3 es3 => ?_⟩
            rw [g2, g4, g6] at es3
            subst es3 e1 f1 g1 g3 g5
            refine rf_copy (T := uLr S 25 e (va_cpy (gL S 25 d) (gL S 25 e) i j n)) hS hd he (fun k hk => (hS k hk).1) z66 y66 l3 n1 we hz1 hz2 b1 b2 (fun hh g hg1 hg2 => ⟨rfl, hA, hB, hC, hD, hE, hF, hG, hH, ?_, hX⟩)
            have c1 : ∀ x, va_cpy (gL S 25 d) (gL S 25 e) i j n x = if j ≤ x ∧ x < j + n then gL S 25 d (i + (x - j)) else gL S 25 e x := fun _ => rfl
            intro m hm
            obtain ⟨o1, o2⟩ := hS m hm
            refine ⟨o1, o2.imp id (fun o2 => o2.imp id (fun o2 => ⟨o2.1, o2.2.1, ?_⟩))⟩
            obtain ⟨zz, hzz, q1, q2, q3⟩ := o2.2.2
            refine ⟨zz, hzz, q1, q2, fun x hx => ?_⟩
            show gL (uLr S 25 e (va_cpy (gL S 25 d) (gL S 25 e) i j n)) 25 m x = g (60 * m + x)
            by_cases hme : m = e
            · subst hme
              rw [gL_uLr_at, c1]
              by_cases hin : j ≤ x ∧ x < j + n
              · rw [if_pos hin]
                have := hg1 (x - j) (by omega)
                rw [show 60 * m + j + (x - j) = 60 * m + x by omega] at this
                rw [this]
                show _ = gL S 67 0 (60 * d + i + (x - j))
                rw [zr (i + (x - j)) (by omega), show 60 * d + (i + (x - j)) = 60 * d + i + (x - j) by omega]
              · rw [if_neg hin, hg2 (60 * m + x) (by omega)]
                exact q3 x hx
            · rw [gL_uLr_off _ _ _ _ _ _ (by omega), hg2 (60 * m + x) (by omega)]
              exact q3 x hx
          · exact rf_copy_bad hS (Or.inr ⟨hv, hw, Or.inr ⟨⟨by rw [e2]; exact n1, by rw [f2]; exact n3⟩, Or.inl ⟨rfl, Or.inr (by rw [e2, f2]; exact wn)⟩⟩⟩) ⟨rfl, h⟩
        refine ⟨hd, ?_⟩
        rcases z with z | z
        · exact bq_t z (bq_f i10 go)
        · exact bq_f (by rw [z]; decide) (bq_nt z (bq_f i10 go))
    · exact rf_copy_bad hS (Or.inr ⟨hv, hw, Or.inl ⟨rfl, Or.inr (by rw [f2]; exact q3)⟩⟩) ⟨rfl, h⟩
  · exact sp_cShelf (fun _ _ _ _ _ => ⟨fun z => (by cases z), fun _ _ => rf_copy_bad hS (Or.inl ⟨rfl, Or.inl hb⟩) ⟨rfl, h⟩⟩) (fun _ => ⟨fun _ => rf_copy_bad hS (Or.inl ⟨rfl, Or.inl hb⟩) ⟨rfl, h⟩, fun j hj => by cases hj⟩)
