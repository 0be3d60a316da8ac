/-! Levels.judge -/
section
variable {n m : Nat} {fr to_ ri : Nat → Int32}
set_option maxHeartbeats 4000000 in
theorem sp_judge (hm : m ≤ 14) (hl : lvN 10 m fr to_ ri) : ∀ (l d q r : Nat) (S : Sg), l ≤ m → l < d → r < 10 → lvP n m fr to_ ri S → lvU m fr to_ ri (2 ^ l * q) S → lvW m fr to_ ri l q r (gA S 19 r) (gA S 21 r) → ∀ (Q : Sg → Prop), (∀ S', lvP n m fr to_ ri S' → lvU m fr to_ ri (2 ^ l * (q + 1)) S' → (∀ r', r' ≤ r → gA S' 19 r' = gA S 19 r' ∧ gA S' 21 r' = gA S 21 r') → Q S') → wp_X2_judge d (nI l - 1) (nI r) (nI (2 ^ l * q)) (nI (onb (2 ^ l * q) 14)) S Q := by
  intro l
  have hmul : ∀ l q : Nat, 2 ^ l * q ≤ 2 ^ l * (q + 1) := fun l q => Nat.mul_le_mul_left _ (by omega)
  have prune : ∀ (l q : Nat) (S : Sg), lvU m fr to_ ri (2 ^ l * q) S → ¬ nI (onb (2 ^ l * q) 14) < gI S 14 0 9 → lvU m fr to_ ri (2 ^ l * (q + 1)) S := by
    intro l q S hU hz
    refine BV_prune hU (hmul l q) (onb_le _ 14) hz (fun w h1 h2 => ?_)
    obtain ⟨u, hu, rfl⟩ := bt_rg h1 h2
    exact onb_ge hu
  induction l with
  | zero =>
    intro d q r S _ hd hr hK hU hW Q hq
    obtain ⟨e, rfl⟩ : ∃ e, d = e + 1 := ⟨d - 1, by omega⟩
    have ir : vp_in (nI r) 10 := in_nI hr (by omega)
    have cr : (nI r).toNatClampNeg = r := nI_clamp (by omega)
    refine ⟨fun z => ⟨fun S2 => S = S2, ?_, fun _ => rfl, fun zz => absurd (show nI 0 - 1 < 0 by decide +kernel) zz⟩, fun z => hq S hK (prune 0 q S hU z) (fun _ _ => ⟨rfl, rfl⟩)⟩
    rintro _ rfl S3 e3 S4 e4
    refine ⟨ir, by decide +kernel, fun S6 e6 => ⟨ir, by decide +kernel, fun S8 e8 => ?_⟩⟩
    rw [cr] at e6 e8
    subst e8
    subst e6
    subst e4
    subst e3
    refine hq _ (LP_leaf hK _ _ _ _) (Or.inr ⟨2 ^ 0 * q, ?_, rfl, rfl, ?_⟩) (fun _ _ => ⟨rfl, rfl⟩)
    · have hc : CONS m fr to_ ri (2 ^ 0 * q) := ⟨_, _, (MinL_congr hW.1 RQ_0).1⟩
      have h1 := BV_new hU hc z
      rw [show 2 ^ 0 * (q + 1) = 2 ^ 0 * q + 1 by omega]
      exact h1
    · refine MinL_ext (MinL_congr hW.1 RQ_0) (fun l hl2 => LN_in (by omega) hl hl2.1) (fun k hk => ?_) (fun k hk => ?_)
      · show (if 0 ≤ k ∧ k < 0 + 10 then gA S 19 r (0 + (k - 0)) else gA S 22 0 k) = gA S 19 r k
        rw [if_pos (by omega), Nat.zero_add, Nat.sub_zero]
      · show Int32.toInt (if 0 ≤ k ∧ k < 0 + 10 then gA S 21 r (0 + (k - 0)) else gA S 23 0 k) = (gA S 21 r k).toInt
        rw [if_pos (by omega), Nat.zero_add, Nat.sub_zero]
  | succ i ih =>
    intro d q r S hlm hd hr hK hU hW Q hq
    obtain ⟨e, rfl⟩ : ∃ e, d = e + 1 := ⟨d - 1, by omega⟩
    have hi14 : i < 14 := by omega
    obtain ⟨a, b, ha, hb, ea, eb, hri⟩ := hl i (by omega)
    have hK' := hK
    obtain ⟨-, -, -, -, h15, h16, h17⟩ := hK'
    have ir : vp_in (nI r) 10 := in_nI (by omega) (by omega)
    have ii : vp_in (nI i) 14 := in_nI hi14 (by omega)
    have ia : vp_in (nI a) 10 := in_nI ha (by omega)
    have ib : vp_in (nI b) 10 := in_nI hb (by omega)
    have cr : (nI r).toNatClampNeg = r := nI_clamp (by omega)
    have ci : (nI i).toNatClampNeg = i := nI_clamp (by omega)
    have ca : (nI a).toNatClampNeg = a := nI_clamp (by omega)
    have cb : (nI b).toNatClampNeg = b := nI_clamp (by omega)
    have fa : (fr i).toNatClampNeg = a := by rw [ea, ca]
    have fb : (to_ i).toNatClampNeg = b := by rw [eb, cb]
    obtain ⟨hM, hT, hB⟩ := hW
    have hbr := b3_9 r hr
    have ba : -lvb r ≤ (gA S 21 r a).toInt ∧ (gA S 21 r a).toInt ≤ lvb r := hB a ha
    have bb : -lvb r ≤ (gA S 21 r b).toInt ∧ (gA S 21 r b).toInt ≤ lvb r := hB b hb
    have hsub : (gA S 21 r b - gA S 21 r a).toInt = (gA S 21 r b).toInt - (gA S 21 r a).toInt := small_sub (by omega) (by omega)
    have hdf : gA S 21 r b - gA S 21 r a = ri i ↔ (gA S 21 r b).toInt - (gA S 21 r a).toInt = (ri i).toInt := by
      rw [← hsub]
      exact Int32.toInt_inj.symm
    have half : 2 ^ i * (2 * q + 1) ≤ 2 ^ (i + 1) * (q + 1) := by
      rw [← bt_4]
      exact hmul i (2 * q + 1)
    rw [nI_pred i]
    refine ⟨fun z => ⟨fun _ => False, fun S2 hF => hF.elim, fun zz => absurd zz (nI_pos (by omega)), fun _ => ⟨fun _ => ⟨ii, fun x5 e5 => ⟨ii, fun x6 e6 => ?_⟩⟩, fun zz => absurd ((lt_nI (b := 14) (by omega) (by omega)).mpr hi14) zz⟩⟩, fun z => hq S hK (prune (i + 1) q S hU z) (fun _ _ => ⟨rfl, rfl⟩)⟩
    rw [ci, h15, ea] at e5
    rw [ci, h16, eb] at e6
    subst e5
    subst e6
    refine ⟨ir, ia, ir, ib, fun t S2 => S = S2 ∧ ((t = 0 ∧ ¬ gA S 19 r a = gA S 19 r b) ∨ (t = 1 ∧ gA S 19 r a = gA S 19 r b)), ?_, fun zz => ⟨rfl, Or.inl ⟨rfl, by rw [cr, ca, cb] at zz; exact zz⟩⟩, fun zz => ⟨rfl, Or.inr ⟨rfl, by rw [cr, ca, cb] at zz; exact zz⟩⟩⟩
    rintro t _ ⟨rfl, ht⟩
    have tG0 : t = 0 → ¬ gA S 19 r a = gA S 19 r b := fun zt => by
      rcases ht with ⟨-, y⟩ | ⟨y, -⟩
      · exact y
      · exact absurd (y.symm.trans zt) i10
    have tG1 : ¬ t = 0 → gA S 19 r a = gA S 19 r b := fun zt => by
      rcases ht with ⟨y, -⟩ | ⟨-, y⟩
      · exact absurd y zt
      · exact y
    refine ⟨fun S2 => S = S2 ∧ ¬ (gA S 19 r a = gA S 19 r b ∧ gA S 21 r b - gA S 21 r a = ri i), ?_, fun zt => ⟨rfl, fun y => tG0 zt y.1⟩, fun zt => ⟨ir, ib, ir, ia, ii, fun zd => ⟨rfl, fun y => zd ?_⟩, fun zd => ?_⟩⟩
    · rintro _ ⟨rfl, hnot⟩
      refine ⟨fun S2 => lvP n m fr to_ ri S2 ∧ lvU m fr to_ ri (2 ^ i * (2 * q + 1)) S2 ∧ ∀ r', r' ≤ r → gA S2 19 r' = gA S 19 r' ∧ gA S2 21 r' = gA S 21 r', ?_, fun zt => ⟨hK, ?_, fun _ _ => ⟨rfl, rfl⟩⟩, fun zt => ⟨fun z10 => ?_, fun z10 => ?_⟩⟩
      · rintro S3 ⟨hK3, hU3, hrow3⟩
        have eo : nI (2 ^ (i + 1) * q) ||| ((1 : Int32) <<< (nI i &&& 31)) = nI (2 ^ i * (2 * q + 1)) := by
          rw [nI_shl1 i (by omega), nI_or, bt_3, Nat.two_pow_add_eq_or_of_lt (bt_up i) q]
        have ec : nI (onb (2 ^ (i + 1) * q) 14) + 1 = nI (onb (2 ^ i * (2 * q + 1)) 14) := by
          rw [nI_1, onb_up i q hi14]
        rw [eo, ec]
        have hr3 := hrow3 r (Nat.le_refl r)
        refine ih e (2 * q + 1) r S3 (by omega) (by omega) hr hK3 hU3 ?_ Q (fun S' hK' hU' hrow => hq S' hK' ?_ (fun r' hr' => ⟨(hrow r' hr').1.trans (hrow3 r' hr').1, (hrow r' hr').2.trans (hrow3 r' hr').2⟩))
        · rw [hr3.1, hr3.2]
          exact ⟨MinL_congr hM RQ_drop, hT, hB⟩
        · rw [← bt_4]
          exact hU'
      · have hG := tG1 zt
        have hnd : ¬ (gA S 21 r b).toInt - (gA S 21 r a).toInt = (ri i).toInt := fun y => hnot ⟨hG, hdf.mpr y⟩
        refine BV_more hU ?_ (fun w h1 h2 hc => ?_)
        · rw [← bt_2]
          exact hmul i (2 * q)
        · exfalso
          rw [← bt_2] at h1
          obtain ⟨u, hu, rfl⟩ := bt_rg h1 h2
          refine MinL_no hM (l0 := i) (by rw [fa]; exact ha) (by rw [fb]; exact hb) (by rw [fa, fb]; exact hG) (by rw [fa, fb]; exact hnd) (fun l hl2 => RQ_sub hu ((RQ_keep (by omega) l).mpr (Or.inl hl2))) (RQ_sub hu ((RQ_keep (by omega) i).mpr (Or.inr rfl))) hc
      · exfalso
        rw [nI_1] at z10
        have := (le_nI (a := 10) (by omega) (by omega)).mp z10
        have e9 : r = 9 := by omega
        rw [e9] at hT
        have hG := RTS_one hT ha hb
        rw [← e9] at hG
        exact tG0 zt hG
      · have hr1 : r + 1 < 10 := by
          rw [nI_1] at z10
          have := mt (le_nI (a := 10) (b := r + 1) (by omega) (by omega)).mpr z10
          omega
        have hG := tG0 zt
        refine sp_join hr1 hi14 ha hb ea eb hK hU (fun S' hK' hU' hrow hv => ?_)
        rw [nI_1 r, ← bt_2]
        unfold btw at hri
        have lv : ∀ k, k < 10 → (gA S 19 r k = gA S 19 r b ∧ (gA S' 21 (r + 1) k).toInt = (gA S 21 r k).toInt + ((gA S 21 r a).toInt + (ri i).toInt - (gA S 21 r b).toInt)) ∨ (¬ gA S 19 r k = gA S 19 r b ∧ (gA S' 21 (r + 1) k).toInt = (gA S 21 r k).toInt) := by
          intro k hk
          have bk : -lvb r ≤ (gA S 21 r k).toInt ∧ (gA S 21 r k).toInt ≤ lvb r := hB k hk
          rw [(hv k hk).2]
          by_cases y : gA S 19 r k = gA S 19 r b
          · refine Or.inl ⟨y, ?_⟩
            rw [if_pos y]
            have s1 : (gA S 21 r a + ri i).toInt = (gA S 21 r a).toInt + (ri i).toInt := small_add (by omega) (by omega)
            have s2 : (gA S 21 r a + ri i - gA S 21 r b).toInt = (gA S 21 r a).toInt + (ri i).toInt - (gA S 21 r b).toInt := by
              rw [small_sub (by omega) (by omega), s1]
            rw [small_add (by omega) (by omega), s2]
          · refine Or.inr ⟨y, ?_⟩
            rw [if_neg y]
        refine ih e (2 * q) (r + 1) S' (by omega) (by omega) hr1 hK' (by rw [bt_2]; exact hU') ⟨?_, ?_, ?_⟩ _ (fun S2 hK2 hU2 hrow2 => ⟨hK2, hU2, fun r' hr' => ⟨(hrow2 r' (by omega)).1.trans (hrow r' hr').1, (hrow2 r' (by omega)).2.trans (hrow r' hr').2⟩⟩)
        · refine MinL_join hM (fun l hl2 => LN_in (by omega) hl hl2.2.1) fa fb ha hb hG (fun k hk => (hv k hk).1) (fun k hk => ?_) (RQ_keep (by omega))
          show (gA S' 21 (r + 1) k).toInt = if gA S 19 r k = gA S 19 r b then (gA S 21 r k).toInt + ((gA S 21 r a).toInt + (ri i).toInt - (gA S 21 r b).toInt) else (gA S 21 r k).toInt
          rcases lv k hk with ⟨y, y2⟩ | ⟨y, y2⟩
          · rw [if_pos y]
            exact y2
          · rw [if_neg y]
            exact y2
        · exact RTS_join hT ha hb hG (fun k hk => (hv k hk).1)
        · exact LBN_join (c := fun k => gA S 19 r k = gA S 19 r b) (x := (ri i).toInt) hB ha hb ⟨by omega, by omega⟩ lv
    · rw [cr, ca, cb, ci, h17]
      exact y.2
    · rw [cr, ca, cb, ci, h17] at zd
      have hG := tG1 zt
      have hd2 := hdf.mp zd
      rw [← bt_2]
      refine ih e (2 * q) r S (by omega) (by omega) hr hK (by rw [bt_2]; exact hU) ⟨MinL_same hM (l0 := i) (by rw [fa, fb]; exact hG) (by rw [fa, fb]; exact hd2) (RQ_keep (by omega)), hT, hB⟩ Q (fun S' hK' hU' hrow => hq S' hK' ?_ hrow)
      refine BV_more hU' half (fun w h1 h2 hc => ?_)
      rw [← bt_4] at h2
      obtain ⟨u, hu, rfl⟩ := bt_rg h1 h2
      refine ⟨2 ^ i * (2 * q) + u, ?_, ?_, ?_⟩
      · rw [Nat.mul_add, Nat.mul_one]
        omega
      · obtain ⟨G2, L2, hf⟩ := hc
        refine ⟨G2, L2, MinL_imp hM (l0 := i) (by rw [fa]; exact ha) (by rw [fb]; exact hb) (by rw [fa, fb]; exact hG) (by rw [fa, fb]; exact hd2) (fun l hl2 => RQ_sub hu ((RQ_drop l).mpr hl2)) (fun l hl2 => ?_) hf⟩
        by_cases y : l = i
        · exact Or.inr y
        · refine Or.inl ⟨hl2.1, ?_⟩
          rw [bt_ne2 hu y]
          exact hl2.2
      · refine onb_mono 14 (fun j _ y => ?_)
        by_cases y2 : j = i
        · rw [y2]
          exact bt_i1 hu
        · rw [bt_ne2 hu y2]
          exact y
theorem sp_findL {S : Sg} (h : Rel S) {Q : Sg → Prop} (hq : ∀ S', Rel S' → ¬ gI S' 14 0 10 = 0 → nM S' = nM S → Q S') : wp_X2_find S Q := by
  refine ⟨fun z => ?_, fun z => hq S h z rfl⟩
  have h' := h
  obtain ⟨hA, -, -, -, -, -, -, hH, -, -⟩ := h'
  obtain ⟨m, hm, h3, h22, hlines⟩ := hH
  have hn := hA.1
  have hl : lvN 10 m (gA S 15 0) (gA S 16 0) (gA S 17 0) := fun l hl => by
    obtain ⟨-, -, -, hb, a, b, ha, hb', -, ea, eb⟩ := hlines l hl
    exact ⟨a, b, by omega, by omega, ea, eb, hb⟩
  have hK : lvP (nM S) m (gA S 15 0) (gA S 16 0) (gA S 17 0) S := ⟨h, z, rfl, h3, rfl, rfl, rfl⟩
  refine ⟨fun v S1 => lvP (nM S) m (gA S 15 0) (gA S 16 0) (gA S 17 0) S1 ∧ ∃ t, t ≤ 10 ∧ v = nI t ∧ ∀ k, k < t → gA S1 19 0 k = nI k ∧ gA S1 21 0 k = 0, fun v _ => 10 - v.toNatClampNeg, ⟨hK, 0, by omega, rfl, fun k hk => absurd hk (Nat.not_lt_zero k)⟩, ?_⟩
  rintro v S1 ⟨hK1, t, ht, rfl, hv⟩
  refine ⟨fun q S4 e4 => ?_, fun q => ?_⟩
  · have q := (le_nI (a := 10) (by omega) (by omega)).mp q
    have e : t = 10 := by omega
    subst e
    subst e4
    have hK4 := LP9 hK1 15
    have hW : lvW m (gA S 15 0) (gA S 16 0) (gA S 17 0) m 0 0 (gA (uI S1 14 0 9 15) 19 0) (gA (uI S1 14 0 9 15) 21 0) := by
      refine ⟨MinL_0 (by omega) (fun l hl => ?_) (fun k hk => (hv k hk).1), RTS_0 (fun k hk => (hv k hk).1), fun k hk => ?_⟩
      · have h1 := hl.1
        have h2 := hl.2.1
        omega
      · show -lvb 0 ≤ (gA S1 21 0 k).toInt ∧ (gA S1 21 0 k).toInt ≤ lvb 0
        rw [(hv k hk).2]
        decide
    have hU : lvU m (gA S 15 0) (gA S 16 0) (gA S 17 0) (2 ^ m * 0) (uI S1 14 0 9 15) := Or.inl ⟨rfl, fun w hw => by
      rw [Nat.mul_zero] at hw
      omega⟩
    have key := sp_judge hm hl m 16 0 0 (uI S1 14 0 9 15) (Nat.le_refl m) (by omega) (by omega) hK4 hU hW (fun S5 => ∀ S6 : Sg, S6 = uI S5 14 0 10 1 → Q S6) (fun S5 hK5 hU5 _ S6 e6 => by
      rw [e6]
      rw [Nat.zero_add, Nat.mul_one] at hU5
      rcases hU5 with ⟨-, hno⟩ | ⟨w, hF, -, h8, hM⟩
      · exact absurd (CONS_all m _ _ _) (hno (2 ^ m - 1) (by have : 0 < 2 ^ m := Nat.pow_pos (by omega); omega))
      · exact hq _ (LP_done hm hK5 hF h8 hM) (by rw [gI_at]; exact i10) hK5.2.2.1)
    have e0 : nI (onb (2 ^ m * 0) 14) = 0 := by
      rw [Nat.mul_zero]
      rfl
    have e1 : nI (2 ^ m * 0) = 0 := by
      rw [Nat.mul_zero]
      rfl
    rw [e0, e1] at key
    rw [hK4.2.2.2.1]
    exact key
  · have hlt : t < 10 := by
      have := mt (le_nI (a := 10) (b := t) (by omega) (by omega)).mpr q
      omega
    have ct : (nI t).toNatClampNeg = t := nI_clamp (by omega)
    have it : vp_in (nI t) 10 := in_nI hlt (by omega)
    have i0 : vp_in 0 10 := in_nI (k := 0) (by omega) (by omega)
    have c0 : (0 : Int32).toNatClampNeg = 0 := rfl
    refine ⟨i0, it, fun S9 e9 => ⟨i0, it, fun S12 e12 x ex => ?_⟩⟩
    rw [c0, ct] at e9 e12
    rw [ex]
    subst e12
    subst e9
    refine ⟨⟨LP21 (LP19 hK1 _ _ _) _ _ _, t + 1, by omega, nI_1 t, fun k hk => ?_⟩, mu_lt hlt (by omega)⟩
    have z2 : gA (uA (uA S1 19 0 t (nI t)) 21 0 t 0) 19 0 k = gA (uA S1 19 0 t (nI t)) 19 0 k := rfl
    rw [z2]
    by_cases e : k = t
    · subst e
      rw [gA_at, gA_at]
      exact ⟨rfl, rfl⟩
    · rw [gA_off (by omega), gA_off (by omega)]
      exact hv k (by omega)
end
