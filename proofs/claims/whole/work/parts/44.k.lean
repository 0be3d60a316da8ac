/-! blocks and of: the reference -/
section
variable {n : Nat} {X Y : Nat → Int32} {V : Nat → Nat → Int32}
def KR (n : Nat) (X Y : Nat → Int32) (V : Nat → Nat → Int32) (S : Sg) : Prop := Rel S ∧ refP n X Y V S
def fR (B : Nat → Prop) (S : Sg) (s : Nat) : Prop := ∃ m, m ≤ 10 ∧ gA S 53 0 s = nI m ∧ isF B m s
def oR (B : Nat → Prop) (S : Sg) (s : Nat) : Prop := (B s → gA S 55 0 s = 1) ∧ (¬ B s → gA S 55 0 s = 0)
theorem KR53 {S : Sg} (h : KR n X Y V S) (i : Nat) (v : Int32) : KR n X Y V (uA S 53 0 i v) := h
theorem KR54 {S : Sg} (h : KR n X Y V S) (i : Nat) (v : Int32) : KR n X Y V (uA S 54 0 i v) := h
theorem KR55 {S : Sg} (h : KR n X Y V S) (i : Nat) (v : Int32) : KR n X Y V (uA S 55 0 i v) := h
theorem and_pow (p l : Nat) : p &&& 2 ^ l = if p.testBit l = true then 2 ^ l else 0 := by
  apply Nat.eq_of_testBit_eq
  intro i
  rw [Nat.testBit_and]
  by_cases e : i = l
  · subst e
    rw [Nat.testBit_two_pow_self]
    cases h : p.testBit i
    · rw [if_neg (by decide), Nat.zero_testBit]
      rfl
    · rw [if_pos rfl, Nat.testBit_two_pow_self]
      rfl
  · rw [Nat.testBit_two_pow_of_ne (fun z => e z.symm), Bool.and_false]
    split
    · rw [Nat.testBit_two_pow_of_ne (fun z => e z.symm)]
    · rw [Nat.zero_testBit]
theorem low_and {p l : Nat} (hl : l < 10) : nI p &&& nI (2 ^ l) = 0 ↔ p.testBit l = false := by
  rw [nI_and, and_pow]
  cases p.testBit l
  · exact ⟨fun _ => rfl, fun _ => by rw [if_neg (by decide)]; rfl⟩
  · refine ⟨fun h => ?_, fun h => by cases h⟩
    rw [if_pos rfl] at h
    have hlt : 2 ^ l < 2 ^ 10 := Nat.pow_lt_pow_right (by omega) hl
    have hpos : 0 < 2 ^ l := Nat.pow_pos (by omega)
    have := nI_inj (a := 2 ^ l) (b := 0) (by omega) (by omega) h
    omega
theorem sub_not {p s : Nat} (hp : p < 1024) : nI p &&& (nI s ^^^ -1) = 0 ↔ p &&& s = p := by
  rw [nI_andNot]
  have h1 := xor_add 10 (p &&& s) p hp (sub_of (fun k hk => by
    rw [Nat.testBit_and] at hk
    simp at hk
    exact hk.1))
  have hle : p &&& s ≤ p := Nat.and_le_left
  refine ⟨fun h => ?_, fun h => ?_⟩
  · have := nI_inj (a := p ^^^ (p &&& s)) (b := 0) (by omega) (by omega) h
    omega
  · rw [show p ^^^ (p &&& s) = 0 by omega]
    rfl
theorem fR_step {S : Sg} (hn : n ≤ 10) {t : Nat} (ht0 : t ≠ 0) (ht : t < 2 ^ n) {m b0 : Nat} (hfs : ∀ s, s < t → fR (BK n X Y V) S s) (hc0 : cand (BK n X Y V) t b0) (hF0 : isF (BK n X Y V) m (t ^^^ b0)) (hall : ∀ b, cand (BK n X Y V) t b → ∀ m', isF (BK n X Y V) m' (t ^^^ b) → m ≤ m') : isF (BK n X Y V) (m + 1) t := by
  have hp : 2 ^ n ≤ 1024 := Nat.pow_le_pow_right (n := 2) (by omega) hn
  have hx : ∀ b, ∃ m, cand (BK n X Y V) t b → isF (BK n X Y V) m (t ^^^ b) := fun b => by
    by_cases hb : cand (BK n X Y V) t b
    · obtain ⟨m, -, -, hm⟩ := hfs (t ^^^ b) (cand_lt (by omega) hb).1
      exact ⟨m, fun _ => hm⟩
    · exact ⟨0, fun z => absurd z hb⟩
  obtain ⟨f, hff⟩ : ∃ f : Nat → Nat, ∀ b, cand (BK n X Y V) t b → isF (BK n X Y V) (f b) (t ^^^ b) := ⟨fun b => (hx b).choose, fun b hb => (hx b).choose_spec hb⟩
  refine isF_step ht0 hff (fun b hb => ?_) ⟨b0, hc0, ?_⟩
  · have := hall b hb (f b) (hff b hb)
    omega
  · have := isF_uniq hF0 (hff b0 hc0)
    omega
theorem rf_findBlocks {S : Sg} (hn : n ≤ 10) (hb : bdP n X Y V) (h : KR n X Y V S) {Q : Sg → Prop} (hq : ∀ S', KR n X Y V S' → fR (BK n X Y V) S' (2 ^ n - 1) → (∃ d, Out (BK n X Y V) (gA S' 54 0) d (2 ^ n - 1)) → Q S') : wp_X10_findBlocks S Q := by
  have hp : 2 ^ n ≤ 1024 := Nat.pow_le_pow_right (n := 2) (by omega) hn
  have hp1 : 0 < 2 ^ n := Nat.pow_pos (by omega)
  intro x1 e1
  rw [h.2.1, nI_shl1 _ (by omega)] at e1
  have e1 : x1 = nI (2 ^ n - 1) := e1.trans (nI_dif _ 1 (by omega))
  subst e1
  refine ⟨in_nI (k := 0) (by omega) (by omega), fun S3 e3 => ?_⟩
  subst e3
  refine ⟨fun v S4 => KR n X Y V S4 ∧ ∃ t, 1 ≤ t ∧ t ≤ 2 ^ n ∧ v = nI t ∧ (∀ s, s < t → fR (BK n X Y V) S4 s) ∧ ∀ s, s < t → 1 ≤ s → oR (BK n X Y V) S4 s, fun v _ => 1024 - v.toNatClampNeg, ⟨KR53 h _ _, 1, by omega, by omega, rfl, fun s hs => ?_, fun s hs h1 => by omega⟩, ?_⟩
  · have : s = 0 := by omega
    subst this
    exact ⟨0, by omega, gA_at, isF_0⟩
  rintro v S4 ⟨hK4, t, ht1, ht2, rfl, hf4, ho4⟩
  refine ⟨fun q => ?_, fun q => ?_⟩
  · have q := (lt_nI (by omega) (by omega)).mp q
    have e : t = 2 ^ n := by omega
    subst e
    clear q ht1 ht2
    refine ⟨fun v2 S6 => KR n X Y V S6 ∧ (∀ s, s < 2 ^ n → fR (BK n X Y V) S6 s) ∧ (∀ s, s < 2 ^ n → 1 ≤ s → oR (BK n X Y V) S6 s) ∧ ∃ left, left < 2 ^ n ∧ v2 = nI left ∧ giv (BK n X Y V) (2 ^ n - 1) left (gA S6 54 0), fun v _ => v.toNatClampNeg, ⟨hK4, hf4, ho4, 2 ^ n - 1, by omega, rfl, fun o' d _ hO => ⟨d, hO⟩⟩, ?_⟩
    rintro v2 S6 ⟨hK6, hf6, ho6, left, hl, rfl, hg⟩
    refine ⟨fun q => ?_, fun q x3 e3 => ?_⟩
    · have q := (le_nI (b := 0) (by omega) (by omega)).mp q
      have e : left = 0 := by omega
      subst e
      exact hq S6 hK6 (hf6 _ (by omega)) (hg _ 0 (fun _ _ _ _ => rfl) rfl)
    · have l0 : left ≠ 0 := fun z => q (by rw [z]; decide)
      obtain ⟨l10, bl, bj, elow, -, hsub, -⟩ := lo_spec left (by omega) l0
      rw [elow] at e3
      subst e3
      obtain ⟨mL, hmL, emL, hFL⟩ := hf6 left hl
      refine ⟨fun v4 v5 S9 => S9 = S6 ∧ ∃ best part, v4 = nI best ∧ v5 = nI part ∧ 1 ≤ part ∧ part ≤ left + 1 ∧ ((best = 0 ∧ ∀ b, b < part → ¬ lbc (BK n X Y V) left b) ∨ (best ≠ 0 ∧ lb (BK n X Y V) left best ∧ best ≤ left)), fun _ v5 _ => 2048 - v5.toNatClampNeg, ⟨rfl, 0, 1, rfl, rfl, by omega, by omega, Or.inl ⟨rfl, fun b hb hl2 => ?_⟩⟩, ?_⟩
      · exact (cand_lt (show left < 1024 by omega) hl2.1).2.2 (by omega)
      rintro v4 v5 S9 ⟨rfl, best, part, rfl, rfl, hp1', hp2', hbest⟩
      refine ⟨fun S' => S' = S9 ∧ lb (BK n X Y V) left best, ?_, fun q2 => ⟨rfl, ?_⟩, fun q2 => ⟨fun q3 => ⟨rfl, ?_⟩, fun q3 => ?_⟩⟩
      · rintro S10 ⟨rfl, hlb⟩
        have hcl := cand_lt (show left < 1024 by omega) hlb.1.1
        refine ⟨fun v5 S11 => KR n X Y V S11 ∧ gA S11 53 0 = gA S10 53 0 ∧ gA S11 55 0 = gA S10 55 0 ∧ ∃ k, k ≤ n ∧ v5 = nI k ∧ ∀ j, j < 10 → gA S11 54 0 j = if j < k ∧ best.testBit j = true then nI best else gA S10 54 0 j, fun v _ => 10 - v.toNatClampNeg, ⟨hK6, rfl, rfl, 0, by omega, rfl, fun j _ => (if_neg (fun z => Nat.not_lt_zero j z.1)).symm⟩, ?_⟩
        rintro v5 S11 ⟨hK11, g53, g55, k, hk, rfl, hv⟩
        rw [hK11.2.1]
        refine ⟨fun q4 x2 e2 => ?_, fun q4 => ?_⟩
        · have q4 := (le_nI (by omega) (by omega)).mp q4
          have e : k = n := by omega
          subst e
          rw [nI_clr hlb.1.1.1] at e2
          rw [e2]
          refine ⟨⟨hK11, fun s hs => ?_, fun s hs h1 => ?_, left ^^^ best, by omega, rfl, giv_step hg l0 (fun i hi => ?_) hlb (fun j hj => ?_)⟩, ?_⟩
          · unfold fR
            rw [g53]
            exact hf6 s hs
          · unfold oR
            rw [g55]
            exact ho6 s hs h1
          · rw [all_bit]
            apply decide_eq_true
            apply Nat.lt_of_not_le
            intro hle
            rw [Nat.testBit_lt_two_pow (Nat.lt_of_lt_of_le hl (Nat.pow_le_pow_right (by omega) hle))] at hi
            cases hi
          · rw [hv j hj]
            by_cases z : best.testBit j = true
            · have hjk : j < k := by
                apply Nat.lt_of_not_le
                intro hle
                rw [Nat.testBit_lt_two_pow (Nat.lt_of_lt_of_le (show best < 2 ^ k by omega) (Nat.pow_le_pow_right (by omega) hle))] at z
                cases z
              rw [if_pos ⟨hjk, z⟩, if_pos z]
            · rw [if_neg (fun y => z y.2), if_neg z]
          · show (nI (left ^^^ best)).toNatClampNeg < (nI left).toNatClampNeg
            rw [nI_clamp (by omega), nI_clamp (by omega)]
            omega
        · have hlt : k < n := by
            have := mt (le_nI (a := n) (b := k) (by omega) (by omega)).mpr q4
            omega
          have hclk : (nI k).toNatClampNeg = k := nI_clamp (by omega)
          rw [hclk]
          refine ⟨fun z x ex => ?_, fun z => ⟨in_nI (by omega) (by omega), fun S17 e17 x ex => ?_⟩⟩
          · have bt : ¬ best.testBit k = true := mt (bit_1 (show best < 2 ^ 31 by omega) (show k < 31 by omega)).mpr z
            rw [ex]
            refine ⟨⟨hK11, g53, g55, k + 1, by omega, nI_1 k, fun j hj => (hv j hj).trans ?_⟩, mu_lt (show k < 10 by omega) (by omega)⟩
            by_cases e : j = k
            · subst e
              rw [if_neg (fun y => bt y.2), if_neg (fun y => bt y.2)]
            · by_cases y : j < k ∧ best.testBit j = true
              · rw [if_pos y, if_pos ⟨by omega, y.2⟩]
              · rw [if_neg y, if_neg (fun x => y ⟨by omega, x.2⟩)]
          · have bt : best.testBit k = true := (bit_1 (show best < 2 ^ 31 by omega) (show k < 31 by omega)).mp z
            rw [ex]
            subst e17
            refine ⟨⟨KR54 hK11 _ _, g53, g55, k + 1, by omega, nI_1 k, fun j hj => ?_⟩, mu_lt (show k < 10 by omega) (by omega)⟩
            by_cases e : j = k
            · subst e
              rw [gA_at, if_pos ⟨by omega, bt⟩]
            · rw [gA_off (by omega), hv j hj]
              by_cases y : j < k ∧ best.testBit j = true
              · rw [if_pos y, if_pos ⟨by omega, y.2⟩]
              · rw [if_neg y, if_neg (fun x => y ⟨by omega, x.2⟩)]
      · have q2 := (lt_nI (by omega) (by omega)).mp q2
        rcases hbest with ⟨-, hno⟩ | ⟨-, hlb, -⟩
        · obtain ⟨b, hlb⟩ := isF_lbc l0 hFL
          exact absurd hlb (hno b (by have := cand_lt (show left < 1024 by omega) hlb.1; omega))
        · exact hlb
      · rcases hbest with ⟨e, -⟩ | ⟨-, hlb, -⟩
        · exact absurd (by rw [e]; rfl) q3
        · exact hlb
      · have q2 : part ≤ left := by
          have := mt (lt_nI (a := left) (b := part) (by omega) (by omega)).mpr q2
          omega
        rcases hbest with ⟨e, hno⟩ | ⟨e, -, hle⟩
        · subst e
          have mu : 2048 - (nI part + 1).toNatClampNeg < 2048 - (nI part).toNatClampNeg := mu_lt (by omega) (by omega)
          have nope : ¬ lbc (BK n X Y V) left part → ∀ x5 : Int32, x5 = nI part + 1 → (S9 = S9 ∧ ∃ best part, nI 0 = nI best ∧ x5 = nI part ∧ 1 ≤ part ∧ part ≤ left + 1 ∧ ((best = 0 ∧ ∀ b, b < part → ¬ lbc (BK n X Y V) left b) ∨ (best ≠ 0 ∧ lb (BK n X Y V) left best ∧ best ≤ left))) ∧ 2048 - x5.toNatClampNeg < 2048 - (nI part).toNatClampNeg := by
            intro hn1 x5 e5
            rw [e5]
            refine ⟨⟨rfl, 0, part + 1, rfl, nI_1 part, by omega, by omega, Or.inl ⟨rfl, fun b hb => ?_⟩⟩, mu⟩
            by_cases e : b = part
            · rw [e]; exact hn1
            · exact hno b (by omega)
          have hclp : (nI part).toNatClampNeg = part := nI_clamp (by omega)
          have hcll : (nI left).toNatClampNeg = left := nI_clamp (by omega)
          have ip : vp_in (nI part) 1024 := in_nI (by omega) (by omega)
          refine ⟨fun z => nope (fun hl2 => z ((sub_not (by omega)).mpr hl2.1.1)), fun z => ?_⟩
          have hsb := (sub_not (show part < 1024 by omega)).mp z
          refine ⟨fun z2 => nope (fun hl2 => by
            have := (low_and l10).mp z2
            rw [hl2.1.2.1] at this
            cases this), fun z2 => ⟨ip, ?_⟩⟩
          have hlo : part.testBit (lo left) = true := by
            have := mt (low_and (p := part) l10).mpr z2
            simpa using this
          rw [hclp]
          refine ⟨fun z3 => nope (fun hl2 => by
            rw [(ho6 part (by omega) hp1').1 hl2.1.2.2] at z3
            exact absurd z3 i10), fun z3 => ?_⟩
          have hBp : BK n X Y V part := by
            apply Classical.byContradiction
            intro hnB
            exact z3 ((ho6 part (by omega) hp1').2 hnB)
          have hc : cand (BK n X Y V) left part := ⟨hsb, hlo, hBp⟩
          have hclt := cand_lt (show left < 1024 by omega) hc
          obtain ⟨m1, hm1, em1, hF1⟩ := hf6 (left ^^^ part) (by omega)
          have hclx : (nI (left ^^^ part)).toNatClampNeg = left ^^^ part := nI_clamp (by omega)
          rw [nI_clr hsb, hclx, hcll, emL, em1]
          have e1m : (1 : Int32) + nI m1 = nI (1 + m1) := nI_plus 1 m1
          rw [e1m]
          refine ⟨in_nI (by omega) (by omega), in_nI (by omega) (by omega), fun z4 => nope (fun hl2 => ?_), fun z4 x5 e5 => ?_⟩
          · obtain ⟨-, m2, hm2, hm3⟩ := hl2
            have u1 := isF_uniq hF1 hm2
            have u2 := isF_uniq hFL hm3
            exact z4 (by rw [u1, u2]; congr 1; omega)
          · have u := nI_inj (by omega) (by omega) z4
            rw [e5]
            refine ⟨⟨rfl, part, part + 1, rfl, nI_1 part, by omega, by omega, Or.inr ⟨by omega, ⟨⟨hc, m1, hF1, ?_⟩, hno⟩, q2⟩⟩, mu⟩
            rw [show m1 + 1 = mL by omega]
            exact hFL
        · exact absurd (nI_inj (a := best) (b := 0) (by omega) (by omega) q3) e
  · have ht : t < 2 ^ n := by
      have := mt (lt_nI (a := 2 ^ n - 1) (b := t) (by omega) (by omega)).mpr q
      omega
    have t0 : t ≠ 0 := by omega
    obtain ⟨l10, bl, bj, elow, -, hsub, -⟩ := lo_spec t (by omega) t0
    have hclt : (nI t).toNatClampNeg = t := nI_clamp (by omega)
    have it : vp_in (nI t) 1024 := in_nI (by omega) (by omega)
    have body : ∀ r : Int32, ((BK n X Y V t → r = 1) ∧ (¬ BK n X Y V t → r = 0)) → (vp_in (nI t) 1024 ∧ ∀ S_35 : Sg, S_35 = uA S4 55 0 (Int32.toNatClampNeg (nI t)) r → (vp_in (nI t) 1024 ∧ ∀ S_37 : Sg, S_37 = uA S_35 53 0 (Int32.toNatClampNeg (nI t)) 99 → (∀ x3_38 : Int32, x3_38 = ((nI t) &&& (-(nI t))) → (∃ (I_39 : Int32 → Sg → Prop) (μ_39 : Int32 → Sg → Nat), I_39 (nI t) S_37 ∧ ∀ (v4_39 : Int32) (S_39 : Sg), I_39 v4_39 S_39 → ((v4_39 ≤ 0 → (∀ x2_41 : Int32, x2_41 = (nI t) + 1 → ((KR n X Y V S_39 ∧ ∃ t, 1 ≤ t ∧ t ≤ 2 ^ n ∧ x2_41 = nI t ∧ (∀ s, s < t → fR (BK n X Y V) S_39 s) ∧ ∀ s, s < t → 1 ≤ s → oR (BK n X Y V) S_39 s) ∧ 1024 - x2_41.toNatClampNeg < 1024 - (nI t).toNatClampNeg))) ∧ (¬ v4_39 ≤ 0 → (((v4_39 &&& x3_38) = 0 → (∀ x4_43 : Int32, x4_43 = ((v4_39 - 1) &&& (nI t)) → (I_39 x4_43 S_39 ∧ μ_39 x4_43 S_39 < μ_39 v4_39 S_39))) ∧ (¬ (v4_39 &&& x3_38) = 0 → (vp_in v4_39 1024 ∧ ((¬ (gA S_39 55 0 (Int32.toNatClampNeg v4_39)) = 0 → (vp_in ((nI t) &&& (v4_39 ^^^ (-1))) 1024 ∧ (∀ x5_47 : Int32, x5_47 = (1 + (gA S_39 53 0 (Int32.toNatClampNeg ((nI t) &&& (v4_39 ^^^ (-1)))))) → (vp_in (nI t) 1024 ∧ (((gA S_39 53 0 (Int32.toNatClampNeg (nI t))) ≤ x5_47 → (vp_in (nI t) 1024 ∧ (vp_in (nI t) 1024 ∧ ∀ S_52 : Sg, S_52 = uA S_39 53 0 (Int32.toNatClampNeg (nI t)) (gA S_39 53 0 (Int32.toNatClampNeg (nI t))) → (∀ x4_53 : Int32, x4_53 = ((v4_39 - 1) &&& (nI t)) → (I_39 x4_53 S_52 ∧ μ_39 x4_53 S_52 < μ_39 v4_39 S_39))))) ∧ (¬ (gA S_39 53 0 (Int32.toNatClampNeg (nI t))) ≤ x5_47 → (vp_in (nI t) 1024 ∧ ∀ S_55 : Sg, S_55 = uA S_39 53 0 (Int32.toNatClampNeg (nI t)) x5_47 → (∀ x4_56 : Int32, x4_56 = ((v4_39 - 1) &&& (nI t)) → (I_39 x4_56 S_55 ∧ μ_39 x4_56 S_55 < μ_39 v4_39 S_39))))))))) ∧ ((gA S_39 55 0 (Int32.toNatClampNeg v4_39)) = 0 → (∀ x4_57 : Int32, x4_57 = ((v4_39 - 1) &&& (nI t)) → (I_39 x4_57 S_39 ∧ μ_39 x4_57 S_39 < μ_39 v4_39 S_39))))))))))))) := by
      intro r hr
      refine ⟨it, fun S35 e35 => ⟨it, fun S37 e37 x3 e3 => ?_⟩⟩
      rw [hclt] at e35 e37
      subst e35 e37
      rw [elow] at e3
      subst e3
      rw [hclt]
      refine ⟨fun v4 S39 => KR n X Y V S39 ∧ (∀ s, s < t → fR (BK n X Y V) S39 s) ∧ (∀ s, s < t + 1 → 1 ≤ s → oR (BK n X Y V) S39 s) ∧ ∃ p, v4 = nI p ∧ p &&& t = p ∧ p ≤ t ∧ ((gA S39 53 0 t = nI 99 ∧ ∀ b, cand (BK n X Y V) t b → b ≤ p) ∨ ∃ b0 m, cand (BK n X Y V) t b0 ∧ p < b0 ∧ m ≤ 9 ∧ isF (BK n X Y V) m (t ^^^ b0) ∧ gA S39 53 0 t = nI (m + 1) ∧ ∀ b, cand (BK n X Y V) t b → p < b → ∀ m', isF (BK n X Y V) m' (t ^^^ b) → m ≤ m'), fun v _ => v.toNatClampNeg, ⟨KR53 (KR55 hK4 _ _) _ _, fun s hs => ?_, fun s hs h1 => ?_, t, rfl, Nat.and_self t, Nat.le_refl t, Or.inl ⟨gA_at, fun b hb => (cand_lt (by omega) hb).2.1⟩⟩, ?_⟩
      · obtain ⟨m, hm, em, hF⟩ := hf4 s hs
        exact ⟨m, hm, (gA_off (by omega)).trans em, hF⟩
      · have e55 : gA (uA (uA S4 55 0 t r) 53 0 t 99) 55 0 s = gA (uA S4 55 0 t r) 55 0 s := rfl
        unfold oR
        rw [e55]
        by_cases e : s = t
        · subst e
          rw [gA_at]
          exact hr
        · rw [gA_off (by omega)]
          exact ho4 s (by omega) h1
      rintro v4 S39 ⟨hK39, hf39, ho39, p, rfl, hpt, hpl, hbest⟩
      refine ⟨fun q2 x2 e2 => ?_, fun q2 => ?_⟩
      · have q2 := (le_nI (b := 0) (by omega) (by omega)).mp q2
        have e : p = 0 := by omega
        subst e
        rw [e2]
        refine ⟨⟨hK39, t + 1, by omega, by omega, nI_1 t, fun s hs => ?_, ho39⟩, by
          have := mu_lt (t := t) (N := 1024) (by omega) (by omega)
          rw [hclt] at this
          exact this⟩
        by_cases e : s = t
        · subst e
          rcases hbest with ⟨-, hno⟩ | ⟨b0, m, hc0, -, hm, hF0, e53, hall⟩
          · have := hno (2 ^ lo s) ⟨hsub, by rw [Nat.testBit_two_pow_self], BK_one _⟩
            have hpos : 0 < 2 ^ lo s := Nat.pow_pos (by omega)
            omega
          · exact ⟨m + 1, by omega, e53, fR_step hn t0 ht hf39 hc0 hF0 (fun b hb m' hm' => hall b hb (Nat.pos_of_ne_zero (cand_lt (by omega) hb).2.2) m' hm')⟩
        · exact hf39 s (by omega)
      · have p0 : p ≠ 0 := fun z => q2 (by rw [z]; decide)
        have hclp : (nI p).toNatClampNeg = p := nI_clamp (by omega)
        have enx : (nI p - 1) &&& nI t = nI ((p - 1) &&& t) := by
          rw [show nI p - 1 = nI (p - 1) from nI_dif p 1 (by omega), nI_and]
        have hple : (p - 1) &&& t ≤ p - 1 := Nat.and_le_left
        have hpsub : ((p - 1) &&& t) &&& t = (p - 1) &&& t := by rw [Nat.and_assoc, Nat.and_self]
        have hprev : ∀ b, b &&& t = b → b < p → b ≤ (p - 1) &&& t := fun b hb hlt => sub_prev 10 p b t (by omega) hpt hb hlt
        have mu : ∀ x : Int32, x = nI ((p - 1) &&& t) → x.toNatClampNeg < (nI p).toNatClampNeg := fun x ex => by
          rw [ex, nI_clamp (by omega), hclp]
          omega
        have nope : ¬ cand (BK n X Y V) t p → ∀ x4 : Int32, x4 = ((nI p - 1) &&& nI t) → (KR n X Y V S39 ∧ (∀ s, s < t → fR (BK n X Y V) S39 s) ∧ (∀ s, s < t + 1 → 1 ≤ s → oR (BK n X Y V) S39 s) ∧ ∃ p, x4 = nI p ∧ p &&& t = p ∧ p ≤ t ∧ ((gA S39 53 0 t = nI 99 ∧ ∀ b, cand (BK n X Y V) t b → b ≤ p) ∨ ∃ b0 m, cand (BK n X Y V) t b0 ∧ p < b0 ∧ m ≤ 9 ∧ isF (BK n X Y V) m (t ^^^ b0) ∧ gA S39 53 0 t = nI (m + 1) ∧ ∀ b, cand (BK n X Y V) t b → p < b → ∀ m', isF (BK n X Y V) m' (t ^^^ b) → m ≤ m')) ∧ x4.toNatClampNeg < (nI p).toNatClampNeg := by
          intro hnc x4 e4
          rw [enx] at e4
          refine ⟨⟨hK39, hf39, ho39, (p - 1) &&& t, e4, hpsub, by omega, ?_⟩, mu x4 e4⟩
          rcases hbest with ⟨e53, hno⟩ | ⟨b0, m, hc0, hpb, hm, hF0, e53, hall⟩
          · refine Or.inl ⟨e53, fun b hb => hprev b hb.1 ?_⟩
            have := hno b hb
            rcases Nat.eq_or_lt_of_le this with z | z
            · rw [z] at hb
              exact absurd hb hnc
            · exact z
          · refine Or.inr ⟨b0, m, hc0, by omega, hm, hF0, e53, fun b hb hlt m' hm' => hall b hb ?_ m' hm'⟩
            apply Nat.lt_of_not_le
            intro hle
            rcases Nat.eq_or_lt_of_le hle with z | z
            · rw [z] at hb
              exact hnc hb
            · have := hprev b hb.1 z
              omega
        refine ⟨fun z => nope (fun hc => by
          have := (low_and l10).mp z
          rw [hc.2.1] at this
          cases this), fun z => ⟨in_nI (by omega) (by omega), ?_⟩⟩
        have hlo : p.testBit (lo t) = true := by
          have := mt (low_and (p := p) l10).mpr z
          simpa using this
        rw [hclp]
        refine ⟨fun z2 => ?_, fun z2 => by
          have nope' := nope (fun hc => by
            rw [(ho39 p (by omega) (by omega)).1 hc.2.2] at z2
            exact absurd z2 i10)
          exact nope'⟩
        have hBp : BK n X Y V p := by
          apply Classical.byContradiction
          intro hnB
          exact z2 ((ho39 p (by omega) (by omega)).2 hnB)
        have hc : cand (BK n X Y V) t p := ⟨hpt, hlo, hBp⟩
        have hlt := cand_lt (show t < 1024 by omega) hc
        obtain ⟨m1, hm1, em1, hF1⟩ := hf39 (t ^^^ p) hlt.1
        have hm9 := isF_le9 (fun k _ => BK_one k) (show t < 1024 by omega) t0 hc hF1
        have hclx : (nI (t ^^^ p)).toNatClampNeg = t ^^^ p := nI_clamp (by omega)
        rw [nI_clr hpt, hclx, em1]
        refine ⟨in_nI (by omega) (by omega), fun x5 e5 => ⟨it, fun z3 => ⟨it, it, fun S52 e52 x4 e4 => ?_⟩, fun z3 => ⟨it, fun S55 e55 x4 e4 => ?_⟩⟩⟩
        · have e5 : x5 = nI (1 + m1) := e5.trans (nI_plus 1 m1)
          rw [e5] at z3
          rw [enx] at e4
          have mu' := mu x4 e4
          have g53 : ∀ s, gA S52 53 0 s = gA S39 53 0 s := fun s => by
            rw [e52]
            by_cases e : s = t
            · rw [e]; exact gA_at
            · exact gA_off (by omega)
          have hK52 : KR n X Y V S52 := by rw [e52]; exact KR53 hK39 _ _
          have g55 : gA S52 55 0 = gA S39 55 0 := by rw [e52]; rfl
          refine ⟨⟨hK52, fun s hs => ?_, fun s hs h1 => ?_, (p - 1) &&& t, e4, hpsub, by omega, Or.inr ?_⟩, mu'⟩
          · obtain ⟨m, hm, em, hF⟩ := hf39 s hs
            exact ⟨m, hm, (g53 s).trans em, hF⟩
          · unfold oR
            rw [g55]
            exact ho39 s hs h1
          · rcases hbest with ⟨e53, hno⟩ | ⟨b0, m, hc0, hpb, hm, hF0, e53, hall⟩
            · rw [e53] at z3
              have := (le_nI (by omega) (by omega)).mp z3
              omega
            · rw [e53] at z3
              have z3 := (le_nI (by omega) (by omega)).mp z3
              refine ⟨b0, m, hc0, by omega, hm, hF0, (g53 t).trans e53, fun b hb hlt2 m' hm' => ?_⟩
              by_cases e : b = p
              · rw [e] at hm'
                have := isF_uniq hF1 hm'
                omega
              · refine hall b hb ?_ m' hm'
                apply Nat.lt_of_not_le
                intro hle
                have := hprev b hb.1 (by omega)
                omega
        · have e5 : x5 = nI (1 + m1) := e5.trans (nI_plus 1 m1)
          rw [e5] at z3
          rw [enx] at e4
          have mu' := mu x4 e4
          subst e55
          refine ⟨⟨KR53 hK39 _ _, fun s hs => ?_, ho39, (p - 1) &&& t, e4, hpsub, by omega, Or.inr ⟨p, m1, hc, by omega, hm9, hF1, ?_, fun b hb hlt2 m' hm' => ?_⟩⟩, mu'⟩
          · obtain ⟨m, hm, em, hF⟩ := hf39 s hs
            exact ⟨m, hm, (gA_off (by omega)).trans em, hF⟩
          · rw [gA_at, e5, Nat.add_comm]
          · by_cases e : b = p
            · rw [e] at hm'
              have := isF_uniq hF1 hm'
              omega
            · have hlt3 : p < b := by
                apply Nat.lt_of_not_le
                intro hle
                have := hprev b hb.1 (by omega)
                omega
              rcases hbest with ⟨e53, hno⟩ | ⟨b0, m, hc0, hpb, hm, hF0, e53, hall⟩
              · have := hno b hb
                omega
              · rw [e53] at z3
                have z3 := mt (le_nI (a := m + 1) (b := 1 + m1) (by omega) (by omega)).mpr z3
                have := hall b hb hlt3 m' hm'
                omega
    refine rf_isBlock hK4.2 hb hn ht t0 (fun hB => ?_) (fun hB => ?_)
    · exact body 1 ⟨fun _ => rfl, fun z => absurd hB z⟩
    · exact body 0 ⟨fun z => absurd z hB, fun _ => rfl⟩
end
theorem rl_blocks {S : Sg} (h : Rel S) : wp_X9_blocks S (fun r S1 => wp_X10_blocks S1 (fun r2 S2 => r = r2 ∧ Rel S2)) := by
  have hA := h.1
  have hn := hA.1
  refine ⟨fun z => ?_, fun z => ?_⟩
  · have hn0 : nM S ≠ 0 := fun y => z (by rw [hA.2.1, y]; rfl)
    refine sp_findB h hn0 (fun S1 h1 en hbl => ?_)
    show wp_X10_blocks S1 (fun r2 S2 => gI S1 6 0 4 = r2 ∧ Rel S2)
    have hA1 := h1.1
    have hF1 := h1.2.2.2.2.2.1
    have hn1 := hA1.1
    have hp : 2 ^ nM S1 ≤ 1024 := Nat.pow_le_pow_right (n := 2) (by omega) hn1
    have hp1 : 0 < 2 ^ nM S1 := Nat.pow_pos (by omega)
    obtain ⟨m, d, hF, em, -⟩ := hbl
    refine ⟨fun y => ?_, fun y => ?_⟩
    · refine rf_findBlocks hn1 (bd_of hA1 hF1) ⟨h1, ref_of hA1 hF1⟩ (fun S2 hK2 hf2 _ => ?_)
      obtain ⟨m2, hm2, em2, hF2⟩ := hf2
      rw [hK2.2.1, nI_shl1 _ (by omega), show nI (2 ^ nM S1) - 1 = nI (2 ^ nM S1 - 1) from nI_dif _ 1 (by omega), nI_clamp (by omega), em2, em, isF_uniq hF hF2]
      exact ⟨in_nI (by omega) (by omega), rfl, hK2.1⟩
    · rw [hA1.2.2.1] at y
      have := nI_inj (a := nM S1) (b := 0) (by omega) (by omega) y
      omega
  · refine ⟨fun y => ?_, fun _ => ⟨rfl, h⟩⟩
    rw [hA.2.1] at z
    rw [hA.2.2.1] at y
    exact absurd z y
theorem rl_of {S : Sg} (h : Rel S) (a1 : Int32) : wp_X9_of a1 S (fun r S1 => wp_X10_of a1 S1 (fun r2 S2 => r = r2 ∧ Rel S2)) := by
  have hA := h.1
  have hn := hA.1
  unfold wp_X9_of
  refine hA.in (fun k hkn hk e1 e2 hv hvn => ⟨fun z => (by cases z), fun j hj => ?_⟩) (fun hb => ⟨fun _ => ?_, fun j hj => by cases hj⟩)
  · have hn0 : nM S ≠ 0 := by omega
    refine sp_findB h hn0 (fun S1 h1 en hbl => ⟨hv, ?_⟩)
    have hA1 := h1.1
    have hF1 := h1.2.2.2.2.2.1
    have hn1 := hA1.1
    obtain ⟨m, d, hF, em, hO⟩ := hbl
    unfold wp_X10_of
    refine hA1.ref (fun _ => bq_nf i10 ?_) (fun z => absurd (by rw [en]; exact hvn) z)
    refine rf_findBlocks hn1 (bd_of hA1 hF1) ⟨h1, ref_of hA1 hF1⟩ (fun S2 hK2 _ hO2 => ⟨hv, ?_, hK2.1⟩)
    obtain ⟨d2, hO2⟩ := hO2
    rw [e2]
    exact Out_uniq d d2 _ hO hO2 k hk (by rw [all_bit]; exact decide_eq_true (by omega))
  · unfold wp_X10_of
    exact hA.ref (fun z => absurd z hb) (fun _ => bq_nt rfl ⟨rfl, h⟩)
