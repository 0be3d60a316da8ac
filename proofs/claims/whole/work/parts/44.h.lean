/-! BlockFinder.tellFewest -/
section
variable {n : Nat} {X Y : Nat → Int32} {V : Nat → Nat → Int32}
def fOK (B : Nat → Prop) (S : Sg) (s : Nat) : Prop := ∃ m, m ≤ 10 ∧ gA S 8 0 s = nI m ∧ isF B m s
def lOK (B : Nat → Prop) (S : Sg) (s : Nat) : Prop := ∃ b, gA S 9 0 s = nI b ∧ lb B s b
theorem sp_tellFewest {S : Sg} (hn : n ≤ 10) (h : KP n X Y V S) {s : Nat} (hs : s < 2 ^ n) (hs0 : s ≠ 0) (hT : tT n (BK n X Y V) S (2 ^ n)) (hf : ∀ b, cand (BK n X Y V) s b → fOK (BK n X Y V) S (s ^^^ b)) {Q : Sg → Prop} (hq : ∀ S', KP n X Y V S' → tT n (BK n X Y V) S' (2 ^ n) → (∀ s', s' ≠ s → gA S' 8 0 s' = gA S 8 0 s' ∧ gA S' 9 0 s' = gA S 9 0 s') → fOK (BK n X Y V) S' s → lOK (BK n X Y V) S' s → Q S') : wp_X0_tellFewest (nI s) S Q := by
  have hp : 2 ^ n ≤ 1024 := Nat.pow_le_pow_right (n := 2) (by omega) hn
  obtain ⟨l10, bl, bj, elow, -, hsub, -⟩ := lo_spec s (by omega) hs0
  have hxa := xor_add 10 (2 ^ lo s) s (by omega) hsub
  have ol : (s ^^^ 2 ^ lo s).testBit (lo s) = false := by rw [Nat.testBit_xor, bl, Nat.testBit_two_pow_self]; rfl
  have ho : s ^^^ 2 ^ lo s < 1024 := by omega
  have hpc := pc_le _ ho
  -- the i-th block
  have hbk : ∀ i, pd 10 (s ^^^ 2 ^ lo s) i ||| 2 ^ lo s = pd 10 (s ^^^ 2 ^ lo s) i + 2 ^ lo s := fun i => by
    have hsb := pd_sub 10 (s ^^^ 2 ^ lo s) i
    have : pd 10 (s ^^^ 2 ^ lo s) i ≤ s ^^^ 2 ^ lo s := by rw [← hsb]; exact Nat.and_le_right
    exact or_plus (by omega) l10 ol hsb
  have hcand : ∀ i, BK n X Y V (pd 10 (s ^^^ 2 ^ lo s) i ||| 2 ^ lo s) → cand (BK n X Y V) s (pd 10 (s ^^^ 2 ^ lo s) i ||| 2 ^ lo s) := fun i hB => by
    refine ⟨sub_of (fun k hk => ?_), by rw [Nat.testBit_or, Nat.testBit_two_pow_self, Bool.or_true], hB⟩
    rw [Nat.testBit_or] at hk
    by_cases e : k = lo s
    · rw [e]; exact bl
    · rw [Nat.testBit_two_pow_of_ne (fun z => e z.symm), Bool.or_false] at hk
      have := sub_bit (pd_sub 10 (s ^^^ 2 ^ lo s) i) hk
      rw [Nat.testBit_xor, Nat.testBit_two_pow_of_ne (fun z => e z.symm)] at this
      simpa using this
  have hsur : ∀ b, cand (BK n X Y V) s b → ∃ i, i < 2 ^ pc 10 (s ^^^ 2 ^ lo s) ∧ pd 10 (s ^^^ 2 ^ lo s) i ||| 2 ^ lo s = b := fun b hb => by
    obtain ⟨i, hi, ei⟩ := pd_sur 10 (s ^^^ 2 ^ lo s) (b ^^^ 2 ^ lo s) (by omega) (sub_of (fun k hk => by
      by_cases e : k = lo s
      · rw [e, Nat.testBit_xor, hb.2.1, Nat.testBit_two_pow_self] at hk
        cases hk
      · rw [Nat.testBit_xor, Nat.testBit_two_pow_of_ne (fun z => e z.symm)] at hk ⊢
        have hk' : b.testBit k = true := by simpa using hk
        rw [sub_bit hb.1 hk']
        rfl))
    refine ⟨i, hi, ?_⟩
    rw [ei]
    apply Nat.eq_of_testBit_eq
    intro k
    rw [Nat.testBit_or, Nat.testBit_xor]
    by_cases e : k = lo s
    · rw [e, Nat.testBit_two_pow_self, hb.2.1]
      rfl
    · rw [Nat.testBit_two_pow_of_ne (fun z => e z.symm)]
      simp
  have hmono : ∀ i j, i < j → j < 2 ^ pc 10 (s ^^^ 2 ^ lo s) → pd 10 (s ^^^ 2 ^ lo s) i ||| 2 ^ lo s < pd 10 (s ^^^ 2 ^ lo s) j ||| 2 ^ lo s := fun i j hij hj => by
    rw [hbk, hbk]
    have := pd_lt 10 (s ^^^ 2 ^ lo s) i j hij hj
    omega
  have hblt : ∀ i, pd 10 (s ^^^ 2 ^ lo s) i ||| 2 ^ lo s < 2 ^ n := fun i => by
    have hsb := pd_sub 10 (s ^^^ 2 ^ lo s) i
    have : pd 10 (s ^^^ 2 ^ lo s) i ≤ s ^^^ 2 ^ lo s := by rw [← hsb]; exact Nat.and_le_right
    rw [hbk]
    omega
  have hf9 : ∀ b, cand (BK n X Y V) s b → ∃ m, m ≤ 9 ∧ gA S 8 0 (s ^^^ b) = nI m ∧ isF (BK n X Y V) m (s ^^^ b) := fun b hb => by
    obtain ⟨m, -, e, hm⟩ := hf b hb
    exact ⟨m, isF_le9 (fun k _ => BK_one k) (by omega) hs0 hb hm, e, hm⟩
  have h2p : 2 ^ pc 10 (s ^^^ 2 ^ lo s) ≤ 1024 := Nat.pow_le_pow_right (n := 2) (by omega) hpc
  intro x2 e2 x3 e3
  rw [elow] at e2
  subst e2
  rw [nI_xor] at e3
  subst e3
  refine sp_bcnt (fun x4 e4 => ?_)
  rw [bcnt_pc _ ho, nI_shl1 _ (by omega)] at e4
  subst e4
  refine ⟨fun v5 v6 v7 S1 => ∃ i, i ≤ 2 ^ pc 10 (s ^^^ 2 ^ lo s) ∧ v7 = nI i ∧ (i < 2 ^ pc 10 (s ^^^ 2 ^ lo s) → v5 = nI (pd 10 (s ^^^ 2 ^ lo s) i)) ∧ KP n X Y V S1 ∧ tT n (BK n X Y V) S1 (2 ^ n) ∧ gA S1 8 0 = gA S 8 0 ∧ (∀ s', s' ≠ s → gA S1 9 0 s' = gA S 9 0 s') ∧ ((v6 = nI 11 ∧ ∀ i', i' < i → ¬ BK n X Y V (pd 10 (s ^^^ 2 ^ lo s) i' ||| 2 ^ lo s)) ∨ ∃ i0 m, i0 < i ∧ BK n X Y V (pd 10 (s ^^^ 2 ^ lo s) i0 ||| 2 ^ lo s) ∧ m ≤ 9 ∧ v6 = nI (m + 1) ∧ isF (BK n X Y V) m (s ^^^ (pd 10 (s ^^^ 2 ^ lo s) i0 ||| 2 ^ lo s)) ∧ gA S1 9 0 s = nI (pd 10 (s ^^^ 2 ^ lo s) i0 ||| 2 ^ lo s) ∧ ∀ i', i' < i → BK n X Y V (pd 10 (s ^^^ 2 ^ lo s) i' ||| 2 ^ lo s) → ∀ m', isF (BK n X Y V) m' (s ^^^ (pd 10 (s ^^^ 2 ^ lo s) i' ||| 2 ^ lo s)) → m ≤ m' ∧ (i' < i0 → m < m')), fun _ _ v7 _ => 1024 - v7.toNatClampNeg, ⟨0, Nat.zero_le _, rfl, fun _ => ?_, h, hT, rfl, fun _ _ => rfl, Or.inl ⟨rfl, fun i' hi' => absurd hi' (Nat.not_lt_zero i')⟩⟩, ?_⟩
  · -- the 0-th part is empty
    have h0 : 0 < 2 ^ pc 10 (s ^^^ 2 ^ lo s) := Nat.pow_pos (by omega)
    obtain ⟨i, hi, ei⟩ := pd_sur 10 (s ^^^ 2 ^ lo s) 0 (by omega) (Nat.zero_and _)
    have : i = 0 := by
      apply Nat.eq_zero_of_not_pos
      intro hpos
      have := pd_lt 10 (s ^^^ 2 ^ lo s) 0 i hpos hi
      omega
    subst this
    rw [ei]
    rfl
  rintro v5 v6 v7 S1 ⟨i, hi, rfl, h5, hK, hT1, h8, h9, hbest⟩
  have hcls : (nI s).toNatClampNeg = s := nI_clamp (by omega)
  have is_ : vp_in (nI s) 1024 := in_nI (by omega) (by omega)
  rw [hcls]
  refine ⟨fun q => ⟨is_, fun S8 e8 => ?_⟩, fun q => ?_⟩
  · have ei : i = 2 ^ pc 10 (s ^^^ 2 ^ lo s) := by
      have := (le_nI (by omega) (by omega)).mp q
      omega
    have hc1 : cand (BK n X Y V) s (2 ^ lo s) := ⟨hsub, by rw [Nat.testBit_two_pow_self], BK_one _⟩
    rcases hbest with ⟨-, hno⟩ | ⟨i0, m, hi0, hB0, hm, rfl, hF0, h90, hall⟩
    · obtain ⟨i', hi', e'⟩ := hsur _ hc1
      exact absurd (by rw [e']; exact BK_one _) (hno i' (by omega))
    · have hFs : isF (BK n X Y V) (m + 1) s := by
        have hfun : ∃ f : Nat → Nat, ∀ b, cand (BK n X Y V) s b → isF (BK n X Y V) (f b) (s ^^^ b) := by
          have hx : ∀ b, ∃ m, cand (BK n X Y V) s b → isF (BK n X Y V) m (s ^^^ b) := fun b => by
            by_cases hb : cand (BK n X Y V) s b
            · obtain ⟨m, -, -, hm⟩ := hf9 b hb
              exact ⟨m, fun _ => hm⟩
            · exact ⟨0, fun z => absurd z hb⟩
          exact ⟨fun b => (hx b).choose, fun b hb => (hx b).choose_spec hb⟩
        obtain ⟨f, hff⟩ := hfun
        refine isF_step hs0 hff (fun b hb => ?_) ⟨_, hcand i0 hB0, ?_⟩
        · obtain ⟨i', hi', e'⟩ := hsur b hb
          have := (hall i' (by omega) (by rw [e']; exact hb.2.2) (f b) (by rw [e']; exact hff b hb)).1
          omega
        · have := isF_uniq hF0 (hff _ (hcand i0 hB0))
          omega
      rw [e8]
      refine hq _ (KP8 hK hs0 _) hT1 (fun s' hs' => ⟨(gA_off (by omega)).trans (by rw [h8]), h9 s' hs'⟩) ⟨m + 1, by omega, gA_at, hFs⟩ ⟨_, h90, ⟨hcand i0 hB0, m, hF0, hFs⟩, fun b' hb' hl => ?_⟩
      obtain ⟨hc', m', hm', hm1⟩ := hl
      have e1 := isF_uniq hFs hm1
      obtain ⟨i', hi', e'⟩ := hsur b' hc'
      have hlt : i' < i0 := by
        apply Nat.lt_of_not_le
        intro hle
        rcases Nat.eq_or_lt_of_le hle with z | z
        · subst z
          omega
        · have := hmono i0 i' z hi'
          omega
      have := (hall i' (by omega) (by rw [e']; exact hc'.2.2) m' (by rw [e']; exact hm')).2 hlt
      omega
  · have hilt : i < 2 ^ pc 10 (s ^^^ 2 ^ lo s) := by
      have := mt (le_nI (a := 2 ^ pc 10 (s ^^^ 2 ^ lo s)) (b := i) (by omega) (by omega)).mpr q
      omega
    have h5' := h5 hilt
    subst h5'
    intro x8 e8
    rw [nI_or] at e8
    subst e8
    have hbl := hblt i
    have hclb : (nI (pd 10 (s ^^^ 2 ^ lo s) i ||| 2 ^ lo s)).toNatClampNeg = pd 10 (s ^^^ 2 ^ lo s) i ||| 2 ^ lo s := nI_clamp (by omega)
    have nxt : ∀ x5 : Int32, x5 = (nI (pd 10 (s ^^^ 2 ^ lo s) i) - nI (s ^^^ 2 ^ lo s)) &&& nI (s ^^^ 2 ^ lo s) → i + 1 < 2 ^ pc 10 (s ^^^ 2 ^ lo s) → x5 = nI (pd 10 (s ^^^ 2 ^ lo s) (i + 1)) := fun x5 e5 hi1 => by
      rw [e5, nI_next (by omega), pd_next 10 32 _ i (by omega) (by omega) hi1]
    rw [hclb]
    refine ⟨in_nI (by omega) (by omega), fun hz x5 e5 x7 e7 => ?_, fun hz => ?_⟩
    · have hnB : ¬ BK n X Y V (pd 10 (s ^^^ 2 ^ lo s) i ||| 2 ^ lo s) := fun hB => by
        rw [(hT1 _ hbl).1 hB] at hz
        exact absurd hz i10
      rw [e7]
      refine ⟨⟨i + 1, by omega, nI_1 i, nxt x5 e5, hK, hT1, h8, h9, ?_⟩, mu_lt (by omega) (by omega)⟩
      rcases hbest with ⟨e6, hno⟩ | ⟨i0, m, hi0, hB0, hm, e6, hF0, h90, hall⟩
      · refine Or.inl ⟨e6, fun i' hi' => ?_⟩
        by_cases e : i' = i
        · rw [e]; exact hnB
        · exact hno i' (by omega)
      · refine Or.inr ⟨i0, m, by omega, hB0, hm, e6, hF0, h90, fun i' hi' hB' => ?_⟩
        by_cases e : i' = i
        · rw [e] at hB'
          exact absurd hB' hnB
        · exact hall i' (by omega) hB'
    · have hB : BK n X Y V (pd 10 (s ^^^ 2 ^ lo s) i ||| 2 ^ lo s) := by
        apply Classical.byContradiction
        intro hnB
        exact hz ((hT1 _ hbl).2 hnB)
      have hc := hcand i hB
      have hlt := cand_lt (by omega) hc
      obtain ⟨m1, hm1, e1, hF1⟩ := hf9 _ hc
      rw [nI_xor]
      have hclx : (nI (s ^^^ (pd 10 (s ^^^ 2 ^ lo s) i ||| 2 ^ lo s))).toNatClampNeg = s ^^^ (pd 10 (s ^^^ 2 ^ lo s) i ||| 2 ^ lo s) := nI_clamp (by omega)
      have ix : vp_in (nI (s ^^^ (pd 10 (s ^^^ 2 ^ lo s) i ||| 2 ^ lo s))) 1024 := in_nI (by omega) (by omega)
      rw [hclx, h8, e1, nI_1]
      refine ⟨ix, fun hle x5 e5 x7 e7 => ?_, fun hle => ⟨ix, fun x6 e6 => ⟨is_, fun S21 e21 x5 e5 x7 e7 => ?_⟩⟩⟩
      · rw [e7]
        refine ⟨⟨i + 1, by omega, nI_1 i, nxt x5 e5, hK, hT1, h8, h9, ?_⟩, mu_lt (by omega) (by omega)⟩
        rcases hbest with ⟨e6, hno⟩ | ⟨i0, m, hi0, hB0, hm, e6, hF0, h90, hall⟩
        · rw [e6] at hle
          have := (le_nI (by omega) (by omega)).mp hle
          omega
        · refine Or.inr ⟨i0, m, by omega, hB0, hm, e6, hF0, h90, fun i' hi' hB' m' hm' => ?_⟩
          by_cases e : i' = i
          · rw [e] at hm'
            have := isF_uniq hF1 hm'
            rw [e6] at hle
            have := (le_nI (by omega) (by omega)).mp hle
            exact ⟨by omega, fun z => by omega⟩
          · exact hall i' (by omega) hB' m' hm'
      · rw [e7]
        subst e21
        refine ⟨⟨i + 1, by omega, nI_1 i, nxt x5 e5, KP9 hK _ _, hT1, h8, fun s' hs' => (gA_off (by omega)).trans (h9 s' hs'), Or.inr ⟨i, m1, by omega, hB, hm1, e6, hF1, gA_at, fun i' hi' hB' m' hm' => ?_⟩⟩, mu_lt (by omega) (by omega)⟩
        by_cases e : i' = i
        · rw [e] at hm'
          have := isF_uniq hF1 hm'
          exact ⟨by omega, fun z => by omega⟩
        · rcases hbest with ⟨e6', hno⟩ | ⟨i0, m, hi0, hB0, hm, e6', hF0, h90, hall⟩
          · exact absurd hB' (hno i' (by omega))
          · have h1 := hall i' (by omega) hB' m' hm'
            rw [e6'] at hle
            have := mt (le_nI (a := m + 1) (b := m1 + 1) (by omega) (by omega)).mpr hle
            exact ⟨by omega, fun _ => by omega⟩
end
