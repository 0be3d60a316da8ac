/-! BlockFinder.find -/
section
variable {n : Nat} {X Y : Nat → Int32} {V : Nat → Nat → Int32}
/-- while the class looks for blocks -/
def KP (n : Nat) (X Y : Nat → Int32) (V : Nat → Nat → Int32) (S : Sg) : Prop := Rel S ∧ gI S 6 0 5 = 0 ∧ clsP n X Y V S
def tT (n : Nat) (B : Nat → Prop) (S : Sg) (t : Nat) : Prop := ∀ s, s < t → (B s → gA S 7 0 s = 1) ∧ (¬ B s → gA S 7 0 s = 0)
theorem KP7 {S : Sg} (h : KP n X Y V S) (i : Nat) (v : Int32) : KP n X Y V (uA S 7 0 i v) := h
theorem KP9 {S : Sg} (h : KP n X Y V S) (i : Nat) (v : Int32) : KP n X Y V (uA S 9 0 i v) := h
theorem KP10 {S : Sg} (h : KP n X Y V S) (i : Nat) (v : Int32) : KP n X Y V (uA S 10 0 i v) := by
  obtain ⟨⟨hA, hB, hC, hD, hE, hF, hG, hH, hS, hX⟩, h0, hc⟩ := h
  exact ⟨⟨hA, hB, hC, hD, hE, hF, hG, hH, hS, ⟨hX.1.1, fun z => absurd h0 z⟩, hX.2⟩, h0, hc⟩
theorem KP8 {S : Sg} (h : KP n X Y V S) {i : Nat} (hi : i ≠ 0) (v : Int32) : KP n X Y V (uA S 8 0 i v) := by
  obtain ⟨⟨hA, hB, hC, hD, hE, hF, hG, hH, hS, hX⟩, h0, hc⟩ := h
  exact ⟨⟨hA, hB, hC, hD, hE, hF, hG, hH, hS, ⟨(gA_off (by omega)).trans hX.1.1, hX.1.2⟩, hX.2⟩, h0, hc⟩
theorem sp_tellTurns {S : Sg} (hn : n ≤ 10) (hb : bdP n X Y V) (h : KP n X Y V S) {Q : Sg → Prop} (hq : ∀ S', KP n X Y V S' → tT n (BK n X Y V) S' (2 ^ n) → gA S' 8 0 = gA S 8 0 → Q S') : wp_X0_tellTurns (nI (2 ^ n - 1)) S Q := by
  have hp : 2 ^ n ≤ 1024 := Nat.pow_le_pow_right (n := 2) (by omega) hn
  have hp1 : 0 < 2 ^ n := Nat.pow_pos (by omega)
  refine ⟨in_nI (k := 0) (by omega) (by omega), fun S2 e2 => ?_⟩
  refine ⟨fun v S1 => KP n X Y V S1 ∧ gA S1 8 0 = gA S 8 0 ∧ ∃ t, 1 ≤ t ∧ t ≤ 2 ^ n ∧ v = nI t ∧ tT n (BK n X Y V) S1 t, fun v _ => 1024 - v.toNatClampNeg, ⟨e2 ▸ KP7 h _ _, by rw [e2]; rfl, 1, by omega, by omega, rfl, fun s hs => ?_⟩, ?_⟩
  · have : s = 0 := by omega
    subst this
    refine ⟨fun _ => by rw [e2]; exact gA_at, fun z => absurd ⟨0, 1, by decide, fun i j _ _ bi _ => by rw [Nat.zero_testBit] at bi; cases bi⟩ z⟩
  rintro v S1 ⟨hK, h8, t, ht1, ht2, rfl, hT⟩
  refine ⟨fun q => ?_, fun q => ?_⟩
  · have := (lt_nI (by omega) (by omega)).mp q
    have e : t = 2 ^ n := by omega
    rw [e] at hT
    exact hq S1 hK hT h8
  · have hlt : t < 2 ^ n := by
      have := mt (lt_nI (a := 2 ^ n - 1) (b := t) (by omega) (by omega)).mpr q
      omega
    obtain ⟨l10, bl, bj, -, e3, hsub, -⟩ := lo_spec t (by omega) (by omega)
    have hx := xor_add 10 (2 ^ lo t) t (by omega) hsub
    have hpos : 0 < 2 ^ lo t := Nat.pow_pos (by omega)
    have hcl : (nI t).toNatClampNeg = t := nI_clamp (by omega)
    have hcl2 : (nI (t ^^^ 2 ^ lo t)).toNatClampNeg = t ^^^ 2 ^ lo t := nI_clamp (by omega)
    have it : vp_in (nI t) 1024 := in_nI (by omega) (by omega)
    have fin : ∀ (r : Int32) (x : Int32), x = nI t + 1 → ((BK n X Y V t → r = 1) ∧ (¬ BK n X Y V t → r = 0)) → (KP n X Y V (uA S1 7 0 t r) ∧ gA (uA S1 7 0 t r) 8 0 = gA S 8 0 ∧ ∃ t', 1 ≤ t' ∧ t' ≤ 2 ^ n ∧ x = nI t' ∧ tT n (BK n X Y V) (uA S1 7 0 t r) t') ∧ 1024 - x.toNatClampNeg < 1024 - (nI t).toNatClampNeg := by
      intro r x ex hr
      rw [ex]
      refine ⟨⟨KP7 hK _ _, h8, t + 1, by omega, by omega, nI_1 t, fun s hs => ?_⟩, mu_lt (by omega) (by omega)⟩
      by_cases e : s = t
      · subst e
        rw [gA_at]
        exact hr
      · rw [gA_off (by omega)]
        exact hT s (by omega)
    rw [e3, hcl2, hcl]
    refine ⟨in_nI (by omega) (by omega), fun z => ⟨it, fun S8 e8 x ex => ?_⟩, fun z => ?_⟩
    · rw [e8]
      refine fin 0 x ex ⟨fun hB => ?_, fun _ => rfl⟩
      exfalso
      have h1 := (hT (t ^^^ 2 ^ lo t) (by omega)).1 (BK_mono (fun k hk => ?_) hB)
      · rw [h1] at z
        exact absurd z i10
      · rw [Nat.testBit_xor] at hk
        by_cases e : k = lo t
        · rw [e]
          exact bl
        · rw [Nat.testBit_two_pow_of_ne (fun z => e z.symm)] at hk
          simpa using hk
    · refine sp_turn hK.2.2 hb hn (by omega) (fun hB => bq_f i10 ⟨it, fun S8 e8 x ex => ?_⟩) (fun hB => bq_t rfl ⟨it, fun S8 e8 x ex => ?_⟩)
      · rw [e8]
        exact fin 1 x ex ⟨fun _ => rfl, fun z => absurd hB z⟩
      · rw [e8]
        exact fin 0 x ex ⟨fun z => absurd z hB, fun _ => rfl⟩
theorem or_split {o l a : Nat} (ho : o.testBit l = false) (ha : a &&& o = a) : (a ||| 2 ^ l) ^^^ 2 ^ l = a := by
  apply Nat.eq_of_testBit_eq
  intro i
  rw [Nat.testBit_xor, Nat.testBit_or]
  by_cases e : i = l
  · subst e
    rw [Nat.testBit_two_pow_self]
    cases h : a.testBit i
    · rfl
    · rw [sub_bit ha h] at ho
      cases ho
  · rw [Nat.testBit_two_pow_of_ne (fun z => e z.symm)]
    simp
theorem or_plus {o l a : Nat} (h : a < 1024) (hl : l < 10) (ho : o.testBit l = false) (ha : a &&& o = a) : a ||| 2 ^ l = a + 2 ^ l := by
  have h1 := or_split ho ha
  have hlt : a ||| 2 ^ l < 2 ^ 10 := Nat.or_lt_two_pow h (Nat.pow_lt_pow_right (by omega) hl)
  have h2 := xor_add 10 (2 ^ l) (a ||| 2 ^ l) hlt (sub_of (fun k hk => by rw [Nat.testBit_or, hk, Bool.or_true]))
  omega
end
