/-! blocks and of: the class -/
theorem even_0 (t : Nat) : (2 * t).testBit 0 = false := by
  rw [Nat.testBit_zero]
  apply decide_eq_false
  omega
theorem odd_0 {s t : Nat} (h : s.testBit 0 = false) : s ≠ 2 * t + 1 := fun z => by
  rw [z, Nat.testBit_zero] at h
  have := of_decide_eq_false h
  omega
theorem xor_even {s b : Nat} (hs : s.testBit 0 = false) (h : b &&& s = b) : (s ^^^ b).testBit 0 = false := by
  rw [Nat.testBit_xor, hs]
  cases y : b.testBit 0
  · rfl
  · rw [sub_bit h y] at hs
    cases hs
theorem sp_findB {S : Sg} (h : Rel S) (hn0 : nM S ≠ 0) {Q : Sg → Prop} (hq : ∀ S', Rel S' → nM S' = nM S → blkP (nM S') (fun k => gI S' 26 k 1) (fun k => gI S' 26 k 2) (gA S' 33) (gI S' 6 0 4) (gA S' 10 0) → Q S') : wp_X0_find (gI S 0 0 6) S Q := by
  obtain ⟨hA, hB, hC, hD, hE, hF, hG, hH, hS, hX⟩ := id h
  refine ⟨fun z => ?_, fun z => hq S h rfl (hX.1.2 z)⟩
  have hn := hA.1
  have hb := bd_of hA hF
  have hc := cls_of S
  rw [hA.2.1]
  intro x3 e3
  generalize nM S = n at *
  generalize (fun k => gI S 26 k 1) = X at *
  generalize (fun k => gI S 26 k 2) = Y at *
  generalize gA S 33 = V at hb hc
  have hp : 2 ^ n ≤ 1024 := Nat.pow_le_pow_right (n := 2) (by omega) hn
  obtain ⟨H2, hH2⟩ : ∃ w, 2 ^ n = 2 * w := ⟨2 ^ (n - 1), by rw [← Nat.pow_succ']; congr 1; omega⟩
  have hp1 : 0 < 2 ^ n := Nat.pow_pos (by omega)
  rw [nI_shl1 _ (by omega)] at e3
  have e3 : x3 = nI (2 ^ n - 1) := e3.trans (nI_dif _ 1 (by omega))
  subst e3
  refine sp_tellTurns hn hb ⟨h, z, hc⟩ (fun S3 hK3 hT3 h83 => ?_)
  refine ⟨fun v S1 => KP n X Y V S1 ∧ tT n (BK n X Y V) S1 (2 ^ n) ∧ ∃ t, 1 ≤ t ∧ 2 * t ≤ 2 ^ n ∧ v = nI (2 * t) ∧ ∀ s, s.testBit 0 = false → s < 2 * t → fOK (BK n X Y V) S1 s ∧ (s ≠ 0 → lOK (BK n X Y V) S1 s), fun v _ => 2048 - v.toNatClampNeg, ⟨hK3, hT3, 1, by omega, by omega, rfl, fun s hs0 hs => ?_⟩, ?_⟩
  · have : s = 0 := by
      have := odd_0 (t := 0) hs0
      omega
    subst this
    exact ⟨⟨0, by omega, (by rw [h83]; exact hX.1.1), isF_0⟩, fun z => absurd rfl z⟩
  rintro v S4 ⟨hK4, hT4, t, ht1, ht2, rfl, hall⟩
  have hal0 : (2 ^ n - 1).testBit 0 = true := by rw [all_bit]; exact decide_eq_true (by omega)
  have hloall : lo (2 ^ n - 1) = 0 := lo_at (by omega) hal0 (fun j hj => absurd hj (Nat.not_lt_zero j))
  refine ⟨fun q => ?_, fun q => ?_⟩
  · have q := (le_nI (by omega) (by omega)).mp q
    refine sp_tellFewest hn hK4 (by omega) (by omega) hT4 (fun b hb => ?_) (fun S6 hK6 hT6 h6 f6 l6 => ?_)
    · have hlt := cand_lt (show 2 ^ n - 1 < 1024 by omega) hb
      have hb0 := hb.2.1
      rw [hloall] at hb0
      exact (hall _ (by rw [Nat.testBit_xor, hal0, hb0]; rfl) (by omega)).1
    · obtain ⟨m, hm, em, hF6⟩ := f6
      refine sp_giveOut hn (by omega) hK6 em (fun s hs hs0 hd => ?_) (fun S7 hK7 e4 hO => ?_)
      · by_cases e : s = 2 ^ n - 1
        · rw [e]
          exact l6
        · obtain ⟨b, eb, hb⟩ := (hall s (hd.resolve_left e) (by omega)).2 hs0
          exact ⟨b, (h6 s e).2.trans eb, hb⟩
      · intro S8 e8
        subst e8
        obtain ⟨hA7, hB7, hC7, hD7, hE7, hF7, hG7, hH7, hS7, hX7⟩ := hK7.1
        obtain ⟨d, hO⟩ := hO
        have hcc := hK7.2.2
        have hBK : BK n (fun k => gI S7 26 k 1) (fun k => gI S7 26 k 2) (gA S7 33) = BK n X Y V := BK_congr (fun k hk => hcc.2 k hk)
        have hblk : blkP n (fun k => gI S7 26 k 1) (fun k => gI S7 26 k 2) (gA S7 33) (gI S7 6 0 4) (gA S7 10 0) := by
          unfold blkP
          rw [hBK]
          exact ⟨m, d, hF6, e4, hO⟩
        rw [← hcc.1] at hblk
        exact hq _ ⟨hA7, hB7, hC7, hD7, hE7, hF7, hG7, hH7, hS7, ⟨hX7.1.1, fun _ => hblk⟩, hX7.2⟩ hcc.1 hblk
  · have q : 2 * t < 2 ^ n - 1 := by
      have := mt (le_nI (a := 2 ^ n - 1) (b := 2 * t) (by omega) (by omega)).mpr q
      omega
    refine sp_tellFewest hn hK4 (by omega) (by omega) hT4 (fun b hb => ?_) (fun S6 hK6 hT6 h6 f6 l6 x ex => ?_)
    · have hlt := cand_lt (show 2 * t < 1024 by omega) hb
      exact (hall _ (xor_even (even_0 t) hb.1) (by omega)).1
    · rw [ex]
      refine ⟨⟨hK6, hT6, t + 1, by omega, by omega, nI_plus (2 * t) 2, fun s hs0 hs => ?_⟩, ?_⟩
      · by_cases e : s = 2 * t
        · subst e
          exact ⟨f6, fun _ => l6⟩
        · have := odd_0 (t := t) hs0
          obtain ⟨⟨m, hm, em, hF⟩, hl⟩ := hall s hs0 (by omega)
          refine ⟨⟨m, hm, (h6 s e).1.trans em, hF⟩, fun z => ?_⟩
          obtain ⟨b, eb, hb⟩ := hl z
          exact ⟨b, (h6 s e).2.trans eb, hb⟩
      · show 2048 - (nI (2 * t) + nI 2).toNatClampNeg < 2048 - (nI (2 * t)).toNatClampNeg
        rw [nI_plus, nI_clamp (by omega), nI_clamp (by omega)]
        omega
