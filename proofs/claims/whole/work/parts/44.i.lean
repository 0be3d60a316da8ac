/-! BlockFinder.find -/
section
variable {n : Nat} {X Y : Nat → Int32} {V : Nat → Nat → Int32}
theorem sp_setBlock {S : Sg} (h : KP n X Y V S) {b : Nat} (hb : b < 1024) {Q : Sg → Prop} (hq : ∀ S', KP n X Y V S' → gA S' 8 0 = gA S 8 0 → gA S' 9 0 = gA S 9 0 → gI S' 6 0 4 = gI S 6 0 4 → (∀ k, k < 10 → gA S' 10 0 k = if b.testBit k = true then nI b else gA S 10 0 k) → Q S') : wp_X0_setBlock (nI b) S Q := by
  refine ⟨fun v S1 => KP n X Y V S1 ∧ gA S1 8 0 = gA S 8 0 ∧ gA S1 9 0 = gA S 9 0 ∧ gI S1 6 0 4 = gI S 6 0 4 ∧ ∃ t, t ≤ 10 ∧ v = nI t ∧ ∀ k, k < 10 → gA S1 10 0 k = if k < t ∧ b.testBit k = true then nI b else gA S 10 0 k, fun v _ => 10 - v.toNatClampNeg, ⟨h, rfl, rfl, rfl, 0, by omega, rfl, fun k _ => (if_neg (fun z => Nat.not_lt_zero k z.1)).symm⟩, ?_⟩
  rintro v S1 ⟨hK, h8, h9, h4, t, ht, rfl, hv⟩
  refine ⟨fun q => ?_, fun q => ?_⟩
  · have := (le_nI (a := 10) (by omega) (by omega)).mp q
    have e : t = 10 := by omega
    subst e
    refine hq S1 hK h8 h9 h4 (fun k hk => (hv k hk).trans ?_)
    by_cases z : b.testBit k = true
    · rw [if_pos ⟨hk, z⟩, if_pos z]
    · rw [if_neg (fun y => z y.2), if_neg z]
  · have hlt : t < 10 := by
      have := mt (le_nI (a := 10) (b := t) (by omega) (by omega)).mpr q
      omega
    have hcl : (nI t).toNatClampNeg = t := nI_clamp (by omega)
    rw [hcl]
    refine ⟨fun z x ex => ?_, fun z => ⟨in_nI hlt (by omega), fun S6 e6 x ex => ?_⟩⟩
    · have bt := (bit_0 (show b < 2 ^ 31 by omega) (show t < 31 by omega)).mp z
      rw [ex]
      refine ⟨⟨hK, h8, h9, h4, t + 1, by omega, nI_1 t, fun k hk => (hv k hk).trans ?_⟩, mu_lt hlt (by omega)⟩
      by_cases e : k = t
      · subst e
        rw [if_neg (fun y => by rw [bt] at y; cases y.2), if_neg (fun y => by rw [bt] at y; cases y.2)]
      · by_cases y : k < t ∧ b.testBit k = true
        · rw [if_pos y, if_pos ⟨by omega, y.2⟩]
        · rw [if_neg y, if_neg (fun x => y ⟨by omega, x.2⟩)]
    · have bt : b.testBit t = true := by
        have := mt (bit_0 (show b < 2 ^ 31 by omega) (show t < 31 by omega)).mpr z
        simpa using this
      rw [ex]
      subst e6
      refine ⟨⟨KP10 hK _ _, h8, h9, h4, t + 1, by omega, nI_1 t, fun k hk => ?_⟩, mu_lt hlt (by omega)⟩
      by_cases e : k = t
      · subst e
        rw [gA_at, if_pos ⟨by omega, bt⟩]
      · rw [gA_off (by omega), hv k hk]
        by_cases y : k < t ∧ b.testBit k = true
        · rw [if_pos y, if_pos ⟨by omega, y.2⟩]
        · rw [if_neg y, if_neg (fun x => y ⟨by omega, x.2⟩)]
/-- what was given out so far -/
def giv (B : Nat → Prop) (all left : Nat) (o : Nat → Int32) : Prop := ∀ (o' : Nat → Int32) (d : Nat), (∀ k, k < 10 → all.testBit k = true → left.testBit k = false → o' k = o k) → Out B o' d left → ∃ d', Out B o' d' all
theorem giv_step {B : Nat → Prop} {all left b : Nat} {o o1 : Nat → Int32} (h : giv B all left o) (h0 : left ≠ 0) (hl : ∀ k, left.testBit k = true → all.testBit k = true) (hb : lb B left b) (ho : ∀ k, k < 10 → o1 k = if b.testBit k = true then nI b else o k) : giv B all (left ^^^ b) o1 := by
  intro o' d hag hO
  have hsub := hb.1.1.1
  have e1 : ∀ k, k < 10 → b.testBit k = true → o' k = nI b := fun k hk bk => by
    rw [hag k hk (hl k (sub_bit hsub bk)) (by rw [Nat.testBit_xor, bk, sub_bit hsub bk]; rfl), ho k hk, if_pos bk]
  refine h o' (d + 1) (fun k hk ak lk => ?_) (Or.inr ⟨h0, b, hb, e1, hO⟩)
  have bk : b.testBit k = false := by
    cases z : b.testBit k
    · rfl
    · rw [sub_bit hsub z] at lk
      cases lk
  rw [hag k hk ak (by rw [Nat.testBit_xor, bk, lk]; rfl), ho k hk, bk]
  exact if_neg (by decide)
theorem all_bit {n k : Nat} : (2 ^ n - 1).testBit k = decide (k < n) := Nat.testBit_two_pow_sub_one n k
theorem lo_at {s k : Nat} (hs : s < 1024) (bk : s.testBit k = true) (hz : ∀ j, j < k → s.testBit j = false) : lo s = k := by
  have h0 : s ≠ 0 := fun z => by
    rw [z, Nat.zero_testBit] at bk
    cases bk
  obtain ⟨-, bl, bj, -⟩ := lo_spec s hs h0
  rcases Nat.lt_trichotomy (lo s) k with z | z | z
  · rw [hz _ z] at bl
    cases bl
  · exact z
  · rw [bj k z] at bk
    cases bk
theorem sp_giveOut {S : Sg} (hn : n ≤ 10) (hn0 : 0 < n) (h : KP n X Y V S) {m : Nat} (h8 : gA S 8 0 (2 ^ n - 1) = nI m) (h9 : ∀ s, s < 2 ^ n → s ≠ 0 → (s = 2 ^ n - 1 ∨ s.testBit 0 = false) → lOK (BK n X Y V) S s) {Q : Sg → Prop} (hq : ∀ S', KP n X Y V S' → gI S' 6 0 4 = nI m → (∃ d, Out (BK n X Y V) (gA S' 10 0) d (2 ^ n - 1)) → Q S') : wp_X0_giveOut (nI (2 ^ n - 1)) (nI n) S Q := by
  have hp : 2 ^ n ≤ 1024 := Nat.pow_le_pow_right (n := 2) (by omega) hn
  have hp1 : 0 < 2 ^ n := Nat.pow_pos (by omega)
  have hcl : (nI (2 ^ n - 1)).toNatClampNeg = 2 ^ n - 1 := nI_clamp (by omega)
  refine ⟨in_nI (by omega) (by omega), fun S2 e2 => ?_⟩
  rw [hcl, h8] at e2
  have hK2 : KP n X Y V S2 := by
    rw [e2]
    obtain ⟨⟨hA, hB, hC, hD, hE, hF, hG, hH, hS, hX⟩, h0, hc⟩ := h
    exact ⟨⟨hA, hB, hC, hD, hE, hF, hG, hH, hS, ⟨hX.1.1, fun z => absurd h0 z⟩, hX.2⟩, h0, hc⟩
  have h92 : gA S2 9 0 = gA S 9 0 := by rw [e2]; rfl
  have h42 : gI S2 6 0 4 = nI m := by rw [e2]; exact gI_at
  refine ⟨fun v3 v4 S1 => KP n X Y V S1 ∧ gA S1 9 0 = gA S 9 0 ∧ gI S1 6 0 4 = nI m ∧ ∃ left k, left < 2 ^ n ∧ v3 = nI left ∧ k ≤ n ∧ v4 = nI k ∧ (∀ j, j < k → left.testBit j = false) ∧ (left = 2 ^ n - 1 ∨ left.testBit 0 = false) ∧ giv (BK n X Y V) (2 ^ n - 1) left (gA S1 10 0), fun _ v4 _ => 10 - v4.toNatClampNeg, ⟨hK2, h92, h42, 2 ^ n - 1, 0, by omega, rfl, by omega, rfl, fun j hj => absurd hj (Nat.not_lt_zero j), Or.inl rfl, fun o' d _ hO => ⟨d, hO⟩⟩, ?_⟩
  rintro v3 v4 S1 ⟨hK, h91, h41, left, k, hl, rfl, hk, rfl, hz, hdom, hg⟩
  refine ⟨fun q => ?_, fun q => ?_⟩
  · have := (le_nI (by omega) (by omega)).mp q
    have e : k = n := by omega
    subst e
    have l0 : left = 0 := by
      apply Nat.eq_of_testBit_eq
      intro i
      rw [Nat.zero_testBit]
      by_cases hi : i < k
      · exact hz i hi
      · exact Nat.testBit_lt_two_pow (Nat.lt_of_lt_of_le hl (Nat.pow_le_pow_right (by omega) (by omega)))
    subst l0
    exact hq S1 hK h41 (hg _ 0 (fun _ _ _ _ => rfl) rfl)
  · have hlt : k < n := by
      have := mt (le_nI (a := n) (b := k) (by omega) (by omega)).mpr q
      omega
    have hcl2 : (nI left).toNatClampNeg = left := nI_clamp (by omega)
    refine ⟨fun z x ex => ?_, fun z => ⟨in_nI (by omega) (by omega), fun x5 e5 => ?_⟩⟩
    · rw [ex]
      refine ⟨⟨hK, h91, h41, left, k + 1, hl, rfl, by omega, nI_1 k, fun j hj => ?_, hdom, hg⟩, by
        have := mu_lt (show k < 10 by omega) (by omega)
        exact this⟩
      by_cases e : j = k
      · subst e
        exact (bit_0 (by omega) (by omega)).mp z
      · exact hz j (by omega)
    · have bk : left.testBit k = true := by
        have := mt (bit_0 (show left < 2 ^ 31 by omega) (show k < 31 by omega)).mpr z
        simpa using this
      have l0 : left ≠ 0 := fun z => by
        rw [z, Nat.zero_testBit] at bk
        cases bk
      have hlo := lo_at (show left < 1024 by omega) bk hz
      obtain ⟨b, eb, hb⟩ := h9 left hl l0 hdom
      rw [hcl2, h91, eb] at e5
      subst e5
      have hclt := cand_lt (show left < 1024 by omega) hb.1.1
      have bb : b.testBit k = true := hlo ▸ hb.1.1.2.1
      refine sp_setBlock hK (by omega) (fun S9 hK9 g8 g9 g4 g10 => ?_)
      intro x3 e3 x4 e4
      rw [nI_clr hb.1.1.1] at e3
      rw [e3, e4]
      refine ⟨⟨hK9, g9.trans h91, g4.trans h41, left ^^^ b, k + 1, by omega, rfl, by omega, nI_1 k, fun j hj => ?_, Or.inr ?_, giv_step hg l0 (fun i hi => ?_) hb g10⟩, by
        have := mu_lt (show k < 10 by omega) (by omega)
        exact this⟩
      · rw [Nat.testBit_xor]
        by_cases e : j = k
        · rw [e, bk, bb]
          rfl
        · have hj2 := hz j (by omega)
          rw [hj2]
          cases y : b.testBit j
          · rfl
          · rw [sub_bit hb.1.1.1 y] at hj2
            cases hj2
      · rw [Nat.testBit_xor]
        by_cases e : k = 0
        · rw [← e, bk, bb]
          rfl
        · have hj2 := hz 0 (by omega)
          rw [hj2]
          cases y : b.testBit 0
          · rfl
          · rw [sub_bit hb.1.1.1 y] at hj2
            cases hj2
      · rw [all_bit]
        apply decide_eq_true
        apply Nat.lt_of_not_le
        intro hle
        rw [Nat.testBit_lt_two_pow (Nat.lt_of_lt_of_le hl (Nat.pow_le_pow_right (by omega) hle))] at hi
        cases hi
end
