/-! bits of small sets -/
theorem and2 {a b x y : Nat} (hx : x < 2) (hy : y < 2) : (2 * a + x) &&& (2 * b + y) = 2 * (a &&& b) + (x &&& y) := by
  have hxy : x &&& y < 2 := Nat.lt_of_le_of_lt Nat.and_le_left hx
  apply Nat.eq_of_testBit_eq
  intro i
  cases i with
  | zero =>
    rw [Nat.testBit_and, Nat.testBit_zero, Nat.testBit_zero, Nat.testBit_zero]
    have h1 : (2 * a + x) % 2 = x := by omega
    have h2 : (2 * b + y) % 2 = y := by omega
    have h3 : (2 * (a &&& b) + (x &&& y)) % 2 = x &&& y := by omega
    rw [h1, h2, h3]
    rcases (show x = 0 ∨ x = 1 by omega) with rfl | rfl <;> rcases (show y = 0 ∨ y = 1 by omega) with rfl | rfl <;> rfl
  | succ i =>
    rw [Nat.testBit_and, Nat.testBit_succ, Nat.testBit_succ, Nat.testBit_succ]
    have h1 : (2 * a + x) / 2 = a := by omega
    have h2 : (2 * b + y) / 2 = b := by omega
    have h3 : (2 * (a &&& b) + (x &&& y)) / 2 = a &&& b := by omega
    rw [h1, h2, h3, Nat.testBit_and]
theorem xor2 {a b x y : Nat} (hx : x < 2) (hy : y < 2) : (2 * a + x) ^^^ (2 * b + y) = 2 * (a ^^^ b) + (x ^^^ y) := by
  have hxy : x ^^^ y < 2 := Nat.xor_lt_two_pow (n := 1) hx hy
  apply Nat.eq_of_testBit_eq
  intro i
  cases i with
  | zero =>
    rw [Nat.testBit_xor, Nat.testBit_zero, Nat.testBit_zero, Nat.testBit_zero]
    have h1 : (2 * a + x) % 2 = x := by omega
    have h2 : (2 * b + y) % 2 = y := by omega
    have h3 : (2 * (a ^^^ b) + (x ^^^ y)) % 2 = x ^^^ y := by omega
    rw [h1, h2, h3]
    rcases (show x = 0 ∨ x = 1 by omega) with rfl | rfl <;> rcases (show y = 0 ∨ y = 1 by omega) with rfl | rfl <;> rfl
  | succ i =>
    rw [Nat.testBit_xor, Nat.testBit_succ, Nat.testBit_succ, Nat.testBit_succ]
    have h1 : (2 * a + x) / 2 = a := by omega
    have h2 : (2 * b + y) / 2 = b := by omega
    have h3 : (2 * (a ^^^ b) + (x ^^^ y)) / 2 = a ^^^ b := by omega
    rw [h1, h2, h3, Nat.testBit_xor]
theorem b01 {x : Nat} (h : x < 2) : x = 0 ∨ x = 1 := by omega
/-- a part of a set, halved -/
theorem sub2 {b s z y : Nat} (hz : z < 2) (hy : y < 2) (h : (2 * b + z) &&& (2 * s + y) = 2 * b + z) : b &&& s = b ∧ (z = 0 ∨ y = 1) := by
  rw [and2 hz hy] at h
  rcases b01 hz with rfl | rfl <;> rcases b01 hy with rfl | rfl
  · have : (0 : Nat) &&& 0 = 0 := rfl
    omega
  · have : (0 : Nat) &&& 1 = 0 := rfl
    omega
  · have : (1 : Nat) &&& 0 = 0 := rfl
    omega
  · have : (1 : Nat) &&& 1 = 1 := rfl
    omega
theorem split2 (n : Nat) : ∃ a x, x < 2 ∧ n = 2 * a + x := ⟨n / 2, n % 2, by omega, by omega⟩
/-- of the parts of s below part, (part - 1) & s is the greatest -/
theorem sub_prev : ∀ (w p b s : Nat), p < 2 ^ w → p &&& s = p → b &&& s = b → b < p → b ≤ (p - 1) &&& s := by
  intro w
  induction w with
  | zero => intro p b s hp _ _ hb; omega
  | succ w ih =>
    intro p b s hp h1 h2 hb
    obtain ⟨p', x, hx, rfl⟩ := split2 p
    obtain ⟨b', z, hz, rfl⟩ := split2 b
    obtain ⟨s', y, hy, rfl⟩ := split2 s
    obtain ⟨g1, g2⟩ := sub2 hx hy h1
    obtain ⟨g3, g4⟩ := sub2 hz hy h2
    rw [Nat.pow_succ] at hp
    rcases b01 hx with rfl | rfl
    · have hlt : b' < p' := by omega
      have := ih p' b' s' (by omega) g1 g3 hlt
      have e : 2 * p' + 0 - 1 = 2 * (p' - 1) + 1 := by omega
      rw [e, and2 (by omega) hy]
      have : (1 : Nat) &&& y = y := by rcases b01 hy with rfl | rfl <;> rfl
      omega
    · have e : 2 * p' + 1 - 1 = 2 * p' + 0 := by omega
      rw [e, and2 (by omega) hy, g1]
      omega
theorem xor_add : ∀ (w b s : Nat), s < 2 ^ w → b &&& s = b → (s ^^^ b) + b = s := by
  intro w
  induction w with
  | zero =>
    intro b s hs h
    have : s = 0 := by omega
    subst this
    rw [Nat.and_zero] at h
    subst h
    rfl
  | succ w ih =>
    intro b s hs h
    obtain ⟨b', z, hz, rfl⟩ := split2 b
    obtain ⟨s', y, hy, rfl⟩ := split2 s
    obtain ⟨g3, g4⟩ := sub2 hz hy h
    rw [Nat.pow_succ] at hs
    have := ih b' s' (by omega) g3
    rw [xor2 hy hz]
    rcases b01 hz with rfl | rfl <;> rcases b01 hy with rfl | rfl
    · have : (0 : Nat) ^^^ 0 = 0 := rfl
      omega
    · have : (1 : Nat) ^^^ 0 = 1 := rfl
      omega
    · omega
    · have : (1 : Nat) ^^^ 1 = 0 := rfl
      omega
/-- the i-th part of a set -/
def pd : Nat → Nat → Nat → Nat
  | 0, _, _ => 0
  | w + 1, o, i => if o % 2 = 1 then 2 * pd w (o / 2) (i / 2) + i % 2 else 2 * pd w (o / 2) i
def pc : Nat → Nat → Nat
  | 0, _ => 0
  | w + 1, o => o % 2 + pc w (o / 2)
theorem pd_sub : ∀ (w o i : Nat), pd w o i &&& o = pd w o i := by
  intro w
  induction w with
  | zero => intro o i; exact Nat.zero_and o
  | succ w ih =>
    intro o i
    obtain ⟨o', y, hy, rfl⟩ := split2 o
    unfold pd
    have e1 : (2 * o' + y) % 2 = y := by omega
    have e2 : (2 * o' + y) / 2 = o' := by omega
    rw [e1, e2]
    rcases b01 hy with rfl | rfl
    · rw [if_neg (by omega)]
      have := and2 (a := pd w o' i) (b := o') (x := 0) (y := 0) (by omega) (by omega)
      rw [ih] at this
      exact this
    · rw [if_pos rfl, and2 (by omega) (by omega), ih]
      rcases b01 (show i % 2 < 2 by omega) with h | h <;> rw [h] <;> rfl
theorem pd_lt : ∀ (w o i j : Nat), i < j → j < 2 ^ pc w o → pd w o i < pd w o j := by
  intro w
  induction w with
  | zero =>
    intro o i j h h2
    have h2 : j < 2 ^ 0 := h2
    omega
  | succ w ih =>
    intro o i j h h2
    obtain ⟨o', y, hy, rfl⟩ := split2 o
    unfold pd
    unfold pc at h2
    have e1 : (2 * o' + y) % 2 = y := by omega
    have e2 : (2 * o' + y) / 2 = o' := by omega
    rw [e1, e2] at h2 ⊢
    rcases b01 hy with rfl | rfl
    · rw [if_neg (by omega), if_neg (by omega)]
      rw [Nat.zero_add] at h2
      have := ih o' i j h h2
      omega
    · rw [if_pos rfl, if_pos rfl]
      rw [Nat.pow_add] at h2
      by_cases e : i / 2 = j / 2
      · rw [e]
        omega
      · have := ih o' (i / 2) (j / 2) (by omega) (by omega)
        omega
theorem pd_sur : ∀ (w o b : Nat), o < 2 ^ w → b &&& o = b → ∃ i, i < 2 ^ pc w o ∧ pd w o i = b := by
  intro w
  induction w with
  | zero =>
    intro o b ho h
    have : o = 0 := by omega
    subst this
    rw [Nat.and_zero] at h
    subst h
    exact ⟨0, Nat.lt_succ_self 0, rfl⟩
  | succ w ih =>
    intro o b ho h
    obtain ⟨o', y, hy, rfl⟩ := split2 o
    obtain ⟨b', z, hz, rfl⟩ := split2 b
    obtain ⟨g3, g4⟩ := sub2 hz hy h
    rw [Nat.pow_succ] at ho
    obtain ⟨i, hi, ei⟩ := ih o' b' (by omega) g3
    unfold pd pc
    have e1 : (2 * o' + y) % 2 = y := by omega
    have e2 : (2 * o' + y) / 2 = o' := by omega
    rw [e1, e2]
    rcases b01 hy with rfl | rfl
    · rw [Nat.zero_add]
      refine ⟨i, hi, ?_⟩
      rw [if_neg (by omega), ei]
      omega
    · refine ⟨2 * i + z, ?_, ?_⟩
      · rw [Nat.pow_add]
        omega
      · rw [if_pos rfl]
        have e3 : (2 * i + z) / 2 = i := by omega
        have e4 : (2 * i + z) % 2 = z := by omega
        rw [e3, e4, ei]
theorem pd_keep : ∀ (w W e o : Nat), o < 2 ^ w → w ≤ W → e &&& o = e → (e + (2 ^ W - 1 - o)) &&& o = e := by
  intro w
  induction w with
  | zero =>
    intro W e o ho _ h
    have : o = 0 := by omega
    subst this
    rw [Nat.and_zero] at h
    rw [Nat.and_zero]
    exact h
  | succ w ih =>
    intro W e o ho hW h
    obtain ⟨o', y, hy, rfl⟩ := split2 o
    obtain ⟨e', z, hz, rfl⟩ := split2 e
    obtain ⟨g3, g4⟩ := sub2 hz hy h
    obtain ⟨V, rfl⟩ : ∃ V, W = V + 1 := ⟨W - 1, by omega⟩
    rw [Nat.pow_succ] at ho
    have hle : 2 ^ w ≤ 2 ^ V := Nat.pow_le_pow_right (by omega) (by omega)
    have i1 := ih V e' o' (by omega) (by omega) g3
    rw [Nat.pow_succ]
    rcases b01 hz with rfl | rfl <;> rcases b01 hy with rfl | rfl
    · have e1 : 2 * e' + 0 + (2 ^ V * 2 - 1 - (2 * o' + 0)) = 2 * (e' + (2 ^ V - 1 - o')) + 1 := by omega
      rw [e1, and2 (by omega) (by omega), i1]
      rfl
    · have e1 : 2 * e' + 0 + (2 ^ V * 2 - 1 - (2 * o' + 1)) = 2 * (e' + (2 ^ V - 1 - o')) + 0 := by omega
      rw [e1, and2 (by omega) (by omega), i1]
      rfl
    · omega
    · have e1 : 2 * e' + 1 + (2 ^ V * 2 - 1 - (2 * o' + 1)) = 2 * (e' + (2 ^ V - 1 - o')) + 1 := by omega
      rw [e1, and2 (by omega) (by omega), i1]
      rfl
theorem pd_next : ∀ (w W o i : Nat), o < 2 ^ w → w ≤ W → i + 1 < 2 ^ pc w o → (pd w o i + (2 ^ W - o)) &&& o = pd w o (i + 1) := by
  intro w
  induction w with
  | zero =>
    intro W o i ho _ h
    have h : i + 1 < 2 ^ 0 := h
    omega
  | succ w ih =>
    intro W o i ho hW h
    obtain ⟨o', y, hy, rfl⟩ := split2 o
    obtain ⟨V, rfl⟩ : ∃ V, W = V + 1 := ⟨W - 1, by omega⟩
    rw [Nat.pow_succ] at ho
    have hle : 2 ^ w ≤ 2 ^ V := Nat.pow_le_pow_right (by omega) (by omega)
    unfold pd
    unfold pc at h
    have e1 : (2 * o' + y) % 2 = y := by omega
    have e2 : (2 * o' + y) / 2 = o' := by omega
    rw [e1, e2] at h ⊢
    rw [Nat.pow_succ]
    rcases b01 hy with rfl | rfl
    · rw [if_neg (by omega), if_neg (by omega)]
      rw [Nat.zero_add] at h
      have i1 := ih V o' i (by omega) (by omega) h
      have e3 : 2 * pd w o' i + (2 ^ V * 2 - (2 * o' + 0)) = 2 * (pd w o' i + (2 ^ V - o')) + 0 := by omega
      rw [e3, and2 (by omega) (by omega), i1]
      rfl
    · rw [if_pos rfl, if_pos rfl]
      rw [Nat.pow_add] at h
      rcases b01 (show i % 2 < 2 by omega) with hx | hx
      · have e3 : (i + 1) / 2 = i / 2 := by omega
        have e4 : (i + 1) % 2 = 1 := by omega
        rw [hx, e3, e4]
        have i1 := pd_keep w V (pd w o' (i / 2)) o' (by omega) (by omega) (pd_sub w o' (i / 2))
        have e5 : 2 * pd w o' (i / 2) + 0 + (2 ^ V * 2 - (2 * o' + 1)) = 2 * (pd w o' (i / 2) + (2 ^ V - 1 - o')) + 1 := by omega
        rw [e5, and2 (by omega) (by omega), i1]
        rfl
      · have e3 : (i + 1) / 2 = i / 2 + 1 := by omega
        have e4 : (i + 1) % 2 = 0 := by omega
        rw [hx, e3, e4]
        have i1 := ih V o' (i / 2) (by omega) (by omega) (by omega)
        have e5 : 2 * pd w o' (i / 2) + 1 + (2 ^ V * 2 - (2 * o' + 1)) = 2 * (pd w o' (i / 2) + (2 ^ V - o')) + 0 := by omega
        rw [e5, and2 (by omega) (by omega), i1]
        rfl
/-! the same in ints -/
theorem nI_bv (a : Nat) : (nI a).toBitVec = BitVec.ofNat 32 a := rfl
theorem nI_and (a b : Nat) : nI a &&& nI b = nI (a &&& b) := by
  apply Int32.toBitVec_inj.mp
  show BitVec.ofNat 32 a &&& BitVec.ofNat 32 b = BitVec.ofNat 32 (a &&& b)
  apply BitVec.eq_of_getLsbD_eq
  intro i hi
  simp [BitVec.getLsbD_ofNat, hi]
theorem nI_xor (a b : Nat) : nI a ^^^ nI b = nI (a ^^^ b) := by
  apply Int32.toBitVec_inj.mp
  show BitVec.ofNat 32 a ^^^ BitVec.ofNat 32 b = BitVec.ofNat 32 (a ^^^ b)
  apply BitVec.eq_of_getLsbD_eq
  intro i hi
  simp [BitVec.getLsbD_ofNat, hi]
theorem nI_or (a b : Nat) : nI a ||| nI b = nI (a ||| b) := by
  apply Int32.toBitVec_inj.mp
  show BitVec.ofNat 32 a ||| BitVec.ofNat 32 b = BitVec.ofNat 32 (a ||| b)
  apply BitVec.eq_of_getLsbD_eq
  intro i hi
  simp [BitVec.getLsbD_ofNat, hi]
theorem nI_andNot (a b : Nat) : nI a &&& (nI b ^^^ -1) = nI (a ^^^ (a &&& b)) := by
  apply Int32.toBitVec_inj.mp
  show BitVec.ofNat 32 a &&& (BitVec.ofNat 32 b ^^^ BitVec.allOnes 32) = BitVec.ofNat 32 (a ^^^ (a &&& b))
  apply BitVec.eq_of_getLsbD_eq
  intro i hi
  simp only [BitVec.getLsbD_and, BitVec.getLsbD_xor, BitVec.getLsbD_ofNat, BitVec.getLsbD_allOnes, Nat.testBit_xor, Nat.testBit_and, hi, decide_true, Bool.true_and]
  cases a.testBit i <;> cases b.testBit i <;> rfl
theorem nI_clr {a b : Nat} (h : b &&& a = b) : nI a &&& (nI b ^^^ -1) = nI (a ^^^ b) := by
  rw [nI_andNot, Nat.and_comm a b, h]
theorem nI_smod : ∀ k, k < 31 → ((nI k &&& 31).toBitVec.smod 32).toNat = k := by decide +kernel
theorem nI_bit {s k : Nat} (hs : s < 2 ^ 31) (hk : k < 31) : (nI s >>> (nI k &&& 31)) &&& 1 = if s.testBit k = true then 1 else 0 := by
  rw [pk_shrN hs _ k (nI_smod k hk), pk_andN (by have := Nat.div_le_self s (2 ^ k); omega) 1 (by decide), Nat.testBit_eq_decide_div_mod_eq]
  by_cases h : s / 2 ^ k % 2 = 1
  · have e : s / 2 ^ k % 2 ^ 1 = 1 := h
    rw [e]
    rfl
  · have e : s / 2 ^ k % 2 ^ 1 = 0 := by
      show s / 2 ^ k % 2 = 0
      omega
    skip
    rw [e]
    rfl
theorem bit_0 {s k : Nat} (hs : s < 2 ^ 31) (hk : k < 31) : (nI s >>> (nI k &&& 31)) &&& 1 = 0 ↔ s.testBit k = false := by
  rw [nI_bit hs hk]
  cases s.testBit k
  · exact ⟨fun _ => rfl, fun _ => if_neg (by decide)⟩
  · exact ⟨fun h => absurd (h : (1 : Int32) = 0) (by decide), fun h => absurd h (by decide)⟩
theorem bit_1 {s k : Nat} (hs : s < 2 ^ 31) (hk : k < 31) : (nI s >>> (nI k &&& 31)) &&& 1 = 1 ↔ s.testBit k = true := by
  rw [nI_bit hs hk]
  cases s.testBit k
  · exact ⟨fun h => absurd (h : (0 : Int32) = 1) (by decide), fun h => absurd h (by decide)⟩
  · exact ⟨fun _ => rfl, fun _ => if_pos rfl⟩
theorem nI_shl1 : ∀ k, k < 15 → (1 : Int32) <<< (nI k &&& 31) = nI (2 ^ k) := by decide +kernel
theorem nI_dif (a b : Nat) (h : b ≤ a) : nI a - nI b = nI (a - b) := by
  have e : nI (a - b) + nI b = nI a := by rw [nI_plus]; congr 1; omega
  rw [← e]
  have : ∀ x y : Int32, x + y - y = x := fun x y => by simp
  exact this _ _
theorem nI_wrap (a : Nat) : nI (a + 2 ^ 32) = nI a := by
  apply Int32.toBitVec_inj.mp
  show BitVec.ofNat 32 (a + 2 ^ 32) = BitVec.ofNat 32 a
  apply BitVec.eq_of_toNat_eq
  simp
theorem nI_next {e o : Nat} (h : o ≤ 2 ^ 32) : (nI e - nI o) &&& nI o = nI ((e + (2 ^ 32 - o)) &&& o) := by
  have e1 : nI e - nI o = nI (e + (2 ^ 32 - o)) := by
    rw [← nI_wrap e, nI_dif _ _ (by omega)]
    congr 1
    omega
  rw [e1, nI_and]
theorem lo_spec : ∀ s, s < 1024 → s ≠ 0 → lo s < 10 ∧ s.testBit (lo s) = true ∧ (∀ j, j < lo s → s.testBit j = false) ∧ nI s &&& -nI s = nI (2 ^ lo s) ∧ nI s &&& (nI s - 1) = nI (s ^^^ 2 ^ lo s) ∧ 2 ^ lo s &&& s = 2 ^ lo s ∧ pc 10 (s ^^^ 2 ^ lo s) + 1 = pc 10 s := by decide +kernel
theorem pc_0 : ∀ s, s < 1024 → pc 10 s = 0 → s = 0 := by decide +kernel
theorem pc_le : ∀ s, s < 1024 → pc 10 s ≤ 10 := by decide +kernel
def bcnt (a0 : Int32) : Int32 :=
  let x1 := (a0 - ((((Int32.toUInt32 a0) >>> ((Int32.toUInt32 1) &&& Int32.toUInt32 31)).toInt32) &&& 1431655765))
  let x2 := ((x1 &&& 858993459) + ((((Int32.toUInt32 x1) >>> ((Int32.toUInt32 2) &&& Int32.toUInt32 31)).toInt32) &&& 858993459))
  let x3 := ((x2 + (((Int32.toUInt32 x2) >>> ((Int32.toUInt32 4) &&& Int32.toUInt32 31)).toInt32)) &&& 252645135)
  let x4 := (x3 + (((Int32.toUInt32 x3) >>> ((Int32.toUInt32 8) &&& Int32.toUInt32 31)).toInt32))
  let x5 := (x4 + (((Int32.toUInt32 x4) >>> ((Int32.toUInt32 16) &&& Int32.toUInt32 31)).toInt32))
  x5 &&& 63
theorem sp_bcnt {a : Int32} {S : Sg} {Q : Int32 → Sg → Prop} (h : Q (bcnt a) S) : wp_J6_bitCount_0f7a4 a S Q := by
  intro x1 e1 x2 e2 x3 e3 x4 e4 x5 e5
  subst e1
  subst e2
  subst e3
  subst e4
  subst e5
  exact h
theorem bcnt_pc : ∀ o, o < 1024 → bcnt (nI o) = nI (pc 10 o) := by decide +kernel
