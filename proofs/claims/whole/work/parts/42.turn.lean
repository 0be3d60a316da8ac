/-! one turning for a set of marks -/
theorem o64_toInt {a : Int} (h : a.natAbs ≤ 4611686018427387904) : (Int64.ofInt a).toInt = a := by
  rw [Int64.toInt_ofInt]
  exact Int.bmod_eq_of_le (by show -((2 : Int) ^ 64 / 2) ≤ a; omega) (by show a < ((2 : Int) ^ 64 + 1) / 2; omega)
theorem o64_inj {a b : Int} (ha : a.natAbs ≤ 4611686018427387904) (hb : b.natAbs ≤ 4611686018427387904) : Int64.ofInt a = Int64.ofInt b ↔ a = b := by
  refine ⟨fun h => ?_, fun h => by rw [h]⟩
  have := congrArg Int64.toInt h
  rw [o64_toInt ha, o64_toInt hb] at this
  exact this
theorem o64_0 {a : Int} (ha : a.natAbs ≤ 4611686018427387904) : Int64.ofInt a = 0 ↔ a = 0 := o64_inj (b := 0) ha (by decide)
theorem mulB {a b : Int} {A B C : Nat} (ha : a.natAbs ≤ A) (hb : b.natAbs ≤ B) (hC : A * B = C) : (a * b).natAbs ≤ C := by
  rw [Int.natAbs_mul, ← hC]
  exact Nat.mul_le_mul ha hb
theorem e64m {a b c d : Int} {A B : Nat} (ha : a.natAbs ≤ 200000) (hb : b.natAbs ≤ 8000000) (hc : c.natAbs ≤ 800000000) (hd : d.natAbs ≤ 200000) : (Int64.ofInt a * Int64.ofInt b = Int64.ofInt c * Int64.ofInt d ↔ a * b = c * d) ∧ (Int64.ofInt a * Int64.ofInt b = -Int64.ofInt c * Int64.ofInt d ↔ a * b = -c * d) := by
  have h1 := mulB ha hb rfl
  have h2 := mulB hc hd rfl
  have h3 : ((-c) * d).natAbs ≤ 800000000 * 200000 := mulB (by omega) hd rfl
  rw [← Int64.ofInt_neg, ← Int64.ofInt_mul, ← Int64.ofInt_mul, ← Int64.ofInt_mul]
  exact ⟨o64_inj (by omega) (by omega), o64_inj (by omega) (by omega)⟩
theorem dif64 {a b : Int32} {M : Int} (ha : btw a M) (hb : btw b M) (hM : M ≤ 100000) : Int32.toInt64 (a - b) = Int64.ofInt (a.toInt - b.toInt) := by
  unfold btw at ha hb
  apply Int64.toInt_inj.mp
  rw [o64_toInt (by omega), Int32.toInt_toInt64, Int32.toInt_sub]
  exact Int.bmod_eq_of_le (by omega) (by omega)
def dI (f : Nat → Int32) (j i : Nat) : Int := (f j).toInt - (f i).toInt
/-- what p and q, found from the marks of s below k, tell -/
def PR (n : Nat) (X Y U V : Nat → Int32) (s f k : Nat) (p q : Int) : Prop :=
  (q = 0 → p = 0 ∧ ∀ j, j < k → j < n → s.testBit j = true → dI X j f = 0 ∧ dI Y j f = 0 ∧ dI U j f = 0 ∧ dI V j f = 0) ∧
  (q ≠ 0 → (∀ j, j < k → j < n → s.testBit j = true → dI U j f * q = -p * dI Y j f ∧ dI V j f * q = p * dI X j f) ∧ ∀ P Q : Int, (∀ j, j < n → s.testBit j = true → dI U j f * Q = -P * dI Y j f ∧ dI V j f * Q = P * dI X j f) → p * Q = P * q)
theorem PR_end {n : Nat} {X Y : Nat → Int32} {V : Nat → Nat → Int32} {s f k : Nat} {p q : Int} (hk : n ≤ k) (h : PR n X Y (fun k => V k 0) (fun k => V k 1) s f k p q) : BK n X Y V s := by
  by_cases hq : q = 0
  · obtain ⟨hp, h1⟩ := h.1 hq
    refine ⟨0, 1, by decide, fun i j hi hj bi bj => ?_⟩
    obtain ⟨a1, a2, a3, a4⟩ := h1 i (by omega) hi bi
    obtain ⟨c1, c2, c3, c4⟩ := h1 j (by omega) hj bj
    unfold dI at a1 a2 a3 a4 c1 c2 c3 c4
    dsimp only at a1 a2 a3 a4 c1 c2 c3 c4
    constructor <;> omega
  · obtain ⟨h1, -⟩ := h.2 hq
    refine ⟨p, q, hq, fun i j hi hj bi bj => ?_⟩
    obtain ⟨a1, a2⟩ := h1 i (by omega) hi bi
    obtain ⟨c1, c2⟩ := h1 j (by omega) hj bj
    unfold dI at a1 a2 c1 c2
    constructor <;> grind
def okT (dx dy du dv p q : Int) : Prop := (q = 0 → du = 0 ∧ dv = 0) ∧ (q ≠ 0 → du * q = -p * dy ∧ dv * q = p * dx)
theorem PR_step {n : Nat} {X Y : Nat → Int32} {V : Nat → Nat → Int32} {s f k : Nat} {p q p' q' : Int} (h : PR n X Y (fun k => V k 0) (fun k => V k 1) s f k p q) (hk : k < n) (hf : f < n) (bk : s.testBit k = true) (bf : s.testBit f = true)
    (hn : (q ≠ 0 ∧ p' = p ∧ q' = q) ∨ (q = 0 ∧ dI X k f = 0 ∧ dI Y k f = 0 ∧ p' = 0 ∧ q' = 0) ∨ (q = 0 ∧ q' ≠ 0 ∧ ∀ P Q : Int, dI (fun k => V k 0) k f * Q = -P * dI Y k f → dI (fun k => V k 1) k f * Q = P * dI X k f → p' * Q = P * q')) :
    (okT (dI X k f) (dI Y k f) (dI (fun k => V k 0) k f) (dI (fun k => V k 1) k f) p' q' → PR n X Y (fun k => V k 0) (fun k => V k 1) s f (k + 1) p' q') ∧ (¬ okT (dI X k f) (dI Y k f) (dI (fun k => V k 0) k f) (dI (fun k => V k 1) k f) p' q' → ¬ BK n X Y V s) := by
  have huni : q' ≠ 0 → ∀ P Q : Int, (∀ j, j < n → s.testBit j = true → dI (fun k => V k 0) j f * Q = -P * dI Y j f ∧ dI (fun k => V k 1) j f * Q = P * dI X j f) → p' * Q = P * q' := by
    intro hq' P Q hall
    rcases hn with ⟨h0, rfl, rfl⟩ | ⟨-, -, -, -, h0⟩ | ⟨-, -, hu⟩
    · exact (h.2 h0).2 P Q hall
    · exact absurd h0 hq'
    · exact hu P Q (hall k hk bk).1 (hall k hk bk).2
  refine ⟨fun ok => ⟨fun h0 => ?_, fun h0 => ⟨fun j hj hjn bj => ?_, huni h0⟩⟩, fun nok hB => nok ?_⟩
  · rcases hn with ⟨h1, rfl, rfl⟩ | ⟨h1, h2, h3, rfl, -⟩ | ⟨-, h1, -⟩
    · exact absurd h0 h1
    · refine ⟨rfl, fun j hj hjn bj => ?_⟩
      by_cases e : j = k
      · subst e
        exact ⟨h2, h3, ok.1 h0⟩
      · exact (h.1 h1).2 j (by omega) hjn bj
    · exact absurd h0 h1
  · by_cases e : j = k
    · subst e
      exact ok.2 h0
    · rcases hn with ⟨h1, rfl, rfl⟩ | ⟨h1, h2, h3, rfl, h4⟩ | ⟨h1, -, -⟩
      · exact (h.2 h1).1 j (by omega) hjn bj
      · exact absurd h4 h0
      · obtain ⟨a1, a2, a3, a4⟩ := (h.1 h1).2 j (by omega) hjn bj
        rw [a1, a2, a3, a4]
        constructor <;> omega
  · obtain ⟨P, Q, hQ, hall⟩ := hB
    have hall' : ∀ j, j < n → s.testBit j = true → dI (fun k => V k 0) j f * Q = -P * dI Y j f ∧ dI (fun k => V k 1) j f * Q = P * dI X j f := fun j hj bj => hall f j hf hj bf bj
    obtain ⟨g1, g2⟩ := hall' k hk bk
    refine ⟨fun h0 => ?_, fun h0 => ?_⟩
    · rcases hn with ⟨h1, rfl, rfl⟩ | ⟨h1, h2, h3, rfl, -⟩ | ⟨-, h1, -⟩
      · exact absurd h0 h1
      · rw [h3, Int.mul_zero] at g1
        rw [h2, Int.mul_zero] at g2
        exact ⟨(Int.mul_eq_zero.mp g1).resolve_right hQ, (Int.mul_eq_zero.mp g2).resolve_right hQ⟩
      · exact absurd h0 h1
    · have hu := huni h0 P Q hall'
      constructor
      · apply Int.eq_of_mul_eq_mul_right hQ
        grind
      · apply Int.eq_of_mul_eq_mul_right hQ
        grind
theorem PR_0 {n : Nat} {X Y U V : Nat → Int32} {s k : Nat} (h : ∀ j, j < k → j < n → s.testBit j = false) : PR n X Y U V s k k 0 0 :=
  ⟨fun _ => ⟨rfl, fun j hj hjn bj => by rw [h j hj hjn] at bj; cases bj⟩, fun h => absurd rfl h⟩
theorem PR_lo {n : Nat} {X Y U V : Nat → Int32} {s f : Nat} (h : ∀ j, j < f → s.testBit j = false) : PR n X Y U V s f (f + 1) 0 0 := by
  refine ⟨fun _ => ⟨rfl, fun j hj hjn bj => ?_⟩, fun h => absurd rfl h⟩
  by_cases e : j = f
  · subst e
    unfold dI
    omega
  · rw [h j (by omega)] at bj
    cases bj
theorem sq0 {a b : Int} (h : a * a + b * b = 0) : a = 0 ∧ b = 0 := by
  have hs : ∀ x : Int, 0 ≤ x * x := fun x => (Int.le_total 0 x).elim (fun h => Int.mul_nonneg h h) (fun h => Int.mul_nonneg_of_nonpos_of_nonpos h h)
  have h1 := hs a
  have h2 := hs b
  have e1 : a * a = 0 := by omega
  have e2 : b * b = 0 := by omega
  exact ⟨(Int.mul_eq_zero.mp e1).elim id id, (Int.mul_eq_zero.mp e2).elim id id⟩
def bdP (n : Nat) (X Y : Nat → Int32) (V : Nat → Nat → Int32) : Prop := ∀ k, k < n → btw (X k) 1000 ∧ btw (Y k) 1000 ∧ btw (V k 0) 100000 ∧ btw (V k 1) 100000
theorem bd_dif {n : Nat} {X Y : Nat → Int32} {V : Nat → Nat → Int32} (h : bdP n X Y V) {j f : Nat} (hj : j < n) (hf : f < n) : (dI X j f).natAbs ≤ 2000 ∧ (dI Y j f).natAbs ≤ 2000 ∧ (dI (fun k => V k 0) j f).natAbs ≤ 200000 ∧ (dI (fun k => V k 1) j f).natAbs ≤ 200000 ∧ Int32.toInt64 (X j - X f) = Int64.ofInt (dI X j f) ∧ Int32.toInt64 (Y j - Y f) = Int64.ofInt (dI Y j f) ∧ Int32.toInt64 (V j 0 - V f 0) = Int64.ofInt (dI (fun k => V k 0) j f) ∧ Int32.toInt64 (V j 1 - V f 1) = Int64.ofInt (dI (fun k => V k 1) j f) := by
  obtain ⟨a1, a2, a3, a4⟩ := h j hj
  obtain ⟨c1, c2, c3, c4⟩ := h f hf
  refine ⟨?_, ?_, ?_, ?_, dif64 a1 c1 (by omega), dif64 a2 c2 (by omega), dif64 a3 c3 (by omega), dif64 a4 c4 (by omega)⟩
  all_goals unfold dI
  all_goals try dsimp only
  all_goals unfold btw at a1 a2 a3 a4 c1 c2 c3 c4
  all_goals omega
