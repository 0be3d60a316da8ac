/-! Euclid's steps -/
def eu : Nat → Int64 → Int64 → Int64
  | 0, p, _ => p
  | f + 1, p, q => if q = 0 then p else eu f q (p - p / q * q)
def er : Nat → Int64 → Int64 → Prop
  | 0, _, q => q = 0
  | f + 1, p, q => q = 0 ∨ er f q (p - p / q * q)
theorem rem64_toInt (p q : Int64) : (p - p / q * q).toInt = p.toInt.tmod q.toInt := by
  rw [Int64.toInt_sub, Int64.toInt_mul, Int64.toInt_div, Int.bmod_mul_bmod, Int.sub_bmod_bmod]
  have e : p.toInt - p.toInt.tdiv q.toInt * q.toInt = p.toInt.tmod q.toInt := by
    rw [Int.tmod_def, Int.mul_comm]
  rw [e]
  have h1 : (p.toInt.tmod q.toInt).natAbs = p.toInt.natAbs % q.toInt.natAbs := Int.natAbs_tmod _ _
  have h2 := Nat.mod_le p.toInt.natAbs q.toInt.natAbs
  have h3 := p.le_toInt
  have h4 := p.toInt_lt
  have h5 : 0 ≤ p.toInt → 0 ≤ p.toInt.tmod q.toInt := fun h => Int.tmod_nonneg _ h
  have h6 : p.toInt ≤ 0 → p.toInt.tmod q.toInt ≤ 0 := fun h => by
    have := Int.tmod_nonneg q.toInt (a := -p.toInt) (by omega)
    rw [Int.neg_tmod] at this
    omega
  apply Int.bmod_eq_of_le
  · omega
  · omega
theorem er_mono {f g : Nat} (h : f ≤ g) : ∀ p q : Int64, er f p q → er g p q := by
  induction f generalizing g with
  | zero =>
    intro p q hq
    cases g with
    | zero => exact hq
    | succ g => exact Or.inl hq
  | succ f ih =>
    intro p q hq
    cases g with
    | zero => omega
    | succ g =>
      rcases hq with hq | hq
      · exact Or.inl hq
      · exact Or.inr (ih (by omega) _ _ hq)
theorem i64_natAbs {q : Int64} : q.toInt.natAbs = 0 ↔ q = 0 := by
  constructor
  · intro h
    apply Int64.toInt_inj.mp
    have z : (0 : Int64).toInt = 0 := by decide
    omega
  · intro h
    subst h
    decide
theorem er_of (n : Nat) : ∀ p q : Int64, q.toInt.natAbs < 2 ^ n → er (2 * n + 1) p q := by
  induction n with
  | zero =>
    intro p q h
    exact Or.inl (i64_natAbs.mp (by omega))
  | succ n ih =>
    intro p q h
    by_cases hq : q = 0
    · exact Or.inl hq
    refine Or.inr ?_
    generalize hr : p - p / q * q = r
    have h1 : r.toInt.natAbs = p.toInt.natAbs % q.toInt.natAbs := by
      rw [← hr, rem64_toInt, Int.natAbs_tmod]
    have hq0 : 0 < q.toInt.natAbs := Nat.pos_of_ne_zero (fun e => hq (i64_natAbs.mp e))
    have h2 : r.toInt.natAbs < q.toInt.natAbs := by
      rw [h1]
      exact Nat.mod_lt _ hq0
    by_cases hr0 : r = 0
    · exact er_mono (f := 0) (by omega) q r hr0
    show er (2 * n + 1 + 1) q r
    refine Or.inr (ih r _ ?_)
    have h3 : (q - q / r * r).toInt.natAbs = q.toInt.natAbs % r.toInt.natAbs := by
      rw [rem64_toInt, Int.natAbs_tmod]
    rw [h3]
    have hr1 : 0 < r.toInt.natAbs := Nat.pos_of_ne_zero (fun e => hr0 (i64_natAbs.mp e))
    have h4 := Nat.div_add_mod q.toInt.natAbs r.toInt.natAbs
    have h5 : 0 < q.toInt.natAbs / r.toInt.natAbs := Nat.div_pos (by omega) hr1
    have h6 : r.toInt.natAbs ≤ r.toInt.natAbs * (q.toInt.natAbs / r.toInt.natAbs) := Nat.le_mul_of_pos_right _ h5
    have h7 := Nat.mod_lt q.toInt.natAbs hr1
    have h8 : (2 : Nat) ^ (n + 1) = 2 * 2 ^ n := by rw [Nat.pow_succ, Nat.mul_comm]
    omega
theorem er_1000 (p q : Int64) : er 1000 p q := by
  refine er_mono (f := 2 * 64 + 1) (by omega) p q (er_of 64 p q ?_)
  have h3 := q.le_toInt
  have h4 := q.toInt_lt
  omega
theorem eu_ne {f : Nat} : ∀ p q : Int64, er f p q → (¬ p = 0 ∨ ¬ q = 0) → ¬ eu f p q = 0 := by
  induction f with
  | zero =>
    intro p q h hn
    exact hn.resolve_right (fun z => z h)
  | succ f ih =>
    intro p q h hn
    show ¬ (if q = 0 then p else eu f q (p - p / q * q)) = 0
    by_cases hq : q = 0
    · rw [if_pos hq]
      exact hn.resolve_right (fun z => z hq)
    · rw [if_neg hq]
      exact ih _ _ (h.resolve_left hq) (Or.inl hq)
theorem sp_divisor {S : Sg} {a b : Int64} {Q : Int64 → Sg → Prop} (hq : Q (eu 1000 a b) S) : wp_X9_greatestDivisor a b S Q := by
  refine ⟨fun v4 v6 v8 S1 => S1 = S ∧ ∃ i, i ≤ 1000 ∧ v8 = nI i ∧ eu (1000 - i) v4 v6 = eu 1000 a b, fun _ _ v8 _ => 1000 - v8.toNatClampNeg, ⟨rfl, 0, by omega, rfl, rfl⟩, ?_⟩
  rintro v4 v6 v8 S1 ⟨rfl, i, hi, rfl, he⟩
  refine ⟨fun q => ?_, fun q => ?_⟩
  · have h1 : 1000 ≤ i := (le_nI (a := 1000) (by omega) (by omega)).mp q
    have : i = 1000 := by omega
    subst this
    rw [← he] at hq
    exact hq
  · have h1 : i < 1000 := by
      have := mt (le_nI (a := 1000) (b := i) (by omega) (by omega)).mpr q
      omega
    obtain ⟨f, hf⟩ : ∃ f, 1000 - i = f + 1 := ⟨999 - i, by omega⟩
    rw [hf] at he
    have he : (if v6 = 0 then v4 else eu f v6 (v4 - v4 / v6 * v6)) = eu 1000 a b := he
    refine ⟨fun q0 => ?_, fun q0 => ⟨q0, fun x ex y ey => ?_⟩⟩
    · rw [if_pos q0] at he
      rw [← he] at hq
      exact hq
    · subst ex ey
      rw [if_neg q0] at he
      refine ⟨⟨rfl, i + 1, by omega, nI_1 i, ?_⟩, mu_lt h1 (by omega)⟩
      rw [show 1000 - (i + 1) = f by omega]
      exact he
theorem rf_divisor {S : Sg} {a b A B : Int64} (hA : A = if 0 ≤ a then a else -a) (hB : B = if 0 ≤ b then b else -b) {Q : Int64 → Sg → Prop} (hq : Q (eu 1000 A B) S) : wp_X10_divisor a b S Q := by
  have key : ∀ S2 : Sg, S2 = S → (∃ (I_3 : Int64 → Int64 → Sg → Prop) (μ_3 : Int64 → Int64 → Sg → Nat), I_3 A B S2 ∧ ∀ (v5_3 : Int64) (v7_3 : Int64) (S_3 : Sg), I_3 v5_3 v7_3 S_3 → ((v7_3 = 0 → Q v5_3 S_3) ∧ (¬ v7_3 = 0 → ((¬ v7_3 = 0) ∧ (∀ x9_6 : Int64, x9_6 = (v5_3 - v5_3 / v7_3 * v7_3) → (I_3 v7_3 x9_6 S_3 ∧ μ_3 v7_3 x9_6 S_3 < μ_3 v5_3 v7_3 S_3)))))) := by
    rintro S2 rfl
    refine ⟨fun p q S1 => S1 = S2 ∧ ∃ f, er f p q ∧ eu f p q = eu 1000 A B, fun _ q _ => q.toInt.natAbs, ⟨rfl, 1000, er_1000 _ _, rfl⟩, ?_⟩
    rintro p q S1 ⟨rfl, f, h1, h2⟩
    refine ⟨fun q0 => ?_, fun q0 => ⟨q0, fun x ex => ?_⟩⟩
    · have : eu f p q = p := by
        cases f with
        | zero => rfl
        | succ f => exact if_pos q0
      rw [← h2, this] at hq
      exact hq
    · subst ex
      cases f with
      | zero => exact absurd h1 q0
      | succ f =>
        have h3 : eu f q (p - p / q * q) = eu 1000 A B := by
          have : (if q = 0 then p else eu f q (p - p / q * q)) = eu 1000 A B := h2
          rw [if_neg q0] at this
          exact this
        refine ⟨⟨rfl, f, h1.resolve_left q0, h3⟩, ?_⟩
        show (p - p / q * q).toInt.natAbs < q.toInt.natAbs
        rw [rem64_toInt, Int.natAbs_tmod]
        exact Nat.mod_lt _ (Nat.pos_of_ne_zero (fun e => q0 (i64_natAbs.mp e)))
  refine ⟨fun t S1 => t = A ∧ S1 = S, ?_, fun h => ?_, fun h => ?_⟩
  · rintro t S1 ⟨rfl, rfl⟩
    refine ⟨fun t2 S2 => t2 = B ∧ S2 = S1, ?_, fun h => ?_, fun h => ?_⟩
    · rintro t2 S2 ⟨rfl, rfl⟩
      exact key S2 rfl
    · rw [if_pos h] at hB
      exact ⟨hB.symm, rfl⟩
    · rw [if_neg h] at hB
      exact ⟨hB.symm, rfl⟩
  · rw [if_pos h] at hA
    exact ⟨hA.symm, rfl⟩
  · rw [if_neg h] at hA
    exact ⟨hA.symm, rfl⟩
theorem abs_eq (a : Int64) : (if 0 < a then a else -a) = if 0 ≤ a then a else -a := by
  by_cases h : 0 ≤ a
  · rw [if_pos h]
    by_cases h2 : 0 < a
    · rw [if_pos h2]
    · rw [if_neg h2]
      have : a = 0 := by
        rw [Int64.le_iff_toInt_le] at h
        rw [Int64.lt_iff_toInt_lt] at h2
        apply Int64.toInt_inj.mp
        omega
      subst this
      decide
  · rw [if_neg h, if_neg (fun z => h (Int64.le_of_lt z))]
theorem neg_ne {d : Int64} (h : ¬ d = 0) : ¬ -d = 0 := fun e => h (by
  have : - -d = -(0 : Int64) := by rw [e]
  rw [Int64.neg_neg] at this
  rw [this]
  decide)
theorem abs_ne {b : Int64} (h : ¬ b = 0) : ¬ (if 0 ≤ b then b else -b) = 0 := by
  split
  · exact h
  · exact neg_ne h
/-- a fraction in its lowest terms: its upper or its lower number -/
def lowT (a b : Int64) (l : Int32) : Int64 :=
  if l = 0 then a / (if 0 ≤ b then eu 1000 (if 0 ≤ a then a else -a) (if 0 ≤ b then b else -b) else -(eu 1000 (if 0 ≤ a then a else -a) (if 0 ≤ b then b else -b)))
  else b / (if 0 ≤ b then eu 1000 (if 0 ≤ a then a else -a) (if 0 ≤ b then b else -b) else -(eu 1000 (if 0 ≤ a then a else -a) (if 0 ≤ b then b else -b)))
theorem sp_lowest {S : Sg} {a b : Int64} {l : Int32} (hb : ¬ b = 0) {Q : Int64 → Sg → Prop} (hq : Q (lowT a b l) S) : wp_X9_lowestTerms a b l S Q := by
  unfold wp_X9_lowestTerms
  rw [abs_eq, abs_eq]
  have hne := eu_ne _ _ (er_1000 (if 0 ≤ a then a else -a) (if 0 ≤ b then b else -b)) (Or.inr (abs_ne hb))
  unfold lowT at hq
  refine sp_divisor ?_
  generalize eu 1000 (if 0 ≤ a then a else -a) (if 0 ≤ b then b else -b) = d at hne hq ⊢
  refine bq_nf hne ⟨_, fun _ _ h => h, fun h => ⟨fun z => ⟨hne, ?_⟩, fun z => ⟨hne, ?_⟩⟩, fun h x ex => ⟨fun z => ⟨by rw [ex]; exact neg_ne hne, ?_⟩, fun z => ⟨by rw [ex]; exact neg_ne hne, ?_⟩⟩⟩
  · rw [if_pos z, if_pos h] at hq
    exact hq
  · rw [if_neg z, if_pos h] at hq
    exact hq
  · rw [if_pos z, if_neg h] at hq
    rw [ex]
    exact hq
  · rw [if_neg z, if_neg h] at hq
    rw [ex]
    exact hq
theorem rf_lowest {S : Sg} {a b : Int64} {l : Int32} (hb : ¬ b = 0) {Q : Int64 → Sg → Prop} (hq : Q (lowT a b l) S) : wp_X10_lowest a b l S Q := by
  unfold wp_X10_lowest
  have hne := eu_ne _ _ (er_1000 (if 0 ≤ a then a else -a) (if 0 ≤ b then b else -b)) (Or.inr (abs_ne hb))
  unfold lowT at hq
  refine rf_divisor rfl rfl ?_
  generalize eu 1000 (if 0 ≤ a then a else -a) (if 0 ≤ b then b else -b) = d at hne hq ⊢
  refine ⟨_, fun _ _ h => h, fun h => ⟨fun z => ⟨hne, ?_⟩, fun z => ⟨hne, ?_⟩⟩, fun h x ex => ⟨fun z => ⟨by rw [ex]; exact neg_ne hne, ?_⟩, fun z => ⟨by rw [ex]; exact neg_ne hne, ?_⟩⟩⟩
  · rw [if_pos z, if_pos h] at hq
    exact hq
  · rw [if_neg z, if_pos h] at hq
    exact hq
  · rw [if_pos z, if_neg h] at hq
    rw [ex]
    exact hq
  · rw [if_neg z, if_neg h] at hq
    rw [ex]
    exact hq
/-! sums over the cleared epochs -/
def sumL (h : Nat → Int64) (L : List Nat) : Int64 := L.foldl (fun a e => a + h e) 0
theorem sumL_1 (h : Nat → Int64) (L : List Nat) (e : Nat) : sumL h (L ++ [e]) = sumL h L + h e := by
  unfold sumL
  rw [List.foldl_append]
  rfl
theorem take_1 {L : List Nat} {i e : Nat} (h : L[i]? = some e) : L.take (i + 1) = L.take i ++ [e] := by
  rw [List.take_succ, h]
  rfl
theorem get_of_lt {L : List Nat} {i : Nat} (h : i < L.length) : ∃ e, L[i]? = some e := ⟨L[i], List.getElem?_eq_getElem h⟩
abbrev e64 (e : Nat) : Int64 := Int32.toInt64 (nI e)
theorem sp_above {S : Sg} {L : List Nat} {f : Nat → Int32} {g : Nat → Int64} {k s : Nat} (hok : serOK S k s L f g) (hlen : L.length ≤ 40) {Q : Int64 → Sg → Prop} (hq : Q (Int32.toInt64 (nI L.length) * sumL (fun e => e64 e * vL S k e s) L - sumL e64 L * sumL (fun e => vL S k e s) L) (srs S (nI L.length) f g)) : wp_X5_rateAbove (srs S (nI L.length) f g) Q := by
  refine ⟨fun v1 v3 v5 v7 S1 => S1 = srs S (nI L.length) f g ∧ ∃ i, i ≤ L.length ∧ v7 = nI i ∧ v1 = sumL e64 (L.take i) ∧ v3 = sumL (fun e => vL S k e s) (L.take i) ∧ v5 = sumL (fun e => e64 e * vL S k e s) (L.take i), fun _ _ _ v7 _ => L.length - v7.toNatClampNeg, ⟨rfl, 0, by omega, rfl, rfl, rfl, rfl⟩, ?_⟩
  rintro v1 v3 v5 v7 S1 ⟨rfl, i, hi, rfl, rfl, rfl, rfl⟩
  have g3 : gI (srs S (nI L.length) f g) 3 0 2 = nI L.length := rfl
  have g4 : gA (srs S (nI L.length) f g) 4 0 = f := rfl
  have g5 : gL (srs S (nI L.length) f g) 5 0 = g := rfl
  rw [g3, g4, g5]
  refine ⟨fun q => ?_, fun q => ?_⟩
  · have h1 := (le_nI (by omega) (by omega)).mp q
    have : i = L.length := by omega
    subst this
    rw [List.take_length]
    exact hq
  · have h1 : i < L.length := by
      have := mt (le_nI (a := L.length) (b := i) (by omega) (by omega)).mpr q
      omega
    obtain ⟨e, he⟩ := get_of_lt h1
    obtain ⟨ef, eg⟩ := hok i e he
    have hin : vp_in (nI i) 40 := in_nI (by omega) (by omega)
    rw [nI_clamp (by omega), ef, eg]
    refine ⟨hin, fun x ex => ⟨hin, fun y ey => ⟨hin, hin, fun z ez w ew => ?_⟩⟩⟩
    subst ex ey ez ew
    refine ⟨⟨rfl, i + 1, by omega, nI_1 i, ?_, ?_, ?_⟩, mu_lt h1 (by omega)⟩
    · rw [take_1 he, sumL_1]
    · rw [take_1 he, sumL_1]
    · rw [take_1 he, sumL_1]
theorem sp_below {S : Sg} {L : List Nat} {f : Nat → Int32} {g : Nat → Int64} {k s : Nat} (hok : serOK S k s L f g) (hlen : L.length ≤ 40) {Q : Int64 → Sg → Prop} (hq : Q (Int32.toInt64 (nI L.length) * sumL (fun e => e64 e * e64 e) L - sumL e64 L * sumL e64 L) (srs S (nI L.length) f g)) : wp_X5_rateBelow (srs S (nI L.length) f g) Q := by
  refine ⟨fun v1 v3 v5 S1 => S1 = srs S (nI L.length) f g ∧ ∃ i, i ≤ L.length ∧ v5 = nI i ∧ v1 = sumL e64 (L.take i) ∧ v3 = sumL (fun e => e64 e * e64 e) (L.take i), fun _ _ v5 _ => L.length - v5.toNatClampNeg, ⟨rfl, 0, by omega, rfl, rfl, rfl⟩, ?_⟩
  rintro v1 v3 v5 S1 ⟨rfl, i, hi, rfl, rfl, rfl⟩
  have g3 : gI (srs S (nI L.length) f g) 3 0 2 = nI L.length := rfl
  have g4 : gA (srs S (nI L.length) f g) 4 0 = f := rfl
  rw [g3, g4]
  refine ⟨fun q => ?_, fun q => ?_⟩
  · have h1 := (le_nI (by omega) (by omega)).mp q
    have : i = L.length := by omega
    subst this
    rw [List.take_length]
    exact hq
  · have h1 : i < L.length := by
      have := mt (le_nI (a := L.length) (b := i) (by omega) (by omega)).mpr q
      omega
    obtain ⟨e, he⟩ := get_of_lt h1
    obtain ⟨ef, eg⟩ := hok i e he
    have hin : vp_in (nI i) 40 := in_nI (by omega) (by omega)
    rw [nI_clamp (by omega), ef]
    refine ⟨hin, fun x ex => ⟨hin, hin, fun z ez w ew => ?_⟩⟩
    subst ex ez ew
    refine ⟨⟨rfl, i + 1, by omega, nI_1 i, ?_, ?_⟩, mu_lt h1 (by omega)⟩
    · rw [take_1 he, sumL_1]
    · rw [take_1 he, sumL_1]
