/-! levels: what lines say -/
section
variable {N : Nat} {R R' R2 : Nat → Prop} {fr to_ ri : Nat → Int32} {G G' : Nat → Int32} {L L' : Nat → Int}
theorem MinL_congr (h : MinL N R fr to_ ri G L) (e : ∀ l, R' l ↔ R l) : MinL N R' fr to_ ri G L :=
  ⟨fun l hl => h.1 l ((e l).mp hl), fun G' L' hf => h.2 G' L' (fun l hl => hf l ((e l).mpr hl))⟩
theorem MinL_ext (h : MinL N R fr to_ ri G L) (hR : ∀ l, R l → (fr l).toNatClampNeg < N ∧ (to_ l).toNatClampNeg < N) (h1 : ∀ k, k < N → G' k = G k) (h2 : ∀ k, k < N → L' k = L k) : MinL N R fr to_ ri G' L' := by
  refine ⟨fun l hl => ?_, fun G2 L2 hf i j hi hj hij => ?_⟩
  · obtain ⟨q3, q4⟩ := hR l hl
    rw [h1 _ q3, h1 _ q4, h2 _ q3, h2 _ q4]
    exact h.1 l hl
  · rw [h1 _ hi, h1 _ hj] at hij
    rw [h2 _ hi, h2 _ hj]
    exact h.2 G2 L2 hf i j hi hj hij
theorem MinL_same (h : MinL N R fr to_ ri G L) {l0 : Nat} (e1 : G (fr l0).toNatClampNeg = G (to_ l0).toNatClampNeg) (e2 : L (to_ l0).toNatClampNeg - L (fr l0).toNatClampNeg = (ri l0).toInt) (e : ∀ l, R' l ↔ R l ∨ l = l0) : MinL N R' fr to_ ri G L :=
  ⟨fun l hl => ((e l).mp hl).elim (h.1 l) (fun z => by subst z; exact ⟨e1, e2⟩), fun G' L' hf => h.2 G' L' (fun l hl => hf l ((e l).mpr (Or.inl hl)))⟩
theorem MinL_no (h : MinL N R fr to_ ri G L) {l0 : Nat} (hi : (fr l0).toNatClampNeg < N) (hj : (to_ l0).toNatClampNeg < N) (e1 : G (fr l0).toNatClampNeg = G (to_ l0).toNatClampNeg) (e2 : ¬ L (to_ l0).toNatClampNeg - L (fr l0).toNatClampNeg = (ri l0).toInt) (s1 : ∀ l, R l → R' l) (s2 : R' l0) : ¬ ∃ (G' : Nat → Int32) (L' : Nat → Int), FitL R' fr to_ ri G' L' := by
  rintro ⟨G', L', hf⟩
  have h1 := (h.2 G' L' (fun l hl => hf l (s1 l hl)) _ _ hi hj e1).2
  have h2 := (hf l0 s2).2
  exact e2 (h1.symm.trans h2)
theorem MinL_imp (h : MinL N R fr to_ ri G L) {l0 : Nat} (hi : (fr l0).toNatClampNeg < N) (hj : (to_ l0).toNatClampNeg < N) (e1 : G (fr l0).toNatClampNeg = G (to_ l0).toNatClampNeg) (e2 : L (to_ l0).toNatClampNeg - L (fr l0).toNatClampNeg = (ri l0).toInt) (s1 : ∀ l, R l → R' l) (s : ∀ l, R2 l → R' l ∨ l = l0) (hf : FitL R' fr to_ ri G' L') : FitL R2 fr to_ ri G' L' := fun l hl => (s l hl).elim (hf l) (fun z => by
  subst z
  have h1 := h.2 G' L' (fun l hl => hf l (s1 l hl)) _ _ hi hj e1
  exact ⟨h1.1, h1.2.trans e2⟩)
theorem MinL_join (h : MinL N R fr to_ ri G L) (hR : ∀ l, R l → (fr l).toNatClampNeg < N ∧ (to_ l).toNatClampNeg < N) {l0 a b : Nat} (ea : (fr l0).toNatClampNeg = a) (eb : (to_ l0).toNatClampNeg = b) (ha : a < N) (hb : b < N) (hne : ¬ G a = G b) (h1 : ∀ k, k < N → G' k = if G k = G b then G a else G k) (h2 : ∀ k, k < N → L' k = if G k = G b then L k + (L a + (ri l0).toInt - L b) else L k) (e : ∀ l, R' l ↔ R l ∨ l = l0) : MinL N R' fr to_ ri G' L' := by
  refine ⟨fun l hl => ?_, fun G2 L2 hf i j hi hj hij => ?_⟩
  · rcases (e l).mp hl with hl | rfl
    · obtain ⟨q1, q2⟩ := h.1 l hl
      obtain ⟨q3, q4⟩ := hR l hl
      rw [h1 _ q3, h1 _ q4, h2 _ q3, h2 _ q4, q1]
      refine ⟨rfl, ?_⟩
      by_cases z : G (to_ l).toNatClampNeg = G b
      · rw [if_pos z, if_pos z]
        omega
      · rw [if_neg z, if_neg z]
        exact q2
    · rw [ea, eb, h1 _ ha, h1 _ hb, h2 _ ha, h2 _ hb, if_neg hne, if_pos rfl, if_neg hne, if_pos rfl]
      refine ⟨rfl, ?_⟩
      omega
  · have hm := h.2 G2 L2 (fun l hl => hf l ((e l).mpr (Or.inl hl)))
    obtain ⟨g1, g2⟩ := hf l0 ((e l0).mpr (Or.inr rfl))
    rw [ea, eb] at g1 g2
    rw [h1 _ hi, h1 _ hj] at hij
    rw [h2 _ hi, h2 _ hj]
    by_cases zi : G i = G b <;> by_cases zj : G j = G b
    · rw [if_pos zi, if_pos zj]
      have := hm i j hi hj (zi.trans zj.symm)
      exact ⟨this.1, by omega⟩
    · rw [if_pos zi, if_neg zj] at hij
      rw [if_pos zi, if_neg zj]
      have w1 := hm a j ha hj hij
      have w2 := hm i b hi hb zi
      exact ⟨w2.1.trans (g1.symm.trans w1.1), by omega⟩
    · rw [if_neg zi, if_pos zj] at hij
      rw [if_neg zi, if_pos zj]
      have w1 := hm i a hi ha hij
      have w2 := hm j b hj hb zj
      exact ⟨w1.1.trans (g1.trans w2.1.symm), by omega⟩
    · rw [if_neg zi, if_neg zj] at hij
      rw [if_neg zi, if_neg zj]
      exact hm i j hi hj hij
theorem MinL_0 (hN : N ≤ 10) (hR : ∀ l, ¬ R l) (hG : ∀ k, k < N → G k = nI k) : MinL N R fr to_ ri G L := by
  refine ⟨fun l hl => absurd hl (hR l), fun G2 L2 hf i j hi hj hij => ?_⟩
  rw [hG i hi, hG j hj] at hij
  have e := nI_inj (by omega) (by omega) hij
  subst e
  exact ⟨rfl, by omega⟩
end
theorem FirstW_uniq {N m : Nat} {fr to_ ri : Nat → Int32} {w w' : Nat} (h : FirstW N m fr to_ ri w) (h' : FirstW N m fr to_ ri w') : w = w' := by
  have a1 := h.2.2 w' h'.1 h'.2.1
  have a2 := h'.2.2 w h.1 h.2.1
  rcases Nat.lt_trichotomy w w' with z | z | z
  · have := a2.2 z
    omega
  · exact z
  · have := a1.2 z
    omega
theorem CONS_all (m : Nat) (fr to_ ri : Nat → Int32) : CONS m fr to_ ri (2 ^ m - 1) := by
  refine ⟨fun _ => 0, fun _ => 0, fun l hl => ?_⟩
  have h := hl.2
  rw [Nat.testBit_two_pow_sub_one, decide_eq_true hl.1] at h
  cases h
/-! bits -/
theorem onb_le (w t : Nat) : onb w t ≤ t := by
  induction t with
  | zero => exact Nat.le_refl _
  | succ t ih =>
    unfold onb
    split <;> omega
theorem onb_mono {w w' : Nat} (t : Nat) (h : ∀ j, j < t → w.testBit j = true → w'.testBit j = true) : onb w t ≤ onb w' t := by
  induction t with
  | zero => exact Nat.le_refl _
  | succ t ih =>
    have := ih (fun j hj => h j (by omega))
    unfold onb
    by_cases z : w.testBit t = true
    · rw [if_pos z, if_pos (h t (by omega) z)]
      omega
    · rw [if_neg z]
      split <;> omega
theorem onb_one {w w' i : Nat} (t : Nat) (hi : i < t) (h0 : w.testBit i = false) (h1 : w'.testBit i = true) (h : ∀ j, j ≠ i → w'.testBit j = w.testBit j) : onb w' t = onb w t + 1 := by
  induction t with
  | zero => omega
  | succ t ih =>
    unfold onb
    by_cases e : i = t
    · subst e
      have : onb w' i = onb w i := by
        apply Nat.le_antisymm
        · exact onb_mono i (fun j hj z => by rw [← h j (by omega)]; exact z)
        · exact onb_mono i (fun j hj z => by rw [h j (by omega)]; exact z)
      rw [if_pos h1, if_neg (by rw [h0]; decide), this]
    · have := ih (by omega)
      rw [h t (fun z => e z.symm)]
      split <;> omega
theorem bt_hi {i q u j : Nat} (hu : u < 2 ^ i) (hj : i ≤ j) : (2 ^ i * q + u).testBit j = (2 ^ i * q).testBit j := by
  rw [Nat.testBit_two_pow_mul_add q hu, Nat.testBit_two_pow_mul, if_neg (by omega)]
  simp [hj]
theorem bt_lo {i q j : Nat} (hj : j < i) : (2 ^ i * q).testBit j = false := by
  rw [Nat.testBit_two_pow_mul]
  simp [Nat.not_le_of_lt hj]
theorem bt_at0 (i q : Nat) : (2 ^ i * (2 * q)).testBit i = false := by
  rw [Nat.testBit_two_pow_mul, Nat.sub_self, Nat.testBit_zero]
  simp
theorem bt_at1 (i q : Nat) : (2 ^ i * (2 * q + 1)).testBit i = true := by
  rw [Nat.testBit_two_pow_mul, Nat.sub_self, Nat.testBit_zero]
  have : (2 * q + 1) % 2 = 1 := by omega
  simp [this]
theorem bt_2 (i q : Nat) : 2 ^ i * (2 * q) = 2 ^ (i + 1) * q := by
  rw [Nat.pow_succ, Nat.mul_assoc]
theorem bt_3 (i q : Nat) : 2 ^ i * (2 * q + 1) = 2 ^ (i + 1) * q + 2 ^ i := by
  rw [Nat.mul_add, bt_2, Nat.mul_one]
theorem bt_4 (i q : Nat) : 2 ^ i * (2 * q + 1 + 1) = 2 ^ (i + 1) * (q + 1) := by
  rw [show 2 * q + 1 + 1 = 2 * (q + 1) by omega, bt_2]
theorem bt_up (i : Nat) : 2 ^ i < 2 ^ (i + 1) := Nat.pow_lt_pow_right (by omega) (by omega)
theorem bt_ne {i q j : Nat} (h : j ≠ i) : (2 ^ i * (2 * q + 1)).testBit j = (2 ^ i * (2 * q)).testBit j := by
  by_cases hj : j < i
  · rw [bt_lo hj, bt_lo hj]
  · rw [bt_3, bt_hi (bt_up i) (by omega), bt_2]
theorem bt_ne2 {i q u j : Nat} (hu : u < 2 ^ i) (h : j ≠ i) : (2 ^ i * (2 * q + 1) + u).testBit j = (2 ^ i * (2 * q) + u).testBit j := by
  by_cases hj : j < i
  · rw [Nat.testBit_two_pow_mul_add _ hu, Nat.testBit_two_pow_mul_add _ hu, if_pos hj, if_pos hj]
  · rw [bt_hi hu (by omega), bt_hi hu (by omega), bt_ne h]
theorem bt_i1 {i q u : Nat} (hu : u < 2 ^ i) : (2 ^ i * (2 * q + 1) + u).testBit i = true := by
  rw [bt_hi hu (Nat.le_refl i), bt_at1]
theorem onb_up (i q : Nat) (hi : i < 14) : onb (2 ^ i * (2 * q + 1)) 14 = onb (2 ^ (i + 1) * q) 14 + 1 := by
  rw [← bt_2]
  exact onb_one 14 hi (bt_at0 i q) (bt_at1 i q) (fun j hj => bt_ne hj)
theorem onb_ge {l q u : Nat} (hu : u < 2 ^ l) : onb (2 ^ l * q) 14 ≤ onb (2 ^ l * q + u) 14 := by
  refine onb_mono 14 (fun j _ z => ?_)
  by_cases hj : j < l
  · rw [bt_lo hj] at z
    cases z
  · rw [bt_hi hu (by omega)]
    exact z
theorem bt_rg {l q w : Nat} (h1 : 2 ^ l * q ≤ w) (h2 : w < 2 ^ l * (q + 1)) : ∃ u, u < 2 ^ l ∧ w = 2 ^ l * q + u := by
  rw [Nat.mul_add, Nat.mul_one] at h2
  exact ⟨w - 2 ^ l * q, by omega, by omega⟩
/-- the lines from l on that are held for right -/
def RQ (m l q : Nat) (l' : Nat) : Prop := l ≤ l' ∧ l' < m ∧ (2 ^ l * q).testBit l' = false
theorem RQ_keep {m i q : Nat} (hi : i < m) (l' : Nat) : RQ m i (2 * q) l' ↔ RQ m (i + 1) q l' ∨ l' = i := by
  unfold RQ
  rw [bt_2]
  constructor
  · rintro ⟨h1, h2, h3⟩
    by_cases e : l' = i
    · exact Or.inr e
    · exact Or.inl ⟨by omega, h2, h3⟩
  · rintro (⟨h1, h2, h3⟩ | rfl)
    · exact ⟨by omega, h2, h3⟩
    · refine ⟨Nat.le_refl _, hi, ?_⟩
      rw [← bt_2]
      exact bt_at0 _ _
theorem RQ_drop {m i q : Nat} (l' : Nat) : RQ m i (2 * q + 1) l' ↔ RQ m (i + 1) q l' := by
  unfold RQ
  constructor
  · rintro ⟨h1, h2, h3⟩
    have e : l' ≠ i := fun z => by
      rw [z, bt_at1] at h3
      cases h3
    refine ⟨by omega, h2, ?_⟩
    rw [← bt_2, ← bt_ne e]
    exact h3
  · rintro ⟨h1, h2, h3⟩
    refine ⟨by omega, h2, ?_⟩
    rw [bt_ne (by omega), bt_2]
    exact h3
theorem RQ_sub {m l q u l' : Nat} (hu : u < 2 ^ l) (h : RQ m l q l') : Rt m (2 ^ l * q + u) l' := ⟨h.2.1, by rw [bt_hi hu h.1]; exact h.2.2⟩
theorem RQ_0 {m q : Nat} (l' : Nat) : Rt m (2 ^ 0 * q) l' ↔ RQ m 0 q l' := ⟨fun h => ⟨Nat.zero_le _, h.1, h.2⟩, fun h => h.2⟩
/-! the best set so far -/
section
variable {m : Nat} {fr to_ ri : Nat → Int32}
def lvV (m : Nat) (fr to_ ri : Nat → Int32) (X : Nat) (v : Int32) (P : Nat → Prop) : Prop := (v = nI 15 ∧ ∀ w, w < X → ¬ CONS m fr to_ ri w) ∨ ∃ w, FirstW X m fr to_ ri w ∧ v = nI (onb w 14) ∧ P w
theorem BV_more {X Y : Nat} {v : Int32} {P : Nat → Prop} (h : lvV m fr to_ ri X v P) (hXY : X ≤ Y) (hw : ∀ w, X ≤ w → w < Y → CONS m fr to_ ri w → ∃ w0, w0 < X ∧ CONS m fr to_ ri w0 ∧ onb w0 14 ≤ onb w 14) : lvV m fr to_ ri Y v P := by
  rcases h with ⟨h1, h2⟩ | ⟨b, hF, h1, hP⟩
  · refine Or.inl ⟨h1, fun w hw' hc => ?_⟩
    by_cases z : w < X
    · exact h2 w z hc
    · obtain ⟨w0, a1, a2, -⟩ := hw w (by omega) hw' hc
      exact h2 w0 a1 a2
  · refine Or.inr ⟨b, ⟨Nat.lt_of_lt_of_le hF.1 hXY, hF.2.1, fun w hw' hc => ?_⟩, h1, hP⟩
    by_cases z : w < X
    · exact hF.2.2 w z hc
    · obtain ⟨w0, a1, a2, a3⟩ := hw w (by omega) hw' hc
      have := (hF.2.2 w0 a1 a2).1
      have := hF.1
      exact ⟨by omega, fun y => by omega⟩
theorem BV_prune {X Y c : Nat} {v : Int32} {P : Nat → Prop} (h : lvV m fr to_ ri X v P) (hXY : X ≤ Y) (hc : c ≤ 14) (hv : ¬ nI c < v) (hw : ∀ w, X ≤ w → w < Y → c ≤ onb w 14) : lvV m fr to_ ri Y v P := by
  rcases h with ⟨h1, h2⟩ | ⟨b, hF, h1, hP⟩
  · rw [h1] at hv
    exact absurd ((lt_nI (by omega) (by omega)).mpr (by omega)) hv
  · refine BV_more (Or.inr ⟨b, hF, h1, hP⟩) hXY (fun w h3 h4 _ => ⟨b, hF.1, hF.2.1, ?_⟩)
    have := hw w h3 h4
    have hb := onb_le b 14
    rw [h1] at hv
    have := mt (lt_nI (a := c) (b := onb b 14) (by omega) (by omega)).mpr hv
    omega
theorem BV_new {X : Nat} {v : Int32} {P : Nat → Prop} (h : lvV m fr to_ ri X v P) (hc : CONS m fr to_ ri X) (hv : nI (onb X 14) < v) : FirstW (X + 1) m fr to_ ri X := by
  refine ⟨by omega, hc, fun w hw hcw => ?_⟩
  by_cases e : w = X
  · subst e
    exact ⟨Nat.le_refl _, fun z => by omega⟩
  · rcases h with ⟨h1, h2⟩ | ⟨b, hF, h1, hP⟩
    · exact absurd hcw (h2 w (by omega))
    · have h3 := (hF.2.2 w (by omega) hcw).1
      have hb := onb_le b 14
      have hX := onb_le X 14
      rw [h1] at hv
      have := (lt_nI (by omega) (by omega)).mp hv
      exact ⟨by omega, fun _ => by omega⟩
end
/-! roots of groups, and how far levels go -/
theorem cntC_one {p : Nat → Bool} {i : Nat} (h : p i = true) : ∀ n, i < n → 1 ≤ cntC p n := by
  intro n
  induction n with
  | zero => intro z; omega
  | succ n ih =>
    intro z
    unfold cntC
    by_cases e : i = n
    · subst e
      rw [if_pos h]
      omega
    · have := ih (by omega)
      split <;> omega
theorem cntC_two {p : Nat → Bool} {i j : Nat} (hij : i ≠ j) (hi : p i = true) (hj : p j = true) : ∀ n, i < n → j < n → 2 ≤ cntC p n := by
  intro n
  induction n with
  | zero => intro z; omega
  | succ n ih =>
    intro z1 z2
    unfold cntC
    by_cases e : i = n
    · subst e
      have := cntC_one hj i (by omega)
      rw [if_pos hi]
      omega
    · by_cases e2 : j = n
      · subst e2
        have := cntC_one hi j (by omega)
        rw [if_pos hj]
        omega
      · have := ih (by omega) (by omega)
        split <;> omega
theorem cntC_same {p p' : Nat → Bool} : ∀ n, (∀ k, k < n → p' k = p k) → cntC p' n = cntC p n := by
  intro n
  induction n with
  | zero => intro _; rfl
  | succ n ih =>
    intro h
    unfold cntC
    rw [ih (fun k hk => h k (by omega)), h n (by omega)]
theorem cntC_less {p p' : Nat → Bool} {j : Nat} (h0 : p' j = false) (h1 : p j = true) : ∀ n, j < n → (∀ k, k < n → k ≠ j → p' k = p k) → cntC p' n + 1 = cntC p n := by
  intro n
  induction n with
  | zero => intro z; omega
  | succ n ih =>
    intro z h
    unfold cntC
    by_cases e : j = n
    · subst e
      rw [if_pos h1, if_neg (by rw [h0]; decide), cntC_same j (fun k hk => h k (by omega) (by omega))]
    · have := ih (by omega) (fun k hk => h k (by omega))
      rw [h n (by omega) (fun z => e z.symm)]
      split <;> omega
def RTS (G : Nat → Int32) (r : Nat) : Prop := (∀ k, k < 10 → ∃ g, g < 10 ∧ G k = nI g ∧ G g = nI g) ∧ cntC (fun k => decide (G k = nI k)) 10 + r = 10
theorem RTS_one {G : Nat → Int32} {a b : Nat} (h : RTS G 9) (ha : a < 10) (hb : b < 10) : G a = G b := by
  obtain ⟨g, g1, g2, g3⟩ := h.1 a ha
  obtain ⟨k, k1, k2, k3⟩ := h.1 b hb
  by_cases e : g = k
  · rw [g2, k2, e]
  · have := cntC_two (p := fun k => decide (G k = nI k)) e (decide_eq_true g3) (decide_eq_true k3) 10 g1 k1
    have := h.2
    omega
theorem RTS_0 {G : Nat → Int32} (h : ∀ k, k < 10 → G k = nI k) : RTS G 0 := by
  refine ⟨fun k hk => ⟨k, hk, h k hk, h k hk⟩, ?_⟩
  rw [cntC_same (p := fun _ => true) 10 (fun k hk => decide_eq_true (h k hk))]
  decide
theorem RTS_join {G G' : Nat → Int32} {r a b : Nat} (h : RTS G r) (ha : a < 10) (hb : b < 10) (hne : ¬ G a = G b) (h1 : ∀ k, k < 10 → G' k = if G k = G b then G a else G k) : RTS G' (r + 1) := by
  obtain ⟨ga, a1, a2, a3⟩ := h.1 a ha
  obtain ⟨gb, b1, b2, lvb⟩ := h.1 b hb
  refine ⟨fun k hk => ?_, ?_⟩
  · by_cases z : G k = G b
    · refine ⟨ga, a1, ?_, ?_⟩
      · rw [h1 k hk, if_pos z]
        exact a2
      · rw [h1 ga a1, if_neg (fun y => hne (a2.trans (a3.symm.trans y)))]
        exact a3
    · obtain ⟨g, g1, g2, g3⟩ := h.1 k hk
      refine ⟨g, g1, ?_, ?_⟩
      · rw [h1 k hk, if_neg z]
        exact g2
      · rw [h1 g g1, if_neg (fun y => z (g2.trans (g3.symm.trans y)))]
        exact g3
  · have := cntC_less (p := fun k => decide (G k = nI k)) (p' := fun k => decide (G' k = nI k)) (j := gb) (by
      show decide (G' gb = nI gb) = false
      apply decide_eq_false
      rw [h1 gb b1, if_pos (lvb.trans b2.symm)]
      exact fun y => hne (y.trans b2.symm)) (decide_eq_true lvb) 10 b1 (fun k hk hkb => by
      show decide (G' k = nI k) = decide (G k = nI k)
      apply decide_eq_decide.mpr
      rw [h1 k hk]
      by_cases z : G k = G b
      · rw [if_pos z]
        constructor
        · intro y
          exfalso
          have e := nI_inj (a := ga) (b := k) (by omega) (by omega) (a2.symm.trans y)
          rw [e] at a3
          exact hne (y.trans (a3.symm.trans z))
        · intro y
          exact absurd (nI_inj (by omega) (by omega) (y.symm.trans (z.trans b2))) hkb
      · rw [if_neg z])
    have h2 := h.2
    omega
def lvb : Nat → Int
  | 0 => 0
  | r + 1 => 3 * lvb r + 10000
theorem b3_9 : ∀ r, r < 10 → 0 ≤ lvb r ∧ lvb r ≤ 98410000 := by decide
theorem b3_14 : ∀ r, r < 15 → 0 ≤ lvb r ∧ lvb r ≤ 23914840000 := by decide
def LBN (N : Nat) (L : Nat → Int) (r : Nat) : Prop := ∀ k, k < N → -lvb r ≤ L k ∧ L k ≤ lvb r
theorem LBN_up {N r : Nat} {L : Nat → Int} (h : LBN N L r) : LBN N L (r + 1) := by
  intro k hk
  have := h k hk
  have e : lvb (r + 1) = 3 * lvb r + 10000 := rfl
  omega
theorem LBN_join {N r a b : Nat} {L L' : Nat → Int} {x : Int} {c : Nat → Prop} (h : LBN N L r) (ha : a < N) (hb : b < N) (hx : -10000 ≤ x ∧ x ≤ 10000) (h2 : ∀ k, k < N → (c k ∧ L' k = L k + (L a + x - L b)) ∨ (¬ c k ∧ L' k = L k)) : LBN N L' (r + 1) := by
  intro k hk
  have w1 := h k hk
  have w2 := h a ha
  have w3 := h b hb
  have e : lvb (r + 1) = 3 * lvb r + 10000 := rfl
  rcases h2 k hk with ⟨-, z⟩ | ⟨-, z⟩ <;> rw [z] <;> omega
def lvN (N m : Nat) (fr to_ ri : Nat → Int32) : Prop := ∀ l, l < m → ∃ a b, a < N ∧ b < N ∧ fr l = nI a ∧ to_ l = nI b ∧ btw (ri l) 10000
theorem LN_in {N m : Nat} {fr to_ ri : Nat → Int32} (hN : N ≤ 10) (h : lvN N m fr to_ ri) {l : Nat} (hl : l < m) : (fr l).toNatClampNeg < N ∧ (to_ l).toNatClampNeg < N := by
  obtain ⟨a, b, ha, hb, ea, eb, -⟩ := h l hl
  rw [ea, eb, nI_clamp (by omega), nI_clamp (by omega)]
  exact ⟨ha, hb⟩
