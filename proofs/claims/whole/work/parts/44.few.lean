/-! the fewest blocks -/
theorem cls_of (S : Sg) : clsP (nM S) (fun k => gI S 26 k 1) (fun k => gI S 26 k 2) (gA S 33) S := ⟨rfl, fun _ _ => ⟨rfl, rfl, rfl, rfl⟩⟩
theorem ref_of {S : Sg} (hA : rA S) (hF : rF S) : refP (nM S) (fun k => gI S 26 k 1) (fun k => gI S 26 k 2) (gA S 33) S := ⟨hA.2.2.1, fun k hk => by
  have hk : k < 10 := by have := hA.1; omega
  exact ⟨(hA.2.2.2.2.1 k hk).2.1, (hA.2.2.2.2.1 k hk).2.2.1, (hF.1 k hk).1, (hF.1 k hk).2.1⟩⟩
theorem bd_of {S : Sg} (hA : rA S) (hF : rF S) : bdP (nM S) (fun k => gI S 26 k 1) (fun k => gI S 26 k 2) (gA S 33) := fun k hk => by
  have hk : k < 10 := by have := hA.1; omega
  exact ⟨(hA.2.2.2.2.1 k hk).2.2.2.1, (hA.2.2.2.2.1 k hk).2.2.2.2, (hF.1 k hk).2.2⟩
theorem rl_block {S : Sg} (h : Rel S) (a1 : Int32) : wp_X9_block a1 S (fun r S1 => wp_X10_block a1 S1 (fun r2 S2 => r = r2 ∧ Rel S2)) := by
  have h' := h
  obtain ⟨hA, hB, hC, hD, hE, hF, hG, hH, hS, hX⟩ := h'
  have hn := hA.1
  have hp : 2 ^ nM S ≤ 1024 := Nat.pow_le_pow_right (n := 2) (by omega) hn
  have hp1 : 0 < 2 ^ nM S := Nat.pow_pos (by omega)
  have e1 : (1 : Int32) <<< (gI S 0 0 6 &&& 31) = nI (2 ^ nM S) := by rw [hA.2.1]; exact nI_shl1 _ (by omega)
  have e2 : (1 : Int32) <<< (gI S 40 0 1 &&& 31) - 1 = nI (2 ^ nM S - 1) := by
    rw [hA.2.2.1, nI_shl1 _ (by omega)]
    exact nI_dif _ 1 (by omega)
  have bad : (a1 < 1 ∨ nI (2 ^ nM S - 1) < a1) → wp_X10_block a1 S (fun r2 S2 => (-1 : Int32) = r2 ∧ Rel S2) := by
    intro hb
    unfold wp_X10_block
    rw [e2]
    refine sp_in (fun q1 q2 => absurd hb (fun z => z.elim q1 q2)) (fun _ => bq_t rfl ⟨rfl, h⟩)
  unfold wp_X9_block
  rw [e1]
  refine ⟨fun q => bad (Or.inl ?_), fun q => ⟨fun q2 => ?_, fun q2 => bad (Or.inr ?_)⟩⟩
  · rw [Int32.le_iff_toInt_le] at q
    rw [Int32.lt_iff_toInt_lt]
    have z : (0 : Int32).toInt = 0 := rfl
    have o : (1 : Int32).toInt = 1 := rfl
    omega
  · have q0 := q
    have q20 := q2
    rw [Int32.le_iff_toInt_le] at q0
    rw [Int32.lt_iff_toInt_lt, nI_toInt (by omega)] at q20
    have z : (0 : Int32).toInt = 0 := rfl
    obtain ⟨s, hs, es, -⟩ := vp_nat (a := a1) (n := 2 ^ nM S) (vp_in_iff.mpr ⟨by omega, by omega⟩) (by omega)
    have hs0 : s ≠ 0 := fun z => q (by rw [es, z]; decide)
    have hin : ∀ {Q : Int32 → Sg → Prop}, Q 1 S → wp_X10_in a1 1 (nI (2 ^ nM S - 1)) S Q := fun {Q} hq => sp_in (fun _ _ => hq) (fun hb => by
      exfalso
      rcases hb with hb | hb
      · rw [es, Int32.lt_iff_toInt_lt, nI_toInt (by omega)] at hb
        have o : (1 : Int32).toInt = 1 := rfl
        omega
      · rw [es] at hb
        have := (lt_nI (by omega) (by omega)).mp hb
        omega)
    rw [es]
    refine sp_turn (cls_of S) (bd_of hA hF) hn (by omega) (fun hb => bq_f i10 ?_) (fun hb => bq_t rfl ?_)
    · show wp_X10_block (nI s) S (fun r2 S2 => (1 : Int32) = r2 ∧ Rel S2)
      unfold wp_X10_block
      rw [e2, ← es]
      refine hin (bq_f i10 ?_)
      rw [es]
      exact rf_isBlock (ref_of hA hF) (bd_of hA hF) hn hs hs0 (fun _ => bq_f i10 ⟨rfl, h⟩) (fun z => absurd hb z)
    · show wp_X10_block (nI s) S (fun r2 S2 => (0 : Int32) = r2 ∧ Rel S2)
      unfold wp_X10_block
      rw [e2, ← es]
      refine hin (bq_f i10 ?_)
      rw [es]
      exact rf_isBlock (ref_of hA hF) (bd_of hA hF) hn hs hs0 (fun z => absurd z hb) (fun _ => bq_t rfl ⟨rfl, h⟩)
  · rw [Int32.lt_iff_toInt_lt, nI_toInt (by omega)] at q2 ⊢
    omega
section
variable {B : Nat → Prop}
theorem isF_uniq {m m' s : Nat} (h : isF B m s) (h' : isF B m' s) : m = m' := by
  rcases Nat.lt_trichotomy m m' with z | z | z
  · exact absurd h.1 (h'.2 m z)
  · exact z
  · exact absurd h'.1 (h.2 m' z)
theorem isF_0 : isF B 0 0 := ⟨rfl, fun m h => absurd h (Nat.not_lt_zero m)⟩
theorem isF_step {s v : Nat} {f : Nat → Nat} (hs : s ≠ 0) (hf : ∀ b, cand B s b → isF B (f b) (s ^^^ b)) (hle : ∀ b, cand B s b → v ≤ f b + 1) (hex : ∃ b, cand B s b ∧ v = f b + 1) : isF B v s := by
  obtain ⟨b, hb, rfl⟩ := hex
  refine ⟨⟨hs, b, hb, (hf b hb).1⟩, fun m' hm' hS => ?_⟩
  cases m' with
  | zero => exact hs hS
  | succ m' =>
    obtain ⟨-, b', hb', hS'⟩ := hS
    have h1 := hle b' hb'
    exact (hf b' hb').2 m' (by omega) hS'
theorem isF_lbc {s m : Nat} (hs : s ≠ 0) (h : isF B m s) : ∃ b, lbc B s b := by
  cases m with
  | zero => exact absurd h.1 hs
  | succ m =>
    obtain ⟨-, b, hb, hS⟩ := h.1
    refine ⟨b, hb, m, ⟨hS, fun m' hm' hS' => ?_⟩, h⟩
    exact h.2 (m' + 1) (by omega) ⟨hs, b, hb, hS'⟩
theorem lb_uniq {s b b' : Nat} (h : lb B s b) (h' : lb B s b') : b = b' := by
  rcases Nat.lt_trichotomy b b' with z | z | z
  · exact absurd h.1 (h'.2 b z)
  · exact z
  · exact absurd h'.1 (h.2 b' z)
theorem Out_uniq {o o' : Nat → Int32} : ∀ (d d' s : Nat), Out B o d s → Out B o' d' s → ∀ k, k < 10 → s.testBit k = true → o k = o' k := by
  intro d
  induction d with
  | zero =>
    intro d' s h _ k _ bk
    have h : s = 0 := h
    rw [h, Nat.zero_testBit] at bk
    cases bk
  | succ d ih =>
    intro d' s h h' k hk bk
    have hs0 : s ≠ 0 := fun z => by
      rw [z, Nat.zero_testBit] at bk
      cases bk
    rcases h with z | ⟨-, b, hb, ho, hO⟩
    · exact absurd z hs0
    cases d' with
    | zero => exact absurd h' hs0
    | succ d' =>
      rcases h' with z | ⟨-, b', hb', ho', hO'⟩
      · exact absurd z hs0
      have e := lb_uniq hb hb'
      subst e
      by_cases bb : b.testBit k = true
      · rw [ho k hk bb, ho' k hk bb]
      · refine ih d' _ hO hO' k hk ?_
        rw [Nat.testBit_xor, bk]
        simpa using bb
theorem sub_bit {b s k : Nat} (h : b &&& s = b) (hb : b.testBit k = true) : s.testBit k = true := by
  rw [← h, Nat.testBit_and] at hb
  simp at hb
  exact hb.2
theorem sub_of {b s : Nat} (h : ∀ k, b.testBit k = true → s.testBit k = true) : b &&& s = b := by
  apply Nat.eq_of_testBit_eq
  intro i
  rw [Nat.testBit_and]
  cases e : b.testBit i
  · rfl
  · rw [h i e]
    rfl
theorem cand_lt {s b : Nat} (hs : s < 1024) (h : cand B s b) : s ^^^ b < s ∧ b ≤ s ∧ b ≠ 0 := by
  have h1 := xor_add 10 b s hs h.1
  have hb : b ≠ 0 := fun z => by
    have := h.2.1
    rw [z, Nat.zero_testBit] at this
    cases this
  omega
theorem Sp_pc (hB : ∀ k, k < 10 → B (2 ^ k)) : ∀ (c s : Nat), s < 1024 → pc 10 s = c → Sp B c s := by
  intro c
  induction c with
  | zero => intro s hs h; exact pc_0 s hs h
  | succ c ih =>
    intro s hs h
    have hs0 : s ≠ 0 := fun z => by
      rw [z] at h
      have : pc 10 0 = 0 := by decide
      omega
    obtain ⟨l10, bl, bj, -, -, hsub, hpc⟩ := lo_spec s hs hs0
    have hc : cand B s (2 ^ lo s) := ⟨hsub, by rw [Nat.testBit_two_pow_self], hB _ l10⟩
    exact ⟨hs0, 2 ^ lo s, hc, ih _ (by have := (cand_lt hs hc).1; omega) (by omega)⟩
theorem isF_le (hB : ∀ k, k < 10 → B (2 ^ k)) {m s : Nat} (hs : s < 1024) (h : isF B m s) : m ≤ pc 10 s := by
  apply Nat.le_of_not_lt
  intro hlt
  exact h.2 _ hlt (Sp_pc hB _ s hs rfl)
theorem pc_9 : ∀ t, t < 1024 → t ≠ 1023 → pc 10 t ≤ 9 := by decide +kernel
theorem isF_le9 (hB : ∀ k, k < 10 → B (2 ^ k)) {m s b : Nat} (hs : s < 1024) (hs0 : s ≠ 0) (hc : cand B s b) (h : isF B m (s ^^^ b)) : m ≤ 9 := by
  have hlt := (cand_lt hs hc).1
  have h1 := isF_le hB (by omega) h
  have := pc_9 (s ^^^ b) (by omega) (by omega)
  omega
end
theorem BK_one {n : Nat} {X Y : Nat → Int32} {V : Nat → Nat → Int32} (k : Nat) : BK n X Y V (2 ^ k) := by
  refine ⟨0, 1, by decide, fun i j _ _ bi bj => ?_⟩
  rw [Nat.testBit_two_pow] at bi bj
  have e1 : k = i := of_decide_eq_true bi
  have e2 : k = j := of_decide_eq_true bj
  subst e1
  subst e2
  constructor <;> omega
theorem BK_mono {n : Nat} {X Y : Nat → Int32} {V : Nat → Nat → Int32} {s t : Nat} (h : ∀ k, t.testBit k = true → s.testBit k = true) (hB : BK n X Y V s) : BK n X Y V t := by
  obtain ⟨p, q, hq, hh⟩ := hB
  exact ⟨p, q, hq, fun i j hi hj bi bj => hh i j hi hj (h i bi) (h j bj)⟩
theorem BK_congr {n : Nat} {X Y X' Y' : Nat → Int32} {V V' : Nat → Nat → Int32} (h : ∀ k, k < n → X' k = X k ∧ Y' k = Y k ∧ V' k 0 = V k 0 ∧ V' k 1 = V k 1) : BK n X' Y' V' = BK n X Y V := by
  funext s
  unfold BK
  apply propext
  constructor
  · rintro ⟨p, q, hq, hh⟩
    refine ⟨p, q, hq, fun i j hi hj bi bj => ?_⟩
    have := hh i j hi hj bi bj
    rw [(h i hi).1, (h i hi).2.1, (h i hi).2.2.1, (h i hi).2.2.2, (h j hj).1, (h j hj).2.1, (h j hj).2.2.1, (h j hj).2.2.2] at this
    exact this
  · rintro ⟨p, q, hq, hh⟩
    refine ⟨p, q, hq, fun i j hi hj bi bj => ?_⟩
    have := hh i j hi hj bi bj
    rw [(h i hi).1, (h i hi).2.1, (h i hi).2.2.1, (h i hi).2.2.2, (h j hj).1, (h j hj).2.1, (h j hj).2.2.1, (h j hj).2.2.2]
    exact this
