/-! slips: the class's search -/
theorem xor_sign {a b : Int32} (hb : 0 < b.toInt) : 0 ≤ (a ^^^ b) ↔ 0 ≤ a.toInt := by
  have z : (0 : Int32).toInt = 0 := by decide
  have e1 : (a ^^^ b).toBitVec.msb = decide ((a ^^^ b).toBitVec.toInt < 0) := BitVec.msb_eq_toInt
  have e2 : a.toBitVec.msb = decide (a.toBitVec.toInt < 0) := BitVec.msb_eq_toInt
  have e3 : b.toBitVec.msb = decide (b.toBitVec.toInt < 0) := BitVec.msb_eq_toInt
  have e4 : (a ^^^ b).toBitVec = a.toBitVec ^^^ b.toBitVec := rfl
  have hb' : ¬ b.toBitVec.toInt < 0 := by
    have : b.toBitVec.toInt = b.toInt := rfl
    omega
  rw [e4, BitVec.msb_xor, e2, e3, decide_eq_false hb', Bool.xor_false, ← e4] at e1
  have e5 : decide (a.toInt < 0) = decide ((a ^^^ b).toInt < 0) := e1
  rw [Int32.le_iff_toInt_le, z]
  by_cases h : a.toInt < 0
  · rw [decide_eq_true h] at e5
    have := of_decide_eq_true e5.symm
    omega
  · rw [decide_eq_false h] at e5
    have := of_decide_eq_false e5.symm
    omega
theorem sp_floor {S : Sg} {a0 a1 : Int32} (h : 0 < a1.toInt) {Q : Int32 → Sg → Prop} (hq : ∀ r : Int32, r.toInt = a0.toInt / a1.toInt → Q r S) : wp_J9_floorDiv_7cf53 a0 a1 S Q := by
  have l0 := a0.le_toInt
  have l1 := a0.toInt_lt
  have hab : (a0.toInt.tdiv a1.toInt).natAbs = a0.toInt.natAbs / a1.toInt.natAbs := Int.natAbs_tdiv _ _
  have hle : a0.toInt.natAbs / a1.toInt.natAbs ≤ a0.toInt.natAbs := Nat.div_le_self _ _
  have hte := Int.tdiv_eq_ediv (a := a0.toInt) (b := a1.toInt)
  have hsg : a1.toInt.sign = 1 := Int.sign_eq_one_of_pos h
  rw [hsg] at hte
  have hpos : 0 ≤ a0.toInt → 0 ≤ a0.toInt.tdiv a1.toInt := fun z => Int.tdiv_nonneg z (by omega)
  have hneg : a0.toInt < 0 → a0.toInt.tdiv a1.toInt ≤ 0 := fun z => by
    have e := Int.neg_tdiv (a := -a0.toInt) (b := a1.toInt)
    rw [Int.neg_neg] at e
    have := Int.tdiv_nonneg (a := -a0.toInt) (b := a1.toInt) (by omega) (by omega)
    omega
  have ex : (a0 / a1).toInt = a0.toInt.tdiv a1.toInt ∨ a0.toInt = -2147483648 := by
    by_cases z : a0.toInt = -2147483648
    · exact Or.inr z
    · refine Or.inl ?_
      rw [Int32.toInt_div]
      apply Int.bmod_eq_of_le <;> omega
  have ex : (a0 / a1).toInt = a0.toInt.tdiv a1.toInt := by
    rw [Int32.toInt_div]
    by_cases z : 0 ≤ a0.toInt
    · have := hpos z
      apply Int.bmod_eq_of_le <;> omega
    · have := hneg (by omega)
      apply Int.bmod_eq_of_le <;> omega
  have hmulb : ∀ t : Int, t = a0.toInt.tdiv a1.toInt * a1.toInt → t.natAbs ≤ a0.toInt.natAbs := by
    intro t ht
    rw [ht, Int.natAbs_mul, hab]
    exact Nat.div_mul_le_self _ _
  have hm := hmulb _ rfl
  have hsig : a0.toInt < 0 → a0.toInt.tdiv a1.toInt * a1.toInt ≤ 0 := fun z => Int.mul_nonpos_of_nonpos_of_nonneg (hneg z) (by omega)
  have em : a0.toInt < 0 → (a0 / a1 * a1).toInt = a0.toInt.tdiv a1.toInt * a1.toInt := fun z => by
    have := hsig z
    rw [Int32.toInt_mul, ex]
    apply Int.bmod_eq_of_le <;> omega
  refine ⟨fun z => by rw [z] at h; exact absurd h (by decide), fun x hx => ?_⟩
  subst hx
  rw [xor_sign h]
  refine ⟨fun z => hq _ ?_, fun z => ⟨fun e => hq _ ?_, fun e => hq _ ?_⟩⟩
  · rw [ex, hte, if_pos (Or.inl z), Int.add_zero]
  · have e2 : a0.toInt.tdiv a1.toInt * a1.toInt = a0.toInt := by
      rw [← em (by omega), e]
    rw [ex, hte, if_pos (Or.inr ⟨a0.toInt.tdiv a1.toInt, by rw [Int.mul_comm]; exact e2.symm⟩), Int.add_zero]
  · have nd : ¬ a1.toInt ∣ a0.toInt := fun ⟨t, ht⟩ => e (by
      apply Int32.toInt_inj.mp
      rw [em (by omega)]
      have : a0.toInt.tdiv a1.toInt = t := by
        rw [ht]
        exact Int.mul_tdiv_cancel_left _ (by omega)
      rw [this, ht, Int.mul_comm])
    rw [if_neg (fun zz => zz.elim z nd)] at hte
    have hn := hneg (by omega)
    have hed : a0.toInt.tdiv a1.toInt = a0.toInt / a1.toInt + 1 := hte
    have hlow : -2147483648 < a0.toInt.tdiv a1.toInt := by
      refine Classical.byContradiction (fun hc => ?_)
      have h1 : a0.toInt.natAbs / a1.toInt.natAbs = a0.toInt.natAbs := by omega
      have h2 : a1.toInt.natAbs = 1 := by
        refine Classical.byContradiction (fun h3 => ?_)
        have := Nat.div_lt_self (n := a0.toInt.natAbs) (k := a1.toInt.natAbs) (by omega) (by omega)
        omega
      exact nd ⟨a0.toInt, by rw [show a1.toInt = 1 by omega, Int.one_mul]⟩
    have o1 : (1 : Int32).toInt = 1 := by decide
    rw [small_sub (by rw [ex, o1]; omega) (by rw [ex, o1]; omega), ex, o1]
    omega
def sl (S : Sg) (I L M : Nat → Int32) : Sg := (fun a b => if a = 11 ∧ b = 0 then I else S.1 a b, fun a b => if a = 12 ∧ b = 0 then L else if a = 13 ∧ b = 0 then M else S.2.1 a b, S.2.2)
theorem sl_self (S : Sg) : sl S (gI S 11 0) (gA S 12 0) (gA S 13 0) = S := by
  have e1 : (fun a b => if a = 11 ∧ b = 0 then gI S 11 0 else S.1 a b) = S.1 := by
    funext a b
    by_cases h : a = 11 ∧ b = 0
    · rw [if_pos h, h.1, h.2]
      rfl
    · rw [if_neg h]
  have e2 : (fun a b => if a = 12 ∧ b = 0 then gA S 12 0 else if a = 13 ∧ b = 0 then gA S 13 0 else S.2.1 a b) = S.2.1 := by
    funext a b
    by_cases h : a = 12 ∧ b = 0
    · rw [if_pos h, h.1, h.2]
      rfl
    · rw [if_neg h]
      by_cases h2 : a = 13 ∧ b = 0
      · rw [if_pos h2, h2.1, h2.2]
        rfl
      · rw [if_neg h2]
  unfold sl
  rw [e1, e2]
theorem sl_I (S : Sg) (I L M : Nat → Int32) (f : Nat) (v : Int32) : uI (sl S I L M) 11 0 f v = sl S (upd I f v) L M := by
  have e : (fun a b => if a = 11 ∧ b = 0 then upd (if 11 = 11 ∧ 0 = 0 then I else S.1 11 0) f v else (if a = 11 ∧ b = 0 then I else S.1 a b)) = (fun a b => if a = 11 ∧ b = 0 then upd I f v else S.1 a b) := by
    funext a b
    by_cases h : a = 11 ∧ b = 0
    · rw [if_pos h, if_pos h, if_pos ⟨rfl, rfl⟩]
    · rw [if_neg h, if_neg h, if_neg h]
  show ((fun a b => if a = 11 ∧ b = 0 then upd (if 11 = 11 ∧ 0 = 0 then I else S.1 11 0) f v else (if a = 11 ∧ b = 0 then I else S.1 a b)), (sl S I L M).2) = _
  rw [e]
  rfl
theorem sl_L (S : Sg) (I L M : Nat → Int32) (i : Nat) (v : Int32) : uA (sl S I L M) 12 0 i v = sl S I (upd L i v) M := by
  have e : (fun a b => if a = 12 ∧ b = 0 then upd (if 12 = 12 ∧ 0 = 0 then L else if 12 = 13 ∧ 0 = 0 then M else S.2.1 12 0) i v else (if a = 12 ∧ b = 0 then L else if a = 13 ∧ b = 0 then M else S.2.1 a b)) = (fun a b => if a = 12 ∧ b = 0 then upd L i v else if a = 13 ∧ b = 0 then M else S.2.1 a b) := by
    funext a b
    by_cases h : a = 12 ∧ b = 0
    · rw [if_pos h, if_pos h, if_pos ⟨rfl, rfl⟩]
    · rw [if_neg h, if_neg h, if_neg h]
  show ((sl S I L M).1, (fun a b => if a = 12 ∧ b = 0 then upd (if 12 = 12 ∧ 0 = 0 then L else if 12 = 13 ∧ 0 = 0 then M else S.2.1 12 0) i v else (if a = 12 ∧ b = 0 then L else if a = 13 ∧ b = 0 then M else S.2.1 a b)), S.2.2) = _
  rw [e]
  rfl
theorem sl_M (S : Sg) (I L M : Nat → Int32) (i : Nat) (v : Int32) : uA (sl S I L M) 13 0 i v = sl S I L (upd M i v) := by
  have e : (fun a b => if a = 13 ∧ b = 0 then upd (if 13 = 12 ∧ 0 = 0 then L else if 13 = 13 ∧ 0 = 0 then M else S.2.1 13 0) i v else (if a = 12 ∧ b = 0 then L else if a = 13 ∧ b = 0 then M else S.2.1 a b)) = (fun a b => if a = 12 ∧ b = 0 then L else if a = 13 ∧ b = 0 then upd M i v else S.2.1 a b) := by
    funext a b
    by_cases h : a = 13 ∧ b = 0
    · rw [if_pos h, if_neg (by omega), if_pos ⟨rfl, rfl⟩, if_neg (by omega), if_pos h]
    · rw [if_neg h, if_neg h]
      by_cases h2 : a = 12 ∧ b = 0
      · rw [if_pos h2, if_pos h2]
      · rw [if_neg h2, if_neg h2, if_neg h]
  show ((sl S I L M).1, (fun a b => if a = 13 ∧ b = 0 then upd (if 13 = 12 ∧ 0 = 0 then L else if 13 = 13 ∧ 0 = 0 then M else S.2.1 13 0) i v else (if a = 12 ∧ b = 0 then L else if a = 13 ∧ b = 0 then M else S.2.1 a b)), S.2.2) = _
  rw [e]
  rfl
/-- what the bounds low and high mean -/
def bnd (I : Nat → Int32) : Prop := 0 ≤ (I 3).toInt ∧ (I 3).toInt ≤ 200000 ∧ -200000 ≤ (I 4).toInt ∧ (I 4).toInt ≤ 15
theorem ed_lo {x c s : Int} (hs : 0 < s) : -(x / s) ≤ c ↔ -(c * s) ≤ x := by
  have : -c ≤ x / s ↔ -c * s ≤ x := Int.le_ediv_iff_mul_le hs
  rw [Int.neg_mul] at this
  omega
theorem ed_hi {x c s : Int} (hs : 0 < s) : c ≤ x / s ↔ c * s ≤ x := Int.le_ediv_iff_mul_le hs
theorem ed_bd {x s : Int} (hs : 0 < s) (h1 : -150000 ≤ x) (h2 : x ≤ 150000) : -150000 ≤ x / s ∧ x / s ≤ 150000 := by
  constructor
  · rw [Int.le_ediv_iff_mul_le hs]
    have : (1 : Int) * 150000 ≤ s * 150000 := Int.mul_le_mul_of_nonneg_right (by omega) (by omega)
    have e : (-150000 : Int) * s = -(s * 150000) := by
      rw [Int.mul_comm, Int.mul_neg]
    omega
  · have : x / s < 150001 := by
      rw [Int.ediv_lt_iff_lt_mul hs]
      have : (1 : Int) * 150001 ≤ s * 150001 := Int.mul_le_mul_of_nonneg_right (by omega) (by omega)
      have e : (150001 : Int) * s = s * 150001 := Int.mul_comm _ _
      omega
    omega
theorem sp_narrow {S : Sg} {I L M : Nat → Int32} {l g T : Int32} (hl : btw l 101000) (hg : btw g 20) (h0 : 0 ≤ T.toInt) (h1 : T.toInt ≤ 100) (hb : bnd I) {Q : Sg → Prop} (hq : ∀ I' : Nat → Int32, (∀ f, f ≠ 3 → f ≠ 4 → I' f = I f) → bnd I' → (∀ c : Nat, c ≤ 15 → (((I' 3).toInt ≤ c ∧ (c : Int) ≤ (I' 4).toInt) ↔ (((I 3).toInt ≤ c ∧ (c : Int) ≤ (I 4).toInt) ∧ -T.toInt ≤ g.toInt * c - l.toInt ∧ g.toInt * c - l.toInt ≤ T.toInt))) → Q (sl S I' L M)) : wp_X7_narrow l g T (sl S I L M) Q := by
  unfold btw at hl hg
  obtain ⟨b1, b2, b3, b4⟩ := hb
  have o0 : (0 : Int32).toInt = 0 := by decide
  have om : (-1 : Int32).toInt = -1 := by decide
  have g3 : ∀ I : Nat → Int32, gI (sl S I L M) 11 0 = I := fun _ => rfl
  refine ⟨fun gn x ex => ?_, fun ge => ?_⟩
  · have gi : ¬ g.toInt = 0 := fun z => gn (Int32.toInt_inj.mp (by rw [z, o0]))
    have main : ∀ (w : Int32) (s : Int), x.toInt = s → 0 < s → s ≤ 20 → -101000 ≤ w.toInt → w.toInt ≤ 101000 → (∀ c : Int, (-T.toInt ≤ g.toInt * c - l.toInt ∧ g.toInt * c - l.toInt ≤ T.toInt) ↔ (-(c * s) ≤ T.toInt - w.toInt ∧ c * s ≤ T.toInt + w.toInt)) → wp_J9_floorDiv_7cf53 (T - w) x (sl S I L M) (fun r_4 S_4 => (∀ S_5 : Sg, S_5 = uI S_4 11 0 3 (if (gI (sl S I L M) 11 0 3) < (-r_4) then (-r_4) else (gI (sl S I L M) 11 0 3)) → wp_J9_floorDiv_7cf53 (T + w) x S_5 (fun r_6 S_6 => (∀ S_7 : Sg, S_7 = uI S_6 11 0 4 (if r_6 < (gI S_5 11 0 4) then r_6 else (gI S_5 11 0 4)) → Q S_7)))) := by
      intro w s hs sp s20 w1 w2 heq
      have t1 : (T - w).toInt = T.toInt - w.toInt := small_sub (by omega) (by omega)
      have t2 : (T + w).toInt = T.toInt + w.toInt := small_add (by omega) (by omega)
      refine sp_floor (by omega) (fun r4 hr4 S5 e5 => ?_)
      rw [t1, hs] at hr4
      rw [g3, sl_I] at e5
      subst e5
      refine sp_floor (by omega) (fun r6 hr6 S7 e7 => ?_)
      rw [t2, hs] at hr6
      rw [g3, sl_I] at e7
      subst e7
      have d4 := ed_bd sp (x := T.toInt - w.toInt) (by omega) (by omega)
      have d6 := ed_bd sp (x := T.toInt + w.toInt) (by omega) (by omega)
      have n4 : (-r4).toInt = -((T.toInt - w.toInt) / s) := by
        rw [small_neg (by omega), hr4]
      have v3 : (if I 3 < -r4 then -r4 else I 3).toInt = if (I 3).toInt < -((T.toInt - w.toInt) / s) then -((T.toInt - w.toInt) / s) else (I 3).toInt := by
        by_cases z : I 3 < -r4
        · rw [if_pos z, n4, if_pos (by rw [Int32.lt_iff_toInt_lt, n4] at z; exact z)]
        · rw [if_neg z, if_neg (by rw [Int32.lt_iff_toInt_lt, n4] at z; exact z)]
      have u4 : upd I 3 (if I 3 < -r4 then -r4 else I 3) 4 = I 4 := upd_ne (by omega)
      rw [u4]
      have v4 : (if r6 < I 4 then r6 else I 4).toInt = if (T.toInt + w.toInt) / s < (I 4).toInt then (T.toInt + w.toInt) / s else (I 4).toInt := by
        by_cases z : r6 < I 4
        · rw [if_pos z, hr6, if_pos (by rw [Int32.lt_iff_toInt_lt, hr6] at z; exact z)]
        · rw [if_neg z, if_neg (by rw [Int32.lt_iff_toInt_lt, hr6] at z; exact z)]
      have k3 : upd (upd I 3 (if I 3 < -r4 then -r4 else I 3)) 4 (if r6 < I 4 then r6 else I 4) 3 = (if I 3 < -r4 then -r4 else I 3) := by rw [upd_ne (by omega), upd_same]
      have k4 : upd (upd I 3 (if I 3 < -r4 then -r4 else I 3)) 4 (if r6 < I 4 then r6 else I 4) 4 = (if r6 < I 4 then r6 else I 4) := upd_same
      refine hq _ (fun f f3 f4 => by rw [upd_ne f4, upd_ne f3]) ?_ (fun c hc => ?_)
      · unfold bnd
        rw [k3, k4, v3, v4]
        refine ⟨?_, ?_, ?_, ?_⟩ <;> split <;> omega
      · rw [k3, k4, v3, v4, heq]
        have l1 := ed_lo (x := T.toInt - w.toInt) (c := (c : Int)) sp
        have l2 := ed_hi (x := T.toInt + w.toInt) (c := (c : Int)) sp
        rw [← l1, ← l2]
        constructor
        · intro ⟨z1, z2⟩
          refine ⟨⟨?_, ?_⟩, ?_, ?_⟩
          all_goals
            revert z1 z2
            split <;> split <;> omega
        · intro ⟨⟨z1, z2⟩, z3, z4⟩
          constructor <;> split <;> omega
    refine ⟨_, fun _ _ h => h, fun gp => ?_, fun gp => ?_⟩
    · have gp' : 0 ≤ g.toInt := by rw [Int32.le_iff_toInt_le, o0] at gp; exact gp
      refine main l g.toInt (by rw [ex, if_pos gp]) (by omega) (by omega) (by omega) (by omega) (fun c => ?_)
      rw [Int.mul_comm c]
      omega
    · have gp' : g.toInt < 0 := by rw [Int32.le_iff_toInt_le, o0] at gp; omega
      have e0 : (0 - g).toInt = -g.toInt := by
        rw [small_sub (by rw [o0]; omega) (by rw [o0]; omega), o0]
        omega
      have en : (-l).toInt = -l.toInt := small_neg (by omega)
      refine main (-l) (-g.toInt) (by rw [ex, if_neg gp, e0]) (by omega) (by omega) (by omega) (by omega) (fun c => ?_)
      rw [Int.mul_neg, Int.mul_comm c, en]
      omega
  · have gz : g.toInt = 0 := by rw [ge, o0]
    have off : (T.toInt < l.toInt ∨ l.toInt < -T.toInt) → Q (sl S (upd I 4 (-1)) L M) := by
      intro hout
      refine hq _ (fun f f3 f4 => upd_ne f4) ?_ (fun c hc => ?_)
      · unfold bnd
        rw [upd_ne (by omega), upd_same, om]
        omega
      · rw [upd_ne (by omega), upd_same, om, gz, Int.zero_mul]
        omega
    have tn : (-T).toInt = -T.toInt := small_neg (by omega)
    refine ⟨fun z S1 e1 => ?_, fun z => ⟨fun z2 => ?_, fun z2 S1 e1 => ?_⟩⟩
    · rw [sl_I] at e1
      subst e1
      rw [Int32.lt_iff_toInt_lt] at z
      exact off (Or.inl z)
    · rw [Int32.lt_iff_toInt_lt] at z
      rw [Int32.le_iff_toInt_le, tn] at z2
      refine hq I (fun _ _ _ => rfl) ⟨b1, b2, b3, b4⟩ (fun c hc => ?_)
      rw [gz, Int.zero_mul]
      omega
    · rw [sl_I] at e1
      subst e1
      rw [Int32.le_iff_toInt_le, tn] at z2
      exact off (Or.inr (by omega))
