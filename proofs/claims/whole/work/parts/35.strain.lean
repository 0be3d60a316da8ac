/-! strain -/
abbrev dP (S : Sg) (f a b : Nat) : Int64 := Int32.toInt64 (gI S 26 b f - gI S 26 a f)
abbrev dV (S : Sg) (i a b : Nat) : Int64 := Int32.toInt64 (gA S 33 b i - gA S 33 a i)
abbrev stD (S : Sg) (a b c : Nat) : Int64 := dP S 1 a b * dP S 2 a c - dP S 1 a c * dP S 2 a b
def stA (S : Sg) (a b c : Nat) (p : Int32) : Int64 :=
  if p = 0 then dV S 0 a b * dP S 2 a c - dV S 0 a c * dP S 2 a b
  else if p = 1 then dP S 1 a b * dV S 1 a c - dP S 1 a c * dV S 1 a b
  else if p = 2 then (dP S 1 a b * dV S 0 a c - dP S 1 a c * dV S 0 a b) + (dV S 1 a b * dP S 2 a c - dV S 1 a c * dP S 2 a b)
  else (dV S 1 a b * dP S 2 a c - dV S 1 a c * dP S 2 a b) - (dP S 1 a b * dV S 0 a c - dP S 1 a c * dV S 0 a b)
theorem sp_area {S : Sg} {a b c : Nat} (ha : a < nM S) (hb : b < nM S) (hc : c < nM S) {Q : Int64 → Sg → Prop} (hq : Q (stD S a b c) S) : wp_X9_areaTwice a b c S Q := by
  refine ⟨hb, hb, ha, ha, fun x ex => ⟨hb, hb, ha, ha, fun y ey => ⟨hc, hc, ha, ha, fun z ez => ⟨hc, hc, ha, ha, fun w ew => ?_⟩⟩⟩⟩
  subst ex ey ez ew
  exact hq
theorem sp_strainAbove {S : Sg} {a b c : Nat} {p : Int32} (ha : a < nM S) (hb : b < nM S) (hc : c < nM S) {Q : Int64 → Sg → Prop} (hq : Q (stA S a b c p) S) : wp_X9_strainAbove a b c p S Q := by
  refine ⟨hb, hb, ha, ha, fun x1 e1 => ⟨hb, hb, ha, ha, fun x2 e2 => ⟨hc, hc, ha, ha, fun x3 e3 => ⟨hc, hc, ha, ha, fun x4 e4 => ⟨hb, hb, in02, ha, ha, in02, fun x5 e5 => ⟨hb, hb, in12, ha, ha, in12, fun x6 e6 => ⟨hc, hc, in02, ha, ha, in02, fun x7 e7 => ⟨hc, hc, in12, ha, ha, in12, fun x8 e8 => ?_⟩⟩⟩⟩⟩⟩⟩⟩
  subst e1 e2 e3 e4 e5 e6 e7 e8
  unfold stA at hq
  refine ⟨fun e => ?_, fun e => ?_, fun e => ?_, fun e => ?_⟩
  · rw [if_pos e] at hq
    exact hq
  · rw [if_neg (by rw [e]; decide), if_pos e] at hq
    exact hq
  · rw [if_neg (by rw [e]; decide), if_neg (by rw [e]; decide), if_pos e] at hq
    exact hq
  · rw [if_neg e.1, if_neg e.2.1, if_neg e.2.2] at hq
    exact hq
theorem rf_strain_bad {S : Sg} (hA : rA S) {a1 a2 a3 a4 a5 : Int32} {Q : Int64 → Sg → Prop} (hb : ¬ vp_in a1 (nM S) ∨ ¬ vp_in a2 (nM S) ∨ ¬ vp_in a3 (nM S) ∨ (a4 < 0 ∨ 3 < a4)) (hq : Q 0 (uI S 40 0 0 1)) : wp_X10_strain a1 a2 a3 a4 a5 S Q := by
  unfold wp_X10_strain
  have fin : ∀ (X : Sg → Prop) (S3 : Sg), S3 = uI S 40 0 0 1 → ((gI S3 40 0 0 ≤ 0 → X S3) ∧ (¬ gI S3 40 0 0 ≤ 0 → Q 0 S3)) := by
    intro X S3 es
    subst es
    exact bq_f (by rw [gI_at]; decide) hq
  refine hA.ref (fun v1 => ⟨_, fun _ _ h => h, _, fun _ h => h, bq_f i10 ?_⟩) (fun _ => ⟨_, fun _ _ h => h, _, fun _ h => h, bq_t rfl (fin _)⟩)
  refine hA.ref (fun v2 => bq_f i10 ?_) (fun _ => bq_t rfl (fin _))
  refine hA.ref (fun v3 => bq_f i10 ?_) (fun _ => bq_t rfl (fin _))
  refine sp_in (fun q1 q2 => ?_) (fun _ => bq_t rfl (fin _))
  exfalso
  rcases hb with hb | hb | hb | hb | hb
  · exact hb v1
  · exact hb v2
  · exact hb v3
  · exact q1 hb
  · exact q2 hb
theorem rf_strain {S T : Sg} (hA : rA S) (hF : rF S) (tA : rA T) (tn : nM T = nM S) (t51 : ∀ k, k < 10 → gA T 51 0 k = gA S 33 k 0) (t52 : ∀ k, k < 10 → gA T 52 0 k = gA S 33 k 1) (t42 : ∀ k, k < 10 → gA T 42 0 k = gI S 26 k 1) (t43 : ∀ k, k < 10 → gA T 43 0 k = gI S 26 k 2) {a b c : Nat} (ha : a < nM S) (hb : b < nM S) (hc : c < nM S) {p l : Int32} (hp0 : ¬ p < 0) (hp3 : ¬ 3 < p) {Q : Int64 → Sg → Prop} (h2 : stD S a b c = 0 → Q 0 (uI (uI T 40 0 0 0) 40 0 0 2)) (h0 : ¬ stD S a b c = 0 → Q (lowT (stA S a b c p) (stD S a b c) l) (uI (uI T 40 0 0 0) 40 0 0 0)) : wp_X10_strain (nI a) (nI b) (nI c) p l T Q := by
  have hn := hA.1
  have ca : (nI a).toNatClampNeg = a := nI_clamp (by omega)
  have cb : (nI b).toNatClampNeg = b := nI_clamp (by omega)
  have cc : (nI c).toNatClampNeg = c := nI_clamp (by omega)
  have va : vp_in (nI a) 10 := in_nI (by omega) (by omega)
  have vb : vp_in (nI b) 10 := in_nI (by omega) (by omega)
  have vc : vp_in (nI c) 10 := in_nI (by omega) (by omega)
  unfold wp_X10_strain
  refine tA.ref (fun _ => ⟨fun t S2 => t = 0 ∧ S2 = T, ?_, fun _ => False, fun _ z => z.elim, bq_f i10 ?_⟩) (fun n => absurd (by rw [tn]; exact in_nI ha (by omega)) n)
  · rintro t S2 ⟨rfl, rfl⟩ S3 rfl
    refine bq_t (by rw [gI_at]; decide) ?_
    rw [ca, cb, cc]
    refine ⟨vb, va, fun x1 e1 => ⟨vb, va, fun x2 e2 => ⟨vc, va, fun x3 e3 => ⟨vc, va, fun x4 e4 => ⟨vb, va, fun x5 e5 => ⟨vb, va, fun x6 e6 => ⟨vc, va, fun x7 e7 => ⟨vc, va, fun x8 e8 x9 e9 => ?_⟩⟩⟩⟩⟩⟩⟩⟩
    have f1 : x1 = dP S 1 a b := e1.trans (by show Int32.toInt64 (gA S2 42 0 b - gA S2 42 0 a) = _; rw [t42 b (by omega), t42 a (by omega)])
    have f2 : x2 = dP S 2 a b := e2.trans (by show Int32.toInt64 (gA S2 43 0 b - gA S2 43 0 a) = _; rw [t43 b (by omega), t43 a (by omega)])
    have f3 : x3 = dP S 1 a c := e3.trans (by show Int32.toInt64 (gA S2 42 0 c - gA S2 42 0 a) = _; rw [t42 c (by omega), t42 a (by omega)])
    have f4 : x4 = dP S 2 a c := e4.trans (by show Int32.toInt64 (gA S2 43 0 c - gA S2 43 0 a) = _; rw [t43 c (by omega), t43 a (by omega)])
    have f5 : x5 = dV S 0 a b := e5.trans (by show Int32.toInt64 (gA S2 51 0 b - gA S2 51 0 a) = _; rw [t51 b (by omega), t51 a (by omega)])
    have f6 : x6 = dV S 1 a b := e6.trans (by show Int32.toInt64 (gA S2 52 0 b - gA S2 52 0 a) = _; rw [t52 b (by omega), t52 a (by omega)])
    have f7 : x7 = dV S 0 a c := e7.trans (by show Int32.toInt64 (gA S2 51 0 c - gA S2 51 0 a) = _; rw [t51 c (by omega), t51 a (by omega)])
    have f8 : x8 = dV S 1 a c := e8.trans (by show Int32.toInt64 (gA S2 52 0 c - gA S2 52 0 a) = _; rw [t52 c (by omega), t52 a (by omega)])
    clear e1 e2 e3 e4 e5 e6 e7 e8
    subst f1 f2 f3 f4 f5 f6 f7 f8
    have e9 : x9 = stD S a b c := e9
    subst e9
    refine ⟨fun t S30 => S30 = uI S2 40 0 0 0 ∧ ((t = 0 ∧ ¬ stD S a b c = 0) ∨ (t = 2 ∧ stD S a b c = 0)), ?_, fun q => ⟨rfl, Or.inl ⟨rfl, q⟩⟩, fun q => ⟨rfl, Or.inr ⟨rfl, q⟩⟩⟩
    rintro t S30 ⟨rfl, (⟨rfl, hz⟩ | ⟨rfl, hz⟩)⟩ S31 rfl
    · have h0 := h0 hz
      unfold stA at h0
      refine bq_t (by rw [gI_at]; decide) (fun y1 e1 y2 e2 => ?_)
      subst e1 e2
      refine ⟨fun n0 => ⟨fun n1 => ⟨fun n2 x ex => ?_, fun e x ex => ?_⟩, fun e x ex => ?_⟩, fun e x ex => ?_⟩
      · subst ex
        rw [if_neg n0, if_neg n1, if_neg n2] at h0
        exact rf_lowest hz h0
      · subst ex
        rw [if_neg n0, if_neg n1, if_pos e] at h0
        exact rf_lowest hz h0
      · subst ex
        rw [if_neg n0, if_pos e] at h0
        exact rf_lowest hz h0
      · subst ex
        rw [if_pos e] at h0
        exact rf_lowest hz h0
    · exact bq_f (by rw [gI_at]; decide) (h2 hz)
  · refine tA.ref (fun _ => bq_f i10 ?_) (fun n => absurd (by rw [tn]; exact in_nI hb (by omega)) n)
    refine tA.ref (fun _ => bq_f i10 ?_) (fun n => absurd (by rw [tn]; exact in_nI hc (by omega)) n)
    exact sp_in (fun _ _ => bq_f i10 ⟨rfl, rfl⟩) (fun n => (n.elim hp0 hp3).elim)
theorem rl_strain {S : Sg} (h : Rel S) (a1 a2 a3 a4 a5 : Int32) : wp_L_strain a1 a2 a3 a4 a5 S (fun k S1 => wp_X10_strain a1 a2 a3 a4 a5 S1 (fun b S2 => gI S2 40 0 0 = k ∧ (k = 0 → gL S2 39 0 0 = b) ∧ Rel S2)) := by
  have h' := h
  obtain ⟨hA, hB, hC, hD, hE, hF, hG, hH, hS, hX⟩ := h'
  unfold wp_L_strain wp_X9_strain
  have bad : (¬ vp_in a1 (nM S) ∨ ¬ vp_in a2 (nM S) ∨ ¬ vp_in a3 (nM S) ∨ (a4 < 0 ∨ 3 < a4)) → (IAE = IAE ∧ wp_X10_strain a1 a2 a3 a4 a5 S (fun b S2 => gI S2 40 0 0 = 1 ∧ ((1 : Int32) = 0 → gL S2 39 0 0 = b) ∧ Rel S2)) ∨ (IAE = ISE ∧ wp_X10_strain a1 a2 a3 a4 a5 S (fun b S2 => gI S2 40 0 0 = 2 ∧ ((2 : Int32) = 0 → gL S2 39 0 0 = b) ∧ Rel S2)) := fun hb => Or.inl ⟨rfl, rf_strain_bad hA hb ⟨gI_at, fun z => absurd z i10, hA, hB, hC, hD, hE, hF, hG, hH, hS, hX⟩⟩
  refine hA.in (fun a han ha e1 e2 hv hvn => ⟨fun z => (by cases z), fun j hj => ?_⟩) (fun hb => ⟨fun _ => ?_, fun j hj => by cases hj⟩)
  · cases hj
    refine hA.in (fun b hbn hb f1 f2 hw hwn => ⟨fun z => (by cases z), fun j hj => ?_⟩) (fun hb => ⟨fun _ => ?_, fun j hj => by cases hj⟩)
    · cases hj
      refine hA.in (fun c hcn hc g1 g2 hx hxn => ⟨fun z => (by cases z), fun j hj => ?_⟩) (fun hb => ⟨fun _ => bad (Or.inr (Or.inr (Or.inl hb))), fun j hj => by cases hj⟩)
      cases hj
      refine ⟨fun q => bad (Or.inr (Or.inr (Or.inr (Or.inl q)))), fun q0 => ⟨fun q4 => ?_, fun q4 => bad (Or.inr (Or.inr (Or.inr (Or.inr ?_))))⟩⟩
      · have q3 : ¬ (3 : Int32) < a4 := by
          rw [Int32.lt_iff_toInt_lt] at q4 ⊢
          have z1 : (4 : Int32).toInt = 4 := by decide
          have z2 : (3 : Int32).toInt = 3 := by decide
          omega
        subst e1 f1 g1
        refine sp_area han hbn hcn ⟨fun q => ?_, fun q => Or.inr ⟨rfl, ?_⟩⟩
        · refine sp_strainAbove han hbn hcn (sp_lowest q (fun S2 es2 => ?_))
          subst es2
          exact rf_strain (T := uL S 39 0 (Int32.toNatClampNeg 0) (lowT (stA S a b c a4) (stD S a b c) a5)) hA hF hA rfl (fun k hk => (hF.1 k hk).1) (fun k hk => (hF.1 k hk).2.1) (fun k hk => (hA.2.2.2.2.1 k hk).2.1) (fun k hk => (hA.2.2.2.2.1 k hk).2.2.1) han hbn hcn q0 q3 (fun z => absurd z q) (fun _ => ⟨gI_at, fun _ => rfl, hA, hB, hC, hD, hE, hF, hG, hH, hS, hX⟩)
        · exact rf_strain hA hF hA rfl (fun k hk => (hF.1 k hk).1) (fun k hk => (hF.1 k hk).2.1) (fun k hk => (hA.2.2.2.2.1 k hk).2.1) (fun k hk => (hA.2.2.2.2.1 k hk).2.2.1) han hbn hcn q0 q3 (fun _ => ⟨gI_at, fun z => absurd z (by decide), hA, hB, hC, hD, hE, hF, hG, hH, hS, hX⟩) (fun z => absurd q z)
      · rw [Int32.lt_iff_toInt_lt] at q4 ⊢
        have z1 : (4 : Int32).toInt = 4 := by decide
        have z2 : (3 : Int32).toInt = 3 := by decide
        omega
    · exact hA.in (fun _ _ _ _ _ _ _ => ⟨fun z => (by cases z), fun _ _ => bad (Or.inr (Or.inl hb))⟩) (fun _ => ⟨fun _ => bad (Or.inr (Or.inl hb)), fun j hj => by cases hj⟩)
  · refine hA.in (fun _ _ _ _ _ _ _ => ⟨fun z => (by cases z), fun _ _ => ?_⟩) (fun _ => ⟨fun _ => ?_, fun j hj => by cases hj⟩)
    · exact hA.in (fun _ _ _ _ _ _ _ => ⟨fun z => (by cases z), fun _ _ => bad (Or.inl hb)⟩) (fun _ => ⟨fun _ => bad (Or.inl hb), fun j hj => by cases hj⟩)
    · exact hA.in (fun _ _ _ _ _ _ _ => ⟨fun z => (by cases z), fun _ _ => bad (Or.inl hb)⟩) (fun _ => ⟨fun _ => bad (Or.inl hb), fun j hj => by cases hj⟩)
/-! copy -/
theorem rf_copy_bad {S : Sg} (hS : rS S) {a1 a2 a3 a4 a5 r : Int32} {Q : Int32 → Sg → Prop} (hb : (r = -1 ∧ (¬ vp_in a1 8 ∨ ¬ vp_in a3 8)) ∨ (vp_in a1 8 ∧ vp_in a3 8 ∧ ((r = -11 ∧ (gI S 24 a1.toNatClampNeg 1 = 0 ∨ gI S 24 a3.toNatClampNeg 1 = 0)) ∨ ((¬ gI S 24 a1.toNatClampNeg 1 = 0 ∧ ¬ gI S 24 a3.toNatClampNeg 1 = 0) ∧ ((r = -12 ∧ (gI S 24 a1.toNatClampNeg 1 < 3 ∨ ¬ gI S 24 a1.toNatClampNeg 1 = gI S 24 a3.toNatClampNeg 1)) ∨ (r = -13 ∧ ¬ gI S 24 a1.toNatClampNeg 1 < 3 ∧ gI S 24 a1.toNatClampNeg 1 = gI S 24 a3.toNatClampNeg 1 ∧ (a5 < 0 ∨ a2 < 0 ∨ a4 < 0 ∨ gI S 24 a1.toNatClampNeg 2 - a5 < a2 ∨ ¬ a4 ≤ gI S 24 a3.toNatClampNeg 2 - a5))))))) (hq : Q r S) : wp_X10_copy a1 a2 a3 a4 a5 S Q := by
  unfold wp_X10_copy
  have row : ∀ a : Int32, vp_in a 8 → gA S 64 0 a.toNatClampNeg = gI S 24 a.toNatClampNeg 1 ∧ (¬ gI S 24 a.toNatClampNeg 1 < 3 → gA S 66 0 a.toNatClampNeg = gI S 24 a.toNatClampNeg 2) := by
    intro a hv
    obtain ⟨d, hd, -, e2⟩ := vp_nat hv (by omega)
    rw [e2]
    obtain ⟨h1, h2⟩ := hS d hd
    refine ⟨h1, fun h3 => ?_⟩
    rcases h2 with ⟨e, -⟩ | ⟨e, -⟩ | ⟨-, -, z, hz, q1, q2, -⟩
    · exact absurd (by rw [e]; decide) h3
    · exact absurd (by rw [e]; decide) h3
    · rw [q1, q2]
  refine sp_isShelf (fun v1 => bq_f i10 (sp_isShelf (fun v3 => bq_nf i10 ?_) (fun n3 => bq_nt rfl ?_))) (fun n1 => bq_t rfl ?_)
  · rcases hb with ⟨-, hb⟩ | ⟨-, -, hb⟩
    · exact absurd v3 (hb.resolve_left (fun z => z v1))
    · obtain ⟨r1, r2⟩ := row a1 v1
      obtain ⟨r3, r4⟩ := row a3 v3
      rw [r1, r3]
      rcases hb with ⟨rfl, hb⟩ | ⟨⟨m1, m3⟩, hb⟩
      · exact ⟨v1, fun _ => hq, fun n1 => ⟨v3, bq_nt (hb.resolve_left n1) hq⟩⟩
      · refine ⟨v1, bq_f m1 ⟨v3, bq_nf m3 ⟨v1, ?_⟩⟩⟩
        rcases hb with ⟨rfl, hb⟩ | ⟨rfl, l3, he, hb⟩
        · exact ⟨fun _ => hq, fun l3 => ⟨v1, v3, bq_f (hb.resolve_left l3) hq⟩⟩
        · rw [r2 l3, r4 (by rw [← he]; exact l3)]
          refine bq_f l3 ⟨v1, v3, bq_t he ⟨fun _ => hq, fun k5 => ⟨fun _ => hq, fun k2 => ⟨fun _ => hq, fun k4 => ⟨v1, fun _ => hq, fun k6 => ⟨v3, bq_f ?_ hq⟩⟩⟩⟩⟩⟩
          rcases hb with hb | hb | hb | hb | hb
          · exact absurd hb k5
          · exact absurd hb k2
          · exact absurd hb k4
          · exact absurd hb k6
          · exact hb
  · rcases hb with ⟨rfl, -⟩ | ⟨-, v3, -⟩
    · exact hq
    · exact absurd v3 n3
  · rcases hb with ⟨rfl, -⟩ | ⟨v1, -⟩
    · exact hq
    · exact absurd v1 n1
