/-! keep -/
theorem sz_row (T : Sg) (d : Nat) (x y : Int32) (g : Nat → Int64) : uA (uLr (uA T 66 0 d x) 67 0 g) 66 0 d y = uLr (uA T 66 0 d y) 67 0 g := by
  have e : (fun a b => if a = 66 ∧ b = 0 then upd (if 66 = 66 ∧ 0 = 0 then upd (T.2.1 66 0) d x else T.2.1 66 0) d y else (if a = 66 ∧ b = 0 then upd (T.2.1 66 0) d x else T.2.1 a b)) = (fun a b => if a = 66 ∧ b = 0 then upd (T.2.1 66 0) d y else T.2.1 a b) := by
    funext a b
    by_cases h : a = 66 ∧ b = 0
    · rw [if_pos h, if_pos h, if_pos ⟨rfl, rfl⟩, upd_upd]
    · rw [if_neg h, if_neg h, if_neg h]
  show (T.1, (fun a b => if a = 66 ∧ b = 0 then upd (if 66 = 66 ∧ 0 = 0 then upd (T.2.1 66 0) d x else T.2.1 66 0) d y else (if a = 66 ∧ b = 0 then upd (T.2.1 66 0) d x else T.2.1 a b)), (uLr (uA T 66 0 d x) 67 0 g).2.2) = _
  rw [e]
  rfl
theorem row_sz (T : Sg) (d : Nat) (x : Int32) (g : Nat → Int64) : uA (uLr T 67 0 g) 66 0 d x = uLr (uA T 66 0 d x) 67 0 g := rfl
/-- what a kept row holds: the epochs, or the values -/
abbrev kpV (S : Sg) (k : Nat) (w : Int32) (e : Nat) : Int64 := if w = 3 then e64 e else vL S k e 0
theorem rf_keep_bad {S : Sg} (hA : rA S) {a1 a2 a3 : Int32} {Q : Int32 → Sg → Prop} (hb : ¬ vp_in a1 8 ∨ (¬ a2 = 0 ∧ ¬ vp_in a3 (nM S)) ∨ (¬ a2 = 0 ∧ ¬ a2 = 1 ∧ ¬ a2 = 3 ∧ ¬ a2 = 4)) (hq : Q (-1) S) : wp_X10_keep a1 a2 a3 S Q := by
  unfold wp_X10_keep
  refine sp_isShelf (fun v1 => ?_) (fun _ => ⟨fun t S2 => t = 0 ∧ S2 = S, ?_, fun S2 => S2 = S, ?_, bq_t rfl rfl⟩)
  · refine ⟨fun t S2 => t = 0 ∧ S2 = S, ?_, fun S2 => S2 = S, ?_, bq_f i10 ⟨fun _ => False, fun _ z => z.elim, fun e0 => ?_, fun n0 => ⟨fun S2 => S2 = S ∧ ¬ vp_in a3 (nM S), ?_, ?_⟩⟩⟩
    · rintro t S2 ⟨rfl, rfl⟩
      exact bq_nt rfl hq
    · rintro S2 rfl
      exact ⟨rfl, rfl⟩
    · rcases hb with hb | hb | hb
      · exact hb v1
      · exact hb.1 e0
      · exact hb.1 e0
    · rintro S2 ⟨rfl, hv⟩
      exact hA.ref (fun v => absurd v hv) (fun _ => bq_t rfl rfl)
    · rcases hb with hb | hb | hb
      · exact absurd v1 hb
      · exact ⟨fun _ => ⟨rfl, hb.2⟩, fun _ => ⟨fun _ => ⟨rfl, hb.2⟩, fun _ => ⟨fun _ => rfl, fun _ => ⟨rfl, hb.2⟩⟩⟩⟩
      · exact bq_f hb.2.1 (bq_f hb.2.2.1 (bq_nf hb.2.2.2 rfl))
  · rintro t S2 ⟨rfl, rfl⟩
    exact bq_nt rfl hq
  · rintro S2 rfl
    exact ⟨rfl, rfl⟩
theorem rf_keep_go {S : Sg} (hA : rA S) {d : Nat} (hd : d < 8) {a2 a3 : Int32} {Q : Int32 → Sg → Prop} (hg : a2 = 0 ∨ ((a2 = 1 ∨ a2 = 3 ∨ a2 = 4) ∧ vp_in a3 (nM S))) (hq : ∀ g : Nat → Int64, (∀ i, i < 60 → g (60 * d + i) = 0) → (∀ j, (j < 60 * d ∨ 60 * d + 60 ≤ j) → g j = gL S 67 0 j) → (∃ (I_11 : Int32 → Sg → Prop) (μ_11 : Int32 → Sg → Nat), I_11 0 (uLr (uA (uA (uA S 64 0 d a2) 65 0 d a3) 66 0 d 0) 67 0 g) ∧ ∀ (v5_11 : Int32) (S_11 : Sg), I_11 v5_11 S_11 → ((40 ≤ v5_11 → Q 0 S_11) ∧ (¬ 40 ≤ v5_11 → ((a2 ≤ 1 → Q 0 S_11) ∧ (¬ a2 ≤ 1 → wp_X10_isCleared a3 v5_11 S_11 (fun r_14 S_14 => ((¬ r_14 = 0 → (vp_in (nI d) 8 ∧ (∃ J_17 : Int64 → Sg → Prop, (∀ (t0_17 : Int64) (S_17 : Sg), J_17 t0_17 S_17 → (vp_in ((60 * nI d) + (gA S_14 66 0 (Int32.toNatClampNeg (nI d)))) 480 ∧ ∀ S_19 : Sg, S_19 = uL S_17 67 0 (Int32.toNatClampNeg ((60 * nI d) + (gA S_14 66 0 (Int32.toNatClampNeg (nI d))))) t0_17 → (vp_in (nI d) 8 ∧ (vp_in (nI d) 8 ∧ ∀ S_22 : Sg, S_22 = uA S_19 66 0 (Int32.toNatClampNeg (nI d)) ((gA S_19 66 0 (Int32.toNatClampNeg (nI d))) + 1) → (∀ x5_23 : Int32, x5_23 = v5_11 + 1 → (I_11 x5_23 S_22 ∧ μ_11 x5_23 S_22 < μ_11 v5_11 S_11)))))) ∧ ((¬ a2 = 3 → wp_X10_clear a3 v5_11 0 S_14 (fun r_25 S_25 => J_17 r_25 S_25)) ∧ (a2 = 3 → J_17 (Int32.toInt64 v5_11) S_14))))) ∧ (r_14 = 0 → (∀ x5_26 : Int32, x5_26 = v5_11 + 1 → (I_11 x5_26 S_14 ∧ μ_11 x5_26 S_14 < μ_11 v5_11 S_11))))))))))) : wp_X10_keep (nI d) a2 a3 S Q := by
  have hv : vp_in (nI d) 8 := in_nI hd (by omega)
  have hcd : (nI d).toNatClampNeg = d := nI_clamp (by omega)
  unfold wp_X10_keep
  refine sp_isShelf (fun v1 => ⟨fun t S2 => t = 1 ∧ S2 = S, ?_, fun _ => False, fun _ z => z.elim, bq_f i10 ⟨fun S2 => S2 = S, ?_, fun _ => rfl, fun n0 => ⟨fun S2 => S2 = S, ?_, ?_⟩⟩⟩) (fun n => absurd hv n)
  · rintro t S2 ⟨rfl, rfl⟩
    refine bq_nf i10 ⟨hv, fun T1 et1 => ⟨hv, fun T2 et2 => ?_⟩⟩
    rw [hcd] at et1 et2
    subst et1 et2
    refine rf_wipe hd (fun g hg1 hg2 => ⟨hv, fun T3 et3 => ?_⟩)
    rw [hcd, row_sz] at et3
    subst et3
    exact hq g hg1 hg2
  · rintro S2 rfl
    exact ⟨rfl, rfl⟩
  · rintro S2 rfl
    rcases hg with e | hg
    · exact absurd e n0
    · exact hA.ref (fun _ => bq_f i10 rfl) (fun n => absurd hg.2 n)
  · rcases hg with e | ⟨e | e | e, hv3⟩
    · exact absurd e n0
    · exact ⟨fun _ => rfl, fun n => absurd e n⟩
    · exact ⟨fun _ => rfl, fun _ => ⟨fun _ => rfl, fun n => absurd e n⟩⟩
    · exact ⟨fun _ => rfl, fun _ => ⟨fun _ => rfl, fun _ => ⟨fun n => absurd e n, fun _ => rfl⟩⟩⟩
theorem sp_holdSeries {S : Sg} {d : Nat} {L : List Nat} {f : Nat → Int32} {g : Nat → Int64} {k : Nat} {w : Int32} (hd : d < 8) (hok : serOK S k 0 L f g) (hlen : L.length ≤ 40) {Q : Sg → Prop} (hq : ∀ r : Nat → Int64, (∀ i e, L[i]? = some e → r i = kpV S k w e) → Q (wrH (srs S (nI L.length) f g) d w (nI L.length) r)) : wp_X6_holdSeries d w (srs S (nI L.length) f g) Q := by
  have g3 : gI (srs S (nI L.length) f g) 3 0 2 = nI L.length := rfl
  unfold wp_X6_holdSeries wp_X5_size
  show d < 8 ∧ wp_X6_holdNoughts d w (gI (srs S (nI L.length) f g) 3 0 2) (srs S (nI L.length) f g) _
  rw [g3]
  refine ⟨hd, sp_noughts hd (by omega) (fun r hr => ?_)⟩
  refine ⟨fun v S1 => ∃ i r, i ≤ L.length ∧ v = nI i ∧ S1 = wrH (srs S (nI L.length) f g) d w (nI L.length) r ∧ ∀ j e, j < i → L[j]? = some e → r j = kpV S k w e, fun v _ => L.length - v.toNatClampNeg, ⟨0, r, by omega, rfl, rfl, fun j e hj => absurd hj (Nat.not_lt_zero j)⟩, ?_⟩
  rintro v S1 ⟨i, r, hi, rfl, rfl, hr⟩
  have s3 : gI (wrH (srs S (nI L.length) f g) d w (nI L.length) r) 3 0 2 = nI L.length := rfl
  have s4 : gA (wrH (srs S (nI L.length) f g) d w (nI L.length) r) 4 0 = f := rfl
  have s5 : gL (wrH (srs S (nI L.length) f g) d w (nI L.length) r) 5 0 = g := rfl
  show ((gI (wrH (srs S (nI L.length) f g) d w (nI L.length) r) 3 0 2 ≤ nI i → _) ∧ (¬ gI (wrH (srs S (nI L.length) f g) d w (nI L.length) r) 3 0 2 ≤ nI i → _))
  rw [s3]
  have fin : L.length ≤ i → Q (wrH (srs S (nI L.length) f g) d w (nI L.length) r) := fun h1 => hq r (fun j e he => hr j e (by have := (List.getElem?_eq_some_iff.mp he).1; omega) he)
  refine ⟨fun q => fin ((le_nI (by omega) (by omega)).mp q), fun q => ⟨fun q2 => ?_, fun q2 => ?_⟩⟩
  · have := (le_nI (a := 60) (by omega) (by omega)).mp q2
    omega
  · have h1 : i < L.length := by
      have := mt (le_nI (a := L.length) (b := i) (by omega) (by omega)).mpr q
      omega
    obtain ⟨e, he⟩ := get_of_lt h1
    obtain ⟨ef, eg⟩ := hok i e he
    have hin : vp_in (nI i) 40 := in_nI (by omega) (by omega)
    have hin6 : vp_in (nI i) 60 := in_nI (by omega) (by omega)
    have hci : (nI i).toNatClampNeg = i := nI_clamp (by omega)
    have step : ∀ x : Int64, x = kpV S k w e → ∀ S11 : Sg, S11 = uL (wrH (srs S (nI L.length) f g) d w (nI L.length) r) 25 d i x → ∀ y : Int32, y = nI i + 1 → ((∃ i r, i ≤ L.length ∧ y = nI i ∧ S11 = wrH (srs S (nI L.length) f g) d w (nI L.length) r ∧ ∀ j e, j < i → L[j]? = some e → r j = kpV S k w e) ∧ L.length - y.toNatClampNeg < L.length - (nI i).toNatClampNeg) := by
      intro x ex S11 e11 y ey
      rw [uL_uLr] at e11
      subst ey
      refine ⟨⟨i + 1, vp_updL r i x, by omega, nI_1 i, e11, fun j e2 hj he2 => ?_⟩, mu_lt h1 (by omega)⟩
      by_cases hji : j = i
      · subst hji
        rw [he] at he2
        cases he2
        rw [updL_same]
        exact ex
      · rw [updL_ne hji]
        exact hr j e2 (by omega) he2
    refine ⟨fun n3 => ⟨hin, hin6, ?_⟩, fun e3 => ⟨hin, hin6, ?_⟩⟩
    · rw [hci, s5]
      exact step _ (by rw [eg]; exact (if_neg n3).symm)
    · rw [hci, s4]
      exact step _ (by rw [ef]; exact (if_pos e3).symm)
/-- a shelf that holds no row -/
theorem rS_one {S : Sg} {d : Nat} {w : Int32} {o : Option Nat} {g : Nat → Int64} (hd : d < 8) (hw : (w = 0 ∧ o = none) ∨ (w = 1 ∧ ∃ j, j < nM S ∧ o = some j)) (hg : ∀ j, (j < 60 * d ∨ 60 * d + 60 ≤ j) → g j = gL S 67 0 j) (h : rS S) {T : Sg} (e1 : nM T = nM S) (e2 : gA T 64 0 = upd (gA S 64 0) d w) (e3 : ∀ j, j ≠ d → gA T 65 0 j = gA S 65 0 j) (e3' : ∀ j, o = some j → gA T 65 0 d = nI j) (e4 : ∀ j, j ≠ d → gA T 66 0 j = gA S 66 0 j) (e5 : ∀ j, j ≠ d → gI T 24 j = gI S 24 j) (e6 : gI T 24 d 1 = w) (e8 : ∀ j, sM T j = if j = d then o else sM S j) (e9 : ∀ j, gL T 25 j = gL S 25 j) (e11 : gL T 67 0 = g) : rS T := by
  intro j hj
  by_cases hjd : j = d
  · subst hjd
    refine ⟨by rw [e2, e6, upd_same], ?_⟩
    rcases hw with ⟨w0, o0⟩ | ⟨w1, i, hi, o1⟩
    · exact Or.inl ⟨by rw [e6, w0], by rw [e8, if_pos rfl, o0]⟩
    · exact Or.inr (Or.inl ⟨by rw [e6, w1], i, by rw [e1]; exact hi, by rw [e8, if_pos rfl, o1], e3' i o1⟩)
  · obtain ⟨h1, h2⟩ := h j hj
    unfold rS1
    rw [e2, upd_ne hjd, e5 j hjd, e8, if_neg hjd, e1, e3 j hjd, e4 j hjd, e9 j, e11]
    refine ⟨h1, h2.imp id (fun h2 => h2.imp id (fun h2 => ⟨h2.1, h2.2.1, ?_⟩))⟩
    obtain ⟨z2, hz2, q1, q2, q3⟩ := h2.2.2
    exact ⟨z2, hz2, q1, q2, fun i hi => by rw [hg _ (by omega)]; exact q3 i hi⟩
theorem rl_keep {S : Sg} (h : Rel S) (a1 a2 a3 : Int32) : wp_X9_keep a1 a2 a3 S (fun r S1 => wp_X10_keep a1 a2 a3 S1 (fun r2 S2 => r = r2 ∧ Rel S2)) := by
  have h' := h
  obtain ⟨hA, hB, hC, hD, hE, hF, hG, hH, hS, hX⟩ := h'
  have hn := hA.1
  unfold wp_X9_keep
  refine sp_cShelf (fun d hd e1 e2 hv => ⟨fun z => (by cases z), fun j hj => ?_⟩) (fun hb => ⟨fun _ => rf_keep_bad hA (Or.inl hb) ⟨rfl, h⟩, fun j hj => by cases hj⟩)
  cases hj
  subst e1
  refine ⟨fun n0 => ?_, fun e0 => ⟨hd, hd, fun S1 es1 S3 es3 S4 es4 => ?_⟩⟩
  · refine hA.in (fun k hkn hk f1 f2 hvk hvkn => ⟨fun z => (by cases z), fun j hj => ?_⟩) (fun hb => ⟨fun _ => rf_keep_bad hA (Or.inr (Or.inl ⟨n0, hb⟩)) ⟨rfl, h⟩, fun j hj => by cases hj⟩)
    cases hj
    subst f1
    have series : (a2 = 3 ∨ a2 = 4) → wp_X5_gather k 0 S (fun S6 => (d < 8 ∧ wp_X6_holdSeries d a2 S6 (fun S7 => wp_X10_keep (nI d) a2 (nI k) S7 (fun r2 S2 => (0 : Int32) = r2 ∧ Rel S2)))) := by
      intro hw
      refine sp_gather (s := 0) hA hC hE hkn (by omega) (fun f g hok => ⟨hd, ?_⟩)
      have hlen := ceT_len (kM S k) (gA S 27 k) 40
      refine sp_holdSeries hd hok hlen (fun r hr => ?_)
      generalize hT : wrH (srs S (nI (ceT (kM S k) (gA S 27 k) 40).length) f g) d a2 (nI (ceT (kM S k) (gA S 27 k) 40).length) r = T
      have tA : rA T := by rw [← hT]; exact hA
      have tn : nM T = nM S := by rw [← hT]; rfl
      have tL : gL T 67 0 = gL S 67 0 := by rw [← hT]; rfl
      refine rf_keep_go tA hd (Or.inr ⟨Or.inr hw, by rw [tn]; exact hvkn⟩) (fun g0 hg1 hg2 => ?_)
      rw [tL] at hg2
      have hcd : (nI d).toNatClampNeg = d := nI_clamp (by omega)
      have le1 : ¬ a2 ≤ 1 := by rcases hw with rfl | rfl <;> decide
      refine ⟨fun v S1 => ∃ t g, t ≤ 40 ∧ v = nI t ∧ S1 = uLr (uA (uA (uA T 64 0 d a2) 65 0 d (nI k)) 66 0 d (nI (ceT (kM S k) (gA S 27 k) t).length)) 67 0 g ∧ (∀ i e, (ceT (kM S k) (gA S 27 k) t)[i]? = some e → g (60 * d + i) = kpV S k a2 e) ∧ ∀ j, (j < 60 * d ∨ 60 * d + 60 ≤ j) → g j = gL S 67 0 j, fun v _ => 40 - v.toNatClampNeg, ⟨0, g0, by omega, rfl, rfl, fun i e he => (by cases he), hg2⟩, ?_⟩
      rintro v S1 ⟨t, g1, ht, rfl, rfl, hr1, hr2⟩
      have hlt := ceT_len (kM S k) (gA S 27 k) t
      have uA1 : rA (uLr (uA (uA (uA T 64 0 d a2) 65 0 d (nI k)) 66 0 d (nI (ceT (kM S k) (gA S 27 k) t).length)) 67 0 g1) := by rw [← hT]; exact hA
      have uB1 : rB (uLr (uA (uA (uA T 64 0 d a2) 65 0 d (nI k)) 66 0 d (nI (ceT (kM S k) (gA S 27 k) t).length)) 67 0 g1) := by rw [← hT]; exact hB
      have uC1 : rC (uLr (uA (uA (uA T 64 0 d a2) 65 0 d (nI k)) 66 0 d (nI (ceT (kM S k) (gA S 27 k) t).length)) 67 0 g1) := by rw [← hT]; exact hC
      have uD1 : rD (uLr (uA (uA (uA T 64 0 d a2) 65 0 d (nI k)) 66 0 d (nI (ceT (kM S k) (gA S 27 k) t).length)) 67 0 g1) := by rw [← hT]; exact hD
      have uE1 : rE (uLr (uA (uA (uA T 64 0 d a2) 65 0 d (nI k)) 66 0 d (nI (ceT (kM S k) (gA S 27 k) t).length)) 67 0 g1) := by rw [← hT]; exact hE
      have uc : ∀ u, clB (uLr (uA (uA (uA T 64 0 d a2) 65 0 d (nI k)) 66 0 d (nI (ceT (kM S k) (gA S 27 k) t).length)) 67 0 g1) k u = clf (kM S k) (gA S 27 k) u := fun u => by rw [← hT]; rfl
      have uv : vL (uLr (uA (uA (uA T 64 0 d a2) 65 0 d (nI k)) 66 0 d (nI (ceT (kM S k) (gA S 27 k) t).length)) 67 0 g1) k t 0 = vL S k t 0 := by rw [← hT]; rfl
      have u66 : gA (uLr (uA (uA (uA T 64 0 d a2) 65 0 d (nI k)) 66 0 d (nI (ceT (kM S k) (gA S 27 k) t).length)) 67 0 g1) 66 0 d = nI (ceT (kM S k) (gA S 27 k) t).length := gA_at (S := T) (t := 66) (k := 0) (i := d) (v := nI (ceT (kM S k) (gA S 27 k) t).length)
      refine ⟨fun q => ?_, fun q => bq_f le1 ?_⟩
      · have h40 : 40 ≤ t := (le_nI (a := 40) (by omega) (by omega)).mp q
        have : t = 40 := by omega
        subst this
        refine ⟨rfl, ?_⟩
        generalize hM : (ceT (kM S k) (gA S 27 k) 40).length = m at hlen hT ⊢
        subst hT
        refine ⟨hA, hB, hC, hD, hE, hF, hG, hH, ?_, hX⟩
        refine rS_row (S := S) (z := m) (f := r) (g := g1) hd hw (by omega) (fun i hi => ?_) hr2 hS rfl ?_ (fun j hj => ?_) ?_ (fun j hj => ?_) ?_ ?_ (fun j => rfl) (fun j hj => ?_) ?_ ?_
        · obtain ⟨e, he⟩ := get_of_lt (L := ceT (kM S k) (gA S 27 k) 40) (i := i) (by omega)
          rw [hr i e he, hr1 i e he]
        · exact gA_same S 64 0 d a2
        · exact gA_off (S := S) (t := 65) (k := 0) (i := d) (a := 65) (b := 0) (j := j) (v := nI k) (by omega)
        · exact gA_same S 66 0 d (nI m)
        · show gI (uI (uI (uI (uI S 24 d 1 0) 24 d 2 0) 24 d 1 a2) 24 d 2 (nI m)) 24 j = gI S 24 j
          rw [gI_uI, if_neg (by omega), gI_uI, if_neg (by omega), gI_uI, if_neg (by omega), gI_uI, if_neg (by omega)]
        · show gI (uI (uI (uI (uI S 24 d 1 0) 24 d 2 0) 24 d 1 a2) 24 d 2 (nI m)) 24 d 1 = a2
          rw [gI_off (by omega), gI_at]
        · show gI (uI (uI (uI (uI S 24 d 1 0) 24 d 2 0) 24 d 1 a2) 24 d 2 (nI m)) 24 d 2 = nI m
          rw [gI_at]
        · show gL (wrH (srs S (nI m) f g) d a2 (nI m) r) 25 j = gL S 25 j
          exact gL_uLr_off _ _ _ _ _ _ (by omega)
        · show gL (wrH (srs S (nI m) f g) d a2 (nI m) r) 25 d = r
          exact gL_uLr_at _ _ _ _
        · exact gL_uLr_at _ 67 0 g1
      · have h40 : t < 40 := by
          have := mt (le_nI (a := 40) (b := t) (by omega) (by omega)).mpr q
          omega
        refine rf_isCl uA1 uC1 hk h40 (fun hc => bq_nf i10 ⟨hv, ?_⟩) (fun hc => bq_nt rfl (fun y ey => ?_))
        · have hc' : clf (kM S k) (gA S 27 k) t = true := by rw [← uc]; exact hc
          have et := ceT_t hc'
          rw [hcd, u66, it_eq, nI_clamp (by omega)]
          refine ⟨fun x S17 => x = kpV S k a2 t ∧ S17 = uLr (uA (uA (uA T 64 0 d a2) 65 0 d (nI k)) 66 0 d (nI (ceT (kM S k) (gA S 27 k) t).length)) 67 0 g1, ?_, fun n3 => ?_, fun e3 => ⟨(if_pos e3).symm, rfl⟩⟩
          · rintro x S17 ⟨rfl, rfl⟩
            refine ⟨in_nI (by omega) (by omega), fun S19 e19 => ⟨hv, hv, fun S22 e22 y ey => ?_⟩⟩
            rw [uL_uLr] at e19
            subst e19
            have v66 : ∀ g : Nat → Int64, gA (uLr (uA (uA (uA T 64 0 d a2) 65 0 d (nI k)) 66 0 d (nI (ceT (kM S k) (gA S 27 k) t).length)) 67 0 g) 66 0 d = nI (ceT (kM S k) (gA S 27 k) t).length := fun _ => gA_at (S := T) (t := 66) (k := 0) (i := d) (v := nI (ceT (kM S k) (gA S 27 k) t).length)
            rw [v66, sz_row, nI_1] at e22
            subst ey
            refine ⟨⟨t + 1, _, by omega, nI_1 t, by rw [et, List.length_append]; exact e22, fun i e he => ?_, fun j hj => ?_⟩, mu_lt h40 (by omega)⟩
            · rw [et] at he
              by_cases hi : i < (ceT (kM S k) (gA S 27 k) t).length
              · rw [List.getElem?_append_left hi] at he
                rw [updL_ne (by omega)]
                exact hr1 i e he
              · rw [List.getElem?_append_right (by omega)] at he
                have hi2 : i = (ceT (kM S k) (gA S 27 k) t).length := by
                  have := (List.getElem?_eq_some_iff.mp he).1
                  simp only [List.length_cons, List.length_nil] at this
                  omega
                rw [hi2, Nat.sub_self] at he
                cases he
                rw [hi2, updL_same]
            · rw [updL_ne (by omega)]
              exact hr2 j hj
          · refine rf_clear uA1 uB1 uC1 uD1 uE1 hk h40 (s := 0) (by omega) (clf_iff.mp hc).1 ⟨?_, rfl⟩
            rw [uv]
            exact (if_neg n3).symm
        · subst ey
          have hc' : ¬ clf (kM S k) (gA S 27 k) t = true := by rw [← uc]; exact hc
          have et := ceT_f hc'
          exact ⟨⟨t + 1, g1, by omega, nI_1 t, by rw [et], by rw [et]; exact hr1, hr2⟩, mu_lt h40 (by omega)⟩
    refine ⟨fun ea => ⟨hd, hd, hd, fun S1 es1 S3 es3 S4 es4 S5 es5 S6 es6 => ?_⟩, fun ea => ?_, fun ea => series (Or.inl ea), fun ea => series (Or.inr ea), fun ea => ?_⟩
    · subst es1 es3 es4 es5 es6
      refine rf_keep_go (S := uH (uI (uH (uI (uI S 24 d 1 0) 24 d 2 0) d none) 24 d 1 1) d (some k)) hA hd (Or.inr ⟨Or.inl ea, hvkn⟩) (fun g hg1 hg2 => ?_)
      refine ⟨fun v S1 => v = 0 ∧ S1 = uLr (uA (uA (uA (uH (uI (uH (uI (uI S 24 d 1 0) 24 d 2 0) d none) 24 d 1 1) d (some k)) 64 0 d a2) 65 0 d (nI k)) 66 0 d 0) 67 0 g, fun _ _ => 0, ⟨rfl, rfl⟩, ?_⟩
      rintro v S1 ⟨rfl, rfl⟩
      refine bq_f (by decide) (bq_t (by rw [ea]; decide) ⟨rfl, hA, hB, hC, hD, hE, hF, hG, hH, ?_, hX⟩)
      refine rS_one (S := S) (w := a2) (o := some k) (g := g) hd (Or.inr ⟨ea, k, hkn, rfl⟩) hg2 hS rfl ?_ (fun j hj => ?_) (fun j hj => ?_) (fun j hj => ?_) (fun j hj => ?_) ?_ (fun j => ?_) (fun j => rfl) ?_
      · exact gA_same S 64 0 d a2
      · exact gA_off (S := S) (t := 65) (k := 0) (i := d) (a := 65) (b := 0) (j := j) (v := nI k) (by omega)
      · cases hj
        exact gA_at (S := S) (t := 65) (k := 0) (i := d) (v := nI k)
      · exact gA_off (S := S) (t := 66) (k := 0) (i := d) (a := 66) (b := 0) (j := j) (v := 0) (by omega)
      · show gI (uI (uI (uI S 24 d 1 0) 24 d 2 0) 24 d 1 1) 24 j = gI S 24 j
        rw [gI_uI, if_neg (by omega), gI_uI, if_neg (by omega), gI_uI, if_neg (by omega)]
      · show gI (uI (uI (uI S 24 d 1 0) 24 d 2 0) 24 d 1 1) 24 d 1 = a2
        rw [gI_at, ea]
      · show (if j = d then some k else if j = d then none else sM S j) = if j = d then some k else sM S j
        by_cases hjd : j = d
        · rw [if_pos hjd, if_pos hjd]
        · rw [if_neg hjd, if_neg hjd, if_neg hjd]
      · exact gL_uLr_at _ 67 0 g
    · refine rf_keep_bad hA (Or.inr (Or.inr ⟨n0, ?_, ?_, ?_⟩)) ⟨rfl, h⟩ <;> rw [ea] <;> decide
    · exact rf_keep_bad hA (Or.inr (Or.inr ⟨n0, ea.1, ea.2.2.1, ea.2.2.2⟩)) ⟨rfl, h⟩
  · subst es1 es3 es4
    refine rf_keep_go (S := uH (uI (uI S 24 d 1 0) 24 d 2 0) d none) hA hd (Or.inl e0) (fun g hg1 hg2 => ?_)
    refine ⟨fun v S1 => v = 0 ∧ S1 = uLr (uA (uA (uA (uH (uI (uI S 24 d 1 0) 24 d 2 0) d none) 64 0 d a2) 65 0 d a3) 66 0 d 0) 67 0 g, fun _ _ => 0, ⟨rfl, rfl⟩, ?_⟩
    rintro v S1 ⟨rfl, rfl⟩
    refine bq_f (by decide) (bq_t (by rw [e0]; decide) ⟨rfl, hA, hB, hC, hD, hE, hF, hG, hH, ?_, hX⟩)
    refine rS_one (S := S) (w := a2) (o := none) (g := g) hd (Or.inl ⟨e0, rfl⟩) hg2 hS rfl ?_ (fun j hj => ?_) (fun j hj => by cases hj) (fun j hj => ?_) (fun j hj => ?_) ?_ (fun j => rfl) (fun j => rfl) ?_
    · exact gA_same S 64 0 d a2
    · exact gA_off (S := S) (t := 65) (k := 0) (i := d) (a := 65) (b := 0) (j := j) (v := a3) (by omega)
    · exact gA_off (S := S) (t := 66) (k := 0) (i := d) (a := 66) (b := 0) (j := j) (v := 0) (by omega)
    · show gI (uI (uI S 24 d 1 0) 24 d 2 0) 24 j = gI S 24 j
      rw [gI_uI, if_neg (by omega), gI_uI, if_neg (by omega)]
    · show gI (uI (uI S 24 d 1 0) 24 d 2 0) 24 d 1 = a2
      rw [gI_off (by omega), gI_at, e0]
    · exact gL_uLr_at _ 67 0 g
