/-! jump -/
abbrev jX (W : Int64) (N : Nat) (d : Int64) (i : Nat) : Int64 := d * Int32.toInt64 (nI N - nI i) - (W - d) * Int32.toInt64 (nI i)
abbrev jF (W : Int64) (N : Nat) (d : Int64) (i : Nat) : Int64 := if 0 ≤ jX W N d i then jX W N d i else -(jX W N d i)
abbrev jU (N : Nat) (i : Nat) : Int64 := Int32.toInt64 (nI i) * Int32.toInt64 (nI N - nI i)
abbrev jC (W : Int64) (N : Nat) (b : Int32) (a w d : Int64) (i : Nat) : Prop := ¬ nI i < 2 ∧ ¬ nI N - nI i < 2 ∧ (b = -4 ∨ ¬ jF W N d i * w ≤ a * jU N i)
def jst (W : Int64) (N : Nat) (hv : Nat → Int64) (st : Int32 × Int64 × Int64 × Int64 × Nat) (e : Nat) : Int32 × Int64 × Int64 × Int64 × Nat :=
  if jC W N st.1 st.2.1 st.2.2.1 st.2.2.2.1 st.2.2.2.2 then (nI e, jF W N st.2.2.2.1 st.2.2.2.2, jU N st.2.2.2.2, st.2.2.2.1 + hv e, st.2.2.2.2 + 1) else (st.1, st.2.1, st.2.2.1, st.2.2.2.1 + hv e, st.2.2.2.2 + 1)
def jL (W : Int64) (N : Nat) (hv : Nat → Int64) (L : List Nat) : Int32 × Int64 × Int64 × Int64 × Nat := L.foldl (jst W N hv) (-4, 0, 1, 0, 0)
theorem jL_1 (W : Int64) (N : Nat) (hv : Nat → Int64) (L : List Nat) (e : Nat) : jL W N hv (L ++ [e]) = jst W N hv (jL W N hv L) e := by
  unfold jL
  rw [List.foldl_append]
  rfl
theorem jL_len (W : Int64) (N : Nat) (hv : Nat → Int64) (L : List Nat) : (jL W N hv L).2.2.2.2 = L.length := by
  have key : ∀ (L : List Nat) (st : Int32 × Int64 × Int64 × Int64 × Nat), (L.foldl (jst W N hv) st).2.2.2.2 = st.2.2.2.2 + L.length := by
    intro L
    induction L with
    | nil => intro st; rfl
    | cons x L ih =>
      intro st
      rw [List.foldl_cons, ih, List.length_cons]
      have : (jst W N hv st x).2.2.2.2 = st.2.2.2.2 + 1 := by
        unfold jst
        split <;> rfl
      rw [this]
      omega
  have := key L (-4, 0, 1, 0, 0)
  rw [show (((-4 : Int32), (0 : Int64), (1 : Int64), (0 : Int64), (0 : Nat)) : Int32 × Int64 × Int64 × Int64 × Nat).2.2.2.2 = 0 from rfl, Nat.zero_add] at this
  exact this
def okb (b : Int32) : Prop := b = -4 ∨ ∃ e, e < 40 ∧ b = nI e
theorem okb_lt {b : Int32} (h : okb b) : b < 0 ↔ b = -4 := by
  rcases h with rfl | ⟨e, he, rfl⟩
  · exact ⟨fun _ => rfl, fun _ => by decide⟩
  · constructor
    · intro h
      rw [Int32.lt_iff_toInt_lt, nI_toInt (by omega)] at h
      have z : (0 : Int32).toInt = 0 := by decide
      omega
    · intro h
      have := congrArg Int32.toInt h
      rw [nI_toInt (by omega)] at this
      have z : (-4 : Int32).toInt = -4 := by decide
      omega
theorem i64_subsub (W d h : Int64) : W - d - h = W - (d + h) := by grind
theorem sp_jump {S : Sg} {L : List Nat} {f : Nat → Int32} {g : Nat → Int64} {k s : Nat} (hok : serOK S k s L f g) (hL : ∀ e ∈ L, e < 40) (hlen : L.length ≤ 40) {Q : Int32 → Sg → Prop} (hq : Q (jL (sumL (fun e => vL S k e s) L) L.length (fun e => vL S k e s) L).1 (srs S (nI L.length) f g)) : wp_X5_jumpEpoch (srs S (nI L.length) f g) Q := by
  have g3 : gI (srs S (nI L.length) f g) 3 0 2 = nI L.length := rfl
  have g4 : gA (srs S (nI L.length) f g) 4 0 = f := rfl
  have g5 : gL (srs S (nI L.length) f g) 5 0 = g := rfl
  refine ⟨fun v1 v3 S1 => S1 = srs S (nI L.length) f g ∧ ∃ i, i ≤ L.length ∧ v3 = nI i ∧ v1 = sumL (fun e => vL S k e s) (L.take i), fun _ v3 _ => L.length - v3.toNatClampNeg, ⟨rfl, 0, by omega, rfl, rfl⟩, ?_⟩
  rintro v1 v3 S1 ⟨rfl, i, hi, rfl, rfl⟩
  rw [g3, g5]
  refine ⟨fun q => ?_, fun q => ?_⟩
  · have h1 := (le_nI (by omega) (by omega)).mp q
    have : i = L.length := by omega
    subst this
    rw [List.take_length]
    generalize hW : sumL (fun e => vL S k e s) L = W at hq ⊢
    refine ⟨fun v1 v3 v4 v6 v8 v10 S1 => S1 = srs S (nI L.length) f g ∧ ∃ i, i ≤ L.length ∧ v10 = nI i ∧ jL W L.length (fun e => vL S k e s) (L.take i) = (v3, v4, v6, v8, i) ∧ v1 = W - v8 ∧ okb v3, fun _ _ _ _ _ v10 _ => L.length - v10.toNatClampNeg, ⟨rfl, 0, by omega, rfl, rfl, (i64_sub0 W).symm, Or.inl rfl⟩, ?_⟩
    rintro v1 v3 v4 v6 v8 v10 S1 ⟨rfl, i, hi, rfl, hJ, rfl, hb⟩
    rw [g3]
    refine ⟨fun q2 => ?_, fun q2 x ex => ?_⟩
    · have h2 := (le_nI (by omega) (by omega)).mp q2
      have : i = L.length := by omega
      subst this
      rw [List.take_length] at hJ
      rw [hJ] at hq
      exact hq
    · have h2 : i < L.length := by
        have := mt (le_nI (a := L.length) (b := i) (by omega) (by omega)).mpr q2
        omega
      obtain ⟨e, he⟩ := get_of_lt h2
      obtain ⟨ef, eg⟩ := hok i e he
      have he40 : e < 40 := hL e (List.mem_of_getElem? he)
      have hin : vp_in (nI i) 40 := in_nI (by omega) (by omega)
      have hci : (nI i).toNatClampNeg = i := nI_clamp (by omega)
      have hJ2 := jL_1 W L.length (fun e => vL S k e s) (L.take i) e
      rw [← take_1 he, hJ] at hJ2
      subst ex
      refine ⟨fun b a w S6 => S6 = srs S (nI L.length) f g ∧ jL W L.length (fun e => vL S k e s) (L.take (i + 1)) = (b, a, w, v8 + vL S k e s, i + 1) ∧ okb b, ?_, ?_⟩
      · rintro b a w S6 ⟨rfl, hJ3, hb3⟩
        rw [g5, hci, eg]
        refine ⟨hin, fun x ex => ⟨hin, fun y ey z ez => ?_⟩⟩
        subst ex ey ez
        exact ⟨⟨rfl, i + 1, by omega, nI_1 i, hJ3, i64_subsub _ _ _, hb3⟩, mu_lt h2 (by omega)⟩
      have skip : ¬ jC W L.length v3 v4 v6 v8 i → jL W L.length (fun e => vL S k e s) (L.take (i + 1)) = (v3, v4, v6, v8 + vL S k e s, i + 1) := fun hn => hJ2.trans (if_neg hn)
      have take : jC W L.length v3 v4 v6 v8 i → jL W L.length (fun e => vL S k e s) (L.take (i + 1)) = (nI e, jF W L.length v8 i, jU L.length i, v8 + vL S k e s, i + 1) := fun hn => hJ2.trans (if_pos hn)
      refine ⟨fun q3 => ⟨rfl, skip (fun z => z.1 q3), hb⟩, fun q3 => ⟨fun q4 => ⟨rfl, skip (fun z => z.2.1 q4), hb⟩, fun q4 x ex y ey => ?_⟩⟩
      rw [abs_eq] at ex
      have ex : x = jF W L.length v8 i := ex
      have ey : y = jU L.length i := ey
      refine ⟨fun S6 => S6 = srs S (nI L.length) f g ∧ jC W L.length v3 v4 v6 v8 i, ?_, fun e4 => ⟨rfl, q3, q4, Or.inl e4⟩, fun n4 => ⟨fun q5 => ⟨rfl, skip (fun z => ?_), hb⟩, fun q5 => ⟨rfl, q3, q4, Or.inr ?_⟩⟩⟩
      · rintro S6 ⟨rfl, hC6⟩
        rw [g4, hci, ef]
        refine ⟨hin, fun z ez => ⟨rfl, ?_, Or.inr ⟨e, he40, ez⟩⟩⟩
        rw [ez, ex, ey]
        exact take hC6
      · rw [ex, ey] at q5
        exact z.2.2.elim n4 (fun z => z q5)
      · rw [ex, ey] at q5
        exact q5
  · have h1 : i < L.length := by
      have := mt (le_nI (a := L.length) (b := i) (by omega) (by omega)).mpr q
      omega
    obtain ⟨e, he⟩ := get_of_lt h1
    obtain ⟨ef, eg⟩ := hok i e he
    rw [nI_clamp (by omega), eg]
    refine ⟨in_nI (by omega) (by omega), fun x ex y ey => ?_⟩
    subst ex ey
    exact ⟨⟨rfl, i + 1, by omega, nI_1 i, by rw [take_1 he, sumL_1]⟩, mu_lt h1 (by omega)⟩
theorem rf_jump_bad {S : Sg} (hA : rA S) {a1 a2 : Int32} {Q : Int32 → Sg → Prop} (hb : ¬ vp_in a1 (nM S) ∨ ¬ vp_in a2 2) (hq : Q (-1) S) : wp_X10_jump a1 a2 S Q := by
  unfold wp_X10_jump
  refine hA.ref (fun v1 => bq_f i10 ?_) (fun _ => bq_t rfl hq)
  refine sp_side (fun v2 => ?_) (fun _ => bq_nt rfl hq)
  exfalso
  rcases hb with hb | hb
  · exact hb v1
  · exact hb v2
theorem rf_jump {S : Sg} (hA : rA S) (hB : rB S) (hC : rC S) (hD : rD S) (hE : rE S) {k s : Nat} (hkn : k < nM S) (hk : k < 10) (hs : s < 2) {Q : Int32 → Sg → Prop} (hq : Q (jL (sumL (fun e => vL S k e s) (ceT (kM S k) (gA S 27 k) 40)) (ceT (kM S k) (gA S 27 k) 40).length (fun e => vL S k e s) (ceT (kM S k) (gA S 27 k) 40)).1 S) : wp_X10_jump (nI k) (nI s) S Q := by
  have hn := hA.1
  have hlen := ceT_len (kM S k) (gA S 27 k) 40
  unfold wp_X10_jump
  refine hA.ref (fun _ => bq_f i10 ?_) (fun n => absurd (in_nI hkn (by omega)) n)
  refine sp_side (fun _ => bq_nf i10 ?_) (fun n => absurd (in_2 hs) n)
  refine rf_manyOf hA hC hk ?_
  generalize hN : (ceT (kM S k) (gA S 27 k) 40).length = N at hlen hq ⊢
  refine ⟨fun v4 v6 S1 => S1 = S ∧ ∃ t, t ≤ 40 ∧ v6 = nI t ∧ v4 = sumL (fun e => vL S k e s) (ceT (kM S k) (gA S 27 k) t), fun _ v6 _ => 40 - v6.toNatClampNeg, ⟨rfl, 0, by omega, rfl, rfl⟩, ?_⟩
  rintro v4 v6 S1 ⟨rfl, t, ht, rfl, rfl⟩
  refine ⟨fun q1 => ?_, fun q1 => ?_⟩
  · have h40 : 40 ≤ t := (le_nI (a := 40) (by omega) (by omega)).mp q1
    have : t = 40 := by omega
    subst this
    generalize hW : sumL (fun e => vL S1 k e s) (ceT (kM S1 k) (gA S1 27 k) 40) = W at hq ⊢
    refine ⟨fun b a w d v13 v14 S2 => S2 = S1 ∧ ∃ t i, t ≤ 40 ∧ i ≤ t ∧ v14 = nI t ∧ v13 = nI i ∧ jL W N (fun e => vL S1 k e s) (ceT (kM S1 k) (gA S1 27 k) t) = (b, a, w, d, i) ∧ okb b, fun _ _ _ _ _ v14 _ => 40 - v14.toNatClampNeg, ⟨rfl, 0, 0, by omega, by omega, rfl, rfl, rfl, Or.inl rfl⟩, ?_⟩
    rintro b a w d v13 v14 S2 ⟨rfl, t, i, ht, hit, rfl, rfl, hJ, hb⟩
    refine ⟨fun q2 => ?_, fun q2 => ?_⟩
    · have h40 : 40 ≤ t := (le_nI (a := 40) (by omega) (by omega)).mp q2
      have : t = 40 := by omega
      subst this
      rw [hJ] at hq
      exact hq
    · have h40 : t < 40 := by
        have := mt (le_nI (a := 40) (b := t) (by omega) (by omega)).mpr q2
        omega
      refine rf_isCl hA hC hk h40 (fun hc => bq_nf i10 ?_) (fun hc => bq_nt rfl (fun y ey => ?_))
      · have hJ2 := jL_1 W N (fun e => vL S2 k e s) (ceT (kM S2 k) (gA S2 27 k) t) t
        rw [← ceT_t hc, hJ] at hJ2
        refine ⟨fun b' a' w' S6 => S6 = S2 ∧ jL W N (fun e => vL S2 k e s) (ceT (kM S2 k) (gA S2 27 k) (t + 1)) = (b', a', w', d + vL S2 k t s, i + 1) ∧ okb b', ?_, ?_⟩
        · rintro b' a' w' S6 ⟨rfl, hJ3, hb3⟩
          refine rf_clear hA hB hC hD hE hk h40 hs (clf_iff.mp hc).1 (fun x ex y ey z ez => ?_)
          subst ex ey ez
          exact ⟨⟨rfl, t + 1, i + 1, by omega, by omega, nI_1 t, nI_1 i, hJ3, hb3⟩, mu_lt h40 (by omega)⟩
        have skip : ¬ jC W N b a w d i → jL W N (fun e => vL S2 k e s) (ceT (kM S2 k) (gA S2 27 k) (t + 1)) = (b, a, w, d + vL S2 k t s, i + 1) := fun hn => hJ2.trans (if_neg hn)
        have take : jC W N b a w d i → jL W N (fun e => vL S2 k e s) (ceT (kM S2 k) (gA S2 27 k) (t + 1)) = (nI t, jF W N d i, jU N i, d + vL S2 k t s, i + 1) := fun hn => hJ2.trans (if_pos hn)
        refine ⟨fun q3 => ⟨rfl, skip (fun z => z.1 q3), hb⟩, fun q3 => ⟨fun q4 => ⟨rfl, skip (fun z => z.2.1 q4), hb⟩, fun q4 x ex => ?_⟩⟩
        refine ⟨fun r S6 => r = jF W N d i ∧ S6 = S2, ?_, fun h0 => ⟨?_, rfl⟩, fun h0 => ⟨?_, rfl⟩⟩
        · rintro r S6 ⟨rfl, rfl⟩ y ey
          have ey : y = jU N i := ey
          rw [okb_lt hb]
          refine ⟨fun S7 => S7 = S6 ∧ jC W N b a w d i, ?_, fun e4 => ⟨rfl, q3, q4, Or.inl e4⟩, fun n4 => ⟨fun q5 => ⟨rfl, skip (fun z => ?_), hb⟩, fun q5 => ⟨rfl, q3, q4, Or.inr ?_⟩⟩⟩
          · rintro S7 ⟨rfl, hC6⟩
            rw [ey]
            exact ⟨rfl, take hC6, Or.inr ⟨t, h40, rfl⟩⟩
          · rw [ey] at q5
            exact z.2.2.elim n4 (fun z => z q5)
          · rw [ey] at q5
            exact q5
        · rw [ex] at h0
          rw [ex]
          exact (if_pos h0).symm
        · rw [ex] at h0
          rw [ex]
          exact (if_neg h0).symm
      · subst ey
        refine ⟨⟨rfl, t + 1, i, by omega, by omega, nI_1 t, rfl, ?_, hb⟩, mu_lt h40 (by omega)⟩
        rw [ceT_f hc]
        exact hJ
  · have h40 : t < 40 := by
      have := mt (le_nI (a := 40) (b := t) (by omega) (by omega)).mpr q1
      omega
    refine rf_isCl hA hC hk h40 (fun hc => bq_f i10 ?_) (fun hc => bq_t rfl (fun x ex y ey => ?_))
    · refine rf_clear hA hB hC hD hE hk h40 hs (clf_iff.mp hc).1 (fun x ex y ey => ?_)
      subst ex ey
      exact ⟨⟨rfl, t + 1, by omega, nI_1 t, by rw [ceT_t hc, sumL_1]⟩, mu_lt h40 (by omega)⟩
    · subst ex ey
      exact ⟨⟨rfl, t + 1, by omega, nI_1 t, by rw [ceT_f hc, Int64.add_zero]⟩, mu_lt h40 (by omega)⟩
theorem rl_jump {S : Sg} (h : Rel S) (a1 a2 : Int32) : wp_X9_jump a1 a2 S (fun r S1 => wp_X10_jump a1 a2 S1 (fun r2 S2 => r = r2 ∧ Rel S2)) := by
  have h' := h
  obtain ⟨hA, hB, hC, hD, hE, hF, hG, hH, hS, hX⟩ := h'
  unfold wp_X9_jump
  refine hA.in (fun k hkn hk e1 e2 hv hvn => ⟨fun z => (by cases z), fun j hj => ?_⟩) (fun hb => ⟨fun _ => rf_jump_bad hA (Or.inl hb) ⟨rfl, h⟩, fun j hj => by cases hj⟩)
  cases hj
  refine sp_cSide (fun hv2 => bq_nf i10 ?_) (fun hb => bq_nt rfl (rf_jump_bad hA (Or.inr hb) ⟨rfl, h⟩))
  obtain ⟨s, hs, es1, es2⟩ := vp_nat hv2 (by omega)
  subst es1 e1
  refine sp_gather hA hC hE hkn hs (fun f g hok => ?_)
  refine sp_jump hok (fun e he => (ceT_lt he).1) (ceT_len _ _ _) ?_
  exact rf_jump (S := srs S (nI (ceT (kM S k) (gA S 27 k) 40).length) f g) hA hB hC hD hE hkn hk hs ⟨rfl, hA, hB, hC, hD, hE, hF, hG, hH, hS, hX⟩
