/-! slips: what was found -/
def cMM (p : Nat → Bool) (Q i : Nat) (x y : Int32) : Prop := (cntC p Q = 0 ∧ x = 15 ∧ y = 0) ∨ (¬ cntC p Q = 0 ∧ ∃ m M, m ≤ 15 ∧ M ≤ 15 ∧ x = nI m ∧ y = nI M ∧ minmax p Q i m M)
theorem cnt_blk {p : Nat → Bool} {Q lo hi : Nat} (hlh : lo ≤ hi) (hp : ∀ c, c < 16 → (p (Q + c) = true ↔ lo ≤ c ∧ c ≤ hi)) : ∀ j, j ≤ 16 → cntC p (Q + j) = cntC p Q + ((if j ≤ hi then j else hi + 1) - lo) := by
  intro j
  induction j with
  | zero =>
    intro _
    rw [if_pos (Nat.zero_le _)]
    show cntC p Q = _
    omega
  | succ j ih =>
    intro hj
    have e := ih (by omega)
    show (if p (Q + j) = true then cntC p (Q + j) + 1 else cntC p (Q + j)) = _
    by_cases hpj : p (Q + j) = true
    · have := (hp j (by omega)).mp hpj
      rw [if_pos hpj, e, if_pos this.2]
      split <;> omega
    · rw [if_neg hpj, e]
      have hn : ¬ (lo ≤ j ∧ j ≤ hi) := fun z => hpj ((hp j (by omega)).mpr z)
      split <;> split <;> omega
theorem cnt_none {p : Nat → Bool} {Q : Nat} (hp : ∀ c, c < 16 → ¬ p (Q + c) = true) : ∀ j, j ≤ 16 → cntC p (Q + j) = cntC p Q := by
  intro j
  induction j with
  | zero => intro _; rfl
  | succ j ih =>
    intro hj
    show (if p (Q + j) = true then cntC p (Q + j) + 1 else cntC p (Q + j)) = _
    rw [if_neg (hp j (by omega)), ih (by omega)]
theorem cMM_none {p : Nat → Bool} {Q i : Nat} {x y : Int32} (hp : ∀ c, c < 16 → ¬ p (Q + c) = true) (h : cMM p Q i x y) : cMM p (Q + 16) i x y := by
  unfold cMM
  rw [cnt_none hp 16 (by omega)]
  refine h.imp id (fun h => ⟨h.1, ?_⟩)
  obtain ⟨m, M, h1, h2, h3, h4, ⟨a, a1, a2, a3⟩, ⟨b, b1, b2, b3⟩, h5⟩ := h.2
  refine ⟨m, M, h1, h2, h3, h4, ⟨a, by omega, a2, a3⟩, ⟨b, by omega, b2, b3⟩, fun q hq hpq => ?_⟩
  by_cases eq : q < Q
  · exact h5 q eq hpq
  · have := hp (q - Q) (by omega)
    rw [show Q + (q - Q) = q by omega] at this
    exact absurd hpq this
theorem cMM_blk {p : Nat → Bool} {Q i m0 M0 : Nat} {x y : Int32} (hm : m0 ≤ 15) (hM : M0 ≤ 15) (x1 : ∃ c, c < 16 ∧ p (Q + c) = true ∧ co i (Q + c) = m0) (x2 : ∃ c, c < 16 ∧ p (Q + c) = true ∧ co i (Q + c) = M0) (x3 : ∀ c, c < 16 → p (Q + c) = true → m0 ≤ co i (Q + c) ∧ co i (Q + c) ≤ M0) (h : cMM p Q i x y) : cMM p (Q + 16) i (if nI m0 < x then nI m0 else x) (if y < nI M0 then nI M0 else y) := by
  obtain ⟨c1, c1l, c1p, c1e⟩ := x1
  obtain ⟨c2, c2l, c2p, c2e⟩ := x2
  have all : ∀ q, q < Q + 16 → p q = true → (q < Q ∧ p q = true) ∨ (m0 ≤ co i q ∧ co i q ≤ M0) := by
    intro q hq hpq
    by_cases eq : q < Q
    · exact Or.inl ⟨eq, hpq⟩
    · have := x3 (q - Q) (by omega)
      rw [show Q + (q - Q) = q by omega] at this
      exact Or.inr (this hpq)
  refine Or.inr ⟨fun z => cntC_0.mp z (Q + c1) (by omega) c1p, ?_⟩
  rcases h with ⟨h0, rfl, rfl⟩ | ⟨-, m, M, h1, h2, rfl, rfl, ⟨a, a1, a2, a3⟩, ⟨b, b1, b2, b3⟩, h5⟩
  · have e1 : (if nI m0 < 15 then nI m0 else 15) = nI m0 := by
      by_cases z : nI m0 < (15 : Int32)
      · rw [if_pos z]
      · rw [if_neg z]
        have := mt (lt_nI (a := m0) (b := 15) (by omega) (by omega)).mpr z
        rw [show m0 = 15 by omega]
        rfl
    have e2 : (if 0 < nI M0 then nI M0 else 0) = nI M0 := by
      by_cases z : (0 : Int32) < nI M0
      · rw [if_pos z]
      · rw [if_neg z]
        have := mt (lt_nI (a := 0) (b := M0) (by omega) (by omega)).mpr z
        rw [show M0 = 0 by omega]
        rfl
    rw [e1, e2]
    refine ⟨m0, M0, hm, hM, rfl, rfl, ⟨Q + c1, by omega, c1p, c1e⟩, ⟨Q + c2, by omega, c2p, c2e⟩, fun q hq hpq => ?_⟩
    rcases all q hq hpq with ⟨z1, z2⟩ | z
    · exact absurd z2 (cntC_0.mp h0 q z1)
    · exact z
  · have k1 : nI m0 < nI m ↔ m0 < m := lt_nI (by omega) (by omega)
    have k2 : nI M < nI M0 ↔ M < M0 := lt_nI (by omega) (by omega)
    refine ⟨if m0 < m then m0 else m, if M < M0 then M0 else M, by split <;> omega, by split <;> omega, ?_, ?_, ?_, ?_, fun q hq hpq => ?_⟩
    · by_cases z : m0 < m
      · rw [if_pos z, if_pos (k1.mpr z)]
      · rw [if_neg z, if_neg (mt k1.mp z)]
    · by_cases z : M < M0
      · rw [if_pos z, if_pos (k2.mpr z)]
      · rw [if_neg z, if_neg (mt k2.mp z)]
    · by_cases z : m0 < m
      · rw [if_pos z]
        exact ⟨Q + c1, by omega, c1p, c1e⟩
      · rw [if_neg z]
        exact ⟨a, by omega, a2, a3⟩
    · by_cases z : M < M0
      · rw [if_pos z]
        exact ⟨Q + c2, by omega, c2p, c2e⟩
      · rw [if_neg z]
        exact ⟨b, by omega, b2, b3⟩
    · rcases all q hq hpq with ⟨z1, z2⟩ | z
      · have := h5 q z1 z2
        constructor <;> split <;> omega
      · constructor <;> split <;> omega
theorem sp_widen {S : Sg} {I L M : Nat → Int32} {i : Nat} {x y : Int32} {Q : Sg → Prop} (hi : i < 3) (hq : Q (sl S I (upd L i (if x < L i then x else L i)) (upd M i (if M i < y then y else M i)))) : wp_X7_widen (nI i) x y (sl S I L M) Q := by
  have hv : vp_in (nI i) 3 := in_nI hi (by omega)
  have hc : (nI i).toNatClampNeg = i := nI_clamp (by omega)
  refine ⟨hv, hv, fun S3 e3 => ⟨hv, hv, fun S6 e6 => ?_⟩⟩
  rw [hc, sl_L] at e3
  subst e3
  rw [hc, sl_M] at e6
  subst e6
  exact hq
theorem sp_takeIn {S : Sg} {p : Nat → Bool} {I L M : Nat → Int32} {a b : Nat} (ha : a < 16) (hb : b < 16) (hbd : bnd I) (hp : ∀ c : Nat, c ≤ 15 → (((I 3).toInt ≤ c ∧ (c : Int) ≤ (I 4).toInt) ↔ p (256 * a + 16 * b + c) = true)) (h2 : I 2 = nI (cntC p (256 * a + 16 * b))) (hM : ∀ i, i < 3 → cMM p (256 * a + 16 * b) i (L i) (M i)) {Q : Sg → Prop} (hq : ∀ I' L' M' : Nat → Int32, (∀ f, f ≠ 2 → I' f = I f) → I' 2 = nI (cntC p (256 * a + 16 * b + 16)) → (∀ i, i < 3 → cMM p (256 * a + 16 * b + 16) i (L' i) (M' i)) → Q (sl S I' L' M')) : wp_X7_takeIn (nI a) (nI b) (sl S I L M) Q := by
  obtain ⟨b1, b2, b3, b4⟩ := hbd
  have g3 : ∀ I L M : Nat → Int32, gI (sl S I L M) 11 0 = I := fun _ _ _ => rfl
  unfold wp_X7_takeIn
  rw [g3]
  refine ⟨fun z S2 e2 => ?_, fun z => ?_⟩
  · rw [Int32.le_iff_toInt_le] at z
    obtain ⟨lo, hlo, el, -⟩ := vp_nat (a := I 3) (n := 16) (by rw [vp_in_iff]; omega) (by omega)
    obtain ⟨hi, hhi, eh, -⟩ := vp_nat (a := I 4) (n := 16) (by rw [vp_in_iff]; omega) (by omega)
    rw [el, eh, nI_toInt (by omega), nI_toInt (by omega)] at hp z
    have hlh : lo ≤ hi := by omega
    have hp' : ∀ c, c < 16 → (p (256 * a + 16 * b + c) = true ↔ lo ≤ c ∧ c ≤ hi) := fun c hc => by
      rw [← hp c (by omega)]
      omega
    have hcnt := cnt_blk hlh hp' 16 (by omega)
    rw [if_neg (by omega)] at hcnt
    have esum : I 2 + ((I 4 - I 3) + 1) = nI (cntC p (256 * a + 16 * b + 16)) := by
      rw [hcnt, h2, el, eh]
      have e1 : nI hi - nI lo = nI (hi - lo) := by
        apply Int32.toInt_inj.mp
        rw [nI_sub (by omega) (by omega), nI_toInt (by omega)]
        omega
      rw [e1, nI_1, nI_plus]
      congr 1
      omega
    rw [sl_I, esum] at e2
    subst e2
    have k0 : ∀ c, c < 16 → co 0 (256 * a + 16 * b + c) = a := fun c hc => by
      show (256 * a + 16 * b + c) / 256 = a
      omega
    have k1 : ∀ c, c < 16 → co 1 (256 * a + 16 * b + c) = b := fun c hc => by
      show (256 * a + 16 * b + c) / 16 % 16 = b
      omega
    have k2 : ∀ c, c < 16 → co 2 (256 * a + 16 * b + c) = c := fun c hc => by
      show (256 * a + 16 * b + c) % 16 = c
      omega
    have pl := (hp' lo (by omega)).mpr ⟨Nat.le_refl _, hlh⟩
    have ph := (hp' hi (by omega)).mpr ⟨hlh, Nat.le_refl _⟩
    refine sp_widen (i := 0) (by omega) (sp_widen (i := 1) (by omega) ?_)
    rw [g3]
    have u3 : upd I 2 (nI (cntC p (256 * a + 16 * b + 16))) 3 = I 3 := upd_ne (by omega)
    have u4 : upd I 2 (nI (cntC p (256 * a + 16 * b + 16))) 4 = I 4 := upd_ne (by omega)
    rw [u3, u4, el, eh]
    refine sp_widen (i := 2) (by omega) (hq _ _ _ (fun f hf => upd_ne hf) upd_same (fun i hi3 => ?_))
    rcases (show i = 0 ∨ i = 1 ∨ i = 2 by omega) with rfl | rfl | rfl
    · show cMM p _ 0 (if nI a < L 0 then nI a else L 0) (if M 0 < nI a then nI a else M 0)
      exact cMM_blk (by omega) (by omega) ⟨lo, by omega, pl, k0 lo (by omega)⟩ ⟨lo, by omega, pl, k0 lo (by omega)⟩ (fun c hc _ => by rw [k0 c hc]; omega) (hM 0 (by omega))
    · show cMM p _ 1 (if nI b < L 1 then nI b else L 1) (if M 1 < nI b then nI b else M 1)
      exact cMM_blk (by omega) (by omega) ⟨lo, by omega, pl, k1 lo (by omega)⟩ ⟨lo, by omega, pl, k1 lo (by omega)⟩ (fun c hc _ => by rw [k1 c hc]; omega) (hM 1 (by omega))
    · show cMM p _ 2 (if nI lo < L 2 then nI lo else L 2) (if M 2 < nI hi then nI hi else M 2)
      exact cMM_blk (by omega) (by omega) ⟨lo, by omega, pl, k2 lo (by omega)⟩ ⟨hi, by omega, ph, k2 hi (by omega)⟩ (fun c hc hpc => by rw [k2 c hc]; exact (hp' c hc).mp hpc) (hM 2 (by omega))
  · rw [Int32.le_iff_toInt_le] at z
    have hno : ∀ c, c < 16 → ¬ p (256 * a + 16 * b + c) = true := fun c hc hpc => by
      have := (hp c (by omega)).mpr hpc
      omega
    exact hq I L M (fun _ _ => rfl) (by rw [cnt_none hno 16 (by omega)]; exact h2) (fun i hi => cMM_none hno (hM i hi))
theorem sp_findS {S : Sg} (hA : rA S) (hF : rF S) (hG : rG S) (hX : rX S) {Q : Sg → Prop} (hq : ∀ I L M : Nat → Int32, ¬ I 5 = 0 → slpP (nM S) (gA S 33) (gA S 34) (gI S 0 0 7) (I 2) L M → Q (sl S I L M)) : wp_X7_find (gI S 0 0 6) (gI S 0 0 7) S Q := by
  have hn := hA.1
  refine ⟨fun hk S2 e2 => ?_, fun hk => ?_⟩
  · have e2 : S2 = sl S (upd (gI S 11 0) 2 0) (gA S 12 0) (gA S 13 0) := e2.trans ((congrArg (fun X => uI X 11 0 2 0) (sl_self S).symm).trans (sl_I _ _ _ _ _ _))
    subst e2
    generalize hp : fitC (nM S) (gA S 33) (gA S 34) (gI S 0 0 7) = p
    refine ⟨fun v S1 => ∃ c L M, c ≤ 3 ∧ v = nI c ∧ S1 = sl S (upd (gI S 11 0) 2 0) L M ∧ ∀ i, i < c → L i = 15 ∧ M i = 0, fun v _ => 3 - v.toNatClampNeg, ⟨0, _, _, by omega, rfl, rfl, fun i hi => absurd hi (Nat.not_lt_zero i)⟩, ?_⟩
    rintro v S1 ⟨c, L, M, hc, rfl, rfl, hLM⟩
    refine ⟨fun q => ?_, fun q => ?_⟩
    · have e := (le_nI (a := 3) (by omega) (by omega)).mp q
      have : c = 3 := by omega
      subst this
      refine ⟨fun v S1 => ∃ a I L M, a ≤ 16 ∧ v = nI a ∧ S1 = sl S I L M ∧ I 2 = nI (cntC p (256 * a)) ∧ ∀ i, i < 3 → cMM p (256 * a) i (L i) (M i), fun v _ => 16 - v.toNatClampNeg, ⟨0, _, L, M, by omega, rfl, rfl, upd_same, fun i hi => Or.inl ⟨rfl, hLM i hi⟩⟩, ?_⟩
      rintro v S1 ⟨a, I, L, M, ha, rfl, rfl, h2, hMM⟩
      refine ⟨fun q S7 e7 => ?_, fun q => ?_⟩
      · have e := (lt_nI (a := 15) (by omega) (by omega)).mp q
        have : a = 16 := by omega
        subst this
        rw [sl_I] at e7
        subst e7
        refine hq _ _ _ (by rw [upd_same]; decide) ?_
        rw [upd_ne (by omega), hp.symm] at *
        refine ⟨by rw [hp]; exact h2, fun hne i hi => ?_⟩
        rw [hp] at hne ⊢
        rcases hMM i hi with z | z
        · exact absurd z.1 hne
        · exact z.2
      · have ha' : a < 16 := by
          have := mt (lt_nI (a := 15) (b := a) (by omega) (by omega)).mpr q
          omega
        refine ⟨fun v S1 => ∃ b I L M, b ≤ 16 ∧ v = nI b ∧ S1 = sl S I L M ∧ I 2 = nI (cntC p (256 * a + 16 * b)) ∧ ∀ i, i < 3 → cMM p (256 * a + 16 * b) i (L i) (M i), fun v _ => 16 - v.toNatClampNeg, ⟨0, I, L, M, by omega, rfl, rfl, h2, hMM⟩, ?_⟩
        rintro v S1 ⟨b, I, L, M, hb, rfl, rfl, h2, hMM⟩
        refine ⟨fun q y ey => ?_, fun q S11 e11 S12 e12 => ?_⟩
        · have e := (lt_nI (a := 15) (by omega) (by omega)).mp q
          have : b = 16 := by omega
          subst this
          subst ey
          exact ⟨⟨a + 1, I, L, M, by omega, nI_1 a, rfl, by rw [show 256 * (a + 1) = 256 * a + 16 * 16 by omega]; exact h2, by rw [show 256 * (a + 1) = 256 * a + 16 * 16 by omega]; exact hMM⟩, mu_lt ha' (by omega)⟩
        · have hb' : b < 16 := by
            have := mt (lt_nI (a := 15) (b := b) (by omega) (by omega)).mpr q
            omega
          rw [sl_I] at e11
          subst e11
          rw [sl_I] at e12
          subst e12
          have o0 : (0 : Int32).toInt = 0 := by decide
          have o15 : (15 : Int32).toInt = 15 := by decide
          refine ⟨fun v S1 => ∃ k J, k ≤ nM S ∧ v = nI k ∧ S1 = sl S J L M ∧ J 2 = I 2 ∧ bnd J ∧ ∀ c : Nat, c ≤ 15 → (((J 3).toInt ≤ c ∧ (c : Int) ≤ (J 4).toInt) ↔ fitB k (gA S 33) (gA S 34) (gI S 0 0 7) a b c = true), fun v _ => nM S - v.toNatClampNeg, ⟨0, _, by omega, rfl, rfl, by rw [upd_ne (by omega), upd_ne (by omega)], ?_, fun c hc => ?_⟩, ?_⟩
          · unfold bnd
            rw [upd_ne (by omega), upd_same, upd_same, o0, o15]
            omega
          · rw [upd_ne (by omega), upd_same, upd_same, o0, o15]
            exact ⟨fun _ => rfl, fun _ => by omega⟩
          rintro v S1 ⟨k, J, hkn, rfl, rfl, j2, jb, jf⟩
          have done : (∀ c : Nat, c ≤ 15 → (((J 3).toInt ≤ c ∧ (c : Int) ≤ (J 4).toInt) ↔ p (256 * a + 16 * b + c) = true)) → wp_X7_takeIn (nI a) (nI b) (sl S J L M) (fun S_15 => (∀ x5_16 : Int32, x5_16 = nI b + 1 → ((∃ b I L M, b ≤ 16 ∧ x5_16 = nI b ∧ S_15 = sl S I L M ∧ I 2 = nI (cntC p (256 * a + 16 * b)) ∧ ∀ i, i < 3 → cMM p (256 * a + 16 * b) i (L i) (M i)) ∧ 16 - x5_16.toNatClampNeg < 16 - (nI b).toNatClampNeg))) := by
            intro hall
            refine sp_takeIn ha' hb' jb hall (by rw [j2]; exact h2) hMM (fun I' L' M' _ i2 mm y ey => ?_)
            subst ey
            exact ⟨⟨b + 1, I', L', M', by omega, nI_1 b, rfl, by rw [show 256 * a + 16 * (b + 1) = 256 * a + 16 * b + 16 by omega]; exact i2, by rw [show 256 * a + 16 * (b + 1) = 256 * a + 16 * b + 16 by omega]; exact mm⟩, mu_lt hb' (by omega)⟩
          have pc : ∀ c : Nat, c ≤ 15 → (p (256 * a + 16 * b + c) = fitB (nM S) (gA S 33) (gA S 34) (gI S 0 0 7) a b c) := fun c hc => by
            rw [← hp]
            unfold fitC
            rw [show (256 * a + 16 * b + c) / 256 = a by omega, show (256 * a + 16 * b + c) / 16 % 16 = b by omega, show (256 * a + 16 * b + c) % 16 = c by omega]
          rw [hA.2.1]
          refine ⟨fun q => ?_, fun q => ⟨fun q2 => ?_, fun q2 => ⟨fun q3 => ?_, fun q3 => ?_⟩⟩⟩
          · have e := (le_nI (by omega) (by omega)).mp q
            have : k = nM S := by omega
            subst this
            exact done (fun c hc => by rw [pc c hc]; exact jf c hc)
          · have e := (le_nI (a := 10) (by omega) (by omega)).mp q2
            have : k = nM S := by omega
            subst this
            exact done (fun c hc => by rw [pc c hc]; exact jf c hc)
          · rw [Int32.lt_iff_toInt_lt] at q3
            have q3 : (J 4).toInt < (J 3).toInt := q3
            refine done (fun c hc => ?_)
            rw [pc c hc]
            refine ⟨fun z => by omega, fun z => ?_⟩
            have : fitB k (gA S 33) (gA S 34) (gI S 0 0 7) a b c = true := fitB_iff.mpr (fun j hj => fitB_iff.mp z j (by omega))
            exact (jf c hc).mpr this
          · have e : k < nM S := by
              have := mt (le_nI (a := nM S) (b := k) (by omega) (by omega)).mpr q
              omega
            have hk10 : k < 10 := by omega
            have hcl : (nI k).toNatClampNeg = k := nI_clamp (by omega)
            rw [hcl]
            refine ⟨in_nI hk10 (by omega), fun _ => ?_, fun z => absurd e z⟩
            have i03 : vp_in 0 3 := in_nI (k := 0) (by omega) (by omega)
            have i13 : vp_in 1 3 := in_nI (k := 1) (by omega) (by omega)
            have i23 : vp_in 2 3 := in_nI (k := 2) (by omega) (by omega)
            obtain ⟨-, b0⟩ := hG.1 k 0 hk10 (by omega)
            obtain ⟨-, b1⟩ := hG.1 k 1 hk10 (by omega)
            obtain ⟨-, b2⟩ := hG.1 k 2 hk10 (by omega)
            obtain ⟨-, -, bu, -⟩ := hF.1 k hk10
            have bu' := bu
            unfold btw at bu'
            obtain ⟨p0, q0⟩ := gmul b0 ha'
            obtain ⟨p1, q1⟩ := gmul b1 hb'
            have s1 : (gA S 33 k 0 - gA S 34 k 0 * nI a).toInt = (gA S 33 k 0).toInt - (gA S 34 k 0).toInt * a := by
              rw [small_sub (by omega) (by omega), p0]
            have s2 : (gA S 33 k 0 - gA S 34 k 0 * nI a - gA S 34 k 1 * nI b).toInt = (gA S 33 k 0).toInt - (gA S 34 k 0).toInt * a - (gA S 34 k 1).toInt * b := by
              rw [small_sub (by omega) (by omega), s1, p1]
            refine ⟨e, in02, e, e, i03, e, e, i13, e, e, i23, ?_⟩
            refine sp_narrow (l := gA S 33 k 0 - gA S 34 k 0 * nI a - gA S 34 k 1 * nI b) (by unfold btw; omega) b2 hG.2.2.2.1 hG.2.2.2.2 jb (fun J' jk jb' jf' y ey => ?_)
            subst ey
            refine ⟨⟨k + 1, J', by omega, nI_1 k, rfl, (jk 2 (by omega) (by omega)).trans j2, jb', fun c hc => ?_⟩, mu_lt e (by omega)⟩
            rw [jf' c hc, jf c hc, fitB_succ, s2]
            refine and_congr Iff.rfl ?_
            show _ ↔ fit1 (gA S 33) (gA S 34) (gI S 0 0 7) a b c k
            unfold fit1
            omega
    · have e : c < 3 := by
        have := mt (le_nI (a := 3) (b := c) (by omega) (by omega)).mpr q
        omega
      have hv : vp_in (nI c) 3 := in_nI e (by omega)
      have hcc : (nI c).toNatClampNeg = c := nI_clamp (by omega)
      rw [hcc]
      refine ⟨hv, fun S2 e2 => ⟨hv, fun S3 e3 y ey => ?_⟩⟩
      rw [sl_L] at e2
      subst e2
      rw [sl_M] at e3
      subst e3 ey
      refine ⟨⟨c + 1, _, _, by omega, nI_1 c, rfl, fun i hi => ?_⟩, mu_lt e (by omega)⟩
      by_cases hic : i = c
      · subst hic
        rw [upd_same, upd_same]
        exact ⟨rfl, rfl⟩
      · rw [upd_ne hic, upd_ne hic]
        exact hLM i (by omega)
  · have := hq (gI S 11 0) (gA S 12 0) (gA S 13 0) hk (hX.2.1 hk)
    rw [sl_self] at this
    exact this
