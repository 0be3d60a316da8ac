/-! two epochs apart make the lower number of a rate more than nought -/
def sN (L : List Nat) (h : Nat → Int) : Int := L.foldl (fun a e => a + h e) 0
theorem sN_1 (h : Nat → Int) (L : List Nat) (e : Nat) : sN (L ++ [e]) h = sN L h + h e := by
  unfold sN
  rw [List.foldl_append]
  rfl
theorem sq_1 {n A B t : Int} (h1 : A * A ≤ n * B) (h3 : 2 * t * A + n ≤ B + n * (t * t)) (hn : 0 ≤ n) : (A + t) * (A + t) ≤ (n + 1) * (B + t * t) := by grind
theorem sq_2 {n A B t : Int} (h1 : A * A ≤ n * B) (h3 : 2 * t * A + n ≤ B + n * (t * t)) (hn : 0 < n) : (A + t) * (A + t) < (n + 1) * (B + t * t) := by grind
theorem sq_3 {n A B t u : Int} (h3 : 2 * u * A + n ≤ B + n * (u * u)) (hu : t + 1 ≤ u) : 2 * u * (A + t) + (n + 1) ≤ (B + t * t) + (n + 1) * (u * u) := by
  have h : (1 : Int) * 1 ≤ (u - t) * (u - t) := Int.mul_le_mul (by omega) (by omega) (by omega) (by omega)
  grind
def spr (n A B : Int) (t : Nat) : Prop := A * A ≤ n * B ∧ (2 ≤ n → A * A < n * B) ∧ (∀ u : Int, (t : Int) ≤ u → 2 * u * A + n ≤ B + n * (u * u)) ∧ 0 ≤ n ∧ n ≤ t ∧ 0 ≤ A ∧ 0 ≤ B ∧ (t ≤ 40 → A ≤ 40 * t ∧ B ≤ 1600 * t)
theorem spread (kd : Nat) (P : Nat → Int32) (t : Nat) : spr (ceT kd P t).length (sN (ceT kd P t) (fun e => (e : Int))) (sN (ceT kd P t) (fun e => (e : Int) * e)) t := by
  induction t with
  | zero =>
    show spr ((0 : Nat) : Int) 0 0 0
    refine ⟨by decide, fun h => absurd h (by decide), fun u hu => ?_, by decide, by decide, by decide, by decide, fun _ => ⟨by decide, by decide⟩⟩
    show 2 * u * 0 + ((0 : Nat) : Int) ≤ 0 + ((0 : Nat) : Int) * (u * u)
    rw [Int.mul_zero]
    omega
  | succ t ih =>
    by_cases hc : clf kd P t = true
    · rw [ceT_t hc, sN_1, sN_1, List.length_append]
      generalize sN (ceT kd P t) (fun e => (e : Int)) = A at ih ⊢
      generalize sN (ceT kd P t) (fun e => (e : Int) * e) = B at ih ⊢
      generalize (ceT kd P t).length = n at ih ⊢
      obtain ⟨h1, h2, h3, h4, h5, h6, h7, h8⟩ := ih
      have e1 : ((n + [t].length : Nat) : Int) = (n : Int) + 1 := by
        simp only [List.length_cons, List.length_nil]
        omega
      rw [e1]
      have h3t := h3 t (Int.le_refl _)
      refine ⟨sq_1 h1 h3t h4, fun hn => sq_2 h1 h3t (by omega), fun u hu => sq_3 (h3 u (by omega)) (by omega), by omega, by omega, by omega, ?_, fun ht => ?_⟩
      · have : (0 : Int) ≤ (t : Int) * t := Int.mul_nonneg (by omega) (by omega)
        omega
      · have h9 := h8 (by omega)
        have : (t : Int) * t ≤ 40 * 40 := Int.mul_le_mul (by omega) (by omega) (by omega) (by omega)
        omega
    · rw [ceT_f hc]
      obtain ⟨h1, h2, h3, h4, h5, h6, h7, h8⟩ := ih
      exact ⟨h1, h2, fun u hu => h3 u (by omega), h4, by omega, h6, h7, fun ht => by have := h8 (by omega); omega⟩
theorem e64_eq {e : Nat} (h : e < 2 ^ 31) : e64 e = Int64.ofInt (e : Int) := by
  apply Int64.toInt_inj.mp
  rw [Int32.toInt_toInt64, nI_toInt h, Int64.toInt_ofInt_of_le (by omega) (by omega)]
theorem sumL_ofInt {h : Nat → Int64} {g : Nat → Int} {L : List Nat} (hh : ∀ e ∈ L, h e = Int64.ofInt (g e)) : sumL h L = Int64.ofInt (sN L g) := by
  have key : ∀ (L : List Nat) (a : Int64) (b : Int), a = Int64.ofInt b → (∀ e ∈ L, h e = Int64.ofInt (g e)) → L.foldl (fun a e => a + h e) a = Int64.ofInt (L.foldl (fun a e => a + g e) b) := by
    intro L
    induction L with
    | nil => intro a b hab _; exact hab
    | cons x L ih =>
      intro a b hab hL
      refine ih _ _ ?_ (fun e he => hL e (List.mem_cons_of_mem _ he))
      show a + h x = Int64.ofInt (b + g x)
      rw [hab, hL x List.mem_cons_self, Int64.ofInt_add]
  exact key L 0 0 (by decide) hh
theorem below_ne (kd : Nat) (P : Nat → Int32) (h2 : 2 ≤ (ceT kd P 40).length) : ¬ Int32.toInt64 (nI (ceT kd P 40).length) * sumL (fun e => e64 e * e64 e) (ceT kd P 40) - sumL e64 (ceT kd P 40) * sumL e64 (ceT kd P 40) = 0 := by
  have hl := ceT_len kd P 40
  have sp := spread kd P 40
  have m : ∀ e ∈ ceT kd P 40, e < 2 ^ 31 := fun e he => by have := (ceT_lt he).1; omega
  rw [sumL_ofInt (h := e64) (g := fun e => (e : Int)) (fun e he => e64_eq (m e he))]
  rw [sumL_ofInt (h := fun e => e64 e * e64 e) (g := fun e => (e : Int) * e) (fun e he => by rw [Int64.ofInt_mul, ← e64_eq (m e he)])]
  rw [show Int32.toInt64 (nI (ceT kd P 40).length) = Int64.ofInt ((ceT kd P 40).length : Int) from e64_eq (by omega)]
  generalize sN (ceT kd P 40) (fun e => (e : Int)) = A at sp ⊢
  generalize sN (ceT kd P 40) (fun e => (e : Int) * e) = B at sp ⊢
  generalize (ceT kd P 40).length = n at sp h2 hl ⊢
  obtain ⟨h1, h3, -, h4, h5, h6, h7, h8⟩ := sp
  have h9 := h8 (by omega)
  have h10 := h3 (by omega)
  rw [← Int64.ofInt_mul, ← Int64.ofInt_mul, ← Int64.ofInt_sub]
  intro e
  have e2 := congrArg Int64.toInt e
  have b1 : (n : Int) * B ≤ 40 * (1600 * 40) := Int.mul_le_mul (by omega) (by omega) (by omega) (by omega)
  have b2 : (0 : Int) ≤ A * A := Int.mul_nonneg (by omega) (by omega)
  rw [Int64.toInt_ofInt_of_le (by omega) (by omega)] at e2
  have z : (0 : Int64).toInt = 0 := by decide
  omega
theorem len64 (L : List Nat) (h : L.length ≤ 40) : Int32.toInt64 (nI L.length) = sumL (fun _ => 1) L := by
  rw [sumL_ofInt (h := fun _ => 1) (g := fun _ => 1) (fun _ _ => by decide)]
  have : sN L (fun _ => 1) = (L.length : Int) := by
    have key : ∀ (L : List Nat) (b : Int), L.foldl (fun a _ => a + 1) b = b + (L.length : Int) := by
      intro L
      induction L with
      | nil => intro b; exact (Int.add_zero b).symm
      | cons x L ih =>
        intro b
        show L.foldl (fun a _ => a + 1) (b + 1) = _
        rw [ih, List.length_cons]
        omega
    have := key L 0
    rw [Int.zero_add] at this
    exact this
  rw [this]
  exact e64_eq (by omega)
/-! rate -/
theorem rl_rate {S : Sg} (h : Rel S) (a1 a2 a3 : Int32) : wp_L_rate a1 a2 a3 S (fun k S1 => wp_X10_rate a1 a2 a3 S1 (fun b S2 => gI S2 40 0 0 = k ∧ (k = 0 → gL S2 39 0 0 = b) ∧ Rel S2)) := by
  have h' := h
  obtain ⟨hA, hB, hC, hD, hE, hF, hG, hH, hS, hX⟩ := h'
  unfold wp_L_rate wp_X9_rate
  have bad : (¬ vp_in a1 (nM S) ∨ ¬ vp_in a2 2) → wp_X10_rate a1 a2 a3 S (fun b S2 => gI S2 40 0 0 = 1 ∧ ((1 : Int32) = 0 → gL S2 39 0 0 = b) ∧ Rel S2) := by
    intro hb
    unfold wp_X10_rate
    have fin : ∀ (X : Sg → Prop) (S3 : Sg), S3 = uI S 40 0 0 1 → ((gI S3 40 0 0 ≤ 0 → X S3) ∧ (¬ gI S3 40 0 0 ≤ 0 → (gI S3 40 0 0 = 1 ∧ ((1 : Int32) = 0 → gL S3 39 0 0 = 0) ∧ Rel S3))) := by
      intro X S3 es
      subst es
      exact bq_f (by rw [gI_at]; decide) ⟨gI_at, fun z => absurd z i10, hA, hB, hC, hD, hE, hF, hG, hH, hS, hX⟩
    refine hA.ref (fun v1 => ⟨_, fun _ _ h => h, _, fun _ h => h, bq_f i10 ?_⟩) (fun _ => ⟨_, fun _ _ h => h, _, fun _ h => h, bq_t rfl (fin _)⟩)
    refine sp_side (fun v2 => ?_) (fun _ => bq_nt rfl (fin _))
    exfalso
    rcases hb with hb | hb
    · exact hb v1
    · exact hb v2
  refine hA.in (fun k hkn hk e1 e2 hv hvn => ⟨fun z => (by cases z), fun j hj => ?_⟩) (fun hb => ⟨fun _ => Or.inl ⟨rfl, bad (Or.inl hb)⟩, fun j hj => by cases hj⟩)
  cases hj
  refine sp_cSide (fun hv2 => bq_nf i10 ?_) (fun hb => bq_nt rfl (Or.inl ⟨rfl, bad (Or.inr hb)⟩))
  obtain ⟨s, hs, es1, es2⟩ := vp_nat hv2 (by omega)
  subst es1 e1
  refine sp_gather hA hC hE hkn hs (fun f g hok => ?_)
  have hlen := ceT_len (kM S k) (gA S 27 k) 40
  refine ⟨fun q => ?_, fun q => Or.inr ⟨rfl, ?_⟩⟩
  · have h2 : 2 ≤ (ceT (kM S k) (gA S 27 k) 40).length := (le_nI (a := 2) (by omega) (by omega)).mp q
    have hne := below_ne (kM S k) (gA S 27 k) h2
    refine sp_above hok hlen (sp_below hok hlen (sp_lowest hne (fun S2 eS2 => ?_)))
    subst eS2
    generalize hT : uL (srs S (nI (ceT (kM S k) (gA S 27 k) 40).length) f g) 39 0 (Int32.toNatClampNeg 0) (lowT (Int32.toInt64 (nI (ceT (kM S k) (gA S 27 k) 40).length) * sumL (fun e => e64 e * vL S k e s) (ceT (kM S k) (gA S 27 k) 40) - sumL e64 (ceT (kM S k) (gA S 27 k) 40) * sumL (fun e => vL S k e s) (ceT (kM S k) (gA S 27 k) 40)) (Int32.toInt64 (nI (ceT (kM S k) (gA S 27 k) 40).length) * sumL (fun e => e64 e * e64 e) (ceT (kM S k) (gA S 27 k) 40) - sumL e64 (ceT (kM S k) (gA S 27 k) 40) * sumL e64 (ceT (kM S k) (gA S 27 k) 40)) a3) = T
    have tA : rA T := by rw [← hT]; exact hA
    have tB : rB T := by rw [← hT]; exact hB
    have tC : rC T := by rw [← hT]; exact hC
    have tD : rD T := by rw [← hT]; exact hD
    have tE : rE T := by rw [← hT]; exact hE
    have tR : Rel (uI T 40 0 0 0) := by rw [← hT]; exact ⟨hA, hB, hC, hD, hE, hF, hG, hH, hS, hX⟩
    have tn : nM T = nM S := by rw [← hT]; rfl
    have tk : kM T k = kM S k := by rw [← hT]; rfl
    have tP : gA T 27 k = gA S 27 k := by rw [← hT]; rfl
    have tv : ∀ e, vL T k e s = vL S k e s := fun e => by rw [← hT]; rfl
    have t39 : gL T 39 0 0 = lowT (Int32.toInt64 (nI (ceT (kM S k) (gA S 27 k) 40).length) * sumL (fun e => e64 e * vL S k e s) (ceT (kM S k) (gA S 27 k) 40) - sumL e64 (ceT (kM S k) (gA S 27 k) 40) * sumL (fun e => vL S k e s) (ceT (kM S k) (gA S 27 k) 40)) (Int32.toInt64 (nI (ceT (kM S k) (gA S 27 k) 40).length) * sumL (fun e => e64 e * e64 e) (ceT (kM S k) (gA S 27 k) 40) - sumL e64 (ceT (kM S k) (gA S 27 k) 40) * sumL e64 (ceT (kM S k) (gA S 27 k) 40)) a3 := by rw [← hT]; rfl
    clear hT
    unfold wp_X10_rate
    refine tA.ref (fun _ => ⟨_, fun _ _ h => h, _, fun _ h => h, bq_f i10 ?_⟩) (fun n => absurd (by rw [tn]; exact hvn) n)
    refine sp_side (fun _ => bq_nf i10 ?_) (fun n => absurd hv2 n)
    refine rf_manyOf tA tC hk ?_
    rw [tk, tP]
    refine bq_t q (fun S3 es3 => ?_)
    subst es3
    refine bq_t (by rw [gI_at]; decide) ?_
    refine ⟨fun v4 v6 v8 v10 v12 v14 S1 => S1 = uI T 40 0 0 0 ∧ ∃ t, t ≤ 40 ∧ v14 = nI t ∧ v4 = sumL (fun _ => 1) (ceT (kM S k) (gA S 27 k) t) ∧ v6 = sumL e64 (ceT (kM S k) (gA S 27 k) t) ∧ v8 = sumL (fun e => vL S k e s) (ceT (kM S k) (gA S 27 k) t) ∧ v10 = sumL (fun e => e64 e * e64 e) (ceT (kM S k) (gA S 27 k) t) ∧ v12 = sumL (fun e => e64 e * vL S k e s) (ceT (kM S k) (gA S 27 k) t), fun _ _ _ _ _ v14 _ => 40 - v14.toNatClampNeg, ⟨rfl, 0, by omega, rfl, rfl, rfl, rfl, rfl, rfl⟩, ?_⟩
    rintro v4 v6 v8 v10 v12 v14 S1 ⟨rfl, t, ht, rfl, rfl, rfl, rfl, rfl, rfl⟩
    refine ⟨fun q1 => ?_, fun q1 => ?_⟩
    · have h40 : 40 ≤ t := (le_nI (a := 40) (by omega) (by omega)).mp q1
      have : t = 40 := by omega
      subst this
      rw [← len64 _ hlen]
      exact rf_lowest hne ⟨gI_at, fun _ => t39, tR⟩
    · have h40 : t < 40 := by
        have := mt (le_nI (a := 40) (b := t) (by omega) (by omega)).mpr q1
        omega
      refine rf_isCl (S := uI T 40 0 0 0) tA tC hk h40 (fun hc => bq_nf i10 ?_) (fun hc => bq_nt rfl (fun y ey => ?_))
      · refine rf_clear (S := uI T 40 0 0 0) tA tB tC tD tE hk h40 hs (clf_iff.mp hc).1 (fun x1 y1 x2 y2 x3 y3 x4 y4 x5 y5 x6 y6 => ?_)
        have hc' : clf (kM S k) (gA S 27 k) t = true := by
          rw [← tk, ← tP]
          exact hc
        have hvt : vL (uI T 40 0 0 0) k t s = vL S k t s := tv t
        rw [hvt] at y3 y5
        subst y1 y2 y3 y4 y5 y6
        refine ⟨⟨rfl, t + 1, by omega, nI_1 t, ?_, ?_, ?_, ?_, ?_⟩, mu_lt h40 (by omega)⟩
        all_goals rw [ceT_t hc', sumL_1]
      · subst ey
        have hc' : ¬ clf (kM S k) (gA S 27 k) t = true := by
          rw [← tk, ← tP]
          exact hc
        refine ⟨⟨rfl, t + 1, by omega, nI_1 t, ?_, ?_, ?_, ?_, ?_⟩, mu_lt h40 (by omega)⟩
        all_goals rw [ceT_f hc']
  · have hA1 : rA (srs S (nI (ceT (kM S k) (gA S 27 k) 40).length) f g) := hA
    have hC1 : rC (srs S (nI (ceT (kM S k) (gA S 27 k) 40).length) f g) := hC
    unfold wp_X10_rate
    refine hA1.ref (fun _ => ⟨_, fun _ _ h => h, _, fun _ h => h, bq_f i10 ?_⟩) (fun n => absurd hvn n)
    refine sp_side (fun _ => bq_nf i10 ?_) (fun n => absurd hv2 n)
    refine rf_manyOf hA1 hC1 hk (bq_f q (fun S3 es3 => ?_))
    subst es3
    exact bq_f (by rw [gI_at]; decide) ⟨gI_at, fun z => absurd z (by decide), hA, hB, hC, hD, hE, hF, hG, hH, hS, hX⟩
