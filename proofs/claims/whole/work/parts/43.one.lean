/-! whether a set turns as one: class and reference -/
def clsP (n : Nat) (X Y : Nat → Int32) (V : Nat → Nat → Int32) (S : Sg) : Prop := nM S = n ∧ ∀ k, k < n → gI S 26 k 1 = X k ∧ gI S 26 k 2 = Y k ∧ gA S 33 k 0 = V k 0 ∧ gA S 33 k 1 = V k 1
def refP (n : Nat) (X Y : Nat → Int32) (V : Nat → Nat → Int32) (S : Sg) : Prop := gI S 40 0 1 = nI n ∧ ∀ k, k < n → gA S 42 0 k = X k ∧ gA S 43 0 k = Y k ∧ gA S 51 0 k = V k 0 ∧ gA S 52 0 k = V k 1
theorem tst_turn {S : Sg} {Q : Int32 → Sg → Prop} {K : Int64 → Int64 → Sg → Prop} {dx dy du dv p q : Int} (bx : dx.natAbs ≤ 2000) (by_ : dy.natAbs ≤ 2000) (bu : du.natAbs ≤ 200000) (bv : dv.natAbs ≤ 200000) (bp : p.natAbs ≤ 800000000) (bq : q.natAbs ≤ 8000000) (hok : okT dx dy du dv p q → K (Int64.ofInt p) (Int64.ofInt q) S) (hno : ¬ okT dx dy du dv p q → Q 0 S) :
    (¬ Int64.ofInt q = 0 → ((¬ (Int64.ofInt du * Int64.ofInt q) = ((-Int64.ofInt p) * Int64.ofInt dy) → Q 0 S) ∧ ((Int64.ofInt du * Int64.ofInt q) = ((-Int64.ofInt p) * Int64.ofInt dy) → (((Int64.ofInt dv * Int64.ofInt q) = (Int64.ofInt p * Int64.ofInt dx) → K (Int64.ofInt p) (Int64.ofInt q) S) ∧ (¬ (Int64.ofInt dv * Int64.ofInt q) = (Int64.ofInt p * Int64.ofInt dx) → Q 0 S))))) ∧ (Int64.ofInt q = 0 → ((¬ Int64.ofInt du = 0 → Q 0 S) ∧ (Int64.ofInt du = 0 → ((Int64.ofInt dv = 0 → K (Int64.ofInt p) (Int64.ofInt q) S) ∧ (¬ Int64.ofInt dv = 0 → Q 0 S))))) := by
  have m1 := (e64m (A := 0) (B := 0) bu bq bp (show dy.natAbs ≤ 200000 by omega)).2
  have m2 := (e64m (A := 0) (B := 0) bv bq bp (show dx.natAbs ≤ 200000 by omega)).1
  rw [m1, m2, o64_0 (by omega), o64_0 (by omega), o64_0 (by omega)]
  refine ⟨fun h => ⟨fun h1 => hno (fun ok => h1 (ok.2 h).1), fun h1 => ⟨fun h2 => hok ⟨fun z => absurd z h, fun _ => ⟨h1, h2⟩⟩, fun h2 => hno (fun ok => h2 (ok.2 h).2)⟩⟩, fun h => ⟨fun h1 => hno (fun ok => h1 (ok.1 h).1), fun h1 => ⟨fun h2 => hok ⟨fun _ => ⟨h1, h2⟩, fun z => absurd h z⟩, fun h2 => hno (fun ok => h2 (ok.1 h).2)⟩⟩⟩
theorem tl_turn {S : Sg} {n : Nat} {X Y : Nat → Int32} {V : Nat → Nat → Int32} (hc : clsP n X Y V S) (hb : bdP n X Y V) {s f k : Nat} {p q : Int} (hkn : k < n) (hfn : f < n) (bk : s.testBit k = true) (bf : s.testBit f = true) (bp : p.natAbs ≤ 800000000) (bq : q.natAbs ≤ 8000000) (hP : PR n X Y (fun k => V k 0) (fun k => V k 1) s f k p q) {Q : Int32 → Sg → Prop} {K : Int64 → Int64 → Sg → Prop} (h0 : ¬ BK n X Y V s → Q 0 S)
    (hK : ∀ p' q' : Int, p'.natAbs ≤ 800000000 → q'.natAbs ≤ 8000000 → PR n X Y (fun k => V k 0) (fun k => V k 1) s f (k + 1) p' q' → K (Int64.ofInt p') (Int64.ofInt q') S) :
    wp_X3_placeX k S (fun r_38 S_38 => (f < nM S_38 ∧ wp_X3_placeX f S_38 (fun r_39 S_39 => (∀ x9_41 : Int64, x9_41 = (Int32.toInt64 (r_38 - r_39)) → (k < nM S_39 ∧ wp_X3_placeY k S_39 (fun r_42 S_42 => (f < nM S_42 ∧ wp_X3_placeY f S_42 (fun r_44 S_44 => (∀ x11_46 : Int64, x11_46 = (Int32.toInt64 (r_42 - r_44)) → (k < nM S_44 ∧ wp_X3_speed k 0 S_44 (fun r_47 S_47 => (f < nM S_47 ∧ wp_X3_speed f 0 S_47 (fun r_49 S_49 => (∀ x13_51 : Int64, x13_51 = (Int32.toInt64 (r_47 - r_49)) → (k < nM S_49 ∧ wp_X3_speed k 1 S_49 (fun r_52 S_52 => (f < nM S_52 ∧ wp_X3_speed f 1 S_52 (fun r_54 S_54 => (∀ x15_56 : Int64, x15_56 = (Int32.toInt64 (r_52 - r_54)) → (∃ J_57 : Int64 → Int64 → Sg → Prop, (∀ (v3_57 : Int64) (v5_57 : Int64) (S_57 : Sg), J_57 v3_57 v5_57 S_57 → ((¬ v5_57 = 0 → ((¬ (x13_51 * v5_57) = ((-v3_57) * x11_46) → Q 0 S_57) ∧ ((x13_51 * v5_57) = ((-v3_57) * x11_46) → (((x15_56 * v5_57) = (v3_57 * x9_41) → K v3_57 v5_57 S_57) ∧ (¬ (x15_56 * v5_57) = (v3_57 * x9_41) → Q 0 S_57))))) ∧ (v5_57 = 0 → ((¬ x13_51 = 0 → Q 0 S_57) ∧ (x13_51 = 0 → ((x15_56 = 0 → K v3_57 v5_57 S_57) ∧ (¬ x15_56 = 0 → Q 0 S_57))))))) ∧ ((¬ Int64.ofInt q = 0 → J_57 (Int64.ofInt p) (Int64.ofInt q) S_54) ∧ (Int64.ofInt q = 0 → (∀ x5_66 : Int64, x5_66 = ((x9_41 * x9_41) + (x11_46 * x11_46)) → (∀ x3_67 : Int64, x3_67 = ((x15_56 * x9_41) - (x13_51 * x11_46)) → J_57 x3_67 x5_66 S_54)))))))))))))))))))))))) := by
  have hk' : k < nM S := by rw [hc.1]; exact hkn
  have hf' : f < nM S := by rw [hc.1]; exact hfn
  refine ⟨hk', hf', hf', fun x9 e9 => ⟨hk', hk', hf', hf', fun x11 e11 => ⟨hk', hk', in02, hf', hf', in02, fun x13 e13 => ⟨hk', hk', in12, hf', hf', in12, fun x15 e15 => ?_⟩⟩⟩⟩
  obtain ⟨k1, k2, k3, k4⟩ := hc.2 k hkn
  obtain ⟨f1, f2, f3, f4⟩ := hc.2 f hfn
  obtain ⟨b1, b2, b3, b4, d1, d2, d3, d4⟩ := bd_dif hb hkn hfn
  rw [k1, f1, d1] at e9
  rw [k2, f2, d2] at e11
  have e13 : x13 = Int32.toInt64 (gA S 33 k 0 - gA S 33 f 0) := e13
  have e15 : x15 = Int32.toInt64 (gA S 33 k 1 - gA S 33 f 1) := e15
  rw [k3, f3, d3] at e13
  rw [k4, f4, d4] at e15
  subst e9 e11 e13 e15
  by_cases hq0 : q = 0
  · have hp0 := (hP.1 hq0).1
    have hst := PR_step (p' := dI (fun k => V k 1) k f * dI X k f - dI (fun k => V k 0) k f * dI Y k f) (q' := dI X k f * dI X k f + dI Y k f * dI Y k f) hP hkn hfn bk bf (by
      by_cases hz : dI X k f * dI X k f + dI Y k f * dI Y k f = 0
      · obtain ⟨z1, z2⟩ := sq0 hz
        refine Or.inr (Or.inl ⟨hq0, z1, z2, ?_, hz⟩)
        rw [z1, z2]
        omega
      · refine Or.inr (Or.inr ⟨hq0, hz, fun P Q' g1 g2 => ?_⟩)
        grind)
    have w1 := mulB b4 b1 rfl
    have w2 := mulB b3 b2 rfl
    have w3 := mulB b1 b1 rfl
    have w4 := mulB b2 b2 rfl
    have wp : (dI (fun k => V k 1) k f * dI X k f - dI (fun k => V k 0) k f * dI Y k f).natAbs ≤ 800000000 := by omega
    have wq : (dI X k f * dI X k f + dI Y k f * dI Y k f).natAbs ≤ 8000000 := by omega
    refine ⟨fun a b S' => S' = S ∧ a = Int64.ofInt (dI (fun k => V k 1) k f * dI X k f - dI (fun k => V k 0) k f * dI Y k f) ∧ b = Int64.ofInt (dI X k f * dI X k f + dI Y k f * dI Y k f), ?_, fun h => absurd ((o64_0 (by omega)).mpr hq0) h, fun _ x5 e5 x3 e3 => ⟨rfl, ?_, ?_⟩⟩
    · rintro a b S' ⟨rfl, rfl, rfl⟩
      exact tst_turn b1 b2 b3 b4 wp wq (fun ok => hK _ _ wp wq (hst.1 ok)) (fun no => h0 (hst.2 no))
    · rw [e3, ← Int64.ofInt_mul, ← Int64.ofInt_mul, ← Int64.ofInt_sub]
    · rw [e5, ← Int64.ofInt_mul, ← Int64.ofInt_mul, ← Int64.ofInt_add]
  · have hst := PR_step hP hkn hfn bk bf (Or.inl ⟨hq0, rfl, rfl⟩)
    refine ⟨fun a b S' => S' = S ∧ a = Int64.ofInt p ∧ b = Int64.ofInt q, ?_, fun _ => ⟨rfl, rfl, rfl⟩, fun h => absurd ((o64_0 (by omega)).mp h) hq0⟩
    rintro a b S' ⟨rfl, rfl, rfl⟩
    exact tst_turn b1 b2 b3 b4 bp bq (fun ok => hK _ _ bp bq (hst.1 ok)) (fun no => h0 (hst.2 no))
theorem PR_skip {n : Nat} {X Y U V : Nat → Int32} {s f k : Nat} {p q : Int} (h : PR n X Y U V s f k p q) (hs : k < n → s.testBit k = false) : PR n X Y U V s f (k + 1) p q := by
  have hj : ∀ j, j < k + 1 → j < n → s.testBit j = true → j < k := fun j h1 h2 h3 => by
    by_cases e : j = k
    · subst e
      rw [hs h2] at h3
      cases h3
    · omega
  exact ⟨fun h0 => ⟨(h.1 h0).1, fun j h1 h2 h3 => (h.1 h0).2 j (hj j h1 h2 h3) h2 h3⟩, fun h0 => ⟨fun j h1 h2 h3 => (h.2 h0).1 j (hj j h1 h2 h3) h2 h3, (h.2 h0).2⟩⟩
theorem sp_turn {S : Sg} {n : Nat} {X Y : Nat → Int32} {V : Nat → Nat → Int32} (hc : clsP n X Y V S) (hb : bdP n X Y V) (hn : n ≤ 10) {s : Nat} (hs : s < 2 ^ 31) {Q : Int32 → Sg → Prop} (h1 : BK n X Y V s → Q 1 S) (h0 : ¬ BK n X Y V s → Q 0 S) : wp_X0_turnAsOne (nI s) S Q := by
  refine ⟨fun v2 v3 v5 v7 S1 => S1 = S ∧ ∃ k, k ≤ 10 ∧ v7 = nI k ∧ ((v2 = none ∧ v3 = 0 ∧ v5 = 0 ∧ ∀ j, j < k → j < n → s.testBit j = false) ∨ ∃ f p q, v2 = some f ∧ f < n ∧ s.testBit f = true ∧ v3 = Int64.ofInt p ∧ v5 = Int64.ofInt q ∧ p.natAbs ≤ 800000000 ∧ q.natAbs ≤ 8000000 ∧ PR n X Y (fun k => V k 0) (fun k => V k 1) s f k p q), fun _ _ _ v7 _ => 10 - v7.toNatClampNeg, ⟨rfl, 0, by omega, rfl, Or.inl ⟨rfl, rfl, rfl, fun j hj => absurd hj (Nat.not_lt_zero j)⟩⟩, ?_⟩
  rintro v2 v3 v5 v7 S1 ⟨rfl, k, hk, rfl, hI⟩
  refine ⟨fun q => ?_, fun q => ?_⟩
  · have e := (le_nI (a := 10) (by omega) (by omega)).mp q
    rcases hI with ⟨-, -, -, hno⟩ | ⟨f, p, q, -, hf, bf, -, -, -, -, hP⟩
    · exact h1 ⟨0, 1, by decide, fun i j hi hj bi bj => by rw [hno i (by omega) hi] at bi; cases bi⟩
    · exact h1 (PR_end (by omega) hP)
  · have e : k < 10 := by
      have := mt (le_nI (a := 10) (b := k) (by omega) (by omega)).mpr q
      omega
    have hcl : (nI k).toNatClampNeg = k := nI_clamp (by omega)
    have skip : (k < n → s.testBit k = false) → ((v2 = none ∧ v3 = 0 ∧ v5 = 0 ∧ ∀ j, j < k + 1 → j < n → s.testBit j = false) ∨ ∃ f p q, v2 = some f ∧ f < n ∧ s.testBit f = true ∧ v3 = Int64.ofInt p ∧ v5 = Int64.ofInt q ∧ p.natAbs ≤ 800000000 ∧ q.natAbs ≤ 8000000 ∧ PR n X Y (fun k => V k 0) (fun k => V k 1) s f (k + 1) p q) := by
      intro hz
      rcases hI with ⟨a1, a2, a3, hno⟩ | ⟨f, p, q, a1, hf, bf, a2, a3, a4, a5, hP⟩
      · refine Or.inl ⟨a1, a2, a3, fun j hj hjn => ?_⟩
        by_cases ej : j = k
        · subst ej
          exact hz hjn
        · exact hno j (by omega) hjn
      · exact Or.inr ⟨f, p, q, a1, hf, bf, a2, a3, a4, a5, PR_skip hP hz⟩
    rw [hcl]
    refine ⟨in_nI e (by omega), fun hkn => ⟨fun hb0 x ex => ?_, fun hb1 => ?_⟩, fun hkn => ⟨fun hb0 x ex => ?_, fun hb1 x ex => ?_⟩⟩
    · rw [ex]
      exact ⟨⟨rfl, k + 1, by omega, nI_1 k, skip (fun _ => (bit_0 hs (by omega)).mp hb0)⟩, mu_lt e (by omega)⟩
    · rw [hc.1] at hkn
      have bk : s.testBit k = true := by
        have := mt (bit_0 hs (show k < 31 by omega)).mpr hb1
        simpa using this
      have hK : ∀ (f : Nat) (p' q' : Int), f < n → s.testBit f = true → p'.natAbs ≤ 800000000 → q'.natAbs ≤ 8000000 → PR n X Y (fun k => V k 0) (fun k => V k 1) s f (k + 1) p' q' → ∀ x7 : Int32, x7 = nI k + 1 → (S1 = S1 ∧ ∃ k, k ≤ 10 ∧ x7 = nI k ∧ ((some f = none ∧ Int64.ofInt p' = 0 ∧ Int64.ofInt q' = 0 ∧ ∀ j, j < k → j < n → s.testBit j = false) ∨ ∃ f' p q, some f = some f' ∧ f' < n ∧ s.testBit f' = true ∧ Int64.ofInt p' = Int64.ofInt p ∧ Int64.ofInt q' = Int64.ofInt q ∧ p.natAbs ≤ 800000000 ∧ q.natAbs ≤ 8000000 ∧ PR n X Y (fun k => V k 0) (fun k => V k 1) s f' k p q)) ∧ 10 - x7.toNatClampNeg < 10 - (nI k).toNatClampNeg := by
        intro f p' q' hf bf bp bq hP x7 e7
        rw [e7]
        exact ⟨⟨rfl, k + 1, by omega, nI_1 k, Or.inr ⟨f, p', q', rfl, hf, bf, rfl, rfl, bp, bq, hP⟩⟩, mu_lt e (by omega)⟩
      refine ⟨fun hnone => ?_, fun f hf => ?_⟩
      · rcases hI with ⟨-, rfl, rfl, hno⟩ | ⟨f, p, q, a1, -⟩
        · refine tl_turn (p := 0) (q := 0) hc hb hkn hkn bk bk (by decide) (by decide) (PR_0 hno) h0 (fun p' q' bp bq hP => ?_)
          have t := hK k p' q' hkn bk bp bq hP
          exact t
        · rw [hnone] at a1
          cases a1
      · rcases hI with ⟨a1, -⟩ | ⟨f', p, q, a1, hf', bf, rfl, rfl, bp, bq, hP⟩
        · rw [hf] at a1
          cases a1
        · rw [hf] at a1
          cases a1
          refine tl_turn hc hb hkn hf' bk bf bp bq hP h0 (fun p' q' bp bq hP => ?_)
          have t := hK f p' q' hf' bf bp bq hP
          exact t
    · rw [ex]
      exact ⟨⟨rfl, k + 1, by omega, nI_1 k, skip (fun _ => (bit_0 hs (by omega)).mp hb0)⟩, mu_lt e (by omega)⟩
    · rw [ex]
      rw [hc.1] at hkn
      exact ⟨⟨rfl, k + 1, by omega, nI_1 k, skip (fun z => absurd z hkn)⟩, mu_lt e (by omega)⟩
theorem tr_if {q : Int} (hq : q.natAbs ≤ 8000000) : (if Int64.ofInt q = 0 then (1 : Int64) else Int64.ofInt q) = Int64.ofInt (if q = 0 then 1 else q) := by
  by_cases h : q = 0
  · rw [if_pos h, if_pos ((o64_0 (by omega)).mpr h)]
    rfl
  · rw [if_neg h, if_neg (fun z => h ((o64_0 (by omega)).mp z))]
theorem tst_ref {S : Sg} {Q : Int32 → Sg → Prop} {K : Prop} {dx dy du dv p q : Int} (bx : dx.natAbs ≤ 2000) (by_ : dy.natAbs ≤ 2000) (bu : du.natAbs ≤ 200000) (bv : dv.natAbs ≤ 200000) (bp : p.natAbs ≤ 800000000) (bq : q.natAbs ≤ 8000000) (hp : q = 0 → p = 0) (hok : okT dx dy du dv p q → K) (hno : ¬ okT dx dy du dv p q → Q 0 S) :
    (∃ J_20 : Int64 → Sg → Prop, (∀ (t0_20 : Int64) (S_20 : Sg), J_20 t0_20 S_20 → ((¬ (Int64.ofInt du * t0_20) = ((-Int64.ofInt p) * Int64.ofInt dy) → Q 0 S_20) ∧ ((Int64.ofInt du * t0_20) = ((-Int64.ofInt p) * Int64.ofInt dy) → (((Int64.ofInt dv * t0_20) = (Int64.ofInt p * Int64.ofInt dx) → S_20 = S ∧ K) ∧ (¬ (Int64.ofInt dv * t0_20) = (Int64.ofInt p * Int64.ofInt dx) → Q 0 S_20))))) ∧ ((¬ Int64.ofInt q = 0 → J_20 (Int64.ofInt q) S) ∧ (Int64.ofInt q = 0 → J_20 1 S))) := by
  refine ⟨fun t S' => S' = S ∧ t = Int64.ofInt (if q = 0 then 1 else q), ?_, fun h => ⟨rfl, ?_⟩, fun h => ⟨rfl, ?_⟩⟩
  · rintro t S' ⟨rfl, rfl⟩
    have bt : (if q = 0 then (1 : Int) else q).natAbs ≤ 8000000 := by split <;> omega
    have m1 := (e64m (A := 0) (B := 0) bu bt bp (show dy.natAbs ≤ 200000 by omega)).2
    have m2 := (e64m (A := 0) (B := 0) bv bt bp (show dx.natAbs ≤ 200000 by omega)).1
    rw [m1, m2]
    have hok2 : (du * (if q = 0 then 1 else q) = -p * dy ∧ dv * (if q = 0 then 1 else q) = p * dx) ↔ okT dx dy du dv p q := by
      by_cases h : q = 0
      · rw [if_pos h, hp h]
        unfold okT
        constructor
        · intro hh
          refine ⟨fun _ => ⟨by omega, by omega⟩, fun z => absurd h z⟩
        · intro hh
          have := hh.1 h
          constructor <;> omega
      · rw [if_neg h]
        exact ⟨fun hh => ⟨fun z => absurd z h, fun _ => hh⟩, fun hh => hh.2 h⟩
    exact ⟨fun h1 => hno (fun ok => h1 (hok2.mpr ok).1), fun h1 => ⟨fun h2 => ⟨rfl, hok (hok2.mp ⟨h1, h2⟩)⟩, fun h2 => hno (fun ok => h2 (hok2.mpr ok).2)⟩⟩
  · rw [if_neg (fun z => h ((o64_0 (by omega)).mpr z))]
  · rw [if_pos ((o64_0 (by omega)).mp h)]
    rfl
theorem rf_isBlock {S : Sg} {n : Nat} {X Y : Nat → Int32} {V : Nat → Nat → Int32} (hc : refP n X Y V S) (hb : bdP n X Y V) (hn : n ≤ 10) {s : Nat} (hs : s < 2 ^ n) (hs0 : s ≠ 0) {Q : Int32 → Sg → Prop} (h1 : BK n X Y V s → Q 1 S) (h0 : ¬ BK n X Y V s → Q 0 S) : wp_X10_isBlock (nI s) S Q := by
  have hs1 : s < 1024 := Nat.lt_of_lt_of_le hs (Nat.pow_le_pow_right (n := 2) (by omega) hn)
  obtain ⟨l10, bl, bj, -⟩ := lo_spec s hs1 hs0
  have hfn : lo s < n := by
    apply Nat.lt_of_not_le
    intro hle
    have : s.testBit (lo s) = false := Nat.testBit_lt_two_pow (Nat.lt_of_lt_of_le hs (Nat.pow_le_pow_right (by omega) hle))
    rw [bl] at this
    cases this
  refine ⟨fun v S1 => S1 = S ∧ ∃ k, k ≤ lo s ∧ v = nI k, fun v _ => 10 - v.toNatClampNeg, ⟨rfl, 0, by omega, rfl⟩, ?_⟩
  rintro v S1 ⟨rfl, k, hk, rfl⟩
  refine ⟨fun hb1 x ex => ?_, fun hb0 x ex => ?_⟩
  · have bk : s.testBit k = true := by
      have := mt (bit_0 (show s < 2 ^ 31 by omega) (show k < 31 by omega)).mpr hb1
      simpa using this
    have ek : k = lo s := by
      apply Nat.le_antisymm hk
      apply Nat.le_of_not_lt
      intro hlt
      rw [bj k hlt] at bk
      cases bk
    subst ek
    rw [nI_1] at ex
    subst ex
    refine ⟨fun v3 v5 v7 S2 => S2 = S1 ∧ ∃ j p q, j ≤ 10 ∧ v7 = nI j ∧ v3 = Int64.ofInt p ∧ v5 = Int64.ofInt q ∧ p.natAbs ≤ 800000000 ∧ q.natAbs ≤ 8000000 ∧ PR n X Y (fun k => V k 0) (fun k => V k 1) s (lo s) j p q, fun _ _ v7 _ => 10 - v7.toNatClampNeg, ⟨rfl, lo s + 1, 0, 0, by omega, rfl, rfl, rfl, by decide, by decide, PR_lo bj⟩, ?_⟩
    rintro v3 v5 v7 S2 ⟨rfl, j, p, q, hj, rfl, rfl, rfl, bp, bq, hP⟩
    rw [hc.1]
    refine ⟨fun z => h1 (PR_end ((le_nI (by omega) (by omega)).mp z) hP), fun z => ?_⟩
    have hjn : j < n := by
      have := mt (le_nI (a := n) (b := j) (by omega) (by omega)).mpr z
      omega
    have hcl : (nI j).toNatClampNeg = j := nI_clamp (by omega)
    have hcf : (nI (lo s)).toNatClampNeg = lo s := nI_clamp (by omega)
    have ij : vp_in (nI j) 10 := in_nI (by omega) (by omega)
    have jf : vp_in (nI (lo s)) 10 := in_nI (by omega) (by omega)
    refine ⟨fun hb1 => ⟨ij, jf, fun x8 e8 => ⟨ij, jf, fun x10 e10 => ⟨ij, jf, fun x12 e12 => ⟨ij, jf, fun x14 e14 => ?_⟩⟩⟩⟩, fun hb0 x ex => ?_⟩
    · have bjt : s.testBit j = true := by
        have := mt (bit_0 (show s < 2 ^ 31 by omega) (show j < 31 by omega)).mpr hb1
        simpa using this
      obtain ⟨k1, k2, k3, k4⟩ := hc.2 j hjn
      obtain ⟨f1, f2, f3, f4⟩ := hc.2 (lo s) hfn
      obtain ⟨b1, b2, b3, b4, d1, d2, d3, d4⟩ := bd_dif hb hjn hfn
      rw [hcl, hcf] at e8 e10 e12 e14
      rw [k1, f1, d1] at e8
      rw [k2, f2, d2] at e10
      rw [k3, f3, d3] at e12
      rw [k4, f4, d4] at e14
      subst e8 e10 e12 e14
      have fin : ∀ p' q' : Int, p'.natAbs ≤ 800000000 → q'.natAbs ≤ 8000000 → (q' = 0 → p' = 0) → ((q ≠ 0 ∧ p' = p ∧ q' = q) ∨ (q = 0 ∧ dI X j (lo s) = 0 ∧ dI Y j (lo s) = 0 ∧ p' = 0 ∧ q' = 0) ∨ (q = 0 ∧ q' ≠ 0 ∧ ∀ P Q : Int, dI (fun k => V k 0) j (lo s) * Q = -P * dI Y j (lo s) → dI (fun k => V k 1) j (lo s) * Q = P * dI X j (lo s) → p' * Q = P * q')) → (∃ J_20 : Int64 → Sg → Prop, (∀ (t0_20 : Int64) (S_20 : Sg), J_20 t0_20 S_20 → ((¬ (Int64.ofInt (dI (fun k => V k 0) j (lo s)) * t0_20) = ((-Int64.ofInt p') * Int64.ofInt (dI Y j (lo s))) → Q 0 S_20) ∧ ((Int64.ofInt (dI (fun k => V k 0) j (lo s)) * t0_20) = ((-Int64.ofInt p') * Int64.ofInt (dI Y j (lo s))) → (((Int64.ofInt (dI (fun k => V k 1) j (lo s)) * t0_20) = (Int64.ofInt p' * Int64.ofInt (dI X j (lo s))) → S_20 = S2 ∧ PR n X Y (fun k => V k 0) (fun k => V k 1) s (lo s) (j + 1) p' q') ∧ (¬ (Int64.ofInt (dI (fun k => V k 1) j (lo s)) * t0_20) = (Int64.ofInt p' * Int64.ofInt (dI X j (lo s))) → Q 0 S_20))))) ∧ ((¬ Int64.ofInt q' = 0 → J_20 (Int64.ofInt q') S2) ∧ (Int64.ofInt q' = 0 → J_20 1 S2))) := by
        intro p' q' bp' bq' hpz hnew
        have hst := PR_step hP hjn hfn bjt bl hnew
        exact tst_ref b1 b2 b3 b4 bp' bq' hpz (fun ok => hst.1 ok) (fun no => h0 (hst.2 no))
      refine ⟨fun a b S' => S' = S2 ∧ ∃ p' q' : Int, a = Int64.ofInt p' ∧ b = Int64.ofInt q' ∧ p'.natAbs ≤ 800000000 ∧ q'.natAbs ≤ 8000000 ∧ (q' = 0 → p' = 0) ∧ ((q ≠ 0 ∧ p' = p ∧ q' = q) ∨ (q = 0 ∧ dI X j (lo s) = 0 ∧ dI Y j (lo s) = 0 ∧ p' = 0 ∧ q' = 0) ∨ (q = 0 ∧ q' ≠ 0 ∧ ∀ P Q : Int, dI (fun k => V k 0) j (lo s) * Q = -P * dI Y j (lo s) → dI (fun k => V k 1) j (lo s) * Q = P * dI X j (lo s) → p' * Q = P * q')), ?_, fun hq => ?_, fun hq => ?_⟩
      · rintro a b S' ⟨rfl, p', q', rfl, rfl, bp', bq', hpz, hnew⟩
        obtain ⟨J, hJ, hJ2⟩ := fin p' q' bp' bq' hpz hnew
        refine ⟨J, fun t S20 ht => ?_, hJ2⟩
        obtain ⟨g1, g2⟩ := hJ t S20 ht
        refine ⟨g1, fun z1 => ⟨fun z2 x ex => ?_, (g2 z1).2⟩⟩
        obtain ⟨rfl, hPR⟩ := (g2 z1).1 z2
        rw [ex]
        exact ⟨⟨rfl, j + 1, p', q', by omega, nI_1 j, rfl, rfl, bp', bq', hPR⟩, mu_lt (show j < 10 by omega) (by omega)⟩
      · have hq' : q ≠ 0 := fun z => hq ((o64_0 (by omega)).mpr z)
        exact ⟨rfl, p, q, rfl, rfl, bp, bq, fun z => absurd z hq', Or.inl ⟨hq', rfl, rfl⟩⟩
      · have hq0 : q = 0 := (o64_0 (by omega)).mp hq
        have hp0 := (hP.1 hq0).1
        refine ⟨fun S' => S' = S2 ∧ (dI X j (lo s) ≠ 0 ∨ dI Y j (lo s) ≠ 0), ?_, fun z => ⟨rfl, Or.inl (fun y => z ((o64_0 (by omega)).mpr y))⟩, fun z => ⟨fun z2 => ?_, fun z2 => ⟨rfl, Or.inr (fun y => z2 ((o64_0 (by omega)).mpr y))⟩⟩⟩
        · rintro S2 ⟨rfl, hne⟩
          by_cases hx : dI X j (lo s) = 0
          · have hy : dI Y j (lo s) ≠ 0 := hne.resolve_left (fun z => z hx)
            refine ⟨fun t S' => S' = S2 ∧ t = Int64.ofInt (-dI (fun k => V k 0) j (lo s)), ?_, fun _ => ⟨rfl, (Int64.ofInt_neg _).symm⟩, fun z => absurd ((o64_0 (by omega)).mpr hx) z⟩
            rintro t S2 ⟨rfl, rfl⟩
            refine ⟨fun t S' => S' = S2 ∧ t = Int64.ofInt (dI Y j (lo s)), ?_, fun _ => ⟨rfl, rfl⟩, fun z => absurd ((o64_0 (by omega)).mpr hx) z⟩
            rintro t S2 ⟨rfl, rfl⟩
            refine ⟨rfl, _, _, rfl, rfl, by omega, by omega, fun z => absurd z hy, Or.inr (Or.inr ⟨hq0, hy, fun P Q g1 g2 => ?_⟩)⟩
            grind
          · refine ⟨fun t S' => S' = S2 ∧ t = Int64.ofInt (dI (fun k => V k 1) j (lo s)), ?_, fun z => absurd ((o64_0 (by omega)).mp z) hx, fun _ => ⟨rfl, rfl⟩⟩
            rintro t S2 ⟨rfl, rfl⟩
            refine ⟨fun t S' => S' = S2 ∧ t = Int64.ofInt (dI X j (lo s)), ?_, fun z => absurd ((o64_0 (by omega)).mp z) hx, fun _ => ⟨rfl, rfl⟩⟩
            rintro t S2 ⟨rfl, rfl⟩
            refine ⟨rfl, _, _, rfl, rfl, by omega, by omega, fun z => absurd z hx, Or.inr (Or.inr ⟨hq0, hx, fun P Q g1 g2 => ?_⟩)⟩
            grind
        · have hx : dI X j (lo s) = 0 := (o64_0 (by omega)).mp z
          have hy : dI Y j (lo s) = 0 := (o64_0 (by omega)).mp z2
          exact ⟨rfl, p, q, rfl, rfl, bp, bq, fun _ => hp0, Or.inr (Or.inl ⟨hq0, hx, hy, hp0, hq0⟩)⟩
    · rw [ex]
      exact ⟨⟨rfl, j + 1, p, q, by omega, nI_1 j, rfl, rfl, bp, bq, PR_skip hP (fun _ => (bit_0 (by omega) (by omega)).mp hb0)⟩, mu_lt (show j < 10 by omega) (by omega)⟩
  · rw [ex]
    have hne : k ≠ lo s := fun z => by
      have := (bit_0 (show s < 2 ^ 31 by omega) (show k < 31 by omega)).mp hb0
      rw [z, bl] at this
      cases this
    exact ⟨⟨rfl, k + 1, by omega, nI_1 k⟩, mu_lt (show k < 10 by omega) (by omega)⟩
