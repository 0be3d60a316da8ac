/-! cleared readings -/
/-- a reading less the first i steps -/
def stV (R E Z : Nat → Int32) (t : Nat) : Nat → Int64
  | 0 => Int32.toInt64 (R t)
  | i + 1 => if nI t < E i then stV R E Z t i else stV R E Z t i - Int32.toInt64 (Z i)
/-- of the epochs r, r + 4 ..: how many have a reading, and their sum -/
def seN (P : Nat → Int32) (r : Nat) : Nat → Nat
  | 0 => 0
  | j + 1 => if P (r + 4 * j) = 0 then seN P r j else seN P r j + 1
def seS (P R : Nat → Int32) (r : Nat) : Nat → Int64
  | 0 => 0
  | j + 1 => if P (r + 4 * j) = 0 then seS P R r j else seS P R r j + Int32.toInt64 (R (r + 4 * j))
def vLf (kd : Nat) (P R E Z : Nat → Int32) (c4 c5 c6 : Int32) (t : Nat) : Int64 :=
  if kd = 1 ∨ kd = 2 then (if nI t < c5 then stV R E Z t c4.toNatClampNeg else stV R E Z t c4.toNatClampNeg - Int32.toInt64 c6)
  else if kd = 3 then stV R E Z t c4.toNatClampNeg - (if seN P (t % 4) 10 = 0 then 0 else seS P R (t % 4) 10 / Int32.toInt64 (nI (seN P (t % 4) 10)))
  else stV R E Z t c4.toNatClampNeg
def clf (kd : Nat) (P : Nat → Int32) (t : Nat) : Bool := decide (¬ P t = 0) && (decide (¬ kd = 2) || decide (2 ≤ cntP P t))
abbrev vL (S : Sg) (k t s : Nat) : Int64 := vLf (kM S k) (gA S 27 k) (gA S 29 (2 * k + s)) (gA S 30 k) (gA S 32 (2 * k + s)) (gI S 26 k 4) (gI S 26 k 5) (gI S 26 k 6) t
abbrev clB (S : Sg) (k t : Nat) : Bool := clf (kM S k) (gA S 27 k) t
theorem in_2 {s : Nat} (h : s < 2) : vp_in (nI s) 2 := in_nI h (by omega)
theorem cl_2 {s : Nat} (h : s < 2) : (nI s).toNatClampNeg = s := nI_clamp (by omega)
theorem sp_base {S : Sg} (hE : rE S) {k t s : Nat} (hkn : k < nM S) (hk : k < 10) (ht : t < 40) (hs : s < 2) {Q : Int64 → Sg → Prop} (hq : Q (stV (gA S 29 (2 * k + s)) (gA S 30 k) (gA S 32 (2 * k + s)) t (gI S 26 k 4).toNatClampNeg) S) : wp_X3_clearedValue k (nI t) (nI s) S Q := by
  obtain ⟨-, c, hc, h4⟩ := hE.1 k hk
  rw [h4, nI_clamp (by omega)] at hq
  refine ⟨hkn, in_2 hs, in_nI ht (by omega), fun x ex => ?_⟩
  rw [cl_2 hs, nI_clamp (by omega)] at ex
  subst ex
  refine ⟨fun v3 v5 S1 => S1 = S ∧ ∃ i, i ≤ c ∧ v5 = nI i ∧ v3 = stV (gA S 29 (2 * k + s)) (gA S 30 k) (gA S 32 (2 * k + s)) t i, fun _ v5 _ => c - v5.toNatClampNeg, ⟨rfl, 0, by omega, rfl, rfl⟩, ?_⟩
  rintro v3 v5 S1 ⟨rfl, i, hi, rfl, rfl⟩
  rw [h4]
  refine ⟨hkn, fun q => ?_, fun q => ?_⟩
  · have h1 := (le_nI (by omega) (by omega)).mp q
    have : i = c := by omega
    subst this
    exact hq
  · have h1 : i < c := by
      have := mt (le_nI (a := c) (b := i) (by omega) (by omega)).mpr q
      omega
    rw [nI_clamp (by omega), cl_2 hs]
    refine ⟨in_nI (by omega) (by omega), fun q2 y ey => ?_, fun q2 => ⟨in_2 hs, in_nI (by omega) (by omega), fun x ex y ey => ?_⟩⟩
    · subst ey
      refine ⟨⟨rfl, i + 1, by omega, nI_1 i, ?_⟩, mu_lt h1 (by omega)⟩
      show _ = if nI t < gA S1 30 k i then _ else _
      rw [if_pos q2]
    · subst ex ey
      refine ⟨⟨rfl, i + 1, by omega, nI_1 i, ?_⟩, mu_lt h1 (by omega)⟩
      show _ = if nI t < gA S1 30 k i then _ else _
      rw [if_neg q2]
theorem i64_sub0 (x : Int64) : x - 0 = x := by
  rw [Int64.sub_zero]
theorem two_nI (m s : Nat) : (2 : Int32) * nI m + nI s = nI (2 * m + s) := by
  rw [show (2 : Int32) = nI 2 from rfl, nI_mul, nI_plus]
theorem two_spot {k t s : Nat} : (2 : Int32) * nI (40 * k + t) + nI s = nI (2 * (40 * k + t) + s) := two_nI _ _
theorem rf_without {S : Sg} (hE : rE S) (hD : rD S) {k t s : Nat} (hk : k < 10) (ht : t < 40) (hs : s < 2) {Q : Int64 → Sg → Prop} (hq : Q (stV (gA S 29 (2 * k + s)) (gA S 30 k) (gA S 32 (2 * k + s)) t (gI S 26 k 4).toNatClampNeg) S) : wp_X10_withoutSteps (nI k) (nI t) (nI s) S Q := by
  obtain ⟨h46, c, hc, h4⟩ := hE.1 k hk
  rw [h4, nI_clamp (by omega)] at hq
  unfold wp_X10_withoutSteps
  refine sp_spot ?_
  have hck : (nI k).toNatClampNeg = k := nI_clamp (by omega)
  have h10 : (10 : Int32) * nI k = nI (10 * k) := nI_mul 10 k
  rw [spot_eq, two_spot, nI_clamp (by omega), hD.1 k t s hk ht hs]
  refine ⟨in_nI (by omega) (by omega), fun x ex y ey => ?_⟩
  rw [h10] at ey
  subst ex ey
  refine ⟨fun v4 v6 S1 => S1 = S ∧ ∃ i, i ≤ c ∧ v6 = nI (10 * k + i) ∧ v4 = stV (gA S 29 (2 * k + s)) (gA S 30 k) (gA S 32 (2 * k + s)) t i, fun _ v6 _ => 10 * k + c - v6.toNatClampNeg, ⟨rfl, 0, by omega, rfl, rfl⟩, ?_⟩
  rintro v4 v6 S1 ⟨rfl, i, hi, rfl, rfl⟩
  rw [hck, h46, h4, h10, nI_plus]
  refine ⟨in_nI hk (by omega), fun q => ?_, fun q => ?_⟩
  · have h1 := (le_nI (by omega) (by omega)).mp q
    have : i = c := by omega
    subst this
    exact hq
  · have h1 : i < c := by
      have := mt (le_nI (a := 10 * k + c) (b := 10 * k + i) (by omega) (by omega)).mpr q
      omega
    have h2 : (2 : Int32) * nI (10 * k + i) + nI s = nI (2 * (10 * k + i) + s) := two_nI _ _
    have hmu : 10 * k + c - (nI (10 * k + i) + 1).toNatClampNeg < 10 * k + c - (nI (10 * k + i)).toNatClampNeg := mu_lt (by omega) (by omega)
    rw [nI_clamp (n := 10 * k + i) (by omega), hE.2.1 k i hk (by omega), h2, nI_clamp (n := 2 * (10 * k + i) + s) (by omega), hE.2.2.1 k i s hk (by omega) hs]
    refine ⟨in_nI (by omega) (by omega), fun q2 x ex y ey => ?_, fun q2 => ⟨in_nI (by omega) (by omega), fun x ex y ey => ?_⟩⟩
    · subst ex ey
      refine ⟨⟨rfl, i + 1, by omega, nI_1 _, ?_⟩, hmu⟩
      show _ = if nI t < gA S1 30 k i then _ else _
      rw [if_pos q2, i64_sub0]
    · subst ex ey
      refine ⟨⟨rfl, i + 1, by omega, nI_1 _, ?_⟩, hmu⟩
      show _ = if nI t < gA S1 30 k i then _ else _
      rw [if_neg q2]
/-! the mean of a season -/
theorem mod4 {t : Nat} (ht : t < 40) : nI t - nI t / 4 * 4 = nI (t % 4) := by
  have key : ∀ u : Fin 40, nI u.val - nI u.val / 4 * 4 = nI (u.val % 4) := by decide
  exact key ⟨t, ht⟩
theorem seN_le (P : Nat → Int32) (r j : Nat) : seN P r j ≤ j := by
  induction j with
  | zero => exact Nat.le_refl _
  | succ j ih =>
    unfold seN
    split <;> omega
theorem n64_0 {n : Nat} (h : n < 2 ^ 31) : Int32.toInt64 (nI n) = 0 ↔ n = 0 := by
  constructor
  · intro e
    have := congrArg Int64.toInt e
    rw [Int32.toInt_toInt64, nI_toInt h] at this
    have z : (0 : Int64).toInt = 0 := by decide
    omega
  · intro e
    subst e
    decide
theorem plus4 (r j : Nat) : nI (r + 4 * j) + 4 = nI (r + 4 * (j + 1)) := by
  show nI (r + 4 * j) + nI 4 = _
  rw [nI_plus]
  rfl
theorem mu4 {r j : Nat} (hr : r < 4) (hj : j < 10) : 80 - (nI (r + 4 * j) + 4).toNatClampNeg < 80 - (nI (r + 4 * j)).toNatClampNeg := by
  rw [plus4, nI_clamp (by omega), nI_clamp (by omega)]
  omega
theorem sp_season {S : Sg} (hC : rC S) {k t s : Nat} (hkn : k < nM S) (hk : k < 10) (ht : t < 40) (hs : s < 2) (hkd : ¬ kM S k = 0 ∧ ¬ kM S k = 1 ∧ ¬ kM S k = 2) {Q : Int64 → Sg → Prop} (hq : Q (if seN (gA S 27 k) (t % 4) 10 = 0 then 0 else seS (gA S 27 k) (gA S 29 (2 * k + s)) (t % 4) 10 / Int32.toInt64 (nI (seN (gA S 27 k) (t % 4) 10))) S) : wp_X1_seasonMean k (nI t) (nI s) S Q := by
  intro x ex
  rw [mod4 ht] at ex
  subst ex
  generalize hr : t % 4 = r at hq ⊢
  have hr4 : r < 4 := by omega
  refine ⟨fun v3 v5 v6 S1 => S1 = S ∧ ∃ j, j ≤ 10 ∧ v6 = nI (r + 4 * j) ∧ v3 = seS (gA S 27 k) (gA S 29 (2 * k + s)) r j ∧ v5 = nI (seN (gA S 27 k) r j), fun _ _ v6 _ => 80 - v6.toNatClampNeg, ⟨rfl, 0, by omega, rfl, rfl, rfl⟩, ?_⟩
  rintro v3 v5 v6 S1 ⟨rfl, j, hj, rfl, rfl, rfl⟩
  have hle := seN_le (gA S1 27 k) r j
  refine ⟨fun q => ?_, fun q => ?_⟩
  · have h1 := (le_nI (a := 40) (by omega) (by omega)).mp q
    have : j = 10 := by omega
    subst this
    refine ⟨fun n0 => ⟨fun e => n0 ?_, ?_⟩, fun e0 => ?_⟩
    · have := (n64_0 (by omega)).mp e
      rw [this]
      rfl
    · rw [if_neg (fun e => n0 (by rw [e]; rfl))] at hq
      exact hq
    · have := nI_inj (b := 0) (by omega) (by omega) e0
      rw [if_pos this] at hq
      exact hq
  · have h1 : j < 10 := by
      have := mt (le_nI (a := 40) (b := r + 4 * j) (by omega) (by omega)).mpr q
      omega
    have ht40 : r + 4 * j < 40 := by omega
    refine ⟨hkn, hkd, hkn, in_nI ht40 (by omega), ?_⟩
    rw [nI_clamp (by omega)]
    refine ⟨z_or1 (hC.1 k (r + 4 * j) hk ht40).2, fun q0 y ey => ?_, fun q0 => ⟨hkn, hkd, hkn, in_2 hs, in_nI ht40 (by omega), fun x ex y ey z ez => ?_⟩⟩
    · subst ey
      refine ⟨⟨rfl, j + 1, by omega, plus4 r j, ?_, ?_⟩, mu4 hr4 h1⟩
      · show _ = if _ then _ else _
        rw [if_pos q0]
      · show _ = nI (if _ then _ else _)
        rw [if_pos q0]
    · rw [cl_2 hs, nI_clamp (by omega)] at ex
      subst ex ey ez
      refine ⟨⟨rfl, j + 1, by omega, plus4 r j, ?_, ?_⟩, mu4 hr4 h1⟩
      · show _ = if _ then _ else _
        rw [if_neg q0]
      · show _ = nI (if _ then _ else _)
        rw [if_neg q0]
        exact nI_1 _
theorem seN_pos {P : Nat → Int32} {t : Nat} (ht : t < 40) (h : ¬ P t = 0) : ¬ seN P (t % 4) 10 = 0 := by
  have key : ∀ j, t / 4 < j → 0 < seN P (t % 4) j := by
    intro j
    induction j with
    | zero => omega
    | succ j ih =>
      intro hj
      show 0 < if P (t % 4 + 4 * j) = 0 then _ else _
      by_cases e : t / 4 = j
      · have : t % 4 + 4 * j = t := by omega
        rw [this, if_neg h]
        omega
      · have := ih (by omega)
        split <;> omega
  have := key 10 (by omega)
  omega
theorem rf_mean {S : Sg} (hC : rC S) (hD : rD S) {k t s : Nat} (hk : k < 10) (ht : t < 40) (hs : s < 2) (hp : ¬ gA S 27 k t = 0) {Q : Int64 → Sg → Prop} (hq : Q (if seN (gA S 27 k) (t % 4) 10 = 0 then 0 else seS (gA S 27 k) (gA S 29 (2 * k + s)) (t % 4) 10 / Int32.toInt64 (nI (seN (gA S 27 k) (t % 4) 10))) S) : wp_X10_meanOf (nI k) (nI t - nI t / 4 * 4) (nI s) S Q := by
  have hn0 := seN_pos ht hp
  rw [mod4 ht]
  generalize hr : t % 4 = r at hq hn0 ⊢
  have hr4 : r < 4 := by omega
  rw [if_neg hn0] at hq
  refine ⟨fun v4 v6 v7 S1 => S1 = S ∧ ∃ j, j ≤ 10 ∧ v7 = nI (r + 4 * j) ∧ v4 = seS (gA S 27 k) (gA S 29 (2 * k + s)) r j ∧ v6 = nI (seN (gA S 27 k) r j), fun _ _ v7 _ => 80 - v7.toNatClampNeg, ⟨rfl, 0, by omega, rfl, rfl, rfl⟩, ?_⟩
  rintro v4 v6 v7 S1 ⟨rfl, j, hj, rfl, rfl, rfl⟩
  have hle := seN_le (gA S1 27 k) r j
  refine ⟨fun q => ?_, fun q => ?_⟩
  · have h1 := (le_nI (a := 40) (by omega) (by omega)).mp q
    have : j = 10 := by omega
    subst this
    exact ⟨fun e => hn0 ((n64_0 (by omega)).mp e), hq⟩
  · have h1 : j < 10 := by
      have := mt (le_nI (a := 40) (b := r + 4 * j) (by omega) (by omega)).mpr q
      omega
    have ht40 : r + 4 * j < 40 := by omega
    obtain ⟨s1, s2⟩ := spot_at hC hk ht40
    refine sp_spot ⟨s1, fun q0 => ?_, fun q0 y ey => ?_⟩
    · rw [s2] at q0
      refine sp_spot ?_
      rw [spot_eq, two_spot, nI_clamp (by omega), hD.1 k (r + 4 * j) s hk ht40 hs]
      refine ⟨in_nI (by omega) (by omega), fun x ex y ey z ez => ?_⟩
      subst ex ey ez
      refine ⟨⟨rfl, j + 1, by omega, plus4 r j, ?_, ?_⟩, mu4 hr4 h1⟩
      · show _ = if _ then _ else _
        rw [if_neg q0]
      · show _ = nI (if _ then _ else _)
        rw [if_neg q0]
        exact nI_1 _
    · rw [s2] at q0
      subst ey
      refine ⟨⟨rfl, j + 1, by omega, plus4 r j, ?_, ?_⟩, mu4 hr4 h1⟩
      · show _ = if _ then _ else _
        rw [if_pos q0]
      · show _ = nI (if _ then _ else _)
        rw [if_pos q0]
/-! the cleared value -/
theorem sp_value {S : Sg} (hA : rA S) (hC : rC S) (hE : rE S) {k t s : Nat} (hkn : k < nM S) (ht : t < 40) (hs : s < 2) {Q : Int64 → Sg → Prop} (hq : Q (vL S k t s) S) : wpv_clearedValue k (nI t) (nI s) S Q := by
  have hk : k < 10 := by have := hA.1; omega
  have h4 := hA.2.2.2.1 k
  unfold vL vLf at hq
  refine ⟨fun e => ?_, fun e => ?_, fun e => ?_⟩
  · rw [if_neg (by omega), if_neg (by omega)] at hq
    exact sp_base hE hkn hk ht hs hq
  · rw [if_pos e] at hq
    refine ⟨hkn, e, sp_base hE hkn hk ht hs ⟨hkn, e, fun q => ?_, fun q => ?_⟩⟩
    · rw [if_pos q] at hq
      exact hq
    · rw [if_neg q] at hq
      exact hq
  · rw [if_neg (by omega), if_pos (by omega)] at hq
    exact ⟨hkn, e, sp_base hE hkn hk ht hs ⟨hkn, e, sp_season hC hkn hk ht hs e hq⟩⟩
theorem rf_clear {S : Sg} (hA : rA S) (hB : rB S) (hC : rC S) (hD : rD S) (hE : rE S) {k t s : Nat} (hk : k < 10) (ht : t < 40) (hs : s < 2) (hp : ¬ gA S 27 k t = 0) {Q : Int64 → Sg → Prop} (hq : Q (vL S k t s) S) : wp_X10_clear (nI k) (nI t) (nI s) S Q := by
  have h4 := hA.2.2.2.1 k
  have hck : (nI k).toNatClampNeg = k := nI_clamp (by omega)
  have hvk : vp_in (nI k) 10 := in_nI hk (by omega)
  have h41 := (hA.2.2.2.2.1 k hk).1
  have q3 : nI (kM S k) = 3 ↔ kM S k = 3 := nI_eq_iff (b := 3) (by omega) (by omega)
  obtain ⟨h44, h45⟩ := hB.1 k hk
  unfold vL vLf at hq
  unfold wp_X10_clear
  refine rf_without hE hD hk ht hs ?_
  refine rf_hasAnt hA hk hck hvk (fun e => ?_) (fun e => ?_)
  · rw [if_pos e] at hq
    refine ⟨_, fun _ _ h => h, bq_f i10 ⟨hvk, ?_⟩⟩
    rw [hck, h45, h44]
    refine ⟨fun q => ⟨hvk, ?_⟩, fun q => ⟨hvk, fun x ex => ⟨hvk, ?_⟩⟩⟩
    · rw [h41, q3]
      rw [if_pos q] at hq
      exact bq_nf (by omega) hq
    · subst ex
      rw [h41, q3]
      rw [if_neg q] at hq
      exact bq_nf (by omega) hq
  · rw [if_neg e] at hq
    refine ⟨_, fun _ _ h => h, bq_t rfl ⟨hvk, ?_⟩⟩
    rw [hck, h41, q3]
    refine ⟨fun n3 => ?_, fun e3 => ?_⟩
    · rw [if_neg n3] at hq
      exact hq
    · rw [if_pos e3] at hq
      exact rf_mean hC hD hk ht hs hp hq
