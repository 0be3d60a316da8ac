/-! how the class's part of the state and the reference's hang together -/
theorem bq_t {c : Prop} {A B : Prop} (h : c) (a : A) : (c → A) ∧ (¬ c → B) := ⟨fun _ => a, fun n => absurd h n⟩
theorem bq_f {c : Prop} {A B : Prop} (h : ¬ c) (b : B) : (c → A) ∧ (¬ c → B) := ⟨fun n => absurd n h, fun _ => b⟩
theorem bq_nt {c : Prop} {A B : Prop} (h : c) (b : B) : (¬ c → A) ∧ (c → B) := ⟨fun n => absurd h n, fun _ => b⟩
theorem bq_nf {c : Prop} {A B : Prop} (h : ¬ c) (a : A) : (¬ c → A) ∧ (c → B) := ⟨fun _ => a, fun n => absurd n h⟩
theorem i10 : ¬ (1 : Int32) = 0 := by decide
/-- how many of the first t places are not nought -/
def cntP (f : Nat → Int32) : Nat → Nat
  | 0 => 0
  | t + 1 => if f t = 0 then cntP f t else cntP f t + 1
theorem cntP_le (f : Nat → Int32) (T : Nat) : cntP f T ≤ T := by
  induction T with
  | zero => exact Nat.le_refl _
  | succ T ih =>
    unfold cntP
    split <;> omega
theorem cntP_congr {f g : Nat → Int32} {T : Nat} (h : ∀ t, t < T → f t = g t) : cntP f T = cntP g T := by
  induction T with
  | zero => rfl
  | succ T ih =>
    unfold cntP
    rw [ih (fun t ht => h t (by omega)), h T (by omega)]
theorem cntP_set {f : Nat → Int32} {t T : Nat} {v : Int32} (ht : t < T) (h0 : f t = 0) (hv : ¬ v = 0) : cntP (upd f t v) T = cntP f T + 1 := by
  induction T with
  | zero => omega
  | succ T ih =>
    unfold cntP
    by_cases hT : t = T
    · subst hT
      rw [if_pos h0, cntP_congr (f := upd f t v) (g := f) (fun u hu => by unfold upd; rw [if_neg (by omega)])]
      rw [if_neg (by unfold upd; rw [if_pos rfl]; exact hv)]
    · rw [ih (by omega), show upd f t v T = f T by unfold upd; rw [if_neg (by omega)]]
      split <;> omega
theorem cntP_clr {f : Nat → Int32} {t T : Nat} (ht : t < T) (h0 : ¬ f t = 0) : cntP (upd f t 0) T + 1 = cntP f T := by
  induction T with
  | zero => omega
  | succ T ih =>
    unfold cntP
    by_cases hT : t = T
    · subst hT
      rw [if_neg h0, cntP_congr (f := upd f t 0) (g := f) (fun u hu => by unfold upd; rw [if_neg (by omega)])]
      rw [if_pos (by unfold upd; rw [if_pos rfl])]
    · have := ih (by omega)
      rw [show upd f t 0 T = f T by unfold upd; rw [if_neg (by omega)]]
      split <;> omega
/-- how many of the first t epochs of mark k have a reading -/
def nP (S : Sg) (k : Nat) (t : Nat) : Nat := cntP (gA S 27 k) t
/-! what was found of blocks, of slips, of levels, where it is kept -/
/-- one turning has the velocities of all marks of the set s -/
def BK (n : Nat) (X Y : Nat → Int32) (V : Nat → Nat → Int32) (s : Nat) : Prop := ∃ p q : Int, q ≠ 0 ∧ ∀ i j, i < n → j < n → s.testBit i = true → s.testBit j = true → ((V j 0).toInt - (V i 0).toInt) * q = -p * ((Y j).toInt - (Y i).toInt) ∧ ((V j 1).toInt - (V i 1).toInt) * q = p * ((X j).toInt - (X i).toInt)
/-- the least mark of a set -/
def lo (s : Nat) : Nat := ((List.range 10).find? (fun k => s.testBit k)).getD 0
def cand (B : Nat → Prop) (s b : Nat) : Prop := b &&& s = b ∧ b.testBit (lo s) = true ∧ B b
/-- s falls into m blocks -/
def Sp (B : Nat → Prop) : Nat → Nat → Prop
  | 0, s => s = 0
  | m + 1, s => s ≠ 0 ∧ ∃ b, cand B s b ∧ Sp B m (s ^^^ b)
def isF (B : Nat → Prop) (m s : Nat) : Prop := Sp B m s ∧ ∀ m', m' < m → ¬ Sp B m' s
def lbc (B : Nat → Prop) (s b : Nat) : Prop := cand B s b ∧ ∃ m, isF B m (s ^^^ b) ∧ isF B (m + 1) s
def lb (B : Nat → Prop) (s b : Nat) : Prop := lbc B s b ∧ ∀ b', b' < b → ¬ lbc B s b'
def Out (B : Nat → Prop) (o : Nat → Int32) : Nat → Nat → Prop
  | 0, s => s = 0
  | d + 1, s => s = 0 ∨ (s ≠ 0 ∧ ∃ b, lb B s b ∧ (∀ k, k < 10 → b.testBit k = true → o k = nI b) ∧ Out B o d (s ^^^ b))
def blkP (n : Nat) (X Y : Nat → Int32) (V : Nat → Nat → Int32) (cnt : Int32) (ofm : Nat → Int32) : Prop := ∃ m d, isF (BK n X Y V) m (2 ^ n - 1) ∧ cnt = nI m ∧ Out (BK n X Y V) ofm d (2 ^ n - 1)
/-- the lines of R fit to these groups and levels; and no groups are smaller -/
def FitL (R : Nat → Prop) (fr to_ ri : Nat → Int32) (G : Nat → Int32) (L : Nat → Int) : Prop := ∀ l, R l → G (fr l).toNatClampNeg = G (to_ l).toNatClampNeg ∧ L (to_ l).toNatClampNeg - L (fr l).toNatClampNeg = (ri l).toInt
def MinL (N : Nat) (R : Nat → Prop) (fr to_ ri : Nat → Int32) (G : Nat → Int32) (L : Nat → Int) : Prop := FitL R fr to_ ri G L ∧ ∀ (G' : Nat → Int32) (L' : Nat → Int), FitL R fr to_ ri G' L' → ∀ i j, i < N → j < N → G i = G j → G' i = G' j ∧ L' j - L' i = L j - L i
def Rt (m w : Nat) (l : Nat) : Prop := l < m ∧ w.testBit l = false
def CONS (m : Nat) (fr to_ ri : Nat → Int32) (w : Nat) : Prop := ∃ (G : Nat → Int32) (L : Nat → Int), FitL (Rt m w) fr to_ ri G L
/-- how many of the first t bits are set -/
def onb (w : Nat) : Nat → Nat
  | 0 => 0
  | t + 1 => if w.testBit t = true then onb w t + 1 else onb w t
def FirstW (N m : Nat) (fr to_ ri : Nat → Int32) (w : Nat) : Prop := w < N ∧ CONS m fr to_ ri w ∧ ∀ w', w' < N → CONS m fr to_ ri w' → onb w 14 ≤ onb w' 14 ∧ (w' < w → onb w 14 < onb w' 14)
def fitB (n : Nat) (V G : Nat → Nat → Int32) (tol : Int32) (a b c : Nat) : Bool := (List.range n).all (fun k => decide (-tol.toInt ≤ (G k 0).toInt * a + (G k 1).toInt * b + (G k 2).toInt * c - (V k 0).toInt ∧ (G k 0).toInt * a + (G k 1).toInt * b + (G k 2).toInt * c - (V k 0).toInt ≤ tol.toInt))
def fitC (n : Nat) (V G : Nat → Nat → Int32) (tol : Int32) (q : Nat) : Bool := fitB n V G tol (q / 256) (q / 16 % 16) (q % 16)
def co (i q : Nat) : Nat := if i = 0 then q / 256 else if i = 1 then q / 16 % 16 else q % 16
def cntC (p : Nat → Bool) : Nat → Nat
  | 0 => 0
  | q + 1 => if p q = true then cntC p q + 1 else cntC p q
def minmax (p : Nat → Bool) (Q i m M : Nat) : Prop := (∃ q, q < Q ∧ p q = true ∧ co i q = m) ∧ (∃ q, q < Q ∧ p q = true ∧ co i q = M) ∧ ∀ q, q < Q → p q = true → m ≤ co i q ∧ co i q ≤ M
def slpP (n : Nat) (V G : Nat → Nat → Int32) (tol : Int32) (cnt : Int32) (least most : Nat → Int32) : Prop := cnt = nI (cntC (fitC n V G tol) 4096) ∧ (¬ cntC (fitC n V G tol) 4096 = 0 → ∀ i, i < 3 → ∃ m M, m ≤ 15 ∧ M ≤ 15 ∧ least i = nI m ∧ most i = nI M ∧ minmax (fitC n V G tol) 4096 i m M)
def lvlP (cnt : Int32) (from_ to_ rise : Nat → Int32) (wrong : Int32) (group level : Nat → Int32) : Prop := ∃ m w, m ≤ 14 ∧ cnt = nI m ∧ FirstW (2 ^ m) m from_ to_ rise w ∧ wrong = nI w ∧ MinL 10 (Rt m w) from_ to_ rise group (fun k => (level k).toInt)
def btw (a : Int32) (m : Int) : Prop := -m ≤ a.toInt ∧ a.toInt ≤ m
def rA (S : Sg) : Prop := nM S ≤ 10 ∧ gI S 0 0 6 = nI (nM S) ∧ gI S 40 0 1 = nI (nM S) ∧ (∀ k, kM S k < 4) ∧ (∀ k, k < 10 → gA S 41 0 k = nI (kM S k) ∧ gA S 42 0 k = gI S 26 k 1 ∧ gA S 43 0 k = gI S 26 k 2 ∧ btw (gI S 26 k 1) 1000 ∧ btw (gI S 26 k 2) 1000) ∧ ∀ k, k < nM S → gI S 26 k 0 = nI k
def rB (S : Sg) : Prop := (∀ k, k < 10 → gA S 44 0 k = gI S 26 k 6 ∧ gA S 45 0 k = gI S 26 k 5) ∧ ∀ k, nM S ≤ k → gI S 26 k 5 = 0 ∧ gI S 26 k 6 = 0
def rC (S : Sg) : Prop := (∀ k t, k < 10 → t < 40 → gA S 47 0 (40 * k + t) = gA S 27 k t ∧ (gA S 27 k t = 0 ∨ gA S 27 k t = 1)) ∧ (∀ k t, nM S ≤ k → gA S 27 k t = 0) ∧ ∀ k, k < 10 → gI S 26 k 3 = nI (nP S k 40)
def rD (S : Sg) : Prop := (∀ k t s, k < 10 → t < 40 → s < 2 → gA S 48 0 (2 * (40 * k + t) + s) = gA S 29 (2 * k + s) t) ∧ ∀ k t s, nM S ≤ k → s < 2 → gA S 29 (2 * k + s) t = 0
def rE (S : Sg) : Prop := (∀ k, k < 10 → gA S 46 0 k = gI S 26 k 4 ∧ (∃ c, c ≤ 10 ∧ gI S 26 k 4 = nI c)) ∧ (∀ k i, k < 10 → i < 10 → gA S 49 0 (10 * k + i) = gA S 30 k i) ∧ (∀ k i s, k < 10 → i < 10 → s < 2 → gA S 50 0 (2 * (10 * k + i) + s) = gA S 32 (2 * k + s) i) ∧ (∀ k, nM S ≤ k → gI S 26 k 4 = 0) ∧ (∀ k i, nM S ≤ k → gA S 30 k i = 0) ∧ ∀ k i s, nM S ≤ k → s < 2 → gA S 32 (2 * k + s) i = 0
def rF (S : Sg) : Prop := (∀ k, k < 10 → gA S 51 0 k = gA S 33 k 0 ∧ gA S 52 0 k = gA S 33 k 1 ∧ btw (gA S 33 k 0) 100000 ∧ btw (gA S 33 k 1) 100000) ∧ ∀ k i, nM S ≤ k → gA S 33 k i = 0
def rG (S : Sg) : Prop := (∀ k i, k < 10 → i < 3 → gA S 56 0 (3 * k + i) = gA S 34 k i ∧ btw (gA S 34 k i) 20) ∧ (∀ k i, nM S ≤ k → gA S 34 k i = 0) ∧ gI S 40 0 17 = gI S 0 0 7 ∧ 0 ≤ (gI S 0 0 7).toInt ∧ (gI S 0 0 7).toInt ≤ 100
def rH (S : Sg) : Prop := ∃ m, m ≤ 14 ∧ gI S 14 0 3 = nI m ∧ gI S 40 0 22 = nI m ∧ ∀ i, i < m → gA S 59 0 i = gA S 15 0 i ∧ gA S 60 0 i = gA S 16 0 i ∧ gA S 61 0 i = gA S 17 0 i ∧ btw (gA S 17 0 i) 10000 ∧ ∃ a b, a < nM S ∧ b < nM S ∧ a ≠ b ∧ gA S 15 0 i = nI a ∧ gA S 16 0 i = nI b
/-- one shelf: what it holds -/
def rS1 (S : Sg) (d : Nat) : Prop := gA S 64 0 d = gI S 24 d 1 ∧ ((gI S 24 d 1 = 0 ∧ sM S d = none) ∨ (gI S 24 d 1 = 1 ∧ ∃ j, j < nM S ∧ sM S d = some j ∧ gA S 65 0 d = nI j) ∨ ((gI S 24 d 1 = 3 ∨ gI S 24 d 1 = 4) ∧ sM S d = none ∧ ∃ z, z ≤ 60 ∧ gI S 24 d 2 = nI z ∧ gA S 66 0 d = nI z ∧ ∀ i, i < z → gL S 25 d i = gL S 67 0 (60 * d + i)))
def rS (S : Sg) : Prop := ∀ d, d < 8 → rS1 S d
def rX (S : Sg) : Prop := (gA S 8 0 0 = 0 ∧ (¬ gI S 6 0 5 = 0 → blkP (nM S) (fun k => gI S 26 k 1) (fun k => gI S 26 k 2) (gA S 33) (gI S 6 0 4) (gA S 10 0))) ∧ (¬ gI S 11 0 5 = 0 → slpP (nM S) (gA S 33) (gA S 34) (gI S 0 0 7) (gI S 11 0 2) (gA S 12 0) (gA S 13 0)) ∧ (¬ gI S 14 0 10 = 0 → lvlP (gI S 14 0 3) (gA S 15 0) (gA S 16 0) (gA S 17 0) (gI S 14 0 8) (gA S 22 0) (gA S 23 0))
def Rel (S : Sg) : Prop := rA S ∧ rB S ∧ rC S ∧ rD S ∧ rE S ∧ rF S ∧ rG S ∧ rH S ∧ rS S ∧ rX S
theorem Rel_S0 : Rel S0 := by
  have b0 : btw 0 1000 := by unfold btw; decide
  have b1 : btw 0 100000 := by unfold btw; decide
  have b2 : btw 0 20 := by unfold btw; decide
  have hp : ∀ k t, nP S0 k t = 0 := fun k t => by
    unfold nP
    induction t with
    | zero => rfl
    | succ t ih =>
      show (if (0 : Int32) = 0 then cntP (gA S0 27 k) t else _) = 0
      rw [if_pos rfl]
      exact ih
  refine ⟨⟨Nat.zero_le _, rfl, rfl, fun k => (by decide : 0 < 4), fun k _ => ⟨rfl, rfl, rfl, b0, b0⟩, fun k h => absurd h (Nat.not_lt_zero k)⟩, ⟨fun k _ => ⟨rfl, rfl⟩, fun k _ => ⟨rfl, rfl⟩⟩, ⟨fun k t _ _ => ⟨rfl, Or.inl rfl⟩, fun k t _ => rfl, fun k _ => by rw [hp]; rfl⟩, ⟨fun k t s _ _ _ => rfl, fun k t s _ _ => rfl⟩, ⟨fun k _ => ⟨rfl, 0, by omega, rfl⟩, fun k i _ _ => rfl, fun k i s _ _ _ => rfl, fun k _ => rfl, fun k i _ => rfl, fun k i s _ _ => rfl⟩, ⟨fun k _ => ⟨rfl, rfl, b1, b1⟩, fun k i _ => rfl⟩, ⟨fun k i _ _ => ⟨rfl, b2⟩, fun k i _ => rfl, rfl, by decide, by decide⟩, ⟨0, by omega, rfl, rfl, fun i h => absurd h (Nat.not_lt_zero i)⟩, fun d _ => ⟨rfl, Or.inl ⟨rfl, rfl⟩⟩, ⟨⟨rfl, fun h => absurd rfl h⟩, fun h => absurd rfl h, fun h => absurd rfl h⟩⟩
/-! small facts -/
theorem vp_nat {a : Int32} {n : Nat} (h : vp_in a n) (hn : n < 2 ^ 31) : ∃ k, k < n ∧ a = nI k ∧ a.toNatClampNeg = k := by
  rw [vp_in_iff] at h
  refine ⟨a.toInt.toNat, by omega, ?_, ?_⟩
  · apply Int32.toInt_inj.mp
    rw [nI_toInt (by omega)]
    omega
  · rfl
theorem nI_inj {a b : Nat} (ha : a < 2 ^ 31) (hb : b < 2 ^ 31) (h : nI a = nI b) : a = b := by
  have := congrArg Int32.toInt h
  rw [nI_toInt ha, nI_toInt hb] at this
  omega
theorem in_nI {k n : Nat} (h : k < n) (hn : n < 2 ^ 31) : vp_in (nI k) n := nI_in h hn
theorem btw_of {a : Int32} {m : Int32} {M : Int} (hM : m.toInt = M) (hN : (-m).toInt = -M) (h1 : ¬ a < -m) (h2 : ¬ m < a) : btw a M := by
  rw [Int32.lt_iff_toInt_lt] at h1 h2
  unfold btw
  omega
theorem sp_within {a b : Int32} {S : Sg} {Q : Int32 → Sg → Prop} (h1 : ¬ a < -b → ¬ b < a → Q 1 S) (h0 : (a < -b ∨ b < a) → Q 0 S) : wp_X9_within a b S Q :=
  ⟨fun h => h0 (Or.inl h), fun h => ⟨fun g => h0 (Or.inr g), fun g => h1 h g⟩⟩
theorem upd_same {f : Nat → Int32} {i : Nat} {v : Int32} : upd f i v i = v := by unfold upd; rw [if_pos rfl]
theorem upd_ne {f : Nat → Int32} {i j : Nat} {v : Int32} (h : j ≠ i) : upd f i v j = f j := by unfold upd; rw [if_neg h]
theorem gA_at {S : Sg} {t k i : Nat} {v : Int32} : gA (uA S t k i v) t k i = v := by rw [gA_same]; exact upd_same
theorem gA_off {S : Sg} {t k i a b j : Nat} {v : Int32} (h : ¬ (a = t ∧ b = k ∧ j = i)) : gA (uA S t k i v) a b j = gA S a b j := by
  rw [gA_uA]
  by_cases hc : a = t ∧ b = k
  · rw [if_pos hc, upd_ne (fun e => h ⟨hc.1, hc.2, e⟩), hc.1, hc.2]
  · rw [if_neg hc]
theorem gI_at {S : Sg} {t k i : Nat} {v : Int32} : gI (uI S t k i v) t k i = v := by rw [gI_same]; exact upd_same
theorem gI_off {S : Sg} {t k i a b j : Nat} {v : Int32} (h : ¬ (a = t ∧ b = k ∧ j = i)) : gI (uI S t k i v) a b j = gI S a b j := by
  rw [gI_uI]
  by_cases hc : a = t ∧ b = k
  · rw [if_pos hc, upd_ne (fun e => h ⟨hc.1, hc.2, e⟩), hc.1, hc.2]
  · rw [if_neg hc]
theorem rA.in {S : Sg} (h : rA S) {a : Int32} {Q : Option Nat → Sg → Prop} (h1 : ∀ k, k < nM S → k < 10 → a = nI k → a.toNatClampNeg = k → vp_in a 10 → vp_in a (nM S) → Q (some k) S) (h0 : ¬ vp_in a (nM S) → Q none S) : wp_X9_markAt a S Q := by
  have hn := h.1
  refine sp_markAt (n := nM S) h.2.1 rfl h.1 (fun hv => ?_) h0
  obtain ⟨k, hk, e1, e2⟩ := vp_nat hv (by omega)
  rw [e2]
  exact h1 k hk (by omega) e1 e2 (vp_in_le hv h.1) hv
theorem rA.ref {S : Sg} (h : rA S) {a : Int32} {Q : Int32 → Sg → Prop} (h1 : vp_in a (nM S) → Q 1 S) (h0 : ¬ vp_in a (nM S) → Q 0 S) : wp_X10_isMark a S Q := sp_isMark h.2.2.1 h.1 h1 h0
theorem nI_mul (a b : Nat) : nI a * nI b = nI (a * b) := by
  unfold nI
  exact (Int32.ofNat_mul a b).symm
theorem nI_plus (a b : Nat) : nI a + nI b = nI (a + b) := by
  unfold nI
  exact (Int32.ofNat_add a b).symm
theorem spot_eq (k t : Nat) : (40 : Int32) * nI k + nI t = nI (40 * k + t) := by
  rw [← nI_plus, ← nI_mul]
  rfl
/-! tolerance -/
theorem rl_tolerance {S : Sg} (h : Rel S) (a : Int32) : wp_X9_tolerance a S (fun r S1 => wp_X10_tolerance a S1 (fun r2 S2 => r = r2 ∧ Rel S2)) := by
  obtain ⟨hA, hB, hC, hD, hE, hF, hG, hH, hS, hX⟩ := h
  refine ⟨fun q => ?_, fun q => ⟨fun q2 => ?_, fun q2 => ?_⟩⟩
  · exact sp_in (fun q1 _ => absurd q q1) (fun _ => bq_nt rfl ⟨rfl, hA, hB, hC, hD, hE, hF, hG, hH, hS, hX⟩)
  · intro x ex S1 e1 S2 e2
    subst e1 e2
    refine sp_in (fun _ _ => bq_nf i10 ?_) (fun q3 => ?_)
    · intro y ey S3 e3
      subst e3
      refine ⟨?_, hA, hB, hC, hD, hE, hF, ⟨hG.1, hG.2.1, rfl, ?_, ?_⟩, hH, hS, hX.1, fun n => absurd rfl n, hX.2.2⟩
      · rw [ex, ey]
        exact hG.2.2.1.symm
      · show 0 ≤ a.toInt
        rw [Int32.lt_iff_toInt_lt] at q
        have : ¬ a.toInt < 0 := q
        omega
      · show a.toInt ≤ 100
        rw [Int32.le_iff_toInt_le] at q2
        exact q2
    · exfalso
      rcases q3 with q3 | q3
      · exact q q3
      · rw [Int32.lt_iff_toInt_lt] at q3
        rw [Int32.le_iff_toInt_le] at q2
        omega
  · exact sp_in (fun _ q3 => absurd (i32_nlt.mp q3) q2) (fun _ => bq_nt rfl ⟨rfl, hA, hB, hC, hD, hE, hF, hG, hH, hS, hX⟩)
