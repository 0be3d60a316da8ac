/-! wrong lines: the reference -/
section
variable {n m : Nat} {fr to_ ri : Nat → Int32} {o : Int64}
def lvR (n m : Nat) (fr to_ ri : Nat → Int32) (o : Int64) (S : Sg) : Prop := Rel S ∧ gI S 40 0 1 = nI n ∧ gI S 40 0 22 = nI m ∧ (∀ l, l < m → gA S 59 0 l = fr l ∧ gA S 60 0 l = to_ l ∧ gA S 61 0 l = ri l) ∧ gL S 39 0 0 = o
theorem LR62 {S : Sg} (h : lvR n m fr to_ ri o S) (i : Nat) (v : Int32) : lvR n m fr to_ ri o (uA S 62 0 i v) := h
theorem LR63 {S : Sg} (h : lvR n m fr to_ ri o S) (i : Nat) (v : Int64) : lvR n m fr to_ ri o (uL S 63 0 i v) := h
theorem LRth {S : Sg} (h : lvR n m fr to_ ri o S) (v : Int32) : lvR n m fr to_ ri o (uI S 40 0 0 v) := h
theorem gL_at {S : Sg} {t k i : Nat} {v : Int64} : gL (uL S t k i v) t k i = v := by
  rw [gL_same]
  unfold vp_updL
  rw [if_pos rfl]
theorem gL_off {S : Sg} {t k i j : Nat} {v : Int64} (h : j ≠ i) : gL (uL S t k i v) t k j = gL S t k j := by
  rw [gL_same]
  unfold vp_updL
  rw [if_neg h]
theorem bm64 {x : Int} (h1 : -4611686018427387904 ≤ x) (h2 : x ≤ 4611686018427387904) : Int.bmod x (2 ^ 64) = x := Int.bmod_eq_of_le (by show -((2 : Int) ^ 64 / 2) ≤ x; omega) (by show x < ((2 : Int) ^ 64 + 1) / 2; omega)
theorem rf_ones {w : Nat} (hw : w < 2 ^ 31) {S : Sg} {Q : Int32 → Sg → Prop} (hq : Q (nI (onb w 14)) S) : wp_X10_ones (nI w) S Q := by
  refine ⟨fun v2 v3 S1 => S = S1 ∧ ∃ t, t ≤ 14 ∧ v3 = nI t ∧ v2 = nI (onb w t), fun _ v3 _ => 14 - v3.toNatClampNeg, ⟨rfl, 0, by omega, rfl, rfl⟩, ?_⟩
  rintro v2 v3 _ ⟨rfl, t, ht, rfl, rfl⟩
  refine ⟨fun q => ?_, fun q x2 e2 x3 e3 => ?_⟩
  · have q := (le_nI (a := 14) (by omega) (by omega)).mp q
    have e : t = 14 := by omega
    subst e
    exact hq
  · have hlt : t < 14 := by
      have := mt (le_nI (a := 14) (b := t) (by omega) (by omega)).mpr q
      omega
    rw [e3]
    refine ⟨⟨rfl, t + 1, by omega, nI_1 t, ?_⟩, mu_lt hlt (by omega)⟩
    rw [e2, nI_bit hw (by omega), show onb w (t + 1) = if w.testBit t = true then onb w t + 1 else onb w t from rfl]
    by_cases z : w.testBit t = true
    · rw [if_pos z, if_pos z]
      exact nI_1 _
    · rw [if_neg z, if_neg z]
      exact nI_plus _ 0
/-- groups of lines below t as one: the inner loop -/
theorem rf_agree (hn : n ≤ 10) (hm : m ≤ 14) {w : Nat} (hw : w < 2 ^ 31) (hl : lvN n m fr to_ ri) {S : Sg} (h : lvR n m fr to_ ri o S) {Q : Int32 → Sg → Prop} (h1 : ∀ S', lvR n m fr to_ ri o S' → MinL n (Rt m w) fr to_ ri (gA S' 62 0) (fun k => (gL S' 63 0 k).toInt) → LBN n (fun k => (gL S' 63 0 k).toInt) m → Q 1 S') (h0 : ∀ S', lvR n m fr to_ ri o S' → ¬ CONS m fr to_ ri w → Q 0 S') : wp_X10_agree (nI w) S Q := by
  refine ⟨fun v S1 => lvR n m fr to_ ri o S1 ∧ ∃ t, t ≤ n ∧ v = nI t ∧ ∀ k, k < t → gA S1 62 0 k = nI k ∧ gL S1 63 0 k = 0, fun v _ => 10 - v.toNatClampNeg, ⟨h, 0, by omega, rfl, fun k hk => absurd hk (Nat.not_lt_zero k)⟩, ?_⟩
  rintro v S1 ⟨hK1, t, ht, rfl, hv⟩
  rw [hK1.2.1]
  refine ⟨fun q => ?_, fun q => ?_⟩
  · have q := (le_nI (by omega) (by omega)).mp q
    have e : t = n := by omega
    subst e
    refine ⟨fun v S3 => lvR t m fr to_ ri o S3 ∧ ∃ u, u ≤ m ∧ v = nI u ∧ MinL t (Rt u w) fr to_ ri (gA S3 62 0) (fun k => (gL S3 63 0 k).toInt) ∧ LBN t (fun k => (gL S3 63 0 k).toInt) u, fun v _ => 14 - v.toNatClampNeg, ⟨hK1, 0, by omega, rfl, MinL_0 hn (fun l hl => Nat.not_lt_zero l hl.1) (fun k hk => (hv k hk).1), fun k hk => ?_⟩, ?_⟩
    · show -lvb 0 ≤ (gL S1 63 0 k).toInt ∧ (gL S1 63 0 k).toInt ≤ lvb 0
      rw [(hv k hk).2]
      decide
    clear hv q ht
    rintro v S3 ⟨hK3, u, hu, rfl, hM, hB⟩
    rw [hK3.2.2.1]
    refine ⟨fun q => ?_, fun q => ?_⟩
    · have q := (le_nI (by omega) (by omega)).mp q
      have e : u = m := by omega
      subst e
      exact h1 S3 hK3 hM hB
    · have hlt : u < m := by
        have := mt (le_nI (a := m) (b := u) (by omega) (by omega)).mpr q
        omega
      have cu : (nI u).toNatClampNeg = u := nI_clamp (by omega)
      have iu : vp_in (nI u) 14 := in_nI (by omega) (by omega)
      obtain ⟨a, b, ha, hb, ea, eb, hri⟩ := hl u hlt
      obtain ⟨g59, g60, g61⟩ := hK3.2.2.2.1 u hlt
      have ca : (nI a).toNatClampNeg = a := nI_clamp (by omega)
      have cb : (nI b).toNatClampNeg = b := nI_clamp (by omega)
      have ia : vp_in (nI a) 10 := in_nI (by omega) (by omega)
      have ib : vp_in (nI b) 10 := in_nI (by omega) (by omega)
      have fa : (fr u).toNatClampNeg = a := by rw [ea, ca]
      have fb : (to_ u).toNatClampNeg = b := by rw [eb, cb]
      have c59 : gA S3 59 0 (nI u).toNatClampNeg = nI a := by rw [cu, g59, ea]
      have c60 : gA S3 60 0 (nI u).toNatClampNeg = nI b := by rw [cu, g60, eb]
      have c61 : gA S3 61 0 (nI u).toNatClampNeg = ri u := by rw [cu, g61]
      have mu : 14 - (nI u + 1).toNatClampNeg < 14 - (nI u).toNatClampNeg := mu_lt (by omega) (by omega)
      have hbu := b3_14 u (by omega)
      have ba : -lvb u ≤ (gL S3 63 0 a).toInt ∧ (gL S3 63 0 a).toInt ≤ lvb u := hB a ha
      have bb : -lvb u ≤ (gL S3 63 0 b).toInt ∧ (gL S3 63 0 b).toInt ≤ lvb u := hB b hb
      refine ⟨fun zb => ?_, fun zb x ex => ?_⟩
      · have hbit : w.testBit u = false := by
          have := mt (bit_1 hw (by omega)).mpr zb
          simpa using this
        have hup : ∀ l, Rt (u + 1) w l ↔ Rt u w l ∨ l = u := fun l => by
          unfold Rt
          constructor
          · rintro ⟨p1, p2⟩
            by_cases y : l = u
            · exact Or.inr y
            · exact Or.inl ⟨by omega, p2⟩
          · rintro (⟨p1, p2⟩ | rfl)
            · exact ⟨by omega, p2⟩
            · exact ⟨by omega, hbit⟩
        rw [c59, c60, c61, ca, cb]
        unfold btw at hri
        have s1 : (gL S3 63 0 a + Int32.toInt64 (ri u)).toInt = (gL S3 63 0 a).toInt + (ri u).toInt := by
          rw [Int64.toInt_add, Int32.toInt_toInt64]
          exact bm64 (by omega) (by omega)
        have s2 : (gL S3 63 0 a + Int32.toInt64 (ri u) - gL S3 63 0 b).toInt = (gL S3 63 0 a).toInt + (ri u).toInt - (gL S3 63 0 b).toInt := by
          rw [Int64.toInt_sub, s1]
          exact bm64 (by omega) (by omega)
        refine ⟨iu, ia, iu, iu, ib, fun x3 e3 => ⟨iu, ia, iu, ib, fun zg => ?_, fun zg => ⟨fun zx x ex => ?_, fun zx => ?_⟩⟩⟩
        · refine ⟨iu, ib, fun x5 e5 => ⟨iu, ia, fun x6 e6 => ?_⟩⟩
          subst e5
          subst e6
          refine ⟨fun v S4 => lvR t m fr to_ ri o S4 ∧ ∃ k, k ≤ t ∧ v = nI k ∧ (∀ j, j < k → gA S4 62 0 j = (if gA S3 62 0 j = gA S3 62 0 b then gA S3 62 0 a else gA S3 62 0 j) ∧ gL S4 63 0 j = (if gA S3 62 0 j = gA S3 62 0 b then gL S3 63 0 j + x3 else gL S3 63 0 j)) ∧ ∀ j, k ≤ j → gA S4 62 0 j = gA S3 62 0 j ∧ gL S4 63 0 j = gL S3 63 0 j, fun v _ => 10 - v.toNatClampNeg, ⟨hK3, 0, by omega, rfl, fun j hj => absurd hj (Nat.not_lt_zero j), fun j _ => ⟨rfl, rfl⟩⟩, ?_⟩
          rintro v S4 ⟨hK4, k, hk, rfl, hv1, hv2⟩
          rw [hK4.2.1]
          refine ⟨fun q2 x ex => ?_, fun q2 => ?_⟩
          · have q2 := (le_nI (by omega) (by omega)).mp q2
            have e : k = t := by omega
            subst e
            rw [ex]
            have lv : ∀ j, j < k → (gA S3 62 0 j = gA S3 62 0 b ∧ (gL S4 63 0 j).toInt = (gL S3 63 0 j).toInt + ((gL S3 63 0 a).toInt + (ri u).toInt - (gL S3 63 0 b).toInt)) ∨ (¬ gA S3 62 0 j = gA S3 62 0 b ∧ (gL S4 63 0 j).toInt = (gL S3 63 0 j).toInt) := by
              intro j hj
              have bj : -lvb u ≤ (gL S3 63 0 j).toInt ∧ (gL S3 63 0 j).toInt ≤ lvb u := hB j hj
              rw [(hv1 j hj).2]
              by_cases y : gA S3 62 0 j = gA S3 62 0 b
              · refine Or.inl ⟨y, ?_⟩
                rw [if_pos y, e3, Int64.toInt_add, s2]
                exact bm64 (by omega) (by omega)
              · refine Or.inr ⟨y, ?_⟩
                rw [if_neg y]
            refine ⟨⟨hK4, u + 1, by omega, nI_1 u, ?_, ?_⟩, mu⟩
            · refine MinL_join hM (fun l hl2 => LN_in hn hl (Nat.lt_trans hl2.1 hlt)) fa fb ha hb zg (fun j hj => (hv1 j hj).1) (fun j hj => ?_) hup
              show (gL S4 63 0 j).toInt = if gA S3 62 0 j = gA S3 62 0 b then (gL S3 63 0 j).toInt + ((gL S3 63 0 a).toInt + (ri u).toInt - (gL S3 63 0 b).toInt) else (gL S3 63 0 j).toInt
              rcases lv j hj with ⟨y, y2⟩ | ⟨y, y2⟩
              · rw [if_pos y]
                exact y2
              · rw [if_neg y]
                exact y2
            · exact LBN_join (c := fun j => gA S3 62 0 j = gA S3 62 0 b) (x := (ri u).toInt) hB ha hb ⟨by omega, by omega⟩ lv
          · have hlt2 : k < t := by
              have := mt (le_nI (a := t) (b := k) (by omega) (by omega)).mpr q2
              omega
            have ck : (nI k).toNatClampNeg = k := nI_clamp (by omega)
            have ik : vp_in (nI k) 10 := in_nI (by omega) (by omega)
            obtain ⟨k1, k2⟩ := hv2 k (Nat.le_refl k)
            refine ⟨ik, fun zk => ⟨ik, fun S29 e29 => ⟨ik, ik, fun S32 e32 x ex => ?_⟩⟩, fun zk x ex => ?_⟩
            · rw [ck, k1] at zk
              rw [ck] at e29 e32
              rw [ex]
              subst e32
              subst e29
              have z3 : gL (uA S4 62 0 k (gA S3 62 0 a)) 63 0 k = gL S4 63 0 k := rfl
              rw [z3]
              refine ⟨⟨LR63 (LR62 hK4 _ _) _ _, k + 1, by omega, nI_1 k, fun j hj => ?_, fun j hj => ?_⟩, mu_lt (show k < 10 by omega) (by omega)⟩
              · have z4 : gA (uL (uA S4 62 0 k (gA S3 62 0 a)) 63 0 k (gL S4 63 0 k + x3)) 62 0 j = gA (uA S4 62 0 k (gA S3 62 0 a)) 62 0 j := rfl
                rw [z4]
                by_cases y : j = k
                · subst y
                  rw [gA_at, gL_at, if_pos zk, if_pos zk, k2]
                  exact ⟨rfl, rfl⟩
                · rw [gA_off (by omega), gL_off y]
                  exact hv1 j (by omega)
              · have z4 : gA (uL (uA S4 62 0 k (gA S3 62 0 a)) 63 0 k (gL S4 63 0 k + x3)) 62 0 j = gA (uA S4 62 0 k (gA S3 62 0 a)) 62 0 j := rfl
                rw [z4, gA_off (by omega), gL_off (by omega)]
                exact hv2 j (by omega)
            · rw [ck, k1] at zk
              rw [ex]
              refine ⟨⟨hK4, k + 1, by omega, nI_1 k, fun j hj => ?_, fun j hj => hv2 j (by omega)⟩, mu_lt (show k < 10 by omega) (by omega)⟩
              by_cases y : j = k
              · subst y
                rw [if_neg zk, if_neg zk]
                exact ⟨k1, k2⟩
              · exact hv1 j (by omega)
        · rw [ex]
          have hz : (gL S3 63 0 a).toInt + (ri u).toInt - (gL S3 63 0 b).toInt = 0 := by
            rw [← s2, ← e3, zx]
            rfl
          refine ⟨⟨hK3, u + 1, by omega, nI_1 u, MinL_same hM (l0 := u) (by rw [fa, fb]; exact zg) (by rw [fa, fb]; show (gL S3 63 0 b).toInt - (gL S3 63 0 a).toInt = (ri u).toInt; omega) hup, LBN_up hB⟩, mu⟩
        · refine h0 S3 hK3 (MinL_no hM (l0 := u) (by rw [fa]; exact ha) (by rw [fb]; exact hb) (by rw [fa, fb]; exact zg) ?_ (fun l hl2 => ⟨Nat.lt_trans hl2.1 hlt, hl2.2⟩) ⟨hlt, hbit⟩)
          rw [fa, fb]
          show ¬ (gL S3 63 0 b).toInt - (gL S3 63 0 a).toInt = (ri u).toInt
          intro y
          apply zx
          apply Int64.toInt_inj.mp
          rw [e3, s2]
          show _ = (0 : Int)
          omega
      · have hbit : w.testBit u = true := (bit_1 hw (by omega)).mp zb
        rw [ex]
        refine ⟨⟨hK3, u + 1, by omega, nI_1 u, MinL_congr hM (fun l => ?_), LBN_up hB⟩, mu⟩
        unfold Rt
        constructor
        · rintro ⟨p1, p2⟩
          refine ⟨?_, p2⟩
          apply Nat.lt_of_le_of_ne (by omega)
          intro y
          rw [y, hbit] at p2
          cases p2
        · rintro ⟨p1, p2⟩
          exact ⟨by omega, p2⟩
  · have hlt : t < n := by
      have := mt (le_nI (a := n) (b := t) (by omega) (by omega)).mpr q
      omega
    have ct : (nI t).toNatClampNeg = t := nI_clamp (by omega)
    have it : vp_in (nI t) 10 := in_nI (by omega) (by omega)
    refine ⟨it, fun S39 e39 => ⟨it, fun S41 e41 x ex => ?_⟩⟩
    rw [ct] at e39 e41
    rw [ex]
    subst e41
    subst e39
    refine ⟨⟨LR63 (LR62 hK1 _ _) _ _, t + 1, by omega, nI_1 t, fun k hk => ?_⟩, mu_lt (show t < 10 by omega) (by omega)⟩
    have z4 : gA (uL (uA S1 62 0 t (nI t)) 63 0 t 0) 62 0 k = gA (uA S1 62 0 t (nI t)) 62 0 k := rfl
    rw [z4]
    by_cases e : k = t
    · subst e
      rw [gA_at, gL_at]
      exact ⟨rfl, rfl⟩
    · rw [gA_off (by omega), gL_off e]
      exact hv k (by omega)
theorem rf_findWrong (hn : n ≤ 10) (hm : m ≤ 14) (hl : lvN n m fr to_ ri) {S : Sg} (h : lvR n m fr to_ ri o S) {Q : Int32 → Sg → Prop} (hq : ∀ S' w, lvR n m fr to_ ri o S' → FirstW (2 ^ m) m fr to_ ri w → Q (nI w) S') : wp_X10_findWrong S Q := by
  have hp : 2 ^ m ≤ 16384 := Nat.pow_le_pow_right (n := 2) (by omega) hm
  have hp1 : 0 < 2 ^ m := Nat.pow_pos (by omega)
  refine ⟨fun v1 v2 v3 S1 => lvR n m fr to_ ri o S1 ∧ ∃ X, X ≤ 2 ^ m ∧ v3 = nI X ∧ lvV m fr to_ ri X v2 (fun w => v1 = nI w), fun _ _ v3 _ => 16384 - v3.toNatClampNeg, ⟨h, 0, by omega, rfl, Or.inl ⟨rfl, fun w hw => absurd hw (Nat.not_lt_zero w)⟩⟩, ?_⟩
  rintro v1 v2 v3 S1 ⟨hK1, X, hX, rfl, hV⟩
  rw [hK1.2.2.1, nI_shl1 m (by omega)]
  refine ⟨fun q => ?_, fun q => ?_⟩
  · have q := (le_nI (by omega) (by omega)).mp q
    have e : X = 2 ^ m := by omega
    subst e
    rcases hV with ⟨-, hno⟩ | ⟨w, hF, -, hw⟩
    · exact absurd (CONS_all m fr to_ ri) (hno _ (by omega))
    · have hw : v1 = nI w := hw
      rw [hw]
      exact hq S1 w hK1 hF
  · have hlt : X < 2 ^ m := by
      have := mt (le_nI (a := 2 ^ m) (b := X) (by omega) (by omega)).mpr q
      omega
    have mu : 16384 - (nI X + 1).toNatClampNeg < 16384 - (nI X).toNatClampNeg := mu_lt (by omega) (by omega)
    refine rf_ones (by omega) ⟨fun z x ex => ?_, fun z => ?_⟩
    · rw [ex]
      refine ⟨⟨hK1, X + 1, by omega, nI_1 X, BV_prune hV (by omega) (onb_le X 14) (i32_nlt.mpr z) (fun w h1 h2 => ?_)⟩, mu⟩
      have : w = X := by omega
      subst this
      exact Nat.le_refl _
    · have hlt2 : nI (onb X 14) < v2 := i32_nle.mp z
      refine rf_agree hn hm (by omega) hl hK1 (fun S' hK' hM _ => ⟨fun _ => rf_ones (by omega) (fun x ex => ?_), fun y => absurd y i10⟩) (fun S' hK' hC => ⟨fun y => absurd rfl y, fun _ x ex => ?_⟩)
      · rw [ex]
        exact ⟨⟨hK', X + 1, by omega, nI_1 X, Or.inr ⟨X, BV_new hV ⟨_, _, hM.1⟩ hlt2, rfl, rfl⟩⟩, mu⟩
      · rw [ex]
        refine ⟨⟨hK', X + 1, by omega, nI_1 X, BV_more hV (by omega) (fun w h1 h2 hc => ?_)⟩, mu⟩
        have : w = X := by omega
        subst this
        exact absurd hc hC
end
