def wp_X9_greatestDivisor (a0 : Int64) (a2 : Int64) (S : Sg) (Q : Int64 → Sg → Prop) : Prop :=
  (∃ (I_1 : Int64 → Int64 → Int32 → Sg → Prop) (μ_1 : Int64 → Int64 → Int32 → Sg → Nat), I_1 a0 a2 0 S ∧ ∀ (v4_1 : Int64) (v6_1 : Int64) (v8_1 : Int32) (S_1 : Sg), I_1 v4_1 v6_1 v8_1 S_1 → ((1000 ≤ v8_1 → Q v4_1 S_1) ∧ (¬ 1000 ≤ v8_1 → ((v6_1 = 0 → Q v4_1 S_1) ∧ (¬ v6_1 = 0 → ((¬ v6_1 = 0) ∧ (∀ x9_5 : Int64, x9_5 = (v4_1 - v4_1 / v6_1 * v6_1) → (∀ x8_6 : Int32, x8_6 = v8_1 + 1 → (I_1 v6_1 x9_5 x8_6 S_1 ∧ μ_1 v6_1 x9_5 x8_6 S_1 < μ_1 v4_1 v6_1 v8_1 S_1)))))))))
set_option maxHeartbeats 4000000 in
set_option maxRecDepth 100000 in
theorem ct_X9_greatestDivisor (l : Launch) (D : va_G) (cA : Nat → ClassId) (ad : Nat → Nat → Nat) (a0 : Int64) (a2 : Int64) (S : Sg) (Q : Int64 → Sg → Prop) (hw : wp_X9_greatestDivisor a0 a2 S Q) : CtL l yX9_greatestDivisor wsX9_greatestDivisor (mkR 0 0) D cA ad [.long a0, .long a2] S Q := by
  refine ct_ofL (cc := cX9_greatestDivisor) (nL := 11) (by decide) rfl (Nat.le_of_ble_eq_true rfl) ?_
  intro p e s m args below meth c A Q C hret
  unfold wp_X9_greatestDivisor at hw
  have C : Cx p s m args c cX9_greatestDivisor 11 wsX9_greatestDivisor RX9 D cA A := C
  change KK p l e (mkR 0 0) s m args below meth c 11 D cA ad A Q 0 [(0, .long a0), (2, .long a2)] [] S
  refine k_lload_n (pc := 0) C dX9_greatestDivisor_0 0 rfl rfl ?_
  refine k_lstore (pc := 1) C dX9_greatestDivisor_1 (by decide) [(4, .long a0), (0, .long a0), (2, .long a2)] rfl ?_
  refine k_lload_n (pc := 3) C dX9_greatestDivisor_3 2 rfl rfl ?_
  refine k_lstore (pc := 4) C dX9_greatestDivisor_4 (by decide) [(6, .long a2), (4, .long a0), (0, .long a0), (2, .long a2)] rfl ?_
  refine k_iconst (v := 0) (pc := 6) C dX9_greatestDivisor_6 (by decide) ?_
  refine k_istore (pc := 7) C dX9_greatestDivisor_7 (by decide) [(8, .int 0), (6, .long a2), (4, .long a0), (0, .long a0), (2, .long a2)] rfl ?_
  refine k_sub [2, 1, 0] [(4, .long a0), (6, .long a2), (8, .int 0)] rfl ?_
  obtain ⟨I_1, μ_1, hi_1, hw⟩ := hw
  have L_1 : ∀ (n : Nat) (v4_1 : Int64) (v6_1 : Int64) (v8_1 : Int32) (S_1 : Sg), μ_1 v4_1 v6_1 v8_1 S_1 < n → I_1 v4_1 v6_1 v8_1 S_1 → KK p l e (mkR 0 0) s m args below meth c 11 D cA ad A Q 9 [(4, .long v4_1), (6, .long v6_1), (8, .int v8_1)] [] S_1 := by
    intro n
    induction n with
    | zero => intro v4_1 v6_1 v8_1 S_1 h; exact absurd h (Nat.not_lt_zero _)
    | succ n ih_1 =>
      intro v4_1 v6_1 v8_1 S_1 hn_1 hi_1
      have hw := hw v4_1 v6_1 v8_1 S_1 hi_1
      refine k_iload (pc := 9) C dX9_greatestDivisor_9 2 rfl ?_
      refine k_sipush (v := 1000) (pc := 11) C dX9_greatestDivisor_11 (by decide) ?_
      refine k_icmp_ge (pc := 14) C 45 dX9_greatestDivisor_14 (by decide) (fun q_2 => ?_) (fun q_2 => ?_)
      · have hw := hw.1 q_2
        refine k_lload (pc := 45) C dX9_greatestDivisor_45 0 rfl ?_
        exact hret _ _ _ _ dX9_greatestDivisor_47 hw
      · have hw := hw.2 q_2
        refine k_lload (pc := 17) C dX9_greatestDivisor_17 1 rfl ?_
        refine k_lconst (v := 0) (pc := 19) C dX9_greatestDivisor_19 (by decide) ?_
        refine k_lif_eq (pc := 20) C 45 dX9_greatestDivisor_20 dX9_greatestDivisor_21 (by decide) (fun q_3 => ?_) (fun q_3 => ?_)
        · have hw := hw.1 q_3
          refine k_lload (pc := 45) C dX9_greatestDivisor_45 0 rfl ?_
          exact hret _ _ _ _ dX9_greatestDivisor_47 hw
        · have hw := hw.2 q_3
          refine k_lload (pc := 24) C dX9_greatestDivisor_24 0 rfl ?_
          refine k_lload (pc := 26) C dX9_greatestDivisor_26 1 rfl ?_
          obtain ⟨h_4, hw⟩ := hw
          refine k_lrem (pc := 28) C dX9_greatestDivisor_28 h_4 ?_
          refine k_topl (fun x9_5 ex9_5 => ?_)
          have hw := hw x9_5 ex9_5
          refine k_lstore (pc := 29) C dX9_greatestDivisor_29 (by decide) [(9, .long x9_5), (4, .long v4_1), (6, .long v6_1), (8, .int v8_1)] rfl ?_
          refine k_lload (pc := 31) C dX9_greatestDivisor_31 2 rfl ?_
          refine k_lstore (pc := 33) C dX9_greatestDivisor_33 (by decide) [(4, .long v6_1), (9, .long x9_5), (6, .long v6_1), (8, .int v8_1)] rfl ?_
          refine k_lload (pc := 35) C dX9_greatestDivisor_35 1 rfl ?_
          refine k_lstore (pc := 37) C dX9_greatestDivisor_37 (by decide) [(6, .long x9_5), (4, .long v6_1), (9, .long x9_5), (8, .int v8_1)] rfl ?_
          obtain ⟨x8_6, ex8_6⟩ : ∃ y : Int32, y = v8_1 + 1 := ⟨_, rfl⟩
          have hw := hw x8_6 ex8_6
          refine k_iinc (v := x8_6) (j := 3) (pc := 39) C dX9_greatestDivisor_39 rfl (by rw [ex8_6]; rfl) (by decide) [(8, .int x8_6), (6, .long x9_5), (4, .long v6_1), (9, .long x9_5)] rfl ?_
          refine k_goto (pc := 42) C 9 dX9_greatestDivisor_42 (by decide) ?_
          refine k_sub [2, 1, 0] [(4, .long v6_1), (6, .long x9_5), (8, .int x8_6)] rfl ?_
          exact ih_1 v6_1 x9_5 x8_6 S_1 (Nat.lt_of_lt_of_le hw.2 (Nat.le_of_lt_succ hn_1)) hw.1
  exact L_1 (μ_1 a0 a2 0 S + 1) a0 a2 0 S (Nat.lt_succ_self _) hi_1
def wp_X9_lowestTerms (a0 : Int64) (a2 : Int64) (a4 : Int32) (S : Sg) (Q : Int64 → Sg → Prop) : Prop :=
  wp_X9_greatestDivisor (if 0 < a0 then a0 else -a0) (if 0 < a2 then a2 else -a2) S (fun r_1 S_1 => ((¬ r_1 = 0 → (∃ J_3 : Int64 → Sg → Prop, (∀ (v5_3 : Int64) (S_3 : Sg), J_3 v5_3 S_3 → ((a4 = 0 → ((¬ v5_3 = 0) ∧ Q (a0 / v5_3) S_3)) ∧ (¬ a4 = 0 → ((¬ v5_3 = 0) ∧ Q (a2 / v5_3) S_3)))) ∧ ((0 ≤ a2 → J_3 r_1 S_1) ∧ (¬ 0 ≤ a2 → (∀ x5_8 : Int64, x5_8 = (-r_1) → J_3 x5_8 S_1))))) ∧ (r_1 = 0 → Q 0 S_1)))
set_option maxHeartbeats 4000000 in
set_option maxRecDepth 100000 in
theorem ct_X9_lowestTerms (l : Launch) (D : va_G) (cA : Nat → ClassId) (ad : Nat → Nat → Nat) (a0 : Int64) (a2 : Int64) (a4 : Int32) (S : Sg) (Q : Int64 → Sg → Prop) (hw : wp_X9_lowestTerms a0 a2 a4 S Q) : CtL l yX9_lowestTerms wsX9_lowestTerms (mkR 1 30) D cA ad [.long a0, .long a2, .int a4] S Q := by
  refine ct_ofL (cc := cX9_lowestTerms) (nL := 7) (by decide) rfl (Nat.le_of_ble_eq_true rfl) ?_
  intro p e s m args below meth c A Q C hret
  unfold wp_X9_lowestTerms at hw
  have C : Cx p s m args c cX9_lowestTerms 7 wsX9_lowestTerms RX9 D cA A := C
  have m322 : Cond.methodLink RX9 322 Lib.MathLoose.abs_long.x ∈ wsX9_lowestTerms := by decide +kernel
  have m322s : Cond.static Lib.MathLoose.abs_long.x ∈ wsX9_lowestTerms := by decide +kernel
  have mini : Cond.initialized "java/lang/Math" ∈ wsX9_lowestTerms := by decide +kernel
  have m322c : Cond.code Lib.MathLoose.abs_long.x Lib.MathLoose.abs_long.code 2 (some .long) ∈ wsX9_lowestTerms := by decide +kernel
  change KK p l e (mkR 1 30) s m args below meth c 7 D cA ad A Q 0 [(0, .long a0), (2, .long a2), (4, .int a4)] [] S
  refine k_lload_n (pc := 0) C dX9_lowestTerms_0 0 rfl rfl ?_
  refine k_labs (pc := 1) C m322 m322s mini m322c ⟨Nat.le_of_ble_eq_true rfl, Nat.le_of_ble_eq_true rfl⟩ dX9_lowestTerms_1 ?_
  refine k_lload_n (pc := 4) C dX9_lowestTerms_4 1 rfl rfl ?_
  refine k_labs (pc := 5) C m322 m322s mini m322c ⟨Nat.le_of_ble_eq_true rfl, Nat.le_of_ble_eq_true rfl⟩ dX9_lowestTerms_5 ?_
  refine k_afterL (pc := 8) C (wp_X9_greatestDivisor (if 0 < a0 then a0 else -a0) (if 0 < a2 then a2 else -a2) S) hw (fun post hw => by
      exact rn_S C (ct_X9_greatestDivisor l D cA ad (if 0 < a0 then a0 else -a0) (if 0 < a2 then a2 else -a2) S post hw) (va_cwS 2 C.2.2.2.2.1 gX9_lowestTerms_X9_greatestDivisor rfl rfl rfl (by decide +kernel) ⟨Nat.le_of_ble_eq_true rfl, Nat.le_of_ble_eq_true rfl⟩) rfl rfl (Nat.le_of_ble_eq_true rfl) dX9_lowestTerms_8) (fun r_1 S_1 hw => ?_)
  refine k_lstore (pc := 11) C dX9_lowestTerms_11 (by decide) [(5, .long r_1), (0, .long a0), (2, .long a2), (4, .int a4)] rfl ?_
  refine k_lload (pc := 13) C dX9_lowestTerms_13 0 rfl ?_
  refine k_lconst (v := 0) (pc := 15) C dX9_lowestTerms_15 (by decide) ?_
  refine k_lif_ne (pc := 16) C 22 dX9_lowestTerms_16 dX9_lowestTerms_17 (by decide) (fun q_2 => ?_) (fun q_2 => ?_)
  · have hw := hw.1 q_2
    refine k_lload_n (pc := 22) C dX9_lowestTerms_22 2 rfl rfl ?_
    refine k_lconst (v := 0) (pc := 23) C dX9_lowestTerms_23 (by decide) ?_
    obtain ⟨J_3, hj_3, hw⟩ := hw
    have j_3 : ∀ (v5_3 : Int64) (S_3 : Sg), J_3 v5_3 S_3 → KK p l e (mkR 1 30) s m args below meth c 7 D cA ad A Q 33 [(0, .long a0), (2, .long a2), (4, .int a4), (5, .long v5_3)] [] S_3 := by
      intro v5_3 S_3 hw
      have hw := hj_3 v5_3 S_3 hw
      refine k_iload (pc := 33) C dX9_lowestTerms_33 2 rfl ?_
      refine k_if_eq (pc := 35) C 45 dX9_lowestTerms_35 (by decide) (fun q_4 => ?_) (fun q_4 => ?_)
      · have hw := hw.1 q_4
        refine k_lload_n (pc := 45) C dX9_lowestTerms_45 0 rfl rfl ?_
        refine k_lload (pc := 46) C dX9_lowestTerms_46 3 rfl ?_
        obtain ⟨h_5, hw⟩ := hw
        refine k_ldiv (pc := 48) C dX9_lowestTerms_48 h_5 ?_
        exact hret _ _ _ _ dX9_lowestTerms_49 hw
      · have hw := hw.2 q_4
        refine k_lload_n (pc := 38) C dX9_lowestTerms_38 1 rfl rfl ?_
        refine k_lload (pc := 39) C dX9_lowestTerms_39 3 rfl ?_
        obtain ⟨h_6, hw⟩ := hw
        refine k_ldiv (pc := 41) C dX9_lowestTerms_41 h_6 ?_
        refine k_goto (pc := 42) C 49 dX9_lowestTerms_42 (by decide) ?_
        exact hret _ _ _ _ dX9_lowestTerms_49 hw
    refine k_lif_ge (pc := 24) C 33 dX9_lowestTerms_24 dX9_lowestTerms_25 (by decide) (fun q_7 => ?_) (fun q_7 => ?_)
    · have hw := hw.1 q_7
      refine k_sub [1, 2, 3, 0] [(0, .long a0), (2, .long a2), (4, .int a4), (5, .long r_1)] rfl ?_
      exact j_3 r_1 S_1 hw
    · have hw := hw.2 q_7
      refine k_lload (pc := 28) C dX9_lowestTerms_28 0 rfl ?_
      refine k_lneg (pc := 30) C dX9_lowestTerms_30 ?_
      refine k_topl (fun x5_8 ex5_8 => ?_)
      have hw := hw x5_8 ex5_8
      refine k_lstore (pc := 31) C dX9_lowestTerms_31 (by decide) [(5, .long x5_8), (0, .long a0), (2, .long a2), (4, .int a4)] rfl ?_
      refine k_sub [1, 2, 3, 0] [(0, .long a0), (2, .long a2), (4, .int a4), (5, .long x5_8)] rfl ?_
      exact j_3 x5_8 S_1 hw
  · have hw := hw.2 q_2
    refine k_lconst (v := 0) (pc := 20) C dX9_lowestTerms_20 (by decide) ?_
    exact hret _ _ _ _ dX9_lowestTerms_21 hw
def wp_X9_allReadings (S : Sg) (Q : Int32 → Sg → Prop) : Prop :=
  (∃ (I_1 : Int32 → Int32 → Sg → Prop) (μ_1 : Int32 → Int32 → Sg → Nat), I_1 0 0 S ∧ ∀ (v1_1 : Int32) (v2_1 : Int32) (S_1 : Sg), I_1 v1_1 v2_1 S_1 → (((gI S_1 0 0 6) ≤ v2_1 → Q v1_1 S_1) ∧ (¬ (gI S_1 0 0 6) ≤ v2_1 → wp_X9_markAt v2_1 S_1 (fun o_3 S_3 => (o_3 = none → (∀ x2_4 : Int32, x2_4 = v2_1 + 1 → (I_1 v1_1 x2_4 S_3 ∧ μ_1 v1_1 x2_4 S_3 < μ_1 v1_1 v2_1 S_1))) ∧ (∀ j_3 : Nat, o_3 = some j_3 → (j_3 < nM S_3 ∧ wp_X3_readingCount j_3 S_3 (fun r_5 S_5 => (∀ x1_7 : Int32, x1_7 = (v1_1 + r_5) → (∀ x2_8 : Int32, x2_8 = v2_1 + 1 → (I_1 x1_7 x2_8 S_5 ∧ μ_1 x1_7 x2_8 S_5 < μ_1 v1_1 v2_1 S_1))))))))))
set_option maxHeartbeats 4000000 in
set_option maxRecDepth 100000 in
theorem ct_X9_allReadings (l : Launch) (D : va_G) (cA : Nat → ClassId) (ad : Nat → Nat → Nat) (S : Sg) (Q : Int32 → Sg → Prop) (hw : wp_X9_allReadings  S Q) : CtI l yX9_allReadings wsX9_allReadings (mkR 1 21) D cA ad [.ref (ad 0 0)] S Q := by
  refine ct_ofI (cc := cX9_allReadings) (nL := 4) (by decide) rfl (Nat.le_of_ble_eq_true rfl) ?_
  intro p e s m args below meth c A Q C hret
  unfold wp_X9_allReadings at hw
  have C : Cx p s m args c cX9_allReadings 4 wsX9_allReadings RX9 D cA A := C
  have hin9 : ∀ w ∈ u_ws RX9 TX9 8, w ∈ wsX9_allReadings := fun w h => List.mem_cons_of_mem _ (List.mem_append_left _ (List.mem_append_left _ (List.mem_append_left _ (List.mem_append_left _ (List.mem_append_right _ h)))))
  have f54 : Cond.fieldLink RX9 54 "CreepBoard" "markCount" "I" ∈ wsX9_allReadings := by decide +kernel
  change KK p l e (mkR 1 21) s m args below meth c 4 D cA ad A Q 0 [(0, .ref (ad 0 0))] [] S
  refine k_iconst (v := 0) (pc := 0) C dX9_allReadings_0 (by decide) ?_
  refine k_istore_n (pc := 1) C dX9_allReadings_1 rfl (by decide) [(1, .int 0), (0, .ref (ad 0 0))] rfl ?_
  refine k_iconst (v := 0) (pc := 2) C dX9_allReadings_2 (by decide) ?_
  refine k_istore_n (pc := 3) C dX9_allReadings_3 rfl (by decide) [(2, .int 0), (1, .int 0), (0, .ref (ad 0 0))] rfl ?_
  refine k_sub [2, 1, 0] [(0, .ref (ad 0 0)), (1, .int 0), (2, .int 0)] rfl ?_
  obtain ⟨I_1, μ_1, hi_1, hw⟩ := hw
  have L_1 : ∀ (n : Nat) (v1_1 : Int32) (v2_1 : Int32) (S_1 : Sg), μ_1 v1_1 v2_1 S_1 < n → I_1 v1_1 v2_1 S_1 → KK p l e (mkR 1 21) s m args below meth c 4 D cA ad A Q 4 [(0, .ref (ad 0 0)), (1, .int v1_1), (2, .int v2_1)] [] S_1 := by
    intro n
    induction n with
    | zero => intro v1_1 v2_1 S_1 h; exact absurd h (Nat.not_lt_zero _)
    | succ n ih_1 =>
      intro v1_1 v2_1 S_1 hn_1 hi_1
      have hw := hw v1_1 v2_1 S_1 hi_1
      refine k_iload_n (pc := 4) C dX9_allReadings_4 2 rfl rfl ?_
      refine k_aload_n (pc := 5) C dX9_allReadings_5 0 rfl rfl ?_
      refine k_get (j := 6) (pc := 6) C hin9 hm_0 (cel_0 cA ad S_1 0) rfl (by decide) f54 (fun _ h => h) rfl dX9_allReadings_6 ?_
      refine k_icmp_ge (pc := 9) C 35 dX9_allReadings_9 (by decide) (fun q_2 => ?_) (fun q_2 => ?_)
      · have hw := hw.1 q_2
        refine k_iload_n (pc := 35) C dX9_allReadings_35 1 rfl rfl ?_
        exact hret _ _ _ _ dX9_allReadings_36 hw
      · have hw := hw.2 q_2
        refine k_aload_n (pc := 12) C dX9_allReadings_12 0 rfl rfl ?_
        refine k_iload_n (pc := 13) C dX9_allReadings_13 2 rfl rfl ?_
        refine k_afterQ (pc := 14) C 26 (wp_X9_markAt v2_1 S_1) hw (fun post hw => by
            exact rn_V C (ct_X9_markAt l D cA ad v2_1 S_1 post hw) (cwV 1 C.2.2.2.2.1 gX9_allReadings_X9_markAt rfl rfl rfl (by decide +kernel) ⟨Nat.le_of_ble_eq_true rfl, Nat.le_of_ble_eq_true rfl⟩) hm_0 (cel_0 cA ad S_1 0) rfl rfl rfl rfl (Nat.le_of_ble_eq_true rfl) dX9_allReadings_14) (fun S_3 hw => ?_) (fun j_3 S_3 hw => ?_)
        · have hw := hw.1 rfl
          refine k_astore_nN (pc := 17) C dX9_allReadings_17 rfl (by decide) [(3, .null), (0, .ref (ad 0 0)), (1, .int v1_1), (2, .int v2_1)] rfl ?_
          refine k_aload_nN (pc := 18) C dX9_allReadings_18 0 rfl rfl ?_
          refine k_ifnullN (pc := 19) C 29 dX9_allReadings_19 (by decide) ?_
          obtain ⟨x2_4, ex2_4⟩ : ∃ y : Int32, y = v2_1 + 1 := ⟨_, rfl⟩
          have hw := hw x2_4 ex2_4
          refine k_iinc (v := x2_4) (j := 3) (pc := 29) C dX9_allReadings_29 rfl (by rw [ex2_4]; rfl) (by decide) [(2, .int x2_4), (3, .null), (0, .ref (ad 0 0)), (1, .int v1_1)] rfl ?_
          refine k_goto (pc := 32) C 4 dX9_allReadings_32 (by decide) ?_
          refine k_sub [2, 3, 0] [(0, .ref (ad 0 0)), (1, .int v1_1), (2, .int x2_4)] rfl ?_
          exact ih_1 v1_1 x2_4 S_3 (Nat.lt_of_lt_of_le hw.2 (Nat.le_of_lt_succ hn_1)) hw.1
        · have hw := hw.2 j_3 rfl
          refine k_astore_n (pc := 17) C dX9_allReadings_17 rfl (by decide) [(3, .ref (ad 26 j_3)), (0, .ref (ad 0 0)), (1, .int v1_1), (2, .int v2_1)] rfl ?_
          refine k_aload_n (pc := 18) C dX9_allReadings_18 0 rfl rfl ?_
          refine k_ifnull (pc := 19) C dX9_allReadings_19 ?_
          refine k_iload_n (pc := 22) C dX9_allReadings_22 2 rfl rfl ?_
          refine k_aload_n (pc := 23) C dX9_allReadings_23 0 rfl rfl ?_
          obtain ⟨h_6, hw⟩ := hw
          refine k_afterI (pc := 24) C (wp_X3_readingCount j_3 S_3) hw (fun post hw => by
              rcases kd4 S_3 j_3 with h | h | h | h
              · exact rn_V C (ct_X3_readingCount l D cA ad j_3 S_3 post hw) (cwV 0 C.2.2.2.2.1 gX9_allReadings_X3_readingCount rfl rfl rfl (by decide +kernel) ⟨Nat.le_of_ble_eq_true rfl, Nat.le_of_ble_eq_true rfl⟩) (mm_26 h_6) (celM_0 h) rfl rfl rfl rfl (Nat.le_of_ble_eq_true rfl) dX9_allReadings_24
              · exact rn_U C (ct_X3_readingCount l D cA ad j_3 S_3 post hw) (va_cwU 0 C.2.2.2.2.1 gX9_allReadings_X3_readingCount_u332X4 rfl rfl rfl rfl (by decide +kernel) ⟨Nat.le_of_ble_eq_true rfl, Nat.le_of_ble_eq_true rfl⟩) (mm_26 h_6) (celM_1 h) rfl rfl rfl rfl (Nat.le_of_ble_eq_true rfl) dX9_allReadings_24
              · exact rn_U C (ct_X3_readingCount l D cA ad j_3 S_3 post hw) (va_cwU 0 C.2.2.2.2.1 gX9_allReadings_X3_readingCount_u332X8 rfl rfl rfl rfl (by decide +kernel) ⟨Nat.le_of_ble_eq_true rfl, Nat.le_of_ble_eq_true rfl⟩) (mm_26 h_6) (celM_2 h) rfl rfl rfl rfl (Nat.le_of_ble_eq_true rfl) dX9_allReadings_24
              · exact rn_U C (ct_X3_readingCount l D cA ad j_3 S_3 post hw) (va_cwU 0 C.2.2.2.2.1 gX9_allReadings_X3_readingCount_u332X1 rfl rfl rfl rfl (by decide +kernel) ⟨Nat.le_of_ble_eq_true rfl, Nat.le_of_ble_eq_true rfl⟩) (mm_26 h_6) (celM_3 h) rfl rfl rfl rfl (Nat.le_of_ble_eq_true rfl) dX9_allReadings_24) (fun r_5 S_5 hw => ?_)
          refine k_iadd (pc := 27) C dX9_allReadings_27 ?_
          refine k_topi (fun x1_7 ex1_7 => ?_)
          have hw := hw x1_7 ex1_7
          refine k_istore_n (pc := 28) C dX9_allReadings_28 rfl (by decide) [(1, .int x1_7), (3, .ref (ad 26 j_3)), (0, .ref (ad 0 0)), (2, .int v2_1)] rfl ?_
          obtain ⟨x2_8, ex2_8⟩ : ∃ y : Int32, y = v2_1 + 1 := ⟨_, rfl⟩
          have hw := hw x2_8 ex2_8
          refine k_iinc (v := x2_8) (j := 3) (pc := 29) C dX9_allReadings_29 rfl (by rw [ex2_8]; rfl) (by decide) [(2, .int x2_8), (1, .int x1_7), (3, .ref (ad 26 j_3)), (0, .ref (ad 0 0))] rfl ?_
          refine k_goto (pc := 32) C 4 dX9_allReadings_32 (by decide) ?_
          refine k_sub [3, 1, 0] [(0, .ref (ad 0 0)), (1, .int x1_7), (2, .int x2_8)] rfl ?_
          exact ih_1 x1_7 x2_8 S_5 (Nat.lt_of_lt_of_le hw.2 (Nat.le_of_lt_succ hn_1)) hw.1
  exact L_1 (μ_1 0 0 S + 1) 0 0 S (Nat.lt_succ_self _) hi_1
def wp_X9_allSteps (S : Sg) (Q : Int32 → Sg → Prop) : Prop :=
  (∃ (I_1 : Int32 → Int32 → Sg → Prop) (μ_1 : Int32 → Int32 → Sg → Nat), I_1 0 0 S ∧ ∀ (v1_1 : Int32) (v2_1 : Int32) (S_1 : Sg), I_1 v1_1 v2_1 S_1 → (((gI S_1 0 0 6) ≤ v2_1 → Q v1_1 S_1) ∧ (¬ (gI S_1 0 0 6) ≤ v2_1 → wp_X9_markAt v2_1 S_1 (fun o_3 S_3 => (o_3 = none → (∀ x2_4 : Int32, x2_4 = v2_1 + 1 → (I_1 v1_1 x2_4 S_3 ∧ μ_1 v1_1 x2_4 S_3 < μ_1 v1_1 v2_1 S_1))) ∧ (∀ j_3 : Nat, o_3 = some j_3 → (j_3 < nM S_3 ∧ wp_X3_stepCount j_3 S_3 (fun r_5 S_5 => (∀ x1_7 : Int32, x1_7 = (v1_1 + r_5) → (∀ x2_8 : Int32, x2_8 = v2_1 + 1 → (I_1 x1_7 x2_8 S_5 ∧ μ_1 x1_7 x2_8 S_5 < μ_1 v1_1 v2_1 S_1))))))))))
set_option maxHeartbeats 4000000 in
set_option maxRecDepth 100000 in
theorem ct_X9_allSteps (l : Launch) (D : va_G) (cA : Nat → ClassId) (ad : Nat → Nat → Nat) (S : Sg) (Q : Int32 → Sg → Prop) (hw : wp_X9_allSteps  S Q) : CtI l yX9_allSteps wsX9_allSteps (mkR 1 21) D cA ad [.ref (ad 0 0)] S Q := by
  refine ct_ofI (cc := cX9_allSteps) (nL := 4) (by decide) rfl (Nat.le_of_ble_eq_true rfl) ?_
  intro p e s m args below meth c A Q C hret
  unfold wp_X9_allSteps at hw
  have C : Cx p s m args c cX9_allSteps 4 wsX9_allSteps RX9 D cA A := C
  have hin9 : ∀ w ∈ u_ws RX9 TX9 8, w ∈ wsX9_allSteps := fun w h => List.mem_cons_of_mem _ (List.mem_append_left _ (List.mem_append_left _ (List.mem_append_left _ (List.mem_append_left _ (List.mem_append_right _ h)))))
  have f54 : Cond.fieldLink RX9 54 "CreepBoard" "markCount" "I" ∈ wsX9_allSteps := by decide +kernel
  change KK p l e (mkR 1 21) s m args below meth c 4 D cA ad A Q 0 [(0, .ref (ad 0 0))] [] S
  refine k_iconst (v := 0) (pc := 0) C dX9_allSteps_0 (by decide) ?_
  refine k_istore_n (pc := 1) C dX9_allSteps_1 rfl (by decide) [(1, .int 0), (0, .ref (ad 0 0))] rfl ?_
  refine k_iconst (v := 0) (pc := 2) C dX9_allSteps_2 (by decide) ?_
  refine k_istore_n (pc := 3) C dX9_allSteps_3 rfl (by decide) [(2, .int 0), (1, .int 0), (0, .ref (ad 0 0))] rfl ?_
  refine k_sub [2, 1, 0] [(0, .ref (ad 0 0)), (1, .int 0), (2, .int 0)] rfl ?_
  obtain ⟨I_1, μ_1, hi_1, hw⟩ := hw
  have L_1 : ∀ (n : Nat) (v1_1 : Int32) (v2_1 : Int32) (S_1 : Sg), μ_1 v1_1 v2_1 S_1 < n → I_1 v1_1 v2_1 S_1 → KK p l e (mkR 1 21) s m args below meth c 4 D cA ad A Q 4 [(0, .ref (ad 0 0)), (1, .int v1_1), (2, .int v2_1)] [] S_1 := by
    intro n
    induction n with
    | zero => intro v1_1 v2_1 S_1 h; exact absurd h (Nat.not_lt_zero _)
    | succ n ih_1 =>
      intro v1_1 v2_1 S_1 hn_1 hi_1
      have hw := hw v1_1 v2_1 S_1 hi_1
      refine k_iload_n (pc := 4) C dX9_allSteps_4 2 rfl rfl ?_
      refine k_aload_n (pc := 5) C dX9_allSteps_5 0 rfl rfl ?_
      refine k_get (j := 6) (pc := 6) C hin9 hm_0 (cel_0 cA ad S_1 0) rfl (by decide) f54 (fun _ h => h) rfl dX9_allSteps_6 ?_
      refine k_icmp_ge (pc := 9) C 35 dX9_allSteps_9 (by decide) (fun q_2 => ?_) (fun q_2 => ?_)
      · have hw := hw.1 q_2
        refine k_iload_n (pc := 35) C dX9_allSteps_35 1 rfl rfl ?_
        exact hret _ _ _ _ dX9_allSteps_36 hw
      · have hw := hw.2 q_2
        refine k_aload_n (pc := 12) C dX9_allSteps_12 0 rfl rfl ?_
        refine k_iload_n (pc := 13) C dX9_allSteps_13 2 rfl rfl ?_
        refine k_afterQ (pc := 14) C 26 (wp_X9_markAt v2_1 S_1) hw (fun post hw => by
            exact rn_V C (ct_X9_markAt l D cA ad v2_1 S_1 post hw) (cwV 1 C.2.2.2.2.1 gX9_allSteps_X9_markAt rfl rfl rfl (by decide +kernel) ⟨Nat.le_of_ble_eq_true rfl, Nat.le_of_ble_eq_true rfl⟩) hm_0 (cel_0 cA ad S_1 0) rfl rfl rfl rfl (Nat.le_of_ble_eq_true rfl) dX9_allSteps_14) (fun S_3 hw => ?_) (fun j_3 S_3 hw => ?_)
        · have hw := hw.1 rfl
          refine k_astore_nN (pc := 17) C dX9_allSteps_17 rfl (by decide) [(3, .null), (0, .ref (ad 0 0)), (1, .int v1_1), (2, .int v2_1)] rfl ?_
          refine k_aload_nN (pc := 18) C dX9_allSteps_18 0 rfl rfl ?_
          refine k_ifnullN (pc := 19) C 29 dX9_allSteps_19 (by decide) ?_
          obtain ⟨x2_4, ex2_4⟩ : ∃ y : Int32, y = v2_1 + 1 := ⟨_, rfl⟩
          have hw := hw x2_4 ex2_4
          refine k_iinc (v := x2_4) (j := 3) (pc := 29) C dX9_allSteps_29 rfl (by rw [ex2_4]; rfl) (by decide) [(2, .int x2_4), (3, .null), (0, .ref (ad 0 0)), (1, .int v1_1)] rfl ?_
          refine k_goto (pc := 32) C 4 dX9_allSteps_32 (by decide) ?_
          refine k_sub [2, 3, 0] [(0, .ref (ad 0 0)), (1, .int v1_1), (2, .int x2_4)] rfl ?_
          exact ih_1 v1_1 x2_4 S_3 (Nat.lt_of_lt_of_le hw.2 (Nat.le_of_lt_succ hn_1)) hw.1
        · have hw := hw.2 j_3 rfl
          refine k_astore_n (pc := 17) C dX9_allSteps_17 rfl (by decide) [(3, .ref (ad 26 j_3)), (0, .ref (ad 0 0)), (1, .int v1_1), (2, .int v2_1)] rfl ?_
          refine k_aload_n (pc := 18) C dX9_allSteps_18 0 rfl rfl ?_
          refine k_ifnull (pc := 19) C dX9_allSteps_19 ?_
          refine k_iload_n (pc := 22) C dX9_allSteps_22 2 rfl rfl ?_
          refine k_aload_n (pc := 23) C dX9_allSteps_23 0 rfl rfl ?_
          obtain ⟨h_6, hw⟩ := hw
          refine k_afterI (pc := 24) C (wp_X3_stepCount j_3 S_3) hw (fun post hw => by
              rcases kd4 S_3 j_3 with h | h | h | h
              · exact rn_V C (ct_X3_stepCount l D cA ad j_3 S_3 post hw) (cwV 0 C.2.2.2.2.1 gX9_allSteps_X3_stepCount rfl rfl rfl (by decide +kernel) ⟨Nat.le_of_ble_eq_true rfl, Nat.le_of_ble_eq_true rfl⟩) (mm_26 h_6) (celM_0 h) rfl rfl rfl rfl (Nat.le_of_ble_eq_true rfl) dX9_allSteps_24
              · exact rn_U C (ct_X3_stepCount l D cA ad j_3 S_3 post hw) (va_cwU 0 C.2.2.2.2.1 gX9_allSteps_X3_stepCount_u90X4 rfl rfl rfl rfl (by decide +kernel) ⟨Nat.le_of_ble_eq_true rfl, Nat.le_of_ble_eq_true rfl⟩) (mm_26 h_6) (celM_1 h) rfl rfl rfl rfl (Nat.le_of_ble_eq_true rfl) dX9_allSteps_24
              · exact rn_U C (ct_X3_stepCount l D cA ad j_3 S_3 post hw) (va_cwU 0 C.2.2.2.2.1 gX9_allSteps_X3_stepCount_u90X8 rfl rfl rfl rfl (by decide +kernel) ⟨Nat.le_of_ble_eq_true rfl, Nat.le_of_ble_eq_true rfl⟩) (mm_26 h_6) (celM_2 h) rfl rfl rfl rfl (Nat.le_of_ble_eq_true rfl) dX9_allSteps_24
              · exact rn_U C (ct_X3_stepCount l D cA ad j_3 S_3 post hw) (va_cwU 0 C.2.2.2.2.1 gX9_allSteps_X3_stepCount_u90X1 rfl rfl rfl rfl (by decide +kernel) ⟨Nat.le_of_ble_eq_true rfl, Nat.le_of_ble_eq_true rfl⟩) (mm_26 h_6) (celM_3 h) rfl rfl rfl rfl (Nat.le_of_ble_eq_true rfl) dX9_allSteps_24) (fun r_5 S_5 hw => ?_)
          refine k_iadd (pc := 27) C dX9_allSteps_27 ?_
          refine k_topi (fun x1_7 ex1_7 => ?_)
          have hw := hw x1_7 ex1_7
          refine k_istore_n (pc := 28) C dX9_allSteps_28 rfl (by decide) [(1, .int x1_7), (3, .ref (ad 26 j_3)), (0, .ref (ad 0 0)), (2, .int v2_1)] rfl ?_
          obtain ⟨x2_8, ex2_8⟩ : ∃ y : Int32, y = v2_1 + 1 := ⟨_, rfl⟩
          have hw := hw x2_8 ex2_8
          refine k_iinc (v := x2_8) (j := 3) (pc := 29) C dX9_allSteps_29 rfl (by rw [ex2_8]; rfl) (by decide) [(2, .int x2_8), (1, .int x1_7), (3, .ref (ad 26 j_3)), (0, .ref (ad 0 0))] rfl ?_
          refine k_goto (pc := 32) C 4 dX9_allSteps_32 (by decide) ?_
          refine k_sub [3, 1, 0] [(0, .ref (ad 0 0)), (1, .int x1_7), (2, .int x2_8)] rfl ?_
          exact ih_1 x1_7 x2_8 S_5 (Nat.lt_of_lt_of_le hw.2 (Nat.le_of_lt_succ hn_1)) hw.1
  exact L_1 (μ_1 0 0 S + 1) 0 0 S (Nat.lt_succ_self _) hi_1
def wp_X9_markOn (a1 : Int32) (S : Sg) (Q : Option Nat → Sg → Prop) : Prop :=
  wp_X9_shelfAt a1 S (fun o_1 S_1 => (o_1 = none → Q none S_1) ∧ (∀ j_1 : Nat, o_1 = some j_1 → (j_1 < 8 ∧ wp_X6_heldMark j_1 S_1 (fun o_2 S_2 => (o_2 = none → Q none S_2) ∧ (∀ j_2 : Nat, o_2 = some j_2 → Q (some j_2) S_2)))))
set_option maxHeartbeats 4000000 in
set_option maxRecDepth 100000 in
theorem ct_X9_markOn (l : Launch) (D : va_G) (cA : Nat → ClassId) (ad : Nat → Nat → Nat) (a1 : Int32) (S : Sg) (Q : Option Nat → Sg → Prop) (hw : wp_X9_markOn a1 S Q) : CtQ 26 l yX9_markOn wsX9_markOn (mkR 1 21) D cA ad [.ref (ad 0 0), .int a1] S Q := by
  refine ct_ofQ (cc := cX9_markOn) (nL := 3) (by decide) rfl (Nat.le_of_ble_eq_true rfl) ?_
  intro p e s m args below meth c A Q C hret
  unfold wp_X9_markOn at hw
  have C : Cx p s m args c cX9_markOn 3 wsX9_markOn RX9 D cA A := C
  change KK p l e (mkR 1 21) s m args below meth c 3 D cA ad A Q 0 [(0, .ref (ad 0 0)), (1, .int a1)] [] S
  refine k_aload_n (pc := 0) C dX9_markOn_0 0 rfl rfl ?_
  refine k_iload_n (pc := 1) C dX9_markOn_1 1 rfl rfl ?_
  refine k_afterQ (pc := 2) C 24 (wp_X9_shelfAt a1 S) hw (fun post hw => by
      exact rn_V C (ct_X9_shelfAt l D cA ad a1 S post hw) (cwV 1 C.2.2.2.2.1 gX9_markOn_X9_shelfAt rfl rfl rfl (by decide +kernel) ⟨Nat.le_of_ble_eq_true rfl, Nat.le_of_ble_eq_true rfl⟩) hm_0 (cel_0 cA ad S 0) rfl rfl rfl rfl (Nat.le_of_ble_eq_true rfl) dX9_markOn_2) (fun S_1 hw => ?_) (fun j_1 S_1 hw => ?_)
  · have hw := hw.1 rfl
    refine k_astore_nN (pc := 5) C dX9_markOn_5 rfl (by decide) [(2, .null), (0, .ref (ad 0 0)), (1, .int a1)] rfl ?_
    refine k_aload_nN (pc := 6) C dX9_markOn_6 0 rfl rfl ?_
    refine k_ifnonnullN (pc := 7) C dX9_markOn_7 ?_
    refine k_null (pc := 10) C dX9_markOn_10 ?_
    refine k_goto (pc := 11) C 18 dX9_markOn_11 (by decide) ?_
    exact hret _ _ none _ dX9_markOn_18 hw
  · have hw := hw.2 j_1 rfl
    refine k_astore_n (pc := 5) C dX9_markOn_5 rfl (by decide) [(2, .ref (ad 24 j_1)), (0, .ref (ad 0 0)), (1, .int a1)] rfl ?_
    refine k_aload_n (pc := 6) C dX9_markOn_6 0 rfl rfl ?_
    refine k_ifnonnull (pc := 7) C 14 dX9_markOn_7 (by decide) ?_
    refine k_aload_n (pc := 14) C dX9_markOn_14 0 rfl rfl ?_
    obtain ⟨h_3, hw⟩ := hw
    refine k_afterQ (pc := 15) C 26 (wp_X6_heldMark j_1 S_1) hw (fun post hw => by
        exact rn_V C (ct_X6_heldMark l D cA ad j_1 S_1 post hw) (cwV 0 C.2.2.2.2.1 gX9_markOn_X6_heldMark rfl rfl rfl (by decide +kernel) ⟨Nat.le_of_ble_eq_true rfl, Nat.le_of_ble_eq_true rfl⟩) (ids_shelf h_3 (Or.inl rfl)) (cel_24 cA ad S_1 j_1) rfl rfl rfl rfl (Nat.le_of_ble_eq_true rfl) dX9_markOn_15) (fun S_2 hw => ?_) (fun j_2 S_2 hw => ?_)
    · have hw := hw.1 rfl
      exact hret _ _ none _ dX9_markOn_18 hw
    · have hw := hw.2 j_2 rfl
      exact hret _ _ (some j_2) _ dX9_markOn_18 hw
def wp_X9_refusalOfMarkOn (a1 : Int32) (S : Sg) (Q : Int32 → Sg → Prop) : Prop :=
  wp_X9_shelfAt a1 S (fun o_1 S_1 => (o_1 = none → Q (-1) S_1) ∧ (∀ j_1 : Nat, o_1 = some j_1 → (j_1 < 8 ∧ wp_X6_holds j_1 S_1 (fun r_2 S_2 => ((¬ r_2 = 0 → wp_X6_holds j_1 S_2 (fun r_5 S_5 => ((¬ r_5 = 1 → Q (-12) S_5) ∧ (r_5 = 1 → Q 0 S_5)))) ∧ (r_2 = 0 → Q (-11) S_2))))))
set_option maxHeartbeats 4000000 in
set_option maxRecDepth 100000 in
theorem ct_X9_refusalOfMarkOn (l : Launch) (D : va_G) (cA : Nat → ClassId) (ad : Nat → Nat → Nat) (a1 : Int32) (S : Sg) (Q : Int32 → Sg → Prop) (hw : wp_X9_refusalOfMarkOn a1 S Q) : CtI l yX9_refusalOfMarkOn wsX9_refusalOfMarkOn (mkR 1 21) D cA ad [.ref (ad 0 0), .int a1] S Q := by
  refine ct_ofI (cc := cX9_refusalOfMarkOn) (nL := 3) (by decide) rfl (Nat.le_of_ble_eq_true rfl) ?_
  intro p e s m args below meth c A Q C hret
  unfold wp_X9_refusalOfMarkOn at hw
  have C : Cx p s m args c cX9_refusalOfMarkOn 3 wsX9_refusalOfMarkOn RX9 D cA A := C
  change KK p l e (mkR 1 21) s m args below meth c 3 D cA ad A Q 0 [(0, .ref (ad 0 0)), (1, .int a1)] [] S
  refine k_aload_n (pc := 0) C dX9_refusalOfMarkOn_0 0 rfl rfl ?_
  refine k_iload_n (pc := 1) C dX9_refusalOfMarkOn_1 1 rfl rfl ?_
  refine k_afterQ (pc := 2) C 24 (wp_X9_shelfAt a1 S) hw (fun post hw => by
      exact rn_V C (ct_X9_shelfAt l D cA ad a1 S post hw) (cwV 1 C.2.2.2.2.1 gX9_refusalOfMarkOn_X9_shelfAt rfl rfl rfl (by decide +kernel) ⟨Nat.le_of_ble_eq_true rfl, Nat.le_of_ble_eq_true rfl⟩) hm_0 (cel_0 cA ad S 0) rfl rfl rfl rfl (Nat.le_of_ble_eq_true rfl) dX9_refusalOfMarkOn_2) (fun S_1 hw => ?_) (fun j_1 S_1 hw => ?_)
  · have hw := hw.1 rfl
    refine k_astore_nN (pc := 5) C dX9_refusalOfMarkOn_5 rfl (by decide) [(2, .null), (0, .ref (ad 0 0)), (1, .int a1)] rfl ?_
    refine k_aload_nN (pc := 6) C dX9_refusalOfMarkOn_6 0 rfl rfl ?_
    refine k_ifnonnullN (pc := 7) C dX9_refusalOfMarkOn_7 ?_
    refine k_iconst (v := (-1)) (pc := 10) C dX9_refusalOfMarkOn_10 (by decide) ?_
    exact hret _ _ _ _ dX9_refusalOfMarkOn_11 hw
  · have hw := hw.2 j_1 rfl
    refine k_astore_n (pc := 5) C dX9_refusalOfMarkOn_5 rfl (by decide) [(2, .ref (ad 24 j_1)), (0, .ref (ad 0 0)), (1, .int a1)] rfl ?_
    refine k_aload_n (pc := 6) C dX9_refusalOfMarkOn_6 0 rfl rfl ?_
    refine k_ifnonnull (pc := 7) C 12 dX9_refusalOfMarkOn_7 (by decide) ?_
    refine k_aload_n (pc := 12) C dX9_refusalOfMarkOn_12 0 rfl rfl ?_
    obtain ⟨h_3, hw⟩ := hw
    refine k_afterI (pc := 13) C (wp_X6_holds j_1 S_1) hw (fun post hw => by
        exact rn_V C (ct_X6_holds l D cA ad j_1 S_1 post hw) (cwV 0 C.2.2.2.2.1 gX9_refusalOfMarkOn_X6_holds rfl rfl rfl (by decide +kernel) ⟨Nat.le_of_ble_eq_true rfl, Nat.le_of_ble_eq_true rfl⟩) (ids_shelf h_3 (Or.inl rfl)) (cel_24 cA ad S_1 j_1) rfl rfl rfl rfl (Nat.le_of_ble_eq_true rfl) dX9_refusalOfMarkOn_13) (fun r_2 S_2 hw => ?_)
    refine k_if_ne (pc := 16) C 22 dX9_refusalOfMarkOn_16 (by decide) (fun q_4 => ?_) (fun q_4 => ?_)
    · have hw := hw.1 q_4
      refine k_aload_n (pc := 22) C dX9_refusalOfMarkOn_22 0 rfl rfl ?_
      refine k_afterI (pc := 23) C (wp_X6_holds j_1 S_2) hw (fun post hw => by
          exact rn_V C (ct_X6_holds l D cA ad j_1 S_2 post hw) (cwV 0 C.2.2.2.2.1 gX9_refusalOfMarkOn_X6_holds rfl rfl rfl (by decide +kernel) ⟨Nat.le_of_ble_eq_true rfl, Nat.le_of_ble_eq_true rfl⟩) (ids_shelf h_3 (Or.inl rfl)) (cel_24 cA ad S_2 j_1) rfl rfl rfl rfl (Nat.le_of_ble_eq_true rfl) dX9_refusalOfMarkOn_23) (fun r_5 S_5 hw => ?_)
      refine k_iconst (v := 1) (pc := 26) C dX9_refusalOfMarkOn_26 (by decide) ?_
      refine k_icmp_ne (pc := 27) C 34 dX9_refusalOfMarkOn_27 (by decide) (fun q_6 => ?_) (fun q_6 => ?_)
      · have hw := hw.1 q_6
        refine k_bipush (v := (-12)) (pc := 34) C dX9_refusalOfMarkOn_34 (by decide) ?_
        exact hret _ _ _ _ dX9_refusalOfMarkOn_36 hw
      · have hw := hw.2 q_6
        refine k_iconst (v := 0) (pc := 30) C dX9_refusalOfMarkOn_30 (by decide) ?_
        refine k_goto (pc := 31) C 36 dX9_refusalOfMarkOn_31 (by decide) ?_
        exact hret _ _ _ _ dX9_refusalOfMarkOn_36 hw
    · have hw := hw.2 q_4
      refine k_bipush (v := (-11)) (pc := 19) C dX9_refusalOfMarkOn_19 (by decide) ?_
      exact hret _ _ _ _ dX9_refusalOfMarkOn_21 hw
def wp_X9_read (a1 : Int32) (a2 : Int32) (a3 : Int32) (a4 : Int32) (S : Sg) (Q : Int32 → Sg → Prop) : Prop :=
  wp_X9_markAt a1 S (fun o_1 S_1 => (o_1 = none → Q (-1) S_1) ∧ (∀ j_1 : Nat, o_1 = some j_1 → wp_X9_isEpoch a2 S_1 (fun r_2 S_2 => ((r_2 = 0 → Q (-1) S_2) ∧ (¬ r_2 = 0 → wp_X9_within a3 100000 S_2 (fun r_4 S_4 => ((r_4 = 0 → Q (-1) S_4) ∧ (¬ r_4 = 0 → wp_X9_within a4 100000 S_4 (fun r_6 S_6 => ((¬ r_6 = 0 → (j_1 < nM S_6 ∧ wp_X3_putReading j_1 a2 a3 a4 S_6 (fun r_8 S_8 => ((r_8 = 0 → Q 0 S_8) ∧ (¬ r_8 = 0 → Q 1 S_8))))) ∧ (r_6 = 0 → Q (-1) S_6)))))))))))
set_option maxHeartbeats 4000000 in
set_option maxRecDepth 100000 in
theorem ct_X9_read (l : Launch) (D : va_G) (cA : Nat → ClassId) (ad : Nat → Nat → Nat) (a1 : Int32) (a2 : Int32) (a3 : Int32) (a4 : Int32) (S : Sg) (Q : Int32 → Sg → Prop) (hw : wp_X9_read a1 a2 a3 a4 S Q) : CtI l yX9_read wsX9_read (mkR 1 24) D cA ad [.ref (ad 0 0), .int a1, .int a2, .int a3, .int a4] S Q := by
  refine ct_ofI (cc := cX9_read) (nL := 6) (by decide) rfl (Nat.le_of_ble_eq_true rfl) ?_
  intro p e s m args below meth c A Q C hret
  unfold wp_X9_read at hw
  have C : Cx p s m args c cX9_read 6 wsX9_read RX9 D cA A := C
  change KK p l e (mkR 1 24) s m args below meth c 6 D cA ad A Q 0 [(0, .ref (ad 0 0)), (1, .int a1), (2, .int a2), (3, .int a3), (4, .int a4)] [] S
  refine k_aload_n (pc := 0) C dX9_read_0 0 rfl rfl ?_
  refine k_iload_n (pc := 1) C dX9_read_1 1 rfl rfl ?_
  refine k_afterQ (pc := 2) C 26 (wp_X9_markAt a1 S) hw (fun post hw => by
      exact rn_V C (ct_X9_markAt l D cA ad a1 S post hw) (cwV 1 C.2.2.2.2.1 gX9_read_X9_markAt rfl rfl rfl (by decide +kernel) ⟨Nat.le_of_ble_eq_true rfl, Nat.le_of_ble_eq_true rfl⟩) hm_0 (cel_0 cA ad S 0) rfl rfl rfl rfl (Nat.le_of_ble_eq_true rfl) dX9_read_2) (fun S_1 hw => ?_) (fun j_1 S_1 hw => ?_)
  · have hw := hw.1 rfl
    refine k_astoreN (pc := 5) C dX9_read_5 (by decide) [(5, .null), (0, .ref (ad 0 0)), (1, .int a1), (2, .int a2), (3, .int a3), (4, .int a4)] rfl ?_
    refine k_aloadN (pc := 7) C dX9_read_7 0 rfl ?_
    refine k_ifnullN (pc := 9) C 38 dX9_read_9 (by decide) ?_
    refine k_iconst (v := (-1)) (pc := 38) C dX9_read_38 (by decide) ?_
    exact hret _ _ _ _ dX9_read_39 hw
  · have hw := hw.2 j_1 rfl
    refine k_astore (pc := 5) C dX9_read_5 (by decide) [(5, .ref (ad 26 j_1)), (0, .ref (ad 0 0)), (1, .int a1), (2, .int a2), (3, .int a3), (4, .int a4)] rfl ?_
    refine k_aload (pc := 7) C dX9_read_7 0 rfl ?_
    refine k_ifnull (pc := 9) C dX9_read_9 ?_
    refine k_iload_n (pc := 12) C dX9_read_12 3 rfl rfl ?_
    refine k_afterI (pc := 13) C (wp_X9_isEpoch a2 S_1) hw (fun post hw => by
        exact rn_S C (ct_X9_isEpoch l D cA ad a2 S_1 post hw) (va_cwS 1 C.2.2.2.2.1 gX9_read_X9_isEpoch rfl rfl rfl (by decide +kernel) ⟨Nat.le_of_ble_eq_true rfl, Nat.le_of_ble_eq_true rfl⟩) rfl rfl (Nat.le_of_ble_eq_true rfl) dX9_read_13) (fun r_2 S_2 hw => ?_)
    refine k_if_eq (pc := 16) C 38 dX9_read_16 (by decide) (fun q_3 => ?_) (fun q_3 => ?_)
    · have hw := hw.1 q_3
      refine k_iconst (v := (-1)) (pc := 38) C dX9_read_38 (by decide) ?_
      exact hret _ _ _ _ dX9_read_39 hw
    · have hw := hw.2 q_3
      refine k_iload_n (pc := 19) C dX9_read_19 4 rfl rfl ?_
      refine k_ldc (pc := 20) C (C.2.2.2.2.1 (.constant RX9 79 (100000)) (by decide +kernel)) dX9_read_20 ?_
      refine k_afterI (pc := 22) C (wp_X9_within a3 100000 S_2) hw (fun post hw => by
          exact rn_S C (ct_X9_within l D cA ad a3 100000 S_2 post hw) (va_cwS 2 C.2.2.2.2.1 gX9_read_X9_within rfl rfl rfl (by decide +kernel) ⟨Nat.le_of_ble_eq_true rfl, Nat.le_of_ble_eq_true rfl⟩) rfl rfl (Nat.le_of_ble_eq_true rfl) dX9_read_22) (fun r_4 S_4 hw => ?_)
      refine k_if_eq (pc := 25) C 38 dX9_read_25 (by decide) (fun q_5 => ?_) (fun q_5 => ?_)
      · have hw := hw.1 q_5
        refine k_iconst (v := (-1)) (pc := 38) C dX9_read_38 (by decide) ?_
        exact hret _ _ _ _ dX9_read_39 hw
      · have hw := hw.2 q_5
        refine k_iload (pc := 28) C dX9_read_28 5 rfl ?_
        refine k_ldc (pc := 30) C (C.2.2.2.2.1 (.constant RX9 79 (100000)) (by decide +kernel)) dX9_read_30 ?_
        refine k_afterI (pc := 32) C (wp_X9_within a4 100000 S_4) hw (fun post hw => by
            exact rn_S C (ct_X9_within l D cA ad a4 100000 S_4 post hw) (va_cwS 2 C.2.2.2.2.1 gX9_read_X9_within rfl rfl rfl (by decide +kernel) ⟨Nat.le_of_ble_eq_true rfl, Nat.le_of_ble_eq_true rfl⟩) rfl rfl (Nat.le_of_ble_eq_true rfl) dX9_read_32) (fun r_6 S_6 hw => ?_)
        refine k_if_ne (pc := 35) C 40 dX9_read_35 (by decide) (fun q_7 => ?_) (fun q_7 => ?_)
        · have hw := hw.1 q_7
          refine k_aload (pc := 40) C dX9_read_40 0 rfl ?_
          refine k_iload_n (pc := 42) C dX9_read_42 3 rfl rfl ?_
          refine k_iload_n (pc := 43) C dX9_read_43 4 rfl rfl ?_
          refine k_iload (pc := 44) C dX9_read_44 5 rfl ?_
          obtain ⟨h_9, hw⟩ := hw
          refine k_afterI (pc := 46) C (wp_X3_putReading j_1 a2 a3 a4 S_6) hw (fun post hw => by
              rcases kd4 S_6 j_1 with h | h | h | h
              · exact rn_V C (ct_X3_putReading l D cA ad j_1 a2 a3 a4 S_6 post hw) (cwV 3 C.2.2.2.2.1 gX9_read_X3_putReading rfl rfl rfl (by decide +kernel) ⟨Nat.le_of_ble_eq_true rfl, Nat.le_of_ble_eq_true rfl⟩) (mm_26 h_9) (celM_0 h) rfl rfl rfl rfl (Nat.le_of_ble_eq_true rfl) dX9_read_46
              · exact rn_U C (ct_X3_putReading l D cA ad j_1 a2 a3 a4 S_6 post hw) (va_cwU 3 C.2.2.2.2.1 gX9_read_X3_putReading_u80X4 rfl rfl rfl rfl (by decide +kernel) ⟨Nat.le_of_ble_eq_true rfl, Nat.le_of_ble_eq_true rfl⟩) (mm_26 h_9) (celM_1 h) rfl rfl rfl rfl (Nat.le_of_ble_eq_true rfl) dX9_read_46
              · exact rn_U C (ct_X3_putReading l D cA ad j_1 a2 a3 a4 S_6 post hw) (va_cwU 3 C.2.2.2.2.1 gX9_read_X3_putReading_u80X8 rfl rfl rfl rfl (by decide +kernel) ⟨Nat.le_of_ble_eq_true rfl, Nat.le_of_ble_eq_true rfl⟩) (mm_26 h_9) (celM_2 h) rfl rfl rfl rfl (Nat.le_of_ble_eq_true rfl) dX9_read_46
              · exact rn_U C (ct_X3_putReading l D cA ad j_1 a2 a3 a4 S_6 post hw) (va_cwU 3 C.2.2.2.2.1 gX9_read_X3_putReading_u80X1 rfl rfl rfl rfl (by decide +kernel) ⟨Nat.le_of_ble_eq_true rfl, Nat.le_of_ble_eq_true rfl⟩) (mm_26 h_9) (celM_3 h) rfl rfl rfl rfl (Nat.le_of_ble_eq_true rfl) dX9_read_46) (fun r_8 S_8 hw => ?_)
          refine k_if_eq (pc := 49) C 56 dX9_read_49 (by decide) (fun q_10 => ?_) (fun q_10 => ?_)
          · have hw := hw.1 q_10
            refine k_iconst (v := 0) (pc := 56) C dX9_read_56 (by decide) ?_
            exact hret _ _ _ _ dX9_read_57 hw
          · have hw := hw.2 q_10
            refine k_iconst (v := 1) (pc := 52) C dX9_read_52 (by decide) ?_
            refine k_goto (pc := 53) C 57 dX9_read_53 (by decide) ?_
            exact hret _ _ _ _ dX9_read_57 hw
        · have hw := hw.2 q_7
          refine k_iconst (v := (-1)) (pc := 38) C dX9_read_38 (by decide) ?_
          exact hret _ _ _ _ dX9_read_39 hw
def wp_X9_gap (a1 : Int32) (a2 : Int32) (S : Sg) (Q : Int32 → Sg → Prop) : Prop :=
  wp_X9_markAt a1 S (fun o_1 S_1 => (o_1 = none → Q (-1) S_1) ∧ (∀ j_1 : Nat, o_1 = some j_1 → wp_X9_isEpoch a2 S_1 (fun r_2 S_2 => ((¬ r_2 = 0 → (j_1 < nM S_2 ∧ wp_X3_dropReading j_1 a2 S_2 (fun r_4 S_4 => ((r_4 = 0 → Q 0 S_4) ∧ (¬ r_4 = 0 → Q 1 S_4))))) ∧ (r_2 = 0 → Q (-1) S_2)))))
set_option maxHeartbeats 4000000 in
set_option maxRecDepth 100000 in
theorem ct_X9_gap (l : Launch) (D : va_G) (cA : Nat → ClassId) (ad : Nat → Nat → Nat) (a1 : Int32) (a2 : Int32) (S : Sg) (Q : Int32 → Sg → Prop) (hw : wp_X9_gap a1 a2 S Q) : CtI l yX9_gap wsX9_gap (mkR 1 22) D cA ad [.ref (ad 0 0), .int a1, .int a2] S Q := by
  refine ct_ofI (cc := cX9_gap) (nL := 4) (by decide) rfl (Nat.le_of_ble_eq_true rfl) ?_
  intro p e s m args below meth c A Q C hret
  unfold wp_X9_gap at hw
  have C : Cx p s m args c cX9_gap 4 wsX9_gap RX9 D cA A := C
  change KK p l e (mkR 1 22) s m args below meth c 4 D cA ad A Q 0 [(0, .ref (ad 0 0)), (1, .int a1), (2, .int a2)] [] S
  refine k_aload_n (pc := 0) C dX9_gap_0 0 rfl rfl ?_
  refine k_iload_n (pc := 1) C dX9_gap_1 1 rfl rfl ?_
  refine k_afterQ (pc := 2) C 26 (wp_X9_markAt a1 S) hw (fun post hw => by
      exact rn_V C (ct_X9_markAt l D cA ad a1 S post hw) (cwV 1 C.2.2.2.2.1 gX9_gap_X9_markAt rfl rfl rfl (by decide +kernel) ⟨Nat.le_of_ble_eq_true rfl, Nat.le_of_ble_eq_true rfl⟩) hm_0 (cel_0 cA ad S 0) rfl rfl rfl rfl (Nat.le_of_ble_eq_true rfl) dX9_gap_2) (fun S_1 hw => ?_) (fun j_1 S_1 hw => ?_)
  · have hw := hw.1 rfl
    refine k_astore_nN (pc := 5) C dX9_gap_5 rfl (by decide) [(3, .null), (0, .ref (ad 0 0)), (1, .int a1), (2, .int a2)] rfl ?_
    refine k_aload_nN (pc := 6) C dX9_gap_6 0 rfl rfl ?_
    refine k_ifnullN (pc := 7) C 17 dX9_gap_7 (by decide) ?_
    refine k_iconst (v := (-1)) (pc := 17) C dX9_gap_17 (by decide) ?_
    exact hret _ _ _ _ dX9_gap_18 hw
  · have hw := hw.2 j_1 rfl
    refine k_astore_n (pc := 5) C dX9_gap_5 rfl (by decide) [(3, .ref (ad 26 j_1)), (0, .ref (ad 0 0)), (1, .int a1), (2, .int a2)] rfl ?_
    refine k_aload_n (pc := 6) C dX9_gap_6 0 rfl rfl ?_
    refine k_ifnull (pc := 7) C dX9_gap_7 ?_
    refine k_iload_n (pc := 10) C dX9_gap_10 3 rfl rfl ?_
    refine k_afterI (pc := 11) C (wp_X9_isEpoch a2 S_1) hw (fun post hw => by
        exact rn_S C (ct_X9_isEpoch l D cA ad a2 S_1 post hw) (va_cwS 1 C.2.2.2.2.1 gX9_gap_X9_isEpoch rfl rfl rfl (by decide +kernel) ⟨Nat.le_of_ble_eq_true rfl, Nat.le_of_ble_eq_true rfl⟩) rfl rfl (Nat.le_of_ble_eq_true rfl) dX9_gap_11) (fun r_2 S_2 hw => ?_)
    refine k_if_ne (pc := 14) C 19 dX9_gap_14 (by decide) (fun q_3 => ?_) (fun q_3 => ?_)
    · have hw := hw.1 q_3
      refine k_aload_n (pc := 19) C dX9_gap_19 0 rfl rfl ?_
      refine k_iload_n (pc := 20) C dX9_gap_20 3 rfl rfl ?_
      obtain ⟨h_5, hw⟩ := hw
      refine k_afterI (pc := 21) C (wp_X3_dropReading j_1 a2 S_2) hw (fun post hw => by
          rcases kd4 S_2 j_1 with h | h | h | h
          · exact rn_V C (ct_X3_dropReading l D cA ad j_1 a2 S_2 post hw) (cwV 1 C.2.2.2.2.1 gX9_gap_X3_dropReading rfl rfl rfl (by decide +kernel) ⟨Nat.le_of_ble_eq_true rfl, Nat.le_of_ble_eq_true rfl⟩) (mm_26 h_5) (celM_0 h) rfl rfl rfl rfl (Nat.le_of_ble_eq_true rfl) dX9_gap_21
          · exact rn_U C (ct_X3_dropReading l D cA ad j_1 a2 S_2 post hw) (va_cwU 1 C.2.2.2.2.1 gX9_gap_X3_dropReading_u84X4 rfl rfl rfl rfl (by decide +kernel) ⟨Nat.le_of_ble_eq_true rfl, Nat.le_of_ble_eq_true rfl⟩) (mm_26 h_5) (celM_1 h) rfl rfl rfl rfl (Nat.le_of_ble_eq_true rfl) dX9_gap_21
          · exact rn_U C (ct_X3_dropReading l D cA ad j_1 a2 S_2 post hw) (va_cwU 1 C.2.2.2.2.1 gX9_gap_X3_dropReading_u84X8 rfl rfl rfl rfl (by decide +kernel) ⟨Nat.le_of_ble_eq_true rfl, Nat.le_of_ble_eq_true rfl⟩) (mm_26 h_5) (celM_2 h) rfl rfl rfl rfl (Nat.le_of_ble_eq_true rfl) dX9_gap_21
          · exact rn_U C (ct_X3_dropReading l D cA ad j_1 a2 S_2 post hw) (va_cwU 1 C.2.2.2.2.1 gX9_gap_X3_dropReading_u84X1 rfl rfl rfl rfl (by decide +kernel) ⟨Nat.le_of_ble_eq_true rfl, Nat.le_of_ble_eq_true rfl⟩) (mm_26 h_5) (celM_3 h) rfl rfl rfl rfl (Nat.le_of_ble_eq_true rfl) dX9_gap_21) (fun r_4 S_4 hw => ?_)
      refine k_if_eq (pc := 24) C 31 dX9_gap_24 (by decide) (fun q_6 => ?_) (fun q_6 => ?_)
      · have hw := hw.1 q_6
        refine k_iconst (v := 0) (pc := 31) C dX9_gap_31 (by decide) ?_
        exact hret _ _ _ _ dX9_gap_32 hw
      · have hw := hw.2 q_6
        refine k_iconst (v := 1) (pc := 27) C dX9_gap_27 (by decide) ?_
        refine k_goto (pc := 28) C 32 dX9_gap_28 (by decide) ?_
        exact hret _ _ _ _ dX9_gap_32 hw
    · have hw := hw.2 q_3
      refine k_iconst (v := (-1)) (pc := 17) C dX9_gap_17 (by decide) ?_
      exact hret _ _ _ _ dX9_gap_18 hw
def wp_X9_step (a1 : Int32) (a2 : Int32) (a3 : Int32) (a4 : Int32) (S : Sg) (Q : Int32 → Sg → Prop) : Prop :=
  wp_X9_markAt a1 S (fun o_1 S_1 => (o_1 = none → Q (-1) S_1) ∧ (∀ j_1 : Nat, o_1 = some j_1 → wp_X9_isEpoch a2 S_1 (fun r_2 S_2 => ((r_2 = 0 → Q (-1) S_2) ∧ (¬ r_2 = 0 → wp_X9_within a3 10000 S_2 (fun r_4 S_4 => ((r_4 = 0 → Q (-1) S_4) ∧ (¬ r_4 = 0 → wp_X9_within a4 10000 S_4 (fun r_6 S_6 => ((¬ r_6 = 0 → (j_1 < nM S_6 ∧ wp_X3_addStep j_1 a2 a3 a4 S_6 (fun r_8 S_8 => ((r_8 = 0 → Q (-2) S_8) ∧ (¬ r_8 = 0 → (j_1 < nM S_8 ∧ wp_X3_stepCount j_1 S_8 (fun r_11 S_11 => Q r_11 S_11))))))) ∧ (r_6 = 0 → Q (-1) S_6)))))))))))
set_option maxHeartbeats 4000000 in
set_option maxRecDepth 100000 in
theorem ct_X9_step (l : Launch) (D : va_G) (cA : Nat → ClassId) (ad : Nat → Nat → Nat) (a1 : Int32) (a2 : Int32) (a3 : Int32) (a4 : Int32) (S : Sg) (Q : Int32 → Sg → Prop) (hw : wp_X9_step a1 a2 a3 a4 S Q) : CtI l yX9_step wsX9_step (mkR 1 23) D cA ad [.ref (ad 0 0), .int a1, .int a2, .int a3, .int a4] S Q := by
  refine ct_ofI (cc := cX9_step) (nL := 6) (by decide) rfl (Nat.le_of_ble_eq_true rfl) ?_
  intro p e s m args below meth c A Q C hret
  unfold wp_X9_step at hw
  have C : Cx p s m args c cX9_step 6 wsX9_step RX9 D cA A := C
  change KK p l e (mkR 1 23) s m args below meth c 6 D cA ad A Q 0 [(0, .ref (ad 0 0)), (1, .int a1), (2, .int a2), (3, .int a3), (4, .int a4)] [] S
  refine k_aload_n (pc := 0) C dX9_step_0 0 rfl rfl ?_
  refine k_iload_n (pc := 1) C dX9_step_1 1 rfl rfl ?_
  refine k_afterQ (pc := 2) C 26 (wp_X9_markAt a1 S) hw (fun post hw => by
      exact rn_V C (ct_X9_markAt l D cA ad a1 S post hw) (cwV 1 C.2.2.2.2.1 gX9_step_X9_markAt rfl rfl rfl (by decide +kernel) ⟨Nat.le_of_ble_eq_true rfl, Nat.le_of_ble_eq_true rfl⟩) hm_0 (cel_0 cA ad S 0) rfl rfl rfl rfl (Nat.le_of_ble_eq_true rfl) dX9_step_2) (fun S_1 hw => ?_) (fun j_1 S_1 hw => ?_)
  · have hw := hw.1 rfl
    refine k_astoreN (pc := 5) C dX9_step_5 (by decide) [(5, .null), (0, .ref (ad 0 0)), (1, .int a1), (2, .int a2), (3, .int a3), (4, .int a4)] rfl ?_
    refine k_aloadN (pc := 7) C dX9_step_7 0 rfl ?_
    refine k_ifnullN (pc := 9) C 40 dX9_step_9 (by decide) ?_
    refine k_iconst (v := (-1)) (pc := 40) C dX9_step_40 (by decide) ?_
    exact hret _ _ _ _ dX9_step_41 hw
  · have hw := hw.2 j_1 rfl
    refine k_astore (pc := 5) C dX9_step_5 (by decide) [(5, .ref (ad 26 j_1)), (0, .ref (ad 0 0)), (1, .int a1), (2, .int a2), (3, .int a3), (4, .int a4)] rfl ?_
    refine k_aload (pc := 7) C dX9_step_7 0 rfl ?_
    refine k_ifnull (pc := 9) C dX9_step_9 ?_
    refine k_iload_n (pc := 12) C dX9_step_12 3 rfl rfl ?_
    refine k_afterI (pc := 13) C (wp_X9_isEpoch a2 S_1) hw (fun post hw => by
        exact rn_S C (ct_X9_isEpoch l D cA ad a2 S_1 post hw) (va_cwS 1 C.2.2.2.2.1 gX9_step_X9_isEpoch rfl rfl rfl (by decide +kernel) ⟨Nat.le_of_ble_eq_true rfl, Nat.le_of_ble_eq_true rfl⟩) rfl rfl (Nat.le_of_ble_eq_true rfl) dX9_step_13) (fun r_2 S_2 hw => ?_)
    refine k_if_eq (pc := 16) C 40 dX9_step_16 (by decide) (fun q_3 => ?_) (fun q_3 => ?_)
    · have hw := hw.1 q_3
      refine k_iconst (v := (-1)) (pc := 40) C dX9_step_40 (by decide) ?_
      exact hret _ _ _ _ dX9_step_41 hw
    · have hw := hw.2 q_3
      refine k_iload_n (pc := 19) C dX9_step_19 4 rfl rfl ?_
      refine k_sipush (v := 10000) (pc := 20) C dX9_step_20 (by decide) ?_
      refine k_afterI (pc := 23) C (wp_X9_within a3 10000 S_2) hw (fun post hw => by
          exact rn_S C (ct_X9_within l D cA ad a3 10000 S_2 post hw) (va_cwS 2 C.2.2.2.2.1 gX9_step_X9_within rfl rfl rfl (by decide +kernel) ⟨Nat.le_of_ble_eq_true rfl, Nat.le_of_ble_eq_true rfl⟩) rfl rfl (Nat.le_of_ble_eq_true rfl) dX9_step_23) (fun r_4 S_4 hw => ?_)
      refine k_if_eq (pc := 26) C 40 dX9_step_26 (by decide) (fun q_5 => ?_) (fun q_5 => ?_)
      · have hw := hw.1 q_5
        refine k_iconst (v := (-1)) (pc := 40) C dX9_step_40 (by decide) ?_
        exact hret _ _ _ _ dX9_step_41 hw
      · have hw := hw.2 q_5
        refine k_iload (pc := 29) C dX9_step_29 5 rfl ?_
        refine k_sipush (v := 10000) (pc := 31) C dX9_step_31 (by decide) ?_
        refine k_afterI (pc := 34) C (wp_X9_within a4 10000 S_4) hw (fun post hw => by
            exact rn_S C (ct_X9_within l D cA ad a4 10000 S_4 post hw) (va_cwS 2 C.2.2.2.2.1 gX9_step_X9_within rfl rfl rfl (by decide +kernel) ⟨Nat.le_of_ble_eq_true rfl, Nat.le_of_ble_eq_true rfl⟩) rfl rfl (Nat.le_of_ble_eq_true rfl) dX9_step_34) (fun r_6 S_6 hw => ?_)
        refine k_if_ne (pc := 37) C 42 dX9_step_37 (by decide) (fun q_7 => ?_) (fun q_7 => ?_)
        · have hw := hw.1 q_7
          refine k_aload (pc := 42) C dX9_step_42 0 rfl ?_
          refine k_iload_n (pc := 44) C dX9_step_44 3 rfl rfl ?_
          refine k_iload_n (pc := 45) C dX9_step_45 4 rfl rfl ?_
          refine k_iload (pc := 46) C dX9_step_46 5 rfl ?_
          obtain ⟨h_9, hw⟩ := hw
          refine k_afterI (pc := 48) C (wp_X3_addStep j_1 a2 a3 a4 S_6) hw (fun post hw => by
              rcases kd4 S_6 j_1 with h | h | h | h
              · exact rn_V C (ct_X3_addStep l D cA ad j_1 a2 a3 a4 S_6 post hw) (cwV 3 C.2.2.2.2.1 gX9_step_X3_addStep rfl rfl rfl (by decide +kernel) ⟨Nat.le_of_ble_eq_true rfl, Nat.le_of_ble_eq_true rfl⟩) (mm_26 h_9) (celM_0 h) rfl rfl rfl rfl (Nat.le_of_ble_eq_true rfl) dX9_step_48
              · exact rn_U C (ct_X3_addStep l D cA ad j_1 a2 a3 a4 S_6 post hw) (va_cwU 3 C.2.2.2.2.1 gX9_step_X3_addStep_u87X4 rfl rfl rfl rfl (by decide +kernel) ⟨Nat.le_of_ble_eq_true rfl, Nat.le_of_ble_eq_true rfl⟩) (mm_26 h_9) (celM_1 h) rfl rfl rfl rfl (Nat.le_of_ble_eq_true rfl) dX9_step_48
              · exact rn_U C (ct_X3_addStep l D cA ad j_1 a2 a3 a4 S_6 post hw) (va_cwU 3 C.2.2.2.2.1 gX9_step_X3_addStep_u87X8 rfl rfl rfl rfl (by decide +kernel) ⟨Nat.le_of_ble_eq_true rfl, Nat.le_of_ble_eq_true rfl⟩) (mm_26 h_9) (celM_2 h) rfl rfl rfl rfl (Nat.le_of_ble_eq_true rfl) dX9_step_48
              · exact rn_U C (ct_X3_addStep l D cA ad j_1 a2 a3 a4 S_6 post hw) (va_cwU 3 C.2.2.2.2.1 gX9_step_X3_addStep_u87X1 rfl rfl rfl rfl (by decide +kernel) ⟨Nat.le_of_ble_eq_true rfl, Nat.le_of_ble_eq_true rfl⟩) (mm_26 h_9) (celM_3 h) rfl rfl rfl rfl (Nat.le_of_ble_eq_true rfl) dX9_step_48) (fun r_8 S_8 hw => ?_)
          refine k_if_eq (pc := 51) C 62 dX9_step_51 (by decide) (fun q_10 => ?_) (fun q_10 => ?_)
          · have hw := hw.1 q_10
            refine k_bipush (v := (-2)) (pc := 62) C dX9_step_62 (by decide) ?_
            exact hret _ _ _ _ dX9_step_64 hw
          · have hw := hw.2 q_10
            refine k_aload (pc := 54) C dX9_step_54 0 rfl ?_
            obtain ⟨h_12, hw⟩ := hw
            refine k_afterI (pc := 56) C (wp_X3_stepCount j_1 S_8) hw (fun post hw => by
                rcases kd4 S_8 j_1 with h | h | h | h
                · exact rn_V C (ct_X3_stepCount l D cA ad j_1 S_8 post hw) (cwV 0 C.2.2.2.2.1 gX9_step_X3_stepCount rfl rfl rfl (by decide +kernel) ⟨Nat.le_of_ble_eq_true rfl, Nat.le_of_ble_eq_true rfl⟩) (mm_26 h_12) (celM_0 h) rfl rfl rfl rfl (Nat.le_of_ble_eq_true rfl) dX9_step_56
                · exact rn_U C (ct_X3_stepCount l D cA ad j_1 S_8 post hw) (va_cwU 0 C.2.2.2.2.1 gX9_step_X3_stepCount_u90X4 rfl rfl rfl rfl (by decide +kernel) ⟨Nat.le_of_ble_eq_true rfl, Nat.le_of_ble_eq_true rfl⟩) (mm_26 h_12) (celM_1 h) rfl rfl rfl rfl (Nat.le_of_ble_eq_true rfl) dX9_step_56
                · exact rn_U C (ct_X3_stepCount l D cA ad j_1 S_8 post hw) (va_cwU 0 C.2.2.2.2.1 gX9_step_X3_stepCount_u90X8 rfl rfl rfl rfl (by decide +kernel) ⟨Nat.le_of_ble_eq_true rfl, Nat.le_of_ble_eq_true rfl⟩) (mm_26 h_12) (celM_2 h) rfl rfl rfl rfl (Nat.le_of_ble_eq_true rfl) dX9_step_56
                · exact rn_U C (ct_X3_stepCount l D cA ad j_1 S_8 post hw) (va_cwU 0 C.2.2.2.2.1 gX9_step_X3_stepCount_u90X1 rfl rfl rfl rfl (by decide +kernel) ⟨Nat.le_of_ble_eq_true rfl, Nat.le_of_ble_eq_true rfl⟩) (mm_26 h_12) (celM_3 h) rfl rfl rfl rfl (Nat.le_of_ble_eq_true rfl) dX9_step_56) (fun r_11 S_11 hw => ?_)
            refine k_goto (pc := 59) C 64 dX9_step_59 (by decide) ?_
            exact hret _ _ _ _ dX9_step_64 hw
        · have hw := hw.2 q_7
          refine k_iconst (v := (-1)) (pc := 40) C dX9_step_40 (by decide) ?_
          exact hret _ _ _ _ dX9_step_41 hw
def wp_X9_many (a1 : Int32) (S : Sg) (Q : Int32 → Sg → Prop) : Prop :=
  wp_X9_markAt a1 S (fun o_1 S_1 => (o_1 = none → Q (-1) S_1) ∧ (∀ j_1 : Nat, o_1 = some j_1 → wp_X5_gather j_1 0 S_1 (fun S_2 => wp_X5_size S_2 (fun r_3 S_3 => Q r_3 S_3))))
set_option maxHeartbeats 4000000 in
set_option maxRecDepth 100000 in
theorem ct_X9_many (l : Launch) (D : va_G) (cA : Nat → ClassId) (ad : Nat → Nat → Nat) (a1 : Int32) (S : Sg) (Q : Int32 → Sg → Prop) (hw : wp_X9_many a1 S Q) : CtI l yX9_many wsX9_many (mkR 4 93) D cA ad [.ref (ad 0 0), .int a1] S Q := by
  refine ct_ofI (cc := cX9_many) (nL := 3) (by decide) rfl (Nat.le_of_ble_eq_true rfl) ?_
  intro p e s m args below meth c A Q C hret
  unfold wp_X9_many at hw
  have C : Cx p s m args c cX9_many 3 wsX9_many RX9 D cA A := C
  have hin9 : ∀ w ∈ u_ws RX9 TX9 8, w ∈ wsX9_many := fun w h => List.mem_cons_of_mem _ (List.mem_append_left _ (List.mem_append_left _ (List.mem_append_left _ (List.mem_append_left _ (List.mem_append_left _ (List.mem_append_right _ h))))))
  have f18 : Cond.fieldLink RX9 18 "CreepBoard" "series" "LCreepBoard$Series;" ∈ wsX9_many := by decide +kernel
  change KK p l e (mkR 4 93) s m args below meth c 3 D cA ad A Q 0 [(0, .ref (ad 0 0)), (1, .int a1)] [] S
  refine k_aload_n (pc := 0) C dX9_many_0 0 rfl rfl ?_
  refine k_iload_n (pc := 1) C dX9_many_1 1 rfl rfl ?_
  refine k_afterQ (pc := 2) C 26 (wp_X9_markAt a1 S) hw (fun post hw => by
      exact rn_V C (ct_X9_markAt l D cA ad a1 S post hw) (cwV 1 C.2.2.2.2.1 gX9_many_X9_markAt rfl rfl rfl (by decide +kernel) ⟨Nat.le_of_ble_eq_true rfl, Nat.le_of_ble_eq_true rfl⟩) hm_0 (cel_0 cA ad S 0) rfl rfl rfl rfl (Nat.le_of_ble_eq_true rfl) dX9_many_2) (fun S_1 hw => ?_) (fun j_1 S_1 hw => ?_)
  · have hw := hw.1 rfl
    refine k_astore_nN (pc := 5) C dX9_many_5 rfl (by decide) [(2, .null), (0, .ref (ad 0 0)), (1, .int a1)] rfl ?_
    refine k_aload_nN (pc := 6) C dX9_many_6 0 rfl rfl ?_
    refine k_ifnonnullN (pc := 7) C dX9_many_7 ?_
    refine k_iconst (v := (-1)) (pc := 10) C dX9_many_10 (by decide) ?_
    exact hret _ _ _ _ dX9_many_11 hw
  · have hw := hw.2 j_1 rfl
    refine k_astore_n (pc := 5) C dX9_many_5 rfl (by decide) [(2, .ref (ad 26 j_1)), (0, .ref (ad 0 0)), (1, .int a1)] rfl ?_
    refine k_aload_n (pc := 6) C dX9_many_6 0 rfl rfl ?_
    refine k_ifnonnull (pc := 7) C 12 dX9_many_7 (by decide) ?_
    refine k_aload_n (pc := 12) C dX9_many_12 1 rfl rfl ?_
    refine k_get (j := 1) (pc := 13) C hin9 hm_0 (cel_0 cA ad S_1 0) rfl (by decide) f18 (fun _ h => h) rfl dX9_many_13 ?_
    refine k_aload_n (pc := 16) C dX9_many_16 0 rfl rfl ?_
    refine k_iconst (v := 0) (pc := 17) C dX9_many_17 (by decide) ?_
    refine k_afterV (pc := 18) C (wp_X5_gather j_1 0 S_1) hw (fun post hw => by
        exact rn_V C (ct_X5_gather l D cA ad j_1 0 S_1 post hw) (cwV 2 C.2.2.2.2.1 gX9_many_X5_gather rfl rfl rfl (by decide +kernel) ⟨Nat.le_of_ble_eq_true rfl, Nat.le_of_ble_eq_true rfl⟩) hm_3 (cel_3 cA ad S_1 0) rfl rfl rfl rfl (Nat.le_of_ble_eq_true rfl) dX9_many_18) (fun S_2 hw => ?_)
    refine k_aload_n (pc := 21) C dX9_many_21 1 rfl rfl ?_
    refine k_get (j := 1) (pc := 22) C hin9 hm_0 (cel_0 cA ad S_2 0) rfl (by decide) f18 (fun _ h => h) rfl dX9_many_22 ?_
    refine k_afterI (pc := 25) C (wp_X5_size S_2) hw (fun post hw => by
        exact rn_V C (ct_X5_size l D cA ad S_2 post hw) (cwV 0 C.2.2.2.2.1 gX9_many_X5_size rfl rfl rfl (by decide +kernel) ⟨Nat.le_of_ble_eq_true rfl, Nat.le_of_ble_eq_true rfl⟩) hm_3 (cel_3 cA ad S_2 0) rfl rfl rfl rfl (Nat.le_of_ble_eq_true rfl) dX9_many_25) (fun r_3 S_3 hw => ?_)
    exact hret _ _ _ _ dX9_many_28 hw
def wp_X9_jump (a1 : Int32) (a2 : Int32) (S : Sg) (Q : Int32 → Sg → Prop) : Prop :=
  wp_X9_markAt a1 S (fun o_1 S_1 => (o_1 = none → Q (-1) S_1) ∧ (∀ j_1 : Nat, o_1 = some j_1 → wp_X9_isSide a2 S_1 (fun r_2 S_2 => ((¬ r_2 = 0 → wp_X5_gather j_1 a2 S_2 (fun S_4 => wp_X5_jumpEpoch S_4 (fun r_5 S_5 => Q r_5 S_5))) ∧ (r_2 = 0 → Q (-1) S_2)))))
set_option maxHeartbeats 4000000 in
set_option maxRecDepth 100000 in
theorem ct_X9_jump (l : Launch) (D : va_G) (cA : Nat → ClassId) (ad : Nat → Nat → Nat) (a1 : Int32) (a2 : Int32) (S : Sg) (Q : Int32 → Sg → Prop) (hw : wp_X9_jump a1 a2 S Q) : CtI l yX9_jump wsX9_jump (mkR 4 93) D cA ad [.ref (ad 0 0), .int a1, .int a2] S Q := by
  refine ct_ofI (cc := cX9_jump) (nL := 4) (by decide) rfl (Nat.le_of_ble_eq_true rfl) ?_
  intro p e s m args below meth c A Q C hret
  unfold wp_X9_jump at hw
  have C : Cx p s m args c cX9_jump 4 wsX9_jump RX9 D cA A := C
  have hin9 : ∀ w ∈ u_ws RX9 TX9 8, w ∈ wsX9_jump := fun w h => List.mem_cons_of_mem _ (List.mem_append_left _ (List.mem_append_left _ (List.mem_append_left _ (List.mem_append_left _ (List.mem_append_left _ (List.mem_append_right _ h))))))
  have f18 : Cond.fieldLink RX9 18 "CreepBoard" "series" "LCreepBoard$Series;" ∈ wsX9_jump := by decide +kernel
  change KK p l e (mkR 4 93) s m args below meth c 4 D cA ad A Q 0 [(0, .ref (ad 0 0)), (1, .int a1), (2, .int a2)] [] S
  refine k_aload_n (pc := 0) C dX9_jump_0 0 rfl rfl ?_
  refine k_iload_n (pc := 1) C dX9_jump_1 1 rfl rfl ?_
  refine k_afterQ (pc := 2) C 26 (wp_X9_markAt a1 S) hw (fun post hw => by
      exact rn_V C (ct_X9_markAt l D cA ad a1 S post hw) (cwV 1 C.2.2.2.2.1 gX9_jump_X9_markAt rfl rfl rfl (by decide +kernel) ⟨Nat.le_of_ble_eq_true rfl, Nat.le_of_ble_eq_true rfl⟩) hm_0 (cel_0 cA ad S 0) rfl rfl rfl rfl (Nat.le_of_ble_eq_true rfl) dX9_jump_2) (fun S_1 hw => ?_) (fun j_1 S_1 hw => ?_)
  · have hw := hw.1 rfl
    refine k_astore_nN (pc := 5) C dX9_jump_5 rfl (by decide) [(3, .null), (0, .ref (ad 0 0)), (1, .int a1), (2, .int a2)] rfl ?_
    refine k_aload_nN (pc := 6) C dX9_jump_6 0 rfl rfl ?_
    refine k_ifnullN (pc := 7) C 17 dX9_jump_7 (by decide) ?_
    refine k_iconst (v := (-1)) (pc := 17) C dX9_jump_17 (by decide) ?_
    exact hret _ _ _ _ dX9_jump_18 hw
  · have hw := hw.2 j_1 rfl
    refine k_astore_n (pc := 5) C dX9_jump_5 rfl (by decide) [(3, .ref (ad 26 j_1)), (0, .ref (ad 0 0)), (1, .int a1), (2, .int a2)] rfl ?_
    refine k_aload_n (pc := 6) C dX9_jump_6 0 rfl rfl ?_
    refine k_ifnull (pc := 7) C dX9_jump_7 ?_
    refine k_iload_n (pc := 10) C dX9_jump_10 3 rfl rfl ?_
    refine k_afterI (pc := 11) C (wp_X9_isSide a2 S_1) hw (fun post hw => by
        exact rn_S C (ct_X9_isSide l D cA ad a2 S_1 post hw) (va_cwS 1 C.2.2.2.2.1 gX9_jump_X9_isSide rfl rfl rfl (by decide +kernel) ⟨Nat.le_of_ble_eq_true rfl, Nat.le_of_ble_eq_true rfl⟩) rfl rfl (Nat.le_of_ble_eq_true rfl) dX9_jump_11) (fun r_2 S_2 hw => ?_)
    refine k_if_ne (pc := 14) C 19 dX9_jump_14 (by decide) (fun q_3 => ?_) (fun q_3 => ?_)
    · have hw := hw.1 q_3
      refine k_aload_n (pc := 19) C dX9_jump_19 1 rfl rfl ?_
      refine k_get (j := 1) (pc := 20) C hin9 hm_0 (cel_0 cA ad S_2 0) rfl (by decide) f18 (fun _ h => h) rfl dX9_jump_20 ?_
      refine k_aload_n (pc := 23) C dX9_jump_23 0 rfl rfl ?_
      refine k_iload_n (pc := 24) C dX9_jump_24 3 rfl rfl ?_
      refine k_afterV (pc := 25) C (wp_X5_gather j_1 a2 S_2) hw (fun post hw => by
          exact rn_V C (ct_X5_gather l D cA ad j_1 a2 S_2 post hw) (cwV 2 C.2.2.2.2.1 gX9_jump_X5_gather rfl rfl rfl (by decide +kernel) ⟨Nat.le_of_ble_eq_true rfl, Nat.le_of_ble_eq_true rfl⟩) hm_3 (cel_3 cA ad S_2 0) rfl rfl rfl rfl (Nat.le_of_ble_eq_true rfl) dX9_jump_25) (fun S_4 hw => ?_)
      refine k_aload_n (pc := 28) C dX9_jump_28 1 rfl rfl ?_
      refine k_get (j := 1) (pc := 29) C hin9 hm_0 (cel_0 cA ad S_4 0) rfl (by decide) f18 (fun _ h => h) rfl dX9_jump_29 ?_
      refine k_afterI (pc := 32) C (wp_X5_jumpEpoch S_4) hw (fun post hw => by
          exact rn_V C (ct_X5_jumpEpoch l D cA ad S_4 post hw) (cwV 0 C.2.2.2.2.1 gX9_jump_X5_jumpEpoch rfl rfl rfl (by decide +kernel) ⟨Nat.le_of_ble_eq_true rfl, Nat.le_of_ble_eq_true rfl⟩) hm_3 (cel_3 cA ad S_4 0) rfl rfl rfl rfl (Nat.le_of_ble_eq_true rfl) dX9_jump_32) (fun r_5 S_5 hw => ?_)
      exact hret _ _ _ _ dX9_jump_35 hw
    · have hw := hw.2 q_3
      refine k_iconst (v := (-1)) (pc := 17) C dX9_jump_17 (by decide) ?_
      exact hret _ _ _ _ dX9_jump_18 hw
def wp_X9_velocity (a1 : Int32) (a2 : Int32) (a3 : Int32) (S : Sg) (Q : Int32 → Sg → Prop) : Prop :=
  wp_X9_markAt a1 S (fun o_1 S_1 => (o_1 = none → Q (-1) S_1) ∧ (∀ j_1 : Nat, o_1 = some j_1 → wp_X9_within a2 1000 S_1 (fun r_2 S_2 => ((r_2 = 0 → Q (-1) S_2) ∧ (¬ r_2 = 0 → wp_X9_within a3 1000 S_2 (fun r_4 S_4 => ((¬ r_4 = 0 → (j_1 < nM S_4 ∧ wp_X3_speed j_1 0 S_4 (fun r_6 S_6 => (∃ J_8 : Int32 → Sg → Prop, (∀ (t0_8 : Int32) (S_8 : Sg), J_8 t0_8 S_8 → (j_1 < nM S_8 ∧ wp_X3_setSpeed j_1 a2 a3 S_8 (fun S_9 => wp_X9_forgetMotion S_9 (fun S_11 => ((t0_8 = 0 → Q 0 S_11) ∧ (¬ t0_8 = 0 → Q 1 S_11)))))) ∧ (∃ J_13 : Sg → Prop, (∀ (S_13 : Sg), J_13 S_13 → J_8 1 S_13) ∧ ((¬ r_6 = a2 → J_13 S_6) ∧ (r_6 = a2 → (j_1 < nM S_6 ∧ wp_X3_speed j_1 1 S_6 (fun r_15 S_15 => ((r_15 = a3 → J_8 0 S_15) ∧ (¬ r_15 = a3 → J_13 S_15))))))))))) ∧ (r_4 = 0 → Q (-1) S_4))))))))
set_option maxHeartbeats 4000000 in
set_option maxRecDepth 100000 in
theorem ct_X9_velocity (l : Launch) (D : va_G) (cA : Nat → ClassId) (ad : Nat → Nat → Nat) (a1 : Int32) (a2 : Int32) (a3 : Int32) (S : Sg) (Q : Int32 → Sg → Prop) (hw : wp_X9_velocity a1 a2 a3 S Q) : CtI l yX9_velocity wsX9_velocity (mkR 2 40) D cA ad [.ref (ad 0 0), .int a1, .int a2, .int a3] S Q := by
  refine ct_ofI (cc := cX9_velocity) (nL := 6) (by decide) rfl (Nat.le_of_ble_eq_true rfl) ?_
  intro p e s m args below meth c A Q C hret
  unfold wp_X9_velocity at hw
  have C : Cx p s m args c cX9_velocity 6 wsX9_velocity RX9 D cA A := C
  change KK p l e (mkR 2 40) s m args below meth c 6 D cA ad A Q 0 [(0, .ref (ad 0 0)), (1, .int a1), (2, .int a2), (3, .int a3)] [] S
  refine k_aload_n (pc := 0) C dX9_velocity_0 0 rfl rfl ?_
  refine k_iload_n (pc := 1) C dX9_velocity_1 1 rfl rfl ?_
  refine k_afterQ (pc := 2) C 26 (wp_X9_markAt a1 S) hw (fun post hw => by
      exact rn_V C (ct_X9_markAt l D cA ad a1 S post hw) (cwV 1 C.2.2.2.2.1 gX9_velocity_X9_markAt rfl rfl rfl (by decide +kernel) ⟨Nat.le_of_ble_eq_true rfl, Nat.le_of_ble_eq_true rfl⟩) hm_0 (cel_0 cA ad S 0) rfl rfl rfl rfl (Nat.le_of_ble_eq_true rfl) dX9_velocity_2) (fun S_1 hw => ?_) (fun j_1 S_1 hw => ?_)
  · have hw := hw.1 rfl
    refine k_astoreN (pc := 5) C dX9_velocity_5 (by decide) [(4, .null), (0, .ref (ad 0 0)), (1, .int a1), (2, .int a2), (3, .int a3)] rfl ?_
    refine k_aloadN (pc := 7) C dX9_velocity_7 0 rfl ?_
    refine k_ifnullN (pc := 9) C 32 dX9_velocity_9 (by decide) ?_
    refine k_iconst (v := (-1)) (pc := 32) C dX9_velocity_32 (by decide) ?_
    exact hret _ _ _ _ dX9_velocity_33 hw
  · have hw := hw.2 j_1 rfl
    refine k_astore (pc := 5) C dX9_velocity_5 (by decide) [(4, .ref (ad 26 j_1)), (0, .ref (ad 0 0)), (1, .int a1), (2, .int a2), (3, .int a3)] rfl ?_
    refine k_aload (pc := 7) C dX9_velocity_7 0 rfl ?_
    refine k_ifnull (pc := 9) C dX9_velocity_9 ?_
    refine k_iload_n (pc := 12) C dX9_velocity_12 3 rfl rfl ?_
    refine k_sipush (v := 1000) (pc := 13) C dX9_velocity_13 (by decide) ?_
    refine k_afterI (pc := 16) C (wp_X9_within a2 1000 S_1) hw (fun post hw => by
        exact rn_S C (ct_X9_within l D cA ad a2 1000 S_1 post hw) (va_cwS 2 C.2.2.2.2.1 gX9_velocity_X9_within rfl rfl rfl (by decide +kernel) ⟨Nat.le_of_ble_eq_true rfl, Nat.le_of_ble_eq_true rfl⟩) rfl rfl (Nat.le_of_ble_eq_true rfl) dX9_velocity_16) (fun r_2 S_2 hw => ?_)
    refine k_if_eq (pc := 19) C 32 dX9_velocity_19 (by decide) (fun q_3 => ?_) (fun q_3 => ?_)
    · have hw := hw.1 q_3
      refine k_iconst (v := (-1)) (pc := 32) C dX9_velocity_32 (by decide) ?_
      exact hret _ _ _ _ dX9_velocity_33 hw
    · have hw := hw.2 q_3
      refine k_iload_n (pc := 22) C dX9_velocity_22 4 rfl rfl ?_
      refine k_sipush (v := 1000) (pc := 23) C dX9_velocity_23 (by decide) ?_
      refine k_afterI (pc := 26) C (wp_X9_within a3 1000 S_2) hw (fun post hw => by
          exact rn_S C (ct_X9_within l D cA ad a3 1000 S_2 post hw) (va_cwS 2 C.2.2.2.2.1 gX9_velocity_X9_within rfl rfl rfl (by decide +kernel) ⟨Nat.le_of_ble_eq_true rfl, Nat.le_of_ble_eq_true rfl⟩) rfl rfl (Nat.le_of_ble_eq_true rfl) dX9_velocity_26) (fun r_4 S_4 hw => ?_)
      refine k_if_ne (pc := 29) C 34 dX9_velocity_29 (by decide) (fun q_5 => ?_) (fun q_5 => ?_)
      · have hw := hw.1 q_5
        refine k_aload (pc := 34) C dX9_velocity_34 0 rfl ?_
        refine k_iconst (v := 0) (pc := 36) C dX9_velocity_36 (by decide) ?_
        obtain ⟨h_7, hw⟩ := hw
        refine k_afterI (pc := 37) C (wp_X3_speed j_1 0 S_4) hw (fun post hw => by
            rcases kd4 S_4 j_1 with h | h | h | h
            · exact rn_V C (ct_X3_speed l D cA ad j_1 0 S_4 post hw) (cwV 1 C.2.2.2.2.1 gX9_velocity_X3_speed rfl rfl rfl (by decide +kernel) ⟨Nat.le_of_ble_eq_true rfl, Nat.le_of_ble_eq_true rfl⟩) (mm_26 h_7) (celM_0 h) rfl rfl rfl rfl (Nat.le_of_ble_eq_true rfl) dX9_velocity_37
            · exact rn_U C (ct_X3_speed l D cA ad j_1 0 S_4 post hw) (va_cwU 1 C.2.2.2.2.1 gX9_velocity_X3_speed_u149X4 rfl rfl rfl rfl (by decide +kernel) ⟨Nat.le_of_ble_eq_true rfl, Nat.le_of_ble_eq_true rfl⟩) (mm_26 h_7) (celM_1 h) rfl rfl rfl rfl (Nat.le_of_ble_eq_true rfl) dX9_velocity_37
            · exact rn_U C (ct_X3_speed l D cA ad j_1 0 S_4 post hw) (va_cwU 1 C.2.2.2.2.1 gX9_velocity_X3_speed_u149X8 rfl rfl rfl rfl (by decide +kernel) ⟨Nat.le_of_ble_eq_true rfl, Nat.le_of_ble_eq_true rfl⟩) (mm_26 h_7) (celM_2 h) rfl rfl rfl rfl (Nat.le_of_ble_eq_true rfl) dX9_velocity_37
            · exact rn_U C (ct_X3_speed l D cA ad j_1 0 S_4 post hw) (va_cwU 1 C.2.2.2.2.1 gX9_velocity_X3_speed_u149X1 rfl rfl rfl rfl (by decide +kernel) ⟨Nat.le_of_ble_eq_true rfl, Nat.le_of_ble_eq_true rfl⟩) (mm_26 h_7) (celM_3 h) rfl rfl rfl rfl (Nat.le_of_ble_eq_true rfl) dX9_velocity_37) (fun r_6 S_6 hw => ?_)
        refine k_iload_n (pc := 40) C dX9_velocity_40 3 rfl rfl ?_
        obtain ⟨J_8, hj_8, hw⟩ := hw
        have j_8 : ∀ (t0_8 : Int32) (S_8 : Sg), J_8 t0_8 S_8 → KK p l e (mkR 2 40) s m args below meth c 6 D cA ad A Q 59 [(0, .ref (ad 0 0)), (2, .int a2), (3, .int a3), (4, .ref (ad 26 j_1))] [.int t0_8] S_8 := by
          intro t0_8 S_8 hw
          have hw := hj_8 t0_8 S_8 hw
          refine k_istore (pc := 59) C dX9_velocity_59 (by decide) [(5, .int t0_8), (0, .ref (ad 0 0)), (2, .int a2), (3, .int a3), (4, .ref (ad 26 j_1))] rfl ?_
          refine k_aload (pc := 61) C dX9_velocity_61 4 rfl ?_
          refine k_iload_n (pc := 63) C dX9_velocity_63 2 rfl rfl ?_
          refine k_iload_n (pc := 64) C dX9_velocity_64 3 rfl rfl ?_
          obtain ⟨h_10, hw⟩ := hw
          refine k_afterV (pc := 65) C (wp_X3_setSpeed j_1 a2 a3 S_8) hw (fun post hw => by
              rcases kd4 S_8 j_1 with h | h | h | h
              · exact rn_V C (ct_X3_setSpeed l D cA ad j_1 a2 a3 S_8 post hw) (cwV 2 C.2.2.2.2.1 gX9_velocity_X3_setSpeed rfl rfl rfl (by decide +kernel) ⟨Nat.le_of_ble_eq_true rfl, Nat.le_of_ble_eq_true rfl⟩) (mm_26 h_10) (celM_0 h) rfl rfl rfl rfl (Nat.le_of_ble_eq_true rfl) dX9_velocity_65
              · exact rn_U C (ct_X3_setSpeed l D cA ad j_1 a2 a3 S_8 post hw) (va_cwU 2 C.2.2.2.2.1 gX9_velocity_X3_setSpeed_u152X4 rfl rfl rfl rfl (by decide +kernel) ⟨Nat.le_of_ble_eq_true rfl, Nat.le_of_ble_eq_true rfl⟩) (mm_26 h_10) (celM_1 h) rfl rfl rfl rfl (Nat.le_of_ble_eq_true rfl) dX9_velocity_65
              · exact rn_U C (ct_X3_setSpeed l D cA ad j_1 a2 a3 S_8 post hw) (va_cwU 2 C.2.2.2.2.1 gX9_velocity_X3_setSpeed_u152X8 rfl rfl rfl rfl (by decide +kernel) ⟨Nat.le_of_ble_eq_true rfl, Nat.le_of_ble_eq_true rfl⟩) (mm_26 h_10) (celM_2 h) rfl rfl rfl rfl (Nat.le_of_ble_eq_true rfl) dX9_velocity_65
              · exact rn_U C (ct_X3_setSpeed l D cA ad j_1 a2 a3 S_8 post hw) (va_cwU 2 C.2.2.2.2.1 gX9_velocity_X3_setSpeed_u152X1 rfl rfl rfl rfl (by decide +kernel) ⟨Nat.le_of_ble_eq_true rfl, Nat.le_of_ble_eq_true rfl⟩) (mm_26 h_10) (celM_3 h) rfl rfl rfl rfl (Nat.le_of_ble_eq_true rfl) dX9_velocity_65) (fun S_9 hw => ?_)
          refine k_aload_n (pc := 68) C dX9_velocity_68 1 rfl rfl ?_
          refine k_afterV (pc := 69) C (wp_X9_forgetMotion S_9) hw (fun post hw => by
              exact rn_V C (ct_X9_forgetMotion l D cA ad S_9 post hw) (cwV 0 C.2.2.2.2.1 gX9_velocity_X9_forgetMotion rfl rfl rfl (by decide +kernel) ⟨Nat.le_of_ble_eq_true rfl, Nat.le_of_ble_eq_true rfl⟩) hm_0 (cel_0 cA ad S_9 0) rfl rfl rfl rfl (Nat.le_of_ble_eq_true rfl) dX9_velocity_69) (fun S_11 hw => ?_)
          refine k_iload (pc := 72) C dX9_velocity_72 0 rfl ?_
          refine k_if_eq (pc := 74) C 81 dX9_velocity_74 (by decide) (fun q_12 => ?_) (fun q_12 => ?_)
          · have hw := hw.1 q_12
            refine k_iconst (v := 0) (pc := 81) C dX9_velocity_81 (by decide) ?_
            exact hret _ _ _ _ dX9_velocity_82 hw
          · have hw := hw.2 q_12
            refine k_iconst (v := 1) (pc := 77) C dX9_velocity_77 (by decide) ?_
            refine k_goto (pc := 78) C 82 dX9_velocity_78 (by decide) ?_
            exact hret _ _ _ _ dX9_velocity_82 hw
        obtain ⟨J_13, hj_13, hw⟩ := hw
        have j_13 : ∀ (S_13 : Sg), J_13 S_13 → KK p l e (mkR 2 40) s m args below meth c 6 D cA ad A Q 54 [(0, .ref (ad 0 0)), (2, .int a2), (3, .int a3), (4, .ref (ad 26 j_1))] [] S_13 := by
          intro S_13 hw
          have hw := hj_13 S_13 hw
          refine k_iconst (v := 1) (pc := 54) C dX9_velocity_54 (by decide) ?_
          refine k_goto (pc := 55) C 59 dX9_velocity_55 (by decide) ?_
          refine k_sub [0, 1, 2, 3] [(0, .ref (ad 0 0)), (2, .int a2), (3, .int a3), (4, .ref (ad 26 j_1))] rfl ?_
          exact j_8 1 S_13 hw
        refine k_icmp_ne (pc := 41) C 54 dX9_velocity_41 (by decide) (fun q_14 => ?_) (fun q_14 => ?_)
        · have hw := hw.1 q_14
          refine k_sub [1, 3, 4, 0] [(0, .ref (ad 0 0)), (2, .int a2), (3, .int a3), (4, .ref (ad 26 j_1))] rfl ?_
          exact j_13 S_6 hw
        · have hw := hw.2 q_14
          refine k_aload (pc := 44) C dX9_velocity_44 0 rfl ?_
          refine k_iconst (v := 1) (pc := 46) C dX9_velocity_46 (by decide) ?_
          obtain ⟨h_16, hw⟩ := hw
          refine k_afterI (pc := 47) C (wp_X3_speed j_1 1 S_6) hw (fun post hw => by
              rcases kd4 S_6 j_1 with h | h | h | h
              · exact rn_V C (ct_X3_speed l D cA ad j_1 1 S_6 post hw) (cwV 1 C.2.2.2.2.1 gX9_velocity_X3_speed rfl rfl rfl (by decide +kernel) ⟨Nat.le_of_ble_eq_true rfl, Nat.le_of_ble_eq_true rfl⟩) (mm_26 h_16) (celM_0 h) rfl rfl rfl rfl (Nat.le_of_ble_eq_true rfl) dX9_velocity_47
              · exact rn_U C (ct_X3_speed l D cA ad j_1 1 S_6 post hw) (va_cwU 1 C.2.2.2.2.1 gX9_velocity_X3_speed_u149X4 rfl rfl rfl rfl (by decide +kernel) ⟨Nat.le_of_ble_eq_true rfl, Nat.le_of_ble_eq_true rfl⟩) (mm_26 h_16) (celM_1 h) rfl rfl rfl rfl (Nat.le_of_ble_eq_true rfl) dX9_velocity_47
              · exact rn_U C (ct_X3_speed l D cA ad j_1 1 S_6 post hw) (va_cwU 1 C.2.2.2.2.1 gX9_velocity_X3_speed_u149X8 rfl rfl rfl rfl (by decide +kernel) ⟨Nat.le_of_ble_eq_true rfl, Nat.le_of_ble_eq_true rfl⟩) (mm_26 h_16) (celM_2 h) rfl rfl rfl rfl (Nat.le_of_ble_eq_true rfl) dX9_velocity_47
              · exact rn_U C (ct_X3_speed l D cA ad j_1 1 S_6 post hw) (va_cwU 1 C.2.2.2.2.1 gX9_velocity_X3_speed_u149X1 rfl rfl rfl rfl (by decide +kernel) ⟨Nat.le_of_ble_eq_true rfl, Nat.le_of_ble_eq_true rfl⟩) (mm_26 h_16) (celM_3 h) rfl rfl rfl rfl (Nat.le_of_ble_eq_true rfl) dX9_velocity_47) (fun r_15 S_15 hw => ?_)
          refine k_iload_n (pc := 50) C dX9_velocity_50 4 rfl rfl ?_
          refine k_icmp_eq (pc := 51) C 58 dX9_velocity_51 (by decide) (fun q_17 => ?_) (fun q_17 => ?_)
          · have hw := hw.1 q_17
            refine k_iconst (v := 0) (pc := 58) C dX9_velocity_58 (by decide) ?_
            refine k_sub [1, 3, 4, 0] [(0, .ref (ad 0 0)), (2, .int a2), (3, .int a3), (4, .ref (ad 26 j_1))] rfl ?_
            exact j_8 0 S_15 hw
          · have hw := hw.2 q_17
            refine k_sub [1, 3, 4, 0] [(0, .ref (ad 0 0)), (2, .int a2), (3, .int a3), (4, .ref (ad 26 j_1))] rfl ?_
            exact j_13 S_15 hw
      · have hw := hw.2 q_5
        refine k_iconst (v := (-1)) (pc := 32) C dX9_velocity_32 (by decide) ?_
        exact hret _ _ _ _ dX9_velocity_33 hw
def wp_X9_frame (a1 : Int32) (a2 : Int32) (a3 : Int32) (S : Sg) (Q : Int32 → Sg → Prop) : Prop :=
  wp_X9_within a1 1000 S (fun r_1 S_1 => ((r_1 = 0 → Q (-1) S_1) ∧ (¬ r_1 = 0 → wp_X9_within a2 1000 S_1 (fun r_3 S_3 => ((r_3 = 0 → Q (-1) S_3) ∧ (¬ r_3 = 0 → wp_X9_within a3 9 S_3 (fun r_5 S_5 => ((¬ r_5 = 0 → (∃ (I_7 : Int32 → Sg → Prop) (μ_7 : Int32 → Sg → Nat), I_7 0 S_5 ∧ ∀ (v4_7 : Int32) (S_7 : Sg), I_7 v4_7 S_7 → (((gI S_7 0 0 6) ≤ v4_7 → (∃ (I_9 : Int32 → Sg → Prop) (μ_9 : Int32 → Sg → Nat), I_9 0 S_7 ∧ ∀ (v4_9 : Int32) (S_9 : Sg), I_9 v4_9 S_9 → (((gI S_9 0 0 6) ≤ v4_9 → wp_X9_forgetMotion S_9 (fun S_11 => Q 1 S_11)) ∧ (¬ (gI S_9 0 0 6) ≤ v4_9 → wp_X9_markAt v4_9 S_9 (fun o_12 S_12 => (o_12 = none → (∀ x4_13 : Int32, x4_13 = v4_9 + 1 → (I_9 x4_13 S_12 ∧ μ_9 x4_13 S_12 < μ_9 v4_9 S_9))) ∧ (∀ j_12 : Nat, o_12 = some j_12 → wp_X9_eastInFrame j_12 a1 a3 S_12 (fun r_14 S_14 => wp_X9_northInFrame j_12 a2 a3 S_14 (fun r_15 S_15 => (j_12 < nM S_15 ∧ wp_X3_setSpeed j_12 r_14 r_15 S_15 (fun S_16 => (∀ x4_18 : Int32, x4_18 = v4_9 + 1 → (I_9 x4_18 S_16 ∧ μ_9 x4_18 S_16 < μ_9 v4_9 S_9)))))))))))) ∧ (¬ (gI S_7 0 0 6) ≤ v4_7 → wp_X9_markAt v4_7 S_7 (fun o_19 S_19 => (o_19 = none → (∀ x4_20 : Int32, x4_20 = v4_7 + 1 → (I_7 x4_20 S_19 ∧ μ_7 x4_20 S_19 < μ_7 v4_7 S_7))) ∧ (∀ j_19 : Nat, o_19 = some j_19 → wp_X9_eastInFrame j_19 a1 a3 S_19 (fun r_21 S_21 => wp_X9_within r_21 100000 S_21 (fun r_22 S_22 => ((r_22 = 0 → Q (-2) S_22) ∧ (¬ r_22 = 0 → wp_X9_northInFrame j_19 a2 a3 S_22 (fun r_24 S_24 => wp_X9_within r_24 100000 S_24 (fun r_25 S_25 => ((¬ r_25 = 0 → (∀ x4_27 : Int32, x4_27 = v4_7 + 1 → (I_7 x4_27 S_25 ∧ μ_7 x4_27 S_25 < μ_7 v4_7 S_7))) ∧ (r_25 = 0 → Q (-2) S_25)))))))))))))) ∧ (r_5 = 0 → Q (-1) S_5)))))))))
set_option maxHeartbeats 4000000 in
set_option maxRecDepth 100000 in
theorem ct_X9_frame (l : Launch) (D : va_G) (cA : Nat → ClassId) (ad : Nat → Nat → Nat) (a1 : Int32) (a2 : Int32) (a3 : Int32) (S : Sg) (Q : Int32 → Sg → Prop) (hw : wp_X9_frame a1 a2 a3 S Q) : CtI l yX9_frame wsX9_frame (mkR 2 43) D cA ad [.ref (ad 0 0), .int a1, .int a2, .int a3] S Q := by
  refine ct_ofI (cc := cX9_frame) (nL := 6) (by decide) rfl (Nat.le_of_ble_eq_true rfl) ?_
  intro p e s m args below meth c A Q C hret
  unfold wp_X9_frame at hw
  have C : Cx p s m args c cX9_frame 6 wsX9_frame RX9 D cA A := C
  have hin9 : ∀ w ∈ u_ws RX9 TX9 8, w ∈ wsX9_frame := fun w h => List.mem_cons_of_mem _ (List.mem_append_left _ (List.mem_append_left _ (List.mem_append_left _ (List.mem_append_left _ (List.mem_append_left _ (List.mem_append_left _ (List.mem_append_right _ h)))))))
  have f54 : Cond.fieldLink RX9 54 "CreepBoard" "markCount" "I" ∈ wsX9_frame := by decide +kernel
  change KK p l e (mkR 2 43) s m args below meth c 6 D cA ad A Q 0 [(0, .ref (ad 0 0)), (1, .int a1), (2, .int a2), (3, .int a3)] [] S
  refine k_iload_n (pc := 0) C dX9_frame_0 1 rfl rfl ?_
  refine k_sipush (v := 1000) (pc := 1) C dX9_frame_1 (by decide) ?_
  refine k_afterI (pc := 4) C (wp_X9_within a1 1000 S) hw (fun post hw => by
      exact rn_S C (ct_X9_within l D cA ad a1 1000 S post hw) (va_cwS 2 C.2.2.2.2.1 gX9_frame_X9_within rfl rfl rfl (by decide +kernel) ⟨Nat.le_of_ble_eq_true rfl, Nat.le_of_ble_eq_true rfl⟩) rfl rfl (Nat.le_of_ble_eq_true rfl) dX9_frame_4) (fun r_1 S_1 hw => ?_)
  refine k_if_eq (pc := 7) C 29 dX9_frame_7 (by decide) (fun q_2 => ?_) (fun q_2 => ?_)
  · have hw := hw.1 q_2
    refine k_iconst (v := (-1)) (pc := 29) C dX9_frame_29 (by decide) ?_
    exact hret _ _ _ _ dX9_frame_30 hw
  · have hw := hw.2 q_2
    refine k_iload_n (pc := 10) C dX9_frame_10 2 rfl rfl ?_
    refine k_sipush (v := 1000) (pc := 11) C dX9_frame_11 (by decide) ?_
    refine k_afterI (pc := 14) C (wp_X9_within a2 1000 S_1) hw (fun post hw => by
        exact rn_S C (ct_X9_within l D cA ad a2 1000 S_1 post hw) (va_cwS 2 C.2.2.2.2.1 gX9_frame_X9_within rfl rfl rfl (by decide +kernel) ⟨Nat.le_of_ble_eq_true rfl, Nat.le_of_ble_eq_true rfl⟩) rfl rfl (Nat.le_of_ble_eq_true rfl) dX9_frame_14) (fun r_3 S_3 hw => ?_)
    refine k_if_eq (pc := 17) C 29 dX9_frame_17 (by decide) (fun q_4 => ?_) (fun q_4 => ?_)
    · have hw := hw.1 q_4
      refine k_iconst (v := (-1)) (pc := 29) C dX9_frame_29 (by decide) ?_
      exact hret _ _ _ _ dX9_frame_30 hw
    · have hw := hw.2 q_4
      refine k_iload_n (pc := 20) C dX9_frame_20 3 rfl rfl ?_
      refine k_bipush (v := 9) (pc := 21) C dX9_frame_21 (by decide) ?_
      refine k_afterI (pc := 23) C (wp_X9_within a3 9 S_3) hw (fun post hw => by
          exact rn_S C (ct_X9_within l D cA ad a3 9 S_3 post hw) (va_cwS 2 C.2.2.2.2.1 gX9_frame_X9_within rfl rfl rfl (by decide +kernel) ⟨Nat.le_of_ble_eq_true rfl, Nat.le_of_ble_eq_true rfl⟩) rfl rfl (Nat.le_of_ble_eq_true rfl) dX9_frame_23) (fun r_5 S_5 hw => ?_)
      refine k_if_ne (pc := 26) C 31 dX9_frame_26 (by decide) (fun q_6 => ?_) (fun q_6 => ?_)
      · have hw := hw.1 q_6
        refine k_iconst (v := 0) (pc := 31) C dX9_frame_31 (by decide) ?_
        refine k_istore (pc := 32) C dX9_frame_32 (by decide) [(4, .int 0), (0, .ref (ad 0 0)), (1, .int a1), (2, .int a2), (3, .int a3)] rfl ?_
        refine k_sub [1, 2, 3, 4, 0] [(0, .ref (ad 0 0)), (1, .int a1), (2, .int a2), (3, .int a3), (4, .int 0)] rfl ?_
        obtain ⟨I_7, μ_7, hi_7, hw⟩ := hw
        have L_7 : ∀ (n : Nat) (v4_7 : Int32) (S_7 : Sg), μ_7 v4_7 S_7 < n → I_7 v4_7 S_7 → KK p l e (mkR 2 43) s m args below meth c 6 D cA ad A Q 34 [(0, .ref (ad 0 0)), (1, .int a1), (2, .int a2), (3, .int a3), (4, .int v4_7)] [] S_7 := by
          intro n
          induction n with
          | zero => intro v4_7 S_7 h; exact absurd h (Nat.not_lt_zero _)
          | succ n ih_7 =>
            intro v4_7 S_7 hn_7 hi_7
            have hw := hw v4_7 S_7 hi_7
            refine k_iload (pc := 34) C dX9_frame_34 4 rfl ?_
            refine k_aload_n (pc := 36) C dX9_frame_36 0 rfl rfl ?_
            refine k_get (j := 6) (pc := 37) C hin9 hm_0 (cel_0 cA ad S_7 0) rfl (by decide) f54 (fun _ h => h) rfl dX9_frame_37 ?_
            refine k_icmp_ge (pc := 40) C 95 dX9_frame_40 (by decide) (fun q_8 => ?_) (fun q_8 => ?_)
            · have hw := hw.1 q_8
              refine k_iconst (v := 0) (pc := 95) C dX9_frame_95 (by decide) ?_
              refine k_istore (pc := 96) C dX9_frame_96 (by decide) [(4, .int 0), (0, .ref (ad 0 0)), (1, .int a1), (2, .int a2), (3, .int a3)] rfl ?_
              refine k_sub [1, 2, 3, 4, 0] [(0, .ref (ad 0 0)), (1, .int a1), (2, .int a2), (3, .int a3), (4, .int 0)] rfl ?_
              obtain ⟨I_9, μ_9, hi_9, hw⟩ := hw
              have L_9 : ∀ (n : Nat) (v4_9 : Int32) (S_9 : Sg), μ_9 v4_9 S_9 < n → I_9 v4_9 S_9 → KK p l e (mkR 2 43) s m args below meth c 6 D cA ad A Q 98 [(0, .ref (ad 0 0)), (1, .int a1), (2, .int a2), (3, .int a3), (4, .int v4_9)] [] S_9 := by
                intro n
                induction n with
                | zero => intro v4_9 S_9 h; exact absurd h (Nat.not_lt_zero _)
                | succ n ih_9 =>
                  intro v4_9 S_9 hn_9 hi_9
                  have hw := hw v4_9 S_9 hi_9
                  refine k_iload (pc := 98) C dX9_frame_98 4 rfl ?_
                  refine k_aload_n (pc := 100) C dX9_frame_100 0 rfl rfl ?_
                  refine k_get (j := 6) (pc := 101) C hin9 hm_0 (cel_0 cA ad S_9 0) rfl (by decide) f54 (fun _ h => h) rfl dX9_frame_101 ?_
                  refine k_icmp_ge (pc := 104) C 145 dX9_frame_104 (by decide) (fun q_10 => ?_) (fun q_10 => ?_)
                  · have hw := hw.1 q_10
                    refine k_aload_n (pc := 145) C dX9_frame_145 0 rfl rfl ?_
                    refine k_afterV (pc := 146) C (wp_X9_forgetMotion S_9) hw (fun post hw => by
                        exact rn_V C (ct_X9_forgetMotion l D cA ad S_9 post hw) (cwV 0 C.2.2.2.2.1 gX9_frame_X9_forgetMotion rfl rfl rfl (by decide +kernel) ⟨Nat.le_of_ble_eq_true rfl, Nat.le_of_ble_eq_true rfl⟩) hm_0 (cel_0 cA ad S_9 0) rfl rfl rfl rfl (Nat.le_of_ble_eq_true rfl) dX9_frame_146) (fun S_11 hw => ?_)
                    refine k_iconst (v := 1) (pc := 149) C dX9_frame_149 (by decide) ?_
                    exact hret _ _ _ _ dX9_frame_150 hw
                  · have hw := hw.2 q_10
                    refine k_aload_n (pc := 107) C dX9_frame_107 0 rfl rfl ?_
                    refine k_iload (pc := 108) C dX9_frame_108 4 rfl ?_
                    refine k_afterQ (pc := 110) C 26 (wp_X9_markAt v4_9 S_9) hw (fun post hw => by
                        exact rn_V C (ct_X9_markAt l D cA ad v4_9 S_9 post hw) (cwV 1 C.2.2.2.2.1 gX9_frame_X9_markAt rfl rfl rfl (by decide +kernel) ⟨Nat.le_of_ble_eq_true rfl, Nat.le_of_ble_eq_true rfl⟩) hm_0 (cel_0 cA ad S_9 0) rfl rfl rfl rfl (Nat.le_of_ble_eq_true rfl) dX9_frame_110) (fun S_12 hw => ?_) (fun j_12 S_12 hw => ?_)
                    · have hw := hw.1 rfl
                      refine k_astoreN (pc := 113) C dX9_frame_113 (by decide) [(5, .null), (0, .ref (ad 0 0)), (1, .int a1), (2, .int a2), (3, .int a3), (4, .int v4_9)] rfl ?_
                      refine k_aloadN (pc := 115) C dX9_frame_115 0 rfl ?_
                      refine k_ifnullN (pc := 117) C 139 dX9_frame_117 (by decide) ?_
                      obtain ⟨x4_13, ex4_13⟩ : ∃ y : Int32, y = v4_9 + 1 := ⟨_, rfl⟩
                      have hw := hw x4_13 ex4_13
                      refine k_iinc (v := x4_13) (j := 5) (pc := 139) C dX9_frame_139 rfl (by rw [ex4_13]; rfl) (by decide) [(4, .int x4_13), (5, .null), (0, .ref (ad 0 0)), (1, .int a1), (2, .int a2), (3, .int a3)] rfl ?_
                      refine k_goto (pc := 142) C 98 dX9_frame_142 (by decide) ?_
                      refine k_sub [2, 3, 4, 5, 0] [(0, .ref (ad 0 0)), (1, .int a1), (2, .int a2), (3, .int a3), (4, .int x4_13)] rfl ?_
                      exact ih_9 x4_13 S_12 (Nat.lt_of_lt_of_le hw.2 (Nat.le_of_lt_succ hn_9)) hw.1
                    · have hw := hw.2 j_12 rfl
                      refine k_astore (pc := 113) C dX9_frame_113 (by decide) [(5, .ref (ad 26 j_12)), (0, .ref (ad 0 0)), (1, .int a1), (2, .int a2), (3, .int a3), (4, .int v4_9)] rfl ?_
                      refine k_aload (pc := 115) C dX9_frame_115 0 rfl ?_
                      refine k_ifnull (pc := 117) C dX9_frame_117 ?_
                      refine k_aload (pc := 120) C dX9_frame_120 0 rfl ?_
                      refine k_aload (pc := 122) C dX9_frame_122 0 rfl ?_
                      refine k_iload_n (pc := 124) C dX9_frame_124 2 rfl rfl ?_
                      refine k_iload_n (pc := 125) C dX9_frame_125 4 rfl rfl ?_
                      refine k_afterI (pc := 126) C (wp_X9_eastInFrame j_12 a1 a3 S_12) hw (fun post hw => by
                          exact rn_S C (ct_X9_eastInFrame l D cA ad j_12 a1 a3 S_12 post hw) (va_cwS 3 C.2.2.2.2.1 gX9_frame_X9_eastInFrame rfl rfl rfl (by decide +kernel) ⟨Nat.le_of_ble_eq_true rfl, Nat.le_of_ble_eq_true rfl⟩) rfl rfl (Nat.le_of_ble_eq_true rfl) dX9_frame_126) (fun r_14 S_14 hw => ?_)
                      refine k_aload (pc := 129) C dX9_frame_129 0 rfl ?_
                      refine k_iload_n (pc := 131) C dX9_frame_131 3 rfl rfl ?_
                      refine k_iload_n (pc := 132) C dX9_frame_132 4 rfl rfl ?_
                      refine k_afterI (pc := 133) C (wp_X9_northInFrame j_12 a2 a3 S_14) hw (fun post hw => by
                          exact rn_S C (ct_X9_northInFrame l D cA ad j_12 a2 a3 S_14 post hw) (va_cwS 3 C.2.2.2.2.1 gX9_frame_X9_northInFrame rfl rfl rfl (by decide +kernel) ⟨Nat.le_of_ble_eq_true rfl, Nat.le_of_ble_eq_true rfl⟩) rfl rfl (Nat.le_of_ble_eq_true rfl) dX9_frame_133) (fun r_15 S_15 hw => ?_)
                      obtain ⟨h_17, hw⟩ := hw
                      refine k_afterV (pc := 136) C (wp_X3_setSpeed j_12 r_14 r_15 S_15) hw (fun post hw => by
                          rcases kd4 S_15 j_12 with h | h | h | h
                          · exact rn_V C (ct_X3_setSpeed l D cA ad j_12 r_14 r_15 S_15 post hw) (cwV 2 C.2.2.2.2.1 gX9_frame_X3_setSpeed rfl rfl rfl (by decide +kernel) ⟨Nat.le_of_ble_eq_true rfl, Nat.le_of_ble_eq_true rfl⟩) (mm_26 h_17) (celM_0 h) rfl rfl rfl rfl (Nat.le_of_ble_eq_true rfl) dX9_frame_136
                          · exact rn_U C (ct_X3_setSpeed l D cA ad j_12 r_14 r_15 S_15 post hw) (va_cwU 2 C.2.2.2.2.1 gX9_frame_X3_setSpeed_u152X4 rfl rfl rfl rfl (by decide +kernel) ⟨Nat.le_of_ble_eq_true rfl, Nat.le_of_ble_eq_true rfl⟩) (mm_26 h_17) (celM_1 h) rfl rfl rfl rfl (Nat.le_of_ble_eq_true rfl) dX9_frame_136
                          · exact rn_U C (ct_X3_setSpeed l D cA ad j_12 r_14 r_15 S_15 post hw) (va_cwU 2 C.2.2.2.2.1 gX9_frame_X3_setSpeed_u152X8 rfl rfl rfl rfl (by decide +kernel) ⟨Nat.le_of_ble_eq_true rfl, Nat.le_of_ble_eq_true rfl⟩) (mm_26 h_17) (celM_2 h) rfl rfl rfl rfl (Nat.le_of_ble_eq_true rfl) dX9_frame_136
                          · exact rn_U C (ct_X3_setSpeed l D cA ad j_12 r_14 r_15 S_15 post hw) (va_cwU 2 C.2.2.2.2.1 gX9_frame_X3_setSpeed_u152X1 rfl rfl rfl rfl (by decide +kernel) ⟨Nat.le_of_ble_eq_true rfl, Nat.le_of_ble_eq_true rfl⟩) (mm_26 h_17) (celM_3 h) rfl rfl rfl rfl (Nat.le_of_ble_eq_true rfl) dX9_frame_136) (fun S_16 hw => ?_)
                      obtain ⟨x4_18, ex4_18⟩ : ∃ y : Int32, y = v4_9 + 1 := ⟨_, rfl⟩
                      have hw := hw x4_18 ex4_18
                      refine k_iinc (v := x4_18) (j := 5) (pc := 139) C dX9_frame_139 rfl (by rw [ex4_18]; rfl) (by decide) [(4, .int x4_18), (5, .ref (ad 26 j_12)), (0, .ref (ad 0 0)), (1, .int a1), (2, .int a2), (3, .int a3)] rfl ?_
                      refine k_goto (pc := 142) C 98 dX9_frame_142 (by decide) ?_
                      refine k_sub [2, 3, 4, 5, 0] [(0, .ref (ad 0 0)), (1, .int a1), (2, .int a2), (3, .int a3), (4, .int x4_18)] rfl ?_
                      exact ih_9 x4_18 S_16 (Nat.lt_of_lt_of_le hw.2 (Nat.le_of_lt_succ hn_9)) hw.1
              exact L_9 (μ_9 0 S_7 + 1) 0 S_7 (Nat.lt_succ_self _) hi_9
            · have hw := hw.2 q_8
              refine k_aload_n (pc := 43) C dX9_frame_43 0 rfl rfl ?_
              refine k_iload (pc := 44) C dX9_frame_44 4 rfl ?_
              refine k_afterQ (pc := 46) C 26 (wp_X9_markAt v4_7 S_7) hw (fun post hw => by
                  exact rn_V C (ct_X9_markAt l D cA ad v4_7 S_7 post hw) (cwV 1 C.2.2.2.2.1 gX9_frame_X9_markAt rfl rfl rfl (by decide +kernel) ⟨Nat.le_of_ble_eq_true rfl, Nat.le_of_ble_eq_true rfl⟩) hm_0 (cel_0 cA ad S_7 0) rfl rfl rfl rfl (Nat.le_of_ble_eq_true rfl) dX9_frame_46) (fun S_19 hw => ?_) (fun j_19 S_19 hw => ?_)
              · have hw := hw.1 rfl
                refine k_astoreN (pc := 49) C dX9_frame_49 (by decide) [(5, .null), (0, .ref (ad 0 0)), (1, .int a1), (2, .int a2), (3, .int a3), (4, .int v4_7)] rfl ?_
                refine k_aloadN (pc := 51) C dX9_frame_51 0 rfl ?_
                refine k_ifnullN (pc := 53) C 89 dX9_frame_53 (by decide) ?_
                obtain ⟨x4_20, ex4_20⟩ : ∃ y : Int32, y = v4_7 + 1 := ⟨_, rfl⟩
                have hw := hw x4_20 ex4_20
                refine k_iinc (v := x4_20) (j := 5) (pc := 89) C dX9_frame_89 rfl (by rw [ex4_20]; rfl) (by decide) [(4, .int x4_20), (5, .null), (0, .ref (ad 0 0)), (1, .int a1), (2, .int a2), (3, .int a3)] rfl ?_
                refine k_goto (pc := 92) C 34 dX9_frame_92 (by decide) ?_
                refine k_sub [2, 3, 4, 5, 0] [(0, .ref (ad 0 0)), (1, .int a1), (2, .int a2), (3, .int a3), (4, .int x4_20)] rfl ?_
                exact ih_7 x4_20 S_19 (Nat.lt_of_lt_of_le hw.2 (Nat.le_of_lt_succ hn_7)) hw.1
              · have hw := hw.2 j_19 rfl
                refine k_astore (pc := 49) C dX9_frame_49 (by decide) [(5, .ref (ad 26 j_19)), (0, .ref (ad 0 0)), (1, .int a1), (2, .int a2), (3, .int a3), (4, .int v4_7)] rfl ?_
                refine k_aload (pc := 51) C dX9_frame_51 0 rfl ?_
                refine k_ifnull (pc := 53) C dX9_frame_53 ?_
                refine k_aload (pc := 56) C dX9_frame_56 0 rfl ?_
                refine k_iload_n (pc := 58) C dX9_frame_58 2 rfl rfl ?_
                refine k_iload_n (pc := 59) C dX9_frame_59 4 rfl rfl ?_
                refine k_afterI (pc := 60) C (wp_X9_eastInFrame j_19 a1 a3 S_19) hw (fun post hw => by
                    exact rn_S C (ct_X9_eastInFrame l D cA ad j_19 a1 a3 S_19 post hw) (va_cwS 3 C.2.2.2.2.1 gX9_frame_X9_eastInFrame rfl rfl rfl (by decide +kernel) ⟨Nat.le_of_ble_eq_true rfl, Nat.le_of_ble_eq_true rfl⟩) rfl rfl (Nat.le_of_ble_eq_true rfl) dX9_frame_60) (fun r_21 S_21 hw => ?_)
                refine k_ldc (pc := 63) C (C.2.2.2.2.1 (.constant RX9 79 (100000)) (by decide +kernel)) dX9_frame_63 ?_
                refine k_afterI (pc := 65) C (wp_X9_within r_21 100000 S_21) hw (fun post hw => by
                    exact rn_S C (ct_X9_within l D cA ad r_21 100000 S_21 post hw) (va_cwS 2 C.2.2.2.2.1 gX9_frame_X9_within rfl rfl rfl (by decide +kernel) ⟨Nat.le_of_ble_eq_true rfl, Nat.le_of_ble_eq_true rfl⟩) rfl rfl (Nat.le_of_ble_eq_true rfl) dX9_frame_65) (fun r_22 S_22 hw => ?_)
                refine k_if_eq (pc := 68) C 86 dX9_frame_68 (by decide) (fun q_23 => ?_) (fun q_23 => ?_)
                · have hw := hw.1 q_23
                  refine k_bipush (v := (-2)) (pc := 86) C dX9_frame_86 (by decide) ?_
                  exact hret _ _ _ _ dX9_frame_88 hw
                · have hw := hw.2 q_23
                  refine k_aload (pc := 71) C dX9_frame_71 0 rfl ?_
                  refine k_iload_n (pc := 73) C dX9_frame_73 3 rfl rfl ?_
                  refine k_iload_n (pc := 74) C dX9_frame_74 4 rfl rfl ?_
                  refine k_afterI (pc := 75) C (wp_X9_northInFrame j_19 a2 a3 S_22) hw (fun post hw => by
                      exact rn_S C (ct_X9_northInFrame l D cA ad j_19 a2 a3 S_22 post hw) (va_cwS 3 C.2.2.2.2.1 gX9_frame_X9_northInFrame rfl rfl rfl (by decide +kernel) ⟨Nat.le_of_ble_eq_true rfl, Nat.le_of_ble_eq_true rfl⟩) rfl rfl (Nat.le_of_ble_eq_true rfl) dX9_frame_75) (fun r_24 S_24 hw => ?_)
                  refine k_ldc (pc := 78) C (C.2.2.2.2.1 (.constant RX9 79 (100000)) (by decide +kernel)) dX9_frame_78 ?_
                  refine k_afterI (pc := 80) C (wp_X9_within r_24 100000 S_24) hw (fun post hw => by
                      exact rn_S C (ct_X9_within l D cA ad r_24 100000 S_24 post hw) (va_cwS 2 C.2.2.2.2.1 gX9_frame_X9_within rfl rfl rfl (by decide +kernel) ⟨Nat.le_of_ble_eq_true rfl, Nat.le_of_ble_eq_true rfl⟩) rfl rfl (Nat.le_of_ble_eq_true rfl) dX9_frame_80) (fun r_25 S_25 hw => ?_)
                  refine k_if_ne (pc := 83) C 89 dX9_frame_83 (by decide) (fun q_26 => ?_) (fun q_26 => ?_)
                  · have hw := hw.1 q_26
                    obtain ⟨x4_27, ex4_27⟩ : ∃ y : Int32, y = v4_7 + 1 := ⟨_, rfl⟩
                    have hw := hw x4_27 ex4_27
                    refine k_iinc (v := x4_27) (j := 5) (pc := 89) C dX9_frame_89 rfl (by rw [ex4_27]; rfl) (by decide) [(4, .int x4_27), (5, .ref (ad 26 j_19)), (0, .ref (ad 0 0)), (1, .int a1), (2, .int a2), (3, .int a3)] rfl ?_
                    refine k_goto (pc := 92) C 34 dX9_frame_92 (by decide) ?_
                    refine k_sub [2, 3, 4, 5, 0] [(0, .ref (ad 0 0)), (1, .int a1), (2, .int a2), (3, .int a3), (4, .int x4_27)] rfl ?_
                    exact ih_7 x4_27 S_25 (Nat.lt_of_lt_of_le hw.2 (Nat.le_of_lt_succ hn_7)) hw.1
                  · have hw := hw.2 q_26
                    refine k_bipush (v := (-2)) (pc := 86) C dX9_frame_86 (by decide) ?_
                    exact hret _ _ _ _ dX9_frame_88 hw
        exact L_7 (μ_7 0 S_5 + 1) 0 S_5 (Nat.lt_succ_self _) hi_7
      · have hw := hw.2 q_6
        refine k_iconst (v := (-1)) (pc := 29) C dX9_frame_29 (by decide) ?_
        exact hret _ _ _ _ dX9_frame_30 hw
def wp_X9_block (a1 : Int32) (S : Sg) (Q : Int32 → Sg → Prop) : Prop :=
  ((a1 ≤ 0 → Q (-1) S) ∧ (¬ a1 ≤ 0 → ((a1 < ((1 : Int32) <<< ((gI S 0 0 6) &&& 31)) → wp_X0_turnAsOne a1 S (fun r_3 S_3 => ((r_3 = 0 → Q 0 S_3) ∧ (¬ r_3 = 0 → Q 1 S_3)))) ∧ (¬ a1 < ((1 : Int32) <<< ((gI S 0 0 6) &&& 31)) → Q (-1) S))))
set_option maxHeartbeats 4000000 in
set_option maxRecDepth 100000 in
theorem ct_X9_block (l : Launch) (D : va_G) (cA : Nat → ClassId) (ad : Nat → Nat → Nat) (a1 : Int32) (S : Sg) (Q : Int32 → Sg → Prop) (hw : wp_X9_block a1 S Q) : CtI l yX9_block wsX9_block (mkR 2 57) D cA ad [.ref (ad 0 0), .int a1] S Q := by
  refine ct_ofI (cc := cX9_block) (nL := 2) (by decide) rfl (Nat.le_of_ble_eq_true rfl) ?_
  intro p e s m args below meth c A Q C hret
  unfold wp_X9_block at hw
  have C : Cx p s m args c cX9_block 2 wsX9_block RX9 D cA A := C
  have hin9 : ∀ w ∈ u_ws RX9 TX9 8, w ∈ wsX9_block := fun w h => List.mem_cons_of_mem _ (List.mem_append_left _ (List.mem_append_left _ (List.mem_append_left _ (List.mem_append_left _ (List.mem_append_right _ h)))))
  have f54 : Cond.fieldLink RX9 54 "CreepBoard" "markCount" "I" ∈ wsX9_block := by decide +kernel
  have f11 : Cond.fieldLink RX9 11 "CreepBoard" "marks" "[LCreepBoard$Mark;" ∈ wsX9_block := by decide +kernel
  change KK p l e (mkR 2 57) s m args below meth c 2 D cA ad A Q 0 [(0, .ref (ad 0 0)), (1, .int a1)] [] S
  refine k_iload_n (pc := 0) C dX9_block_0 1 rfl rfl ?_
  refine k_if_le (pc := 1) C 14 dX9_block_1 (by decide) (fun q_1 => ?_) (fun q_1 => ?_)
  · have hw := hw.1 q_1
    refine k_iconst (v := (-1)) (pc := 14) C dX9_block_14 (by decide) ?_
    exact hret _ _ _ _ dX9_block_15 hw
  · have hw := hw.2 q_1
    refine k_iload_n (pc := 4) C dX9_block_4 1 rfl rfl ?_
    refine k_iconst (v := 1) (pc := 5) C dX9_block_5 (by decide) ?_
    refine k_aload_n (pc := 6) C dX9_block_6 0 rfl rfl ?_
    refine k_get (j := 6) (pc := 7) C hin9 hm_0 (cel_0 cA ad S 0) rfl (by decide) f54 (fun _ h => h) rfl dX9_block_7 ?_
    refine k_ishl (pc := 10) C dX9_block_10 ?_
    refine k_icmp_lt (pc := 11) C 16 dX9_block_11 (by decide) (fun q_2 => ?_) (fun q_2 => ?_)
    · have hw := hw.1 q_2
      refine k_aload_n (pc := 16) C dX9_block_16 0 rfl rfl ?_
      refine k_get (j := 0) (pc := 17) C hin9 hm_0 (cel_0 cA ad S 0) rfl (by decide) f11 (fun _ h => h) rfl dX9_block_17 ?_
      refine k_iload_n (pc := 20) C dX9_block_20 1 rfl rfl ?_
      refine k_afterI (pc := 21) C (wp_X0_turnAsOne a1 S) hw (fun post hw => by
          exact rn_S C (ct_X0_turnAsOne l D cA ad a1 S post hw) (va_cwS 2 C.2.2.2.2.1 gX9_block_X0_turnAsOne rfl rfl rfl (by decide +kernel) ⟨Nat.le_of_ble_eq_true rfl, Nat.le_of_ble_eq_true rfl⟩) rfl rfl (Nat.le_of_ble_eq_true rfl) dX9_block_21) (fun r_3 S_3 hw => ?_)
      refine k_if_eq (pc := 24) C 31 dX9_block_24 (by decide) (fun q_4 => ?_) (fun q_4 => ?_)
      · have hw := hw.1 q_4
        refine k_iconst (v := 0) (pc := 31) C dX9_block_31 (by decide) ?_
        exact hret _ _ _ _ dX9_block_32 hw
      · have hw := hw.2 q_4
        refine k_iconst (v := 1) (pc := 27) C dX9_block_27 (by decide) ?_
        refine k_goto (pc := 28) C 32 dX9_block_28 (by decide) ?_
        exact hret _ _ _ _ dX9_block_32 hw
    · have hw := hw.2 q_2
      refine k_iconst (v := (-1)) (pc := 14) C dX9_block_14 (by decide) ?_
      exact hret _ _ _ _ dX9_block_15 hw
def wp_X9_blocks (S : Sg) (Q : Int32 → Sg → Prop) : Prop :=
  ((¬ (gI S 0 0 6) = 0 → wp_X0_find (gI S 0 0 6) S (fun S_2 => wp_X0_blockCount S_2 (fun r_3 S_3 => Q r_3 S_3))) ∧ ((gI S 0 0 6) = 0 → Q (-3) S))
set_option maxHeartbeats 4000000 in
set_option maxRecDepth 100000 in
theorem ct_X9_blocks (l : Launch) (D : va_G) (cA : Nat → ClassId) (ad : Nat → Nat → Nat) (S : Sg) (Q : Int32 → Sg → Prop) (hw : wp_X9_blocks  S Q) : CtI l yX9_blocks wsX9_blocks (mkR 4 104) D cA ad [.ref (ad 0 0)] S Q := by
  refine ct_ofI (cc := cX9_blocks) (nL := 1) (by decide) rfl (Nat.le_of_ble_eq_true rfl) ?_
  intro p e s m args below meth c A Q C hret
  unfold wp_X9_blocks at hw
  have C : Cx p s m args c cX9_blocks 1 wsX9_blocks RX9 D cA A := C
  have hin9 : ∀ w ∈ u_ws RX9 TX9 8, w ∈ wsX9_blocks := fun w h => List.mem_cons_of_mem _ (List.mem_append_left _ (List.mem_append_left _ (List.mem_append_left _ (List.mem_append_left _ (List.mem_append_left _ (List.mem_append_right _ h))))))
  have f54 : Cond.fieldLink RX9 54 "CreepBoard" "markCount" "I" ∈ wsX9_blocks := by decide +kernel
  have f25 : Cond.fieldLink RX9 25 "CreepBoard" "blockFinder" "LCreepBoard$BlockFinder;" ∈ wsX9_blocks := by decide +kernel
  have f11 : Cond.fieldLink RX9 11 "CreepBoard" "marks" "[LCreepBoard$Mark;" ∈ wsX9_blocks := by decide +kernel
  change KK p l e (mkR 4 104) s m args below meth c 1 D cA ad A Q 0 [(0, .ref (ad 0 0))] [] S
  refine k_aload_n (pc := 0) C dX9_blocks_0 0 rfl rfl ?_
  refine k_get (j := 6) (pc := 1) C hin9 hm_0 (cel_0 cA ad S 0) rfl (by decide) f54 (fun _ h => h) rfl dX9_blocks_1 ?_
  refine k_if_ne (pc := 4) C 10 dX9_blocks_4 (by decide) (fun q_1 => ?_) (fun q_1 => ?_)
  · have hw := hw.1 q_1
    refine k_aload_n (pc := 10) C dX9_blocks_10 0 rfl rfl ?_
    refine k_get (j := 2) (pc := 11) C hin9 hm_0 (cel_0 cA ad S 0) rfl (by decide) f25 (fun _ h => h) rfl dX9_blocks_11 ?_
    refine k_aload_n (pc := 14) C dX9_blocks_14 0 rfl rfl ?_
    refine k_get (j := 0) (pc := 15) C hin9 hm_0 (cel_0 cA ad S 0) rfl (by decide) f11 (fun _ h => h) rfl dX9_blocks_15 ?_
    refine k_aload_n (pc := 18) C dX9_blocks_18 0 rfl rfl ?_
    refine k_get (j := 6) (pc := 19) C hin9 hm_0 (cel_0 cA ad S 0) rfl (by decide) f54 (fun _ h => h) rfl dX9_blocks_19 ?_
    refine k_afterV (pc := 22) C (wp_X0_find (gI S 0 0 6) S) hw (fun post hw => by
        exact rn_V C (ct_X0_find l D cA ad (gI S 0 0 6) S post hw) (cwV 2 C.2.2.2.2.1 gX9_blocks_X0_find rfl rfl rfl (by decide +kernel) ⟨Nat.le_of_ble_eq_true rfl, Nat.le_of_ble_eq_true rfl⟩) hm_6 (cel_6 cA ad S 0) rfl rfl rfl rfl (Nat.le_of_ble_eq_true rfl) dX9_blocks_22) (fun S_2 hw => ?_)
    refine k_aload_n (pc := 25) C dX9_blocks_25 0 rfl rfl ?_
    refine k_get (j := 2) (pc := 26) C hin9 hm_0 (cel_0 cA ad S_2 0) rfl (by decide) f25 (fun _ h => h) rfl dX9_blocks_26 ?_
    refine k_afterI (pc := 29) C (wp_X0_blockCount S_2) hw (fun post hw => by
        exact rn_V C (ct_X0_blockCount l D cA ad S_2 post hw) (cwV 0 C.2.2.2.2.1 gX9_blocks_X0_blockCount rfl rfl rfl (by decide +kernel) ⟨Nat.le_of_ble_eq_true rfl, Nat.le_of_ble_eq_true rfl⟩) hm_6 (cel_6 cA ad S_2 0) rfl rfl rfl rfl (Nat.le_of_ble_eq_true rfl) dX9_blocks_29) (fun r_3 S_3 hw => ?_)
    exact hret _ _ _ _ dX9_blocks_32 hw
  · have hw := hw.2 q_1
    refine k_bipush (v := (-3)) (pc := 7) C dX9_blocks_7 (by decide) ?_
    exact hret _ _ _ _ dX9_blocks_9 hw
def wp_X9_of (a1 : Int32) (S : Sg) (Q : Int32 → Sg → Prop) : Prop :=
  wp_X9_markAt a1 S (fun o_1 S_1 => (o_1 = none → Q (-1) S_1) ∧ (∀ j_1 : Nat, o_1 = some j_1 → wp_X0_find (gI S_1 0 0 6) S_1 (fun S_2 => wp_X0_blockWith a1 S_2 (fun r_3 S_3 => Q r_3 S_3))))
set_option maxHeartbeats 4000000 in
set_option maxRecDepth 100000 in
theorem ct_X9_of (l : Launch) (D : va_G) (cA : Nat → ClassId) (ad : Nat → Nat → Nat) (a1 : Int32) (S : Sg) (Q : Int32 → Sg → Prop) (hw : wp_X9_of a1 S Q) : CtI l yX9_of wsX9_of (mkR 4 104) D cA ad [.ref (ad 0 0), .int a1] S Q := by
  refine ct_ofI (cc := cX9_of) (nL := 2) (by decide) rfl (Nat.le_of_ble_eq_true rfl) ?_
  intro p e s m args below meth c A Q C hret
  unfold wp_X9_of at hw
  have C : Cx p s m args c cX9_of 2 wsX9_of RX9 D cA A := C
  have hin9 : ∀ w ∈ u_ws RX9 TX9 8, w ∈ wsX9_of := fun w h => List.mem_cons_of_mem _ (List.mem_append_left _ (List.mem_append_left _ (List.mem_append_left _ (List.mem_append_left _ (List.mem_append_left _ (List.mem_append_right _ h))))))
  have f25 : Cond.fieldLink RX9 25 "CreepBoard" "blockFinder" "LCreepBoard$BlockFinder;" ∈ wsX9_of := by decide +kernel
  have f11 : Cond.fieldLink RX9 11 "CreepBoard" "marks" "[LCreepBoard$Mark;" ∈ wsX9_of := by decide +kernel
  have f54 : Cond.fieldLink RX9 54 "CreepBoard" "markCount" "I" ∈ wsX9_of := by decide +kernel
  change KK p l e (mkR 4 104) s m args below meth c 2 D cA ad A Q 0 [(0, .ref (ad 0 0)), (1, .int a1)] [] S
  refine k_aload_n (pc := 0) C dX9_of_0 0 rfl rfl ?_
  refine k_iload_n (pc := 1) C dX9_of_1 1 rfl rfl ?_
  refine k_afterQ (pc := 2) C 26 (wp_X9_markAt a1 S) hw (fun post hw => by
      exact rn_V C (ct_X9_markAt l D cA ad a1 S post hw) (cwV 1 C.2.2.2.2.1 gX9_of_X9_markAt rfl rfl rfl (by decide +kernel) ⟨Nat.le_of_ble_eq_true rfl, Nat.le_of_ble_eq_true rfl⟩) hm_0 (cel_0 cA ad S 0) rfl rfl rfl rfl (Nat.le_of_ble_eq_true rfl) dX9_of_2) (fun S_1 hw => ?_) (fun j_1 S_1 hw => ?_)
  · have hw := hw.1 rfl
    refine k_ifnonnullN (pc := 5) C dX9_of_5 ?_
    refine k_iconst (v := (-1)) (pc := 8) C dX9_of_8 (by decide) ?_
    exact hret _ _ _ _ dX9_of_9 hw
  · have hw := hw.2 j_1 rfl
    refine k_ifnonnull (pc := 5) C 10 dX9_of_5 (by decide) ?_
    refine k_aload_n (pc := 10) C dX9_of_10 0 rfl rfl ?_
    refine k_get (j := 2) (pc := 11) C hin9 hm_0 (cel_0 cA ad S_1 0) rfl (by decide) f25 (fun _ h => h) rfl dX9_of_11 ?_
    refine k_aload_n (pc := 14) C dX9_of_14 0 rfl rfl ?_
    refine k_get (j := 0) (pc := 15) C hin9 hm_0 (cel_0 cA ad S_1 0) rfl (by decide) f11 (fun _ h => h) rfl dX9_of_15 ?_
    refine k_aload_n (pc := 18) C dX9_of_18 0 rfl rfl ?_
    refine k_get (j := 6) (pc := 19) C hin9 hm_0 (cel_0 cA ad S_1 0) rfl (by decide) f54 (fun _ h => h) rfl dX9_of_19 ?_
    refine k_afterV (pc := 22) C (wp_X0_find (gI S_1 0 0 6) S_1) hw (fun post hw => by
        exact rn_V C (ct_X0_find l D cA ad (gI S_1 0 0 6) S_1 post hw) (cwV 2 C.2.2.2.2.1 gX9_of_X0_find rfl rfl rfl (by decide +kernel) ⟨Nat.le_of_ble_eq_true rfl, Nat.le_of_ble_eq_true rfl⟩) hm_6 (cel_6 cA ad S_1 0) rfl rfl rfl rfl (Nat.le_of_ble_eq_true rfl) dX9_of_22) (fun S_2 hw => ?_)
    refine k_aload_n (pc := 25) C dX9_of_25 0 rfl rfl ?_
    refine k_get (j := 2) (pc := 26) C hin9 hm_0 (cel_0 cA ad S_2 0) rfl (by decide) f25 (fun _ h => h) rfl dX9_of_26 ?_
    refine k_iload_n (pc := 29) C dX9_of_29 1 rfl rfl ?_
    refine k_afterI (pc := 30) C (wp_X0_blockWith a1 S_2) hw (fun post hw => by
        exact rn_V C (ct_X0_blockWith l D cA ad a1 S_2 post hw) (cwV 1 C.2.2.2.2.1 gX9_of_X0_blockWith rfl rfl rfl (by decide +kernel) ⟨Nat.le_of_ble_eq_true rfl, Nat.le_of_ble_eq_true rfl⟩) hm_6 (cel_6 cA ad S_2 0) rfl rfl rfl rfl (Nat.le_of_ble_eq_true rfl) dX9_of_30) (fun r_3 S_3 hw => ?_)
    exact hret _ _ _ _ dX9_of_33 hw
def wp_X9_green (a1 : Int32) (a2 : Int32) (a3 : Int32) (S : Sg) (Q : Int32 → Sg → Prop) : Prop :=
  wp_X9_markAt a1 S (fun o_1 S_1 => (o_1 = none → Q (-1001) S_1) ∧ (∀ j_1 : Nat, o_1 = some j_1 → wp_X9_isCut a2 S_1 (fun r_2 S_2 => ((r_2 = 0 → Q (-1001) S_2) ∧ (¬ r_2 = 0 → wp_X9_within a3 20 S_2 (fun r_4 S_4 => ((¬ r_4 = 0 → (j_1 < nM S_4 ∧ wp_X3_greenOf j_1 a2 S_4 (fun r_6 S_6 => (j_1 < nM S_6 ∧ wp_X3_setGreen j_1 a2 a3 S_6 (fun S_8 => wp_X7_forget S_8 (fun S_10 => Q r_6 S_10)))))) ∧ (r_4 = 0 → Q (-1001) S_4))))))))
set_option maxHeartbeats 4000000 in
set_option maxRecDepth 100000 in
theorem ct_X9_green (l : Launch) (D : va_G) (cA : Nat → ClassId) (ad : Nat → Nat → Nat) (a1 : Int32) (a2 : Int32) (a3 : Int32) (S : Sg) (Q : Int32 → Sg → Prop) (hw : wp_X9_green a1 a2 a3 S Q) : CtI l yX9_green wsX9_green (mkR 1 22) D cA ad [.ref (ad 0 0), .int a1, .int a2, .int a3] S Q := by
  refine ct_ofI (cc := cX9_green) (nL := 6) (by decide) rfl (Nat.le_of_ble_eq_true rfl) ?_
  intro p e s m args below meth c A Q C hret
  unfold wp_X9_green at hw
  have C : Cx p s m args c cX9_green 6 wsX9_green RX9 D cA A := C
  have hin9 : ∀ w ∈ u_ws RX9 TX9 8, w ∈ wsX9_green := fun w h => List.mem_cons_of_mem _ (List.mem_append_left _ (List.mem_append_left _ (List.mem_append_left _ (List.mem_append_left _ (List.mem_append_left _ (List.mem_append_right _ h))))))
  have f32 : Cond.fieldLink RX9 32 "CreepBoard" "slipFinder" "LCreepBoard$SlipFinder;" ∈ wsX9_green := by decide +kernel
  change KK p l e (mkR 1 22) s m args below meth c 6 D cA ad A Q 0 [(0, .ref (ad 0 0)), (1, .int a1), (2, .int a2), (3, .int a3)] [] S
  refine k_aload_n (pc := 0) C dX9_green_0 0 rfl rfl ?_
  refine k_iload_n (pc := 1) C dX9_green_1 1 rfl rfl ?_
  refine k_afterQ (pc := 2) C 26 (wp_X9_markAt a1 S) hw (fun post hw => by
      exact rn_V C (ct_X9_markAt l D cA ad a1 S post hw) (cwV 1 C.2.2.2.2.1 gX9_green_X9_markAt rfl rfl rfl (by decide +kernel) ⟨Nat.le_of_ble_eq_true rfl, Nat.le_of_ble_eq_true rfl⟩) hm_0 (cel_0 cA ad S 0) rfl rfl rfl rfl (Nat.le_of_ble_eq_true rfl) dX9_green_2) (fun S_1 hw => ?_) (fun j_1 S_1 hw => ?_)
  · have hw := hw.1 rfl
    refine k_astoreN (pc := 5) C dX9_green_5 (by decide) [(4, .null), (0, .ref (ad 0 0)), (1, .int a1), (2, .int a2), (3, .int a3)] rfl ?_
    refine k_aloadN (pc := 7) C dX9_green_7 0 rfl ?_
    refine k_ifnullN (pc := 9) C 28 dX9_green_9 (by decide) ?_
    refine k_sipush (v := (-1001)) (pc := 28) C dX9_green_28 (by decide) ?_
    exact hret _ _ _ _ dX9_green_31 hw
  · have hw := hw.2 j_1 rfl
    refine k_astore (pc := 5) C dX9_green_5 (by decide) [(4, .ref (ad 26 j_1)), (0, .ref (ad 0 0)), (1, .int a1), (2, .int a2), (3, .int a3)] rfl ?_
    refine k_aload (pc := 7) C dX9_green_7 0 rfl ?_
    refine k_ifnull (pc := 9) C dX9_green_9 ?_
    refine k_iload_n (pc := 12) C dX9_green_12 3 rfl rfl ?_
    refine k_afterI (pc := 13) C (wp_X9_isCut a2 S_1) hw (fun post hw => by
        exact rn_S C (ct_X9_isCut l D cA ad a2 S_1 post hw) (va_cwS 1 C.2.2.2.2.1 gX9_green_X9_isCut rfl rfl rfl (by decide +kernel) ⟨Nat.le_of_ble_eq_true rfl, Nat.le_of_ble_eq_true rfl⟩) rfl rfl (Nat.le_of_ble_eq_true rfl) dX9_green_13) (fun r_2 S_2 hw => ?_)
    refine k_if_eq (pc := 16) C 28 dX9_green_16 (by decide) (fun q_3 => ?_) (fun q_3 => ?_)
    · have hw := hw.1 q_3
      refine k_sipush (v := (-1001)) (pc := 28) C dX9_green_28 (by decide) ?_
      exact hret _ _ _ _ dX9_green_31 hw
    · have hw := hw.2 q_3
      refine k_iload_n (pc := 19) C dX9_green_19 4 rfl rfl ?_
      refine k_bipush (v := 20) (pc := 20) C dX9_green_20 (by decide) ?_
      refine k_afterI (pc := 22) C (wp_X9_within a3 20 S_2) hw (fun post hw => by
          exact rn_S C (ct_X9_within l D cA ad a3 20 S_2 post hw) (va_cwS 2 C.2.2.2.2.1 gX9_green_X9_within rfl rfl rfl (by decide +kernel) ⟨Nat.le_of_ble_eq_true rfl, Nat.le_of_ble_eq_true rfl⟩) rfl rfl (Nat.le_of_ble_eq_true rfl) dX9_green_22) (fun r_4 S_4 hw => ?_)
      refine k_if_ne (pc := 25) C 32 dX9_green_25 (by decide) (fun q_5 => ?_) (fun q_5 => ?_)
      · have hw := hw.1 q_5
        refine k_aload (pc := 32) C dX9_green_32 0 rfl ?_
        refine k_iload_n (pc := 34) C dX9_green_34 3 rfl rfl ?_
        obtain ⟨h_7, hw⟩ := hw
        refine k_afterI (pc := 35) C (wp_X3_greenOf j_1 a2 S_4) hw (fun post hw => by
            rcases kd4 S_4 j_1 with h | h | h | h
            · exact rn_V C (ct_X3_greenOf l D cA ad j_1 a2 S_4 post hw) (cwV 1 C.2.2.2.2.1 gX9_green_X3_greenOf rfl rfl rfl (by decide +kernel) ⟨Nat.le_of_ble_eq_true rfl, Nat.le_of_ble_eq_true rfl⟩) (mm_26 h_7) (celM_0 h) rfl rfl rfl rfl (Nat.le_of_ble_eq_true rfl) dX9_green_35
            · exact rn_U C (ct_X3_greenOf l D cA ad j_1 a2 S_4 post hw) (va_cwU 1 C.2.2.2.2.1 gX9_green_X3_greenOf_u192X4 rfl rfl rfl rfl (by decide +kernel) ⟨Nat.le_of_ble_eq_true rfl, Nat.le_of_ble_eq_true rfl⟩) (mm_26 h_7) (celM_1 h) rfl rfl rfl rfl (Nat.le_of_ble_eq_true rfl) dX9_green_35
            · exact rn_U C (ct_X3_greenOf l D cA ad j_1 a2 S_4 post hw) (va_cwU 1 C.2.2.2.2.1 gX9_green_X3_greenOf_u192X8 rfl rfl rfl rfl (by decide +kernel) ⟨Nat.le_of_ble_eq_true rfl, Nat.le_of_ble_eq_true rfl⟩) (mm_26 h_7) (celM_2 h) rfl rfl rfl rfl (Nat.le_of_ble_eq_true rfl) dX9_green_35
            · exact rn_U C (ct_X3_greenOf l D cA ad j_1 a2 S_4 post hw) (va_cwU 1 C.2.2.2.2.1 gX9_green_X3_greenOf_u192X1 rfl rfl rfl rfl (by decide +kernel) ⟨Nat.le_of_ble_eq_true rfl, Nat.le_of_ble_eq_true rfl⟩) (mm_26 h_7) (celM_3 h) rfl rfl rfl rfl (Nat.le_of_ble_eq_true rfl) dX9_green_35) (fun r_6 S_6 hw => ?_)
        refine k_istore (pc := 38) C dX9_green_38 (by decide) [(5, .int r_6), (4, .ref (ad 26 j_1)), (0, .ref (ad 0 0)), (1, .int a1), (2, .int a2), (3, .int a3)] rfl ?_
        refine k_aload (pc := 40) C dX9_green_40 1 rfl ?_
        refine k_iload_n (pc := 42) C dX9_green_42 4 rfl rfl ?_
        refine k_iload_n (pc := 43) C dX9_green_43 5 rfl rfl ?_
        obtain ⟨h_9, hw⟩ := hw
        refine k_afterV (pc := 44) C (wp_X3_setGreen j_1 a2 a3 S_6) hw (fun post hw => by
            rcases kd4 S_6 j_1 with h | h | h | h
            · exact rn_V C (ct_X3_setGreen l D cA ad j_1 a2 a3 S_6 post hw) (cwV 2 C.2.2.2.2.1 gX9_green_X3_setGreen rfl rfl rfl (by decide +kernel) ⟨Nat.le_of_ble_eq_true rfl, Nat.le_of_ble_eq_true rfl⟩) (mm_26 h_9) (celM_0 h) rfl rfl rfl rfl (Nat.le_of_ble_eq_true rfl) dX9_green_44
            · exact rn_U C (ct_X3_setGreen l D cA ad j_1 a2 a3 S_6 post hw) (va_cwU 2 C.2.2.2.2.1 gX9_green_X3_setGreen_u195X4 rfl rfl rfl rfl (by decide +kernel) ⟨Nat.le_of_ble_eq_true rfl, Nat.le_of_ble_eq_true rfl⟩) (mm_26 h_9) (celM_1 h) rfl rfl rfl rfl (Nat.le_of_ble_eq_true rfl) dX9_green_44
            · exact rn_U C (ct_X3_setGreen l D cA ad j_1 a2 a3 S_6 post hw) (va_cwU 2 C.2.2.2.2.1 gX9_green_X3_setGreen_u195X8 rfl rfl rfl rfl (by decide +kernel) ⟨Nat.le_of_ble_eq_true rfl, Nat.le_of_ble_eq_true rfl⟩) (mm_26 h_9) (celM_2 h) rfl rfl rfl rfl (Nat.le_of_ble_eq_true rfl) dX9_green_44
            · exact rn_U C (ct_X3_setGreen l D cA ad j_1 a2 a3 S_6 post hw) (va_cwU 2 C.2.2.2.2.1 gX9_green_X3_setGreen_u195X1 rfl rfl rfl rfl (by decide +kernel) ⟨Nat.le_of_ble_eq_true rfl, Nat.le_of_ble_eq_true rfl⟩) (mm_26 h_9) (celM_3 h) rfl rfl rfl rfl (Nat.le_of_ble_eq_true rfl) dX9_green_44) (fun S_8 hw => ?_)
        refine k_aload_n (pc := 47) C dX9_green_47 2 rfl rfl ?_
        refine k_get (j := 3) (pc := 48) C hin9 hm_0 (cel_0 cA ad S_8 0) rfl (by decide) f32 (fun _ h => h) rfl dX9_green_48 ?_
        refine k_afterV (pc := 51) C (wp_X7_forget S_8) hw (fun post hw => by
            exact rn_V C (ct_X7_forget l D cA ad S_8 post hw) (cwV 0 C.2.2.2.2.1 gX9_green_X7_forget rfl rfl rfl (by decide +kernel) ⟨Nat.le_of_ble_eq_true rfl, Nat.le_of_ble_eq_true rfl⟩) hm_11 (cel_11 cA ad S_8 0) rfl rfl rfl rfl (Nat.le_of_ble_eq_true rfl) dX9_green_51) (fun S_10 hw => ?_)
        refine k_iload (pc := 54) C dX9_green_54 0 rfl ?_
        exact hret _ _ _ _ dX9_green_56 hw
      · have hw := hw.2 q_5
        refine k_sipush (v := (-1001)) (pc := 28) C dX9_green_28 (by decide) ?_
        exact hret _ _ _ _ dX9_green_31 hw
def wp_X9_tolerance (a1 : Int32) (S : Sg) (Q : Int32 → Sg → Prop) : Prop :=
  ((a1 < 0 → Q (-1) S) ∧ (¬ a1 < 0 → ((a1 ≤ 100 → (∀ x2_3 : Int32, x2_3 = (gI S 0 0 7) → (∀ S_4 : Sg, S_4 = uI S 0 0 7 a1 → wp_X7_forget S_4 (fun S_5 => Q x2_3 S_5)))) ∧ (¬ a1 ≤ 100 → Q (-1) S))))
set_option maxHeartbeats 4000000 in
set_option maxRecDepth 100000 in
theorem ct_X9_tolerance (l : Launch) (D : va_G) (cA : Nat → ClassId) (ad : Nat → Nat → Nat) (a1 : Int32) (S : Sg) (Q : Int32 → Sg → Prop) (hw : wp_X9_tolerance a1 S Q) : CtI l yX9_tolerance wsX9_tolerance (mkR 1 20) D cA ad [.ref (ad 0 0), .int a1] S Q := by
  refine ct_ofI (cc := cX9_tolerance) (nL := 3) (by decide) rfl (Nat.le_of_ble_eq_true rfl) ?_
  intro p e s m args below meth c A Q C hret
  unfold wp_X9_tolerance at hw
  have C : Cx p s m args c cX9_tolerance 3 wsX9_tolerance RX9 D cA A := C
  have hin9 : ∀ w ∈ u_ws RX9 TX9 8, w ∈ wsX9_tolerance := fun w h => List.mem_cons_of_mem _ (List.mem_append_left _ (List.mem_append_right _ h))
  have f201 : Cond.fieldLink RX9 201 "CreepBoard" "tolerance" "I" ∈ wsX9_tolerance := by decide +kernel
  have f32 : Cond.fieldLink RX9 32 "CreepBoard" "slipFinder" "LCreepBoard$SlipFinder;" ∈ wsX9_tolerance := by decide +kernel
  change KK p l e (mkR 1 20) s m args below meth c 3 D cA ad A Q 0 [(0, .ref (ad 0 0)), (1, .int a1)] [] S
  refine k_iload_n (pc := 0) C dX9_tolerance_0 1 rfl rfl ?_
  refine k_if_lt (pc := 1) C 10 dX9_tolerance_1 (by decide) (fun q_1 => ?_) (fun q_1 => ?_)
  · have hw := hw.1 q_1
    refine k_iconst (v := (-1)) (pc := 10) C dX9_tolerance_10 (by decide) ?_
    exact hret _ _ _ _ dX9_tolerance_11 hw
  · have hw := hw.2 q_1
    refine k_iload_n (pc := 4) C dX9_tolerance_4 1 rfl rfl ?_
    refine k_bipush (v := 100) (pc := 5) C dX9_tolerance_5 (by decide) ?_
    refine k_icmp_le (pc := 7) C 12 dX9_tolerance_7 (by decide) (fun q_2 => ?_) (fun q_2 => ?_)
    · have hw := hw.1 q_2
      refine k_aload_n (pc := 12) C dX9_tolerance_12 0 rfl rfl ?_
      refine k_get (j := 7) (pc := 13) C hin9 hm_0 (cel_0 cA ad S 0) rfl (by decide) f201 (fun _ h => h) rfl dX9_tolerance_13 ?_
      refine k_topi (fun x2_3 ex2_3 => ?_)
      have hw := hw x2_3 ex2_3
      refine k_istore_n (pc := 16) C dX9_tolerance_16 rfl (by decide) [(2, .int x2_3), (0, .ref (ad 0 0)), (1, .int a1)] rfl ?_
      refine k_aload_n (pc := 17) C dX9_tolerance_17 1 rfl rfl ?_
      refine k_iload_n (pc := 18) C dX9_tolerance_18 2 rfl rfl ?_
      refine k_put (S' := uI S 0 0 7 a1) (j := 7) (ty := .int) (pc := 19) C hin9 tyX9 tyX9_ok nmX9 hm_0 (cel_0 cA ad S 0) rfl (by decide) f201 (fun _ h => h) rfl (by decide +kernel) rfl rfl (Nat.le_of_ble_eq_true rfl) rfl rfl (fun a b h => cel_uI h) dX9_tolerance_19 ?_
      refine k_nameS (fun S_4 eS_4 => ?_)
      have hw := hw S_4 eS_4
      refine k_aload_n (pc := 22) C dX9_tolerance_22 1 rfl rfl ?_
      refine k_get (j := 3) (pc := 23) C hin9 hm_0 (cel_0 cA ad S_4 0) rfl (by decide) f32 (fun _ h => h) rfl dX9_tolerance_23 ?_
      refine k_afterV (pc := 26) C (wp_X7_forget S_4) hw (fun post hw => by
          exact rn_V C (ct_X7_forget l D cA ad S_4 post hw) (cwV 0 C.2.2.2.2.1 gX9_tolerance_X7_forget rfl rfl rfl (by decide +kernel) ⟨Nat.le_of_ble_eq_true rfl, Nat.le_of_ble_eq_true rfl⟩) hm_11 (cel_11 cA ad S_4 0) rfl rfl rfl rfl (Nat.le_of_ble_eq_true rfl) dX9_tolerance_26) (fun S_5 hw => ?_)
      refine k_iload_n (pc := 29) C dX9_tolerance_29 0 rfl rfl ?_
      exact hret _ _ _ _ dX9_tolerance_30 hw
    · have hw := hw.2 q_2
      refine k_iconst (v := (-1)) (pc := 10) C dX9_tolerance_10 (by decide) ?_
      exact hret _ _ _ _ dX9_tolerance_11 hw
def wp_X9_fits (S : Sg) (Q : Int32 → Sg → Prop) : Prop :=
  wp_X7_find (gI S 0 0 6) (gI S 0 0 7) S (fun S_1 => wp_X7_fitCount S_1 (fun r_2 S_2 => Q r_2 S_2))
set_option maxHeartbeats 4000000 in
set_option maxRecDepth 100000 in
theorem ct_X9_fits (l : Launch) (D : va_G) (cA : Nat → ClassId) (ad : Nat → Nat → Nat) (S : Sg) (Q : Int32 → Sg → Prop) (hw : wp_X9_fits  S Q) : CtI l yX9_fits wsX9_fits (mkR 4 93) D cA ad [.ref (ad 0 0)] S Q := by
  refine ct_ofI (cc := cX9_fits) (nL := 1) (by decide) rfl (Nat.le_of_ble_eq_true rfl) ?_
  intro p e s m args below meth c A Q C hret
  unfold wp_X9_fits at hw
  have C : Cx p s m args c cX9_fits 1 wsX9_fits RX9 D cA A := C
  have hin9 : ∀ w ∈ u_ws RX9 TX9 8, w ∈ wsX9_fits := fun w h => List.mem_cons_of_mem _ (List.mem_append_left _ (List.mem_append_left _ (List.mem_append_left _ (List.mem_append_left _ (List.mem_append_left _ (List.mem_append_right _ h))))))
  have f32 : Cond.fieldLink RX9 32 "CreepBoard" "slipFinder" "LCreepBoard$SlipFinder;" ∈ wsX9_fits := by decide +kernel
  have f11 : Cond.fieldLink RX9 11 "CreepBoard" "marks" "[LCreepBoard$Mark;" ∈ wsX9_fits := by decide +kernel
  have f54 : Cond.fieldLink RX9 54 "CreepBoard" "markCount" "I" ∈ wsX9_fits := by decide +kernel
  have f201 : Cond.fieldLink RX9 201 "CreepBoard" "tolerance" "I" ∈ wsX9_fits := by decide +kernel
  change KK p l e (mkR 4 93) s m args below meth c 1 D cA ad A Q 0 [(0, .ref (ad 0 0))] [] S
  refine k_aload_n (pc := 0) C dX9_fits_0 0 rfl rfl ?_
  refine k_get (j := 3) (pc := 1) C hin9 hm_0 (cel_0 cA ad S 0) rfl (by decide) f32 (fun _ h => h) rfl dX9_fits_1 ?_
  refine k_aload_n (pc := 4) C dX9_fits_4 0 rfl rfl ?_
  refine k_get (j := 0) (pc := 5) C hin9 hm_0 (cel_0 cA ad S 0) rfl (by decide) f11 (fun _ h => h) rfl dX9_fits_5 ?_
  refine k_aload_n (pc := 8) C dX9_fits_8 0 rfl rfl ?_
  refine k_get (j := 6) (pc := 9) C hin9 hm_0 (cel_0 cA ad S 0) rfl (by decide) f54 (fun _ h => h) rfl dX9_fits_9 ?_
  refine k_aload_n (pc := 12) C dX9_fits_12 0 rfl rfl ?_
  refine k_get (j := 7) (pc := 13) C hin9 hm_0 (cel_0 cA ad S 0) rfl (by decide) f201 (fun _ h => h) rfl dX9_fits_13 ?_
  refine k_afterV (pc := 16) C (wp_X7_find (gI S 0 0 6) (gI S 0 0 7) S) hw (fun post hw => by
      exact rn_V C (ct_X7_find l D cA ad (gI S 0 0 6) (gI S 0 0 7) S post hw) (cwV 3 C.2.2.2.2.1 gX9_fits_X7_find rfl rfl rfl (by decide +kernel) ⟨Nat.le_of_ble_eq_true rfl, Nat.le_of_ble_eq_true rfl⟩) hm_11 (cel_11 cA ad S 0) rfl rfl rfl rfl (Nat.le_of_ble_eq_true rfl) dX9_fits_16) (fun S_1 hw => ?_)
  refine k_aload_n (pc := 19) C dX9_fits_19 0 rfl rfl ?_
  refine k_get (j := 3) (pc := 20) C hin9 hm_0 (cel_0 cA ad S_1 0) rfl (by decide) f32 (fun _ h => h) rfl dX9_fits_20 ?_
  refine k_afterI (pc := 23) C (wp_X7_fitCount S_1) hw (fun post hw => by
      exact rn_V C (ct_X7_fitCount l D cA ad S_1 post hw) (cwV 0 C.2.2.2.2.1 gX9_fits_X7_fitCount rfl rfl rfl (by decide +kernel) ⟨Nat.le_of_ble_eq_true rfl, Nat.le_of_ble_eq_true rfl⟩) hm_11 (cel_11 cA ad S_1 0) rfl rfl rfl rfl (Nat.le_of_ble_eq_true rfl) dX9_fits_23) (fun r_2 S_2 hw => ?_)
  exact hret _ _ _ _ dX9_fits_26 hw
def wp_X9_slip (a1 : Int32) (a2 : Int32) (S : Sg) (Q : Int32 → Sg → Prop) : Prop :=
  wp_X9_isCut a1 S (fun r_1 S_1 => ((¬ r_1 = 0 → wp_X7_find (gI S_1 0 0 6) (gI S_1 0 0 7) S_1 (fun S_3 => wp_X7_fitCount S_3 (fun r_4 S_4 => ((¬ r_4 = 0 → ((a2 = 0 → wp_X7_leastOf a1 S_4 (fun r_7 S_7 => Q r_7 S_7)) ∧ (¬ a2 = 0 → wp_X7_greatestOf a1 S_4 (fun r_8 S_8 => Q r_8 S_8)))) ∧ (r_4 = 0 → Q (-4) S_4))))) ∧ (r_1 = 0 → Q (-1) S_1)))
set_option maxHeartbeats 4000000 in
set_option maxRecDepth 100000 in
theorem ct_X9_slip (l : Launch) (D : va_G) (cA : Nat → ClassId) (ad : Nat → Nat → Nat) (a1 : Int32) (a2 : Int32) (S : Sg) (Q : Int32 → Sg → Prop) (hw : wp_X9_slip a1 a2 S Q) : CtI l yX9_slip wsX9_slip (mkR 4 93) D cA ad [.ref (ad 0 0), .int a1, .int a2] S Q := by
  refine ct_ofI (cc := cX9_slip) (nL := 3) (by decide) rfl (Nat.le_of_ble_eq_true rfl) ?_
  intro p e s m args below meth c A Q C hret
  unfold wp_X9_slip at hw
  have C : Cx p s m args c cX9_slip 3 wsX9_slip RX9 D cA A := C
  have hin9 : ∀ w ∈ u_ws RX9 TX9 8, w ∈ wsX9_slip := fun w h => List.mem_cons_of_mem _ (List.mem_append_left _ (List.mem_append_left _ (List.mem_append_left _ (List.mem_append_left _ (List.mem_append_left _ (List.mem_append_right _ h))))))
  have f32 : Cond.fieldLink RX9 32 "CreepBoard" "slipFinder" "LCreepBoard$SlipFinder;" ∈ wsX9_slip := by decide +kernel
  have f11 : Cond.fieldLink RX9 11 "CreepBoard" "marks" "[LCreepBoard$Mark;" ∈ wsX9_slip := by decide +kernel
  have f54 : Cond.fieldLink RX9 54 "CreepBoard" "markCount" "I" ∈ wsX9_slip := by decide +kernel
  have f201 : Cond.fieldLink RX9 201 "CreepBoard" "tolerance" "I" ∈ wsX9_slip := by decide +kernel
  change KK p l e (mkR 4 93) s m args below meth c 3 D cA ad A Q 0 [(0, .ref (ad 0 0)), (1, .int a1), (2, .int a2)] [] S
  refine k_iload_n (pc := 0) C dX9_slip_0 1 rfl rfl ?_
  refine k_afterI (pc := 1) C (wp_X9_isCut a1 S) hw (fun post hw => by
      exact rn_S C (ct_X9_isCut l D cA ad a1 S post hw) (va_cwS 1 C.2.2.2.2.1 gX9_slip_X9_isCut rfl rfl rfl (by decide +kernel) ⟨Nat.le_of_ble_eq_true rfl, Nat.le_of_ble_eq_true rfl⟩) rfl rfl (Nat.le_of_ble_eq_true rfl) dX9_slip_1) (fun r_1 S_1 hw => ?_)
  refine k_if_ne (pc := 4) C 9 dX9_slip_4 (by decide) (fun q_2 => ?_) (fun q_2 => ?_)
  · have hw := hw.1 q_2
    refine k_aload_n (pc := 9) C dX9_slip_9 0 rfl rfl ?_
    refine k_get (j := 3) (pc := 10) C hin9 hm_0 (cel_0 cA ad S_1 0) rfl (by decide) f32 (fun _ h => h) rfl dX9_slip_10 ?_
    refine k_aload_n (pc := 13) C dX9_slip_13 0 rfl rfl ?_
    refine k_get (j := 0) (pc := 14) C hin9 hm_0 (cel_0 cA ad S_1 0) rfl (by decide) f11 (fun _ h => h) rfl dX9_slip_14 ?_
    refine k_aload_n (pc := 17) C dX9_slip_17 0 rfl rfl ?_
    refine k_get (j := 6) (pc := 18) C hin9 hm_0 (cel_0 cA ad S_1 0) rfl (by decide) f54 (fun _ h => h) rfl dX9_slip_18 ?_
    refine k_aload_n (pc := 21) C dX9_slip_21 0 rfl rfl ?_
    refine k_get (j := 7) (pc := 22) C hin9 hm_0 (cel_0 cA ad S_1 0) rfl (by decide) f201 (fun _ h => h) rfl dX9_slip_22 ?_
    refine k_afterV (pc := 25) C (wp_X7_find (gI S_1 0 0 6) (gI S_1 0 0 7) S_1) hw (fun post hw => by
        exact rn_V C (ct_X7_find l D cA ad (gI S_1 0 0 6) (gI S_1 0 0 7) S_1 post hw) (cwV 3 C.2.2.2.2.1 gX9_slip_X7_find rfl rfl rfl (by decide +kernel) ⟨Nat.le_of_ble_eq_true rfl, Nat.le_of_ble_eq_true rfl⟩) hm_11 (cel_11 cA ad S_1 0) rfl rfl rfl rfl (Nat.le_of_ble_eq_true rfl) dX9_slip_25) (fun S_3 hw => ?_)
    refine k_aload_n (pc := 28) C dX9_slip_28 0 rfl rfl ?_
    refine k_get (j := 3) (pc := 29) C hin9 hm_0 (cel_0 cA ad S_3 0) rfl (by decide) f32 (fun _ h => h) rfl dX9_slip_29 ?_
    refine k_afterI (pc := 32) C (wp_X7_fitCount S_3) hw (fun post hw => by
        exact rn_V C (ct_X7_fitCount l D cA ad S_3 post hw) (cwV 0 C.2.2.2.2.1 gX9_slip_X7_fitCount rfl rfl rfl (by decide +kernel) ⟨Nat.le_of_ble_eq_true rfl, Nat.le_of_ble_eq_true rfl⟩) hm_11 (cel_11 cA ad S_3 0) rfl rfl rfl rfl (Nat.le_of_ble_eq_true rfl) dX9_slip_32) (fun r_4 S_4 hw => ?_)
    refine k_if_ne (pc := 35) C 41 dX9_slip_35 (by decide) (fun q_5 => ?_) (fun q_5 => ?_)
    · have hw := hw.1 q_5
      refine k_iload_n (pc := 41) C dX9_slip_41 2 rfl rfl ?_
      refine k_if_eq (pc := 42) C 56 dX9_slip_42 (by decide) (fun q_6 => ?_) (fun q_6 => ?_)
      · have hw := hw.1 q_6
        refine k_aload_n (pc := 56) C dX9_slip_56 0 rfl rfl ?_
        refine k_get (j := 3) (pc := 57) C hin9 hm_0 (cel_0 cA ad S_4 0) rfl (by decide) f32 (fun _ h => h) rfl dX9_slip_57 ?_
        refine k_iload_n (pc := 60) C dX9_slip_60 1 rfl rfl ?_
        refine k_afterI (pc := 61) C (wp_X7_leastOf a1 S_4) hw (fun post hw => by
            exact rn_V C (ct_X7_leastOf l D cA ad a1 S_4 post hw) (cwV 1 C.2.2.2.2.1 gX9_slip_X7_leastOf rfl rfl rfl (by decide +kernel) ⟨Nat.le_of_ble_eq_true rfl, Nat.le_of_ble_eq_true rfl⟩) hm_11 (cel_11 cA ad S_4 0) rfl rfl rfl rfl (Nat.le_of_ble_eq_true rfl) dX9_slip_61) (fun r_7 S_7 hw => ?_)
        exact hret _ _ _ _ dX9_slip_64 hw
      · have hw := hw.2 q_6
        refine k_aload_n (pc := 45) C dX9_slip_45 0 rfl rfl ?_
        refine k_get (j := 3) (pc := 46) C hin9 hm_0 (cel_0 cA ad S_4 0) rfl (by decide) f32 (fun _ h => h) rfl dX9_slip_46 ?_
        refine k_iload_n (pc := 49) C dX9_slip_49 1 rfl rfl ?_
        refine k_afterI (pc := 50) C (wp_X7_greatestOf a1 S_4) hw (fun post hw => by
            exact rn_V C (ct_X7_greatestOf l D cA ad a1 S_4 post hw) (cwV 1 C.2.2.2.2.1 gX9_slip_X7_greatestOf rfl rfl rfl (by decide +kernel) ⟨Nat.le_of_ble_eq_true rfl, Nat.le_of_ble_eq_true rfl⟩) hm_11 (cel_11 cA ad S_4 0) rfl rfl rfl rfl (Nat.le_of_ble_eq_true rfl) dX9_slip_50) (fun r_8 S_8 hw => ?_)
        refine k_goto (pc := 53) C 64 dX9_slip_53 (by decide) ?_
        exact hret _ _ _ _ dX9_slip_64 hw
    · have hw := hw.2 q_5
      refine k_bipush (v := (-4)) (pc := 38) C dX9_slip_38 (by decide) ?_
      exact hret _ _ _ _ dX9_slip_40 hw
  · have hw := hw.2 q_2
    refine k_iconst (v := (-1)) (pc := 7) C dX9_slip_7 (by decide) ?_
    exact hret _ _ _ _ dX9_slip_8 hw
def wp_X9_locked (S : Sg) (Q : Int32 → Sg → Prop) : Prop :=
  wp_X7_find (gI S 0 0 6) (gI S 0 0 7) S (fun S_1 => wp_X7_fitCount S_1 (fun r_2 S_2 => ((¬ r_2 = 0 → (∃ (I_4 : Int32 → Int32 → Sg → Prop) (μ_4 : Int32 → Int32 → Sg → Nat), I_4 0 0 S_2 ∧ ∀ (v1_4 : Int32) (v2_4 : Int32) (S_4 : Sg), I_4 v1_4 v2_4 S_4 → ((3 ≤ v2_4 → Q v1_4 S_4) ∧ (¬ 3 ≤ v2_4 → wp_X7_greatestOf v2_4 S_4 (fun r_6 S_6 => ((¬ r_6 = 0 → (∀ x2_8 : Int32, x2_8 = v2_4 + 1 → (I_4 v1_4 x2_8 S_6 ∧ μ_4 v1_4 x2_8 S_6 < μ_4 v1_4 v2_4 S_4))) ∧ (r_6 = 0 → (∀ x1_9 : Int32, x1_9 = (v1_4 ||| ((1 : Int32) <<< (v2_4 &&& 31))) → (∀ x2_10 : Int32, x2_10 = v2_4 + 1 → (I_4 x1_9 x2_10 S_6 ∧ μ_4 x1_9 x2_10 S_6 < μ_4 v1_4 v2_4 S_4)))))))))) ∧ (r_2 = 0 → Q (-4) S_2))))
set_option maxHeartbeats 4000000 in
set_option maxRecDepth 100000 in
theorem ct_X9_locked (l : Launch) (D : va_G) (cA : Nat → ClassId) (ad : Nat → Nat → Nat) (S : Sg) (Q : Int32 → Sg → Prop) (hw : wp_X9_locked  S Q) : CtI l yX9_locked wsX9_locked (mkR 4 93) D cA ad [.ref (ad 0 0)] S Q := by
  refine ct_ofI (cc := cX9_locked) (nL := 3) (by decide) rfl (Nat.le_of_ble_eq_true rfl) ?_
  intro p e s m args below meth c A Q C hret
  unfold wp_X9_locked at hw
  have C : Cx p s m args c cX9_locked 3 wsX9_locked RX9 D cA A := C
  have hin9 : ∀ w ∈ u_ws RX9 TX9 8, w ∈ wsX9_locked := fun w h => List.mem_cons_of_mem _ (List.mem_append_left _ (List.mem_append_left _ (List.mem_append_left _ (List.mem_append_left _ (List.mem_append_left _ (List.mem_append_right _ h))))))
  have f32 : Cond.fieldLink RX9 32 "CreepBoard" "slipFinder" "LCreepBoard$SlipFinder;" ∈ wsX9_locked := by decide +kernel
  have f11 : Cond.fieldLink RX9 11 "CreepBoard" "marks" "[LCreepBoard$Mark;" ∈ wsX9_locked := by decide +kernel
  have f54 : Cond.fieldLink RX9 54 "CreepBoard" "markCount" "I" ∈ wsX9_locked := by decide +kernel
  have f201 : Cond.fieldLink RX9 201 "CreepBoard" "tolerance" "I" ∈ wsX9_locked := by decide +kernel
  change KK p l e (mkR 4 93) s m args below meth c 3 D cA ad A Q 0 [(0, .ref (ad 0 0))] [] S
  refine k_aload_n (pc := 0) C dX9_locked_0 0 rfl rfl ?_
  refine k_get (j := 3) (pc := 1) C hin9 hm_0 (cel_0 cA ad S 0) rfl (by decide) f32 (fun _ h => h) rfl dX9_locked_1 ?_
  refine k_aload_n (pc := 4) C dX9_locked_4 0 rfl rfl ?_
  refine k_get (j := 0) (pc := 5) C hin9 hm_0 (cel_0 cA ad S 0) rfl (by decide) f11 (fun _ h => h) rfl dX9_locked_5 ?_
  refine k_aload_n (pc := 8) C dX9_locked_8 0 rfl rfl ?_
  refine k_get (j := 6) (pc := 9) C hin9 hm_0 (cel_0 cA ad S 0) rfl (by decide) f54 (fun _ h => h) rfl dX9_locked_9 ?_
  refine k_aload_n (pc := 12) C dX9_locked_12 0 rfl rfl ?_
  refine k_get (j := 7) (pc := 13) C hin9 hm_0 (cel_0 cA ad S 0) rfl (by decide) f201 (fun _ h => h) rfl dX9_locked_13 ?_
  refine k_afterV (pc := 16) C (wp_X7_find (gI S 0 0 6) (gI S 0 0 7) S) hw (fun post hw => by
      exact rn_V C (ct_X7_find l D cA ad (gI S 0 0 6) (gI S 0 0 7) S post hw) (cwV 3 C.2.2.2.2.1 gX9_locked_X7_find rfl rfl rfl (by decide +kernel) ⟨Nat.le_of_ble_eq_true rfl, Nat.le_of_ble_eq_true rfl⟩) hm_11 (cel_11 cA ad S 0) rfl rfl rfl rfl (Nat.le_of_ble_eq_true rfl) dX9_locked_16) (fun S_1 hw => ?_)
  refine k_aload_n (pc := 19) C dX9_locked_19 0 rfl rfl ?_
  refine k_get (j := 3) (pc := 20) C hin9 hm_0 (cel_0 cA ad S_1 0) rfl (by decide) f32 (fun _ h => h) rfl dX9_locked_20 ?_
  refine k_afterI (pc := 23) C (wp_X7_fitCount S_1) hw (fun post hw => by
      exact rn_V C (ct_X7_fitCount l D cA ad S_1 post hw) (cwV 0 C.2.2.2.2.1 gX9_locked_X7_fitCount rfl rfl rfl (by decide +kernel) ⟨Nat.le_of_ble_eq_true rfl, Nat.le_of_ble_eq_true rfl⟩) hm_11 (cel_11 cA ad S_1 0) rfl rfl rfl rfl (Nat.le_of_ble_eq_true rfl) dX9_locked_23) (fun r_2 S_2 hw => ?_)
  refine k_if_ne (pc := 26) C 32 dX9_locked_26 (by decide) (fun q_3 => ?_) (fun q_3 => ?_)
  · have hw := hw.1 q_3
    refine k_iconst (v := 0) (pc := 32) C dX9_locked_32 (by decide) ?_
    refine k_istore_n (pc := 33) C dX9_locked_33 rfl (by decide) [(1, .int 0), (0, .ref (ad 0 0))] rfl ?_
    refine k_iconst (v := 0) (pc := 34) C dX9_locked_34 (by decide) ?_
    refine k_istore_n (pc := 35) C dX9_locked_35 rfl (by decide) [(2, .int 0), (1, .int 0), (0, .ref (ad 0 0))] rfl ?_
    refine k_sub [2, 1, 0] [(0, .ref (ad 0 0)), (1, .int 0), (2, .int 0)] rfl ?_
    obtain ⟨I_4, μ_4, hi_4, hw⟩ := hw
    have L_4 : ∀ (n : Nat) (v1_4 : Int32) (v2_4 : Int32) (S_4 : Sg), μ_4 v1_4 v2_4 S_4 < n → I_4 v1_4 v2_4 S_4 → KK p l e (mkR 4 93) s m args below meth c 3 D cA ad A Q 36 [(0, .ref (ad 0 0)), (1, .int v1_4), (2, .int v2_4)] [] S_4 := by
      intro n
      induction n with
      | zero => intro v1_4 v2_4 S_4 h; exact absurd h (Nat.not_lt_zero _)
      | succ n ih_4 =>
        intro v1_4 v2_4 S_4 hn_4 hi_4
        have hw := hw v1_4 v2_4 S_4 hi_4
        refine k_iload_n (pc := 36) C dX9_locked_36 2 rfl rfl ?_
        refine k_iconst (v := 3) (pc := 37) C dX9_locked_37 (by decide) ?_
        refine k_icmp_ge (pc := 38) C 64 dX9_locked_38 (by decide) (fun q_5 => ?_) (fun q_5 => ?_)
        · have hw := hw.1 q_5
          refine k_iload_n (pc := 64) C dX9_locked_64 1 rfl rfl ?_
          exact hret _ _ _ _ dX9_locked_65 hw
        · have hw := hw.2 q_5
          refine k_aload_n (pc := 41) C dX9_locked_41 0 rfl rfl ?_
          refine k_get (j := 3) (pc := 42) C hin9 hm_0 (cel_0 cA ad S_4 0) rfl (by decide) f32 (fun _ h => h) rfl dX9_locked_42 ?_
          refine k_iload_n (pc := 45) C dX9_locked_45 2 rfl rfl ?_
          refine k_afterI (pc := 46) C (wp_X7_greatestOf v2_4 S_4) hw (fun post hw => by
              exact rn_V C (ct_X7_greatestOf l D cA ad v2_4 S_4 post hw) (cwV 1 C.2.2.2.2.1 gX9_locked_X7_greatestOf rfl rfl rfl (by decide +kernel) ⟨Nat.le_of_ble_eq_true rfl, Nat.le_of_ble_eq_true rfl⟩) hm_11 (cel_11 cA ad S_4 0) rfl rfl rfl rfl (Nat.le_of_ble_eq_true rfl) dX9_locked_46) (fun r_6 S_6 hw => ?_)
          refine k_if_ne (pc := 49) C 58 dX9_locked_49 (by decide) (fun q_7 => ?_) (fun q_7 => ?_)
          · have hw := hw.1 q_7
            obtain ⟨x2_8, ex2_8⟩ : ∃ y : Int32, y = v2_4 + 1 := ⟨_, rfl⟩
            have hw := hw x2_8 ex2_8
            refine k_iinc (v := x2_8) (j := 2) (pc := 58) C dX9_locked_58 rfl (by rw [ex2_8]; rfl) (by decide) [(2, .int x2_8), (0, .ref (ad 0 0)), (1, .int v1_4)] rfl ?_
            refine k_goto (pc := 61) C 36 dX9_locked_61 (by decide) ?_
            refine k_sub [1, 2, 0] [(0, .ref (ad 0 0)), (1, .int v1_4), (2, .int x2_8)] rfl ?_
            exact ih_4 v1_4 x2_8 S_6 (Nat.lt_of_lt_of_le hw.2 (Nat.le_of_lt_succ hn_4)) hw.1
          · have hw := hw.2 q_7
            refine k_iload_n (pc := 52) C dX9_locked_52 1 rfl rfl ?_
            refine k_iconst (v := 1) (pc := 53) C dX9_locked_53 (by decide) ?_
            refine k_iload_n (pc := 54) C dX9_locked_54 2 rfl rfl ?_
            refine k_ishl (pc := 55) C dX9_locked_55 ?_
            refine k_ior (pc := 56) C dX9_locked_56 ?_
            refine k_topi (fun x1_9 ex1_9 => ?_)
            have hw := hw x1_9 ex1_9
            refine k_istore_n (pc := 57) C dX9_locked_57 rfl (by decide) [(1, .int x1_9), (0, .ref (ad 0 0)), (2, .int v2_4)] rfl ?_
            obtain ⟨x2_10, ex2_10⟩ : ∃ y : Int32, y = v2_4 + 1 := ⟨_, rfl⟩
            have hw := hw x2_10 ex2_10
            refine k_iinc (v := x2_10) (j := 2) (pc := 58) C dX9_locked_58 rfl (by rw [ex2_10]; rfl) (by decide) [(2, .int x2_10), (1, .int x1_9), (0, .ref (ad 0 0))] rfl ?_
            refine k_goto (pc := 61) C 36 dX9_locked_61 (by decide) ?_
            refine k_sub [2, 1, 0] [(0, .ref (ad 0 0)), (1, .int x1_9), (2, .int x2_10)] rfl ?_
            exact ih_4 x1_9 x2_10 S_6 (Nat.lt_of_lt_of_le hw.2 (Nat.le_of_lt_succ hn_4)) hw.1
    exact L_4 (μ_4 0 0 S_2 + 1) 0 0 S_2 (Nat.lt_succ_self _) hi_4
  · have hw := hw.2 q_3
    refine k_bipush (v := (-4)) (pc := 29) C dX9_locked_29 (by decide) ?_
    exact hret _ _ _ _ dX9_locked_31 hw
def wp_X9_line (a1 : Int32) (a2 : Int32) (a3 : Int32) (S : Sg) (Q : Int32 → Sg → Prop) : Prop :=
  wp_X9_markAt a1 S (fun o_1 S_1 => (o_1 = none → Q (-1) S_1) ∧ (∀ j_1 : Nat, o_1 = some j_1 → wp_X9_markAt a2 S_1 (fun o_2 S_2 => (o_2 = none → Q (-1) S_2) ∧ (∀ j_2 : Nat, o_2 = some j_2 → ((a1 = a2 → Q (-1) S_2) ∧ (¬ a1 = a2 → wp_X9_within a3 10000 S_2 (fun r_4 S_4 => ((¬ r_4 = 0 → wp_X2_addLine a1 a2 a3 S_4 (fun r_6 S_6 => ((r_6 = 0 → Q (-2) S_6) ∧ (¬ r_6 = 0 → wp_X2_lineCount S_6 (fun r_8 S_8 => Q (r_8 - 1) S_8))))) ∧ (r_4 = 0 → Q (-1) S_4)))))))))
set_option maxHeartbeats 4000000 in
set_option maxRecDepth 100000 in
theorem ct_X9_line (l : Launch) (D : va_G) (cA : Nat → ClassId) (ad : Nat → Nat → Nat) (a1 : Int32) (a2 : Int32) (a3 : Int32) (S : Sg) (Q : Int32 → Sg → Prop) (hw : wp_X9_line a1 a2 a3 S Q) : CtI l yX9_line wsX9_line (mkR 1 23) D cA ad [.ref (ad 0 0), .int a1, .int a2, .int a3] S Q := by
  refine ct_ofI (cc := cX9_line) (nL := 4) (by decide) rfl (Nat.le_of_ble_eq_true rfl) ?_
  intro p e s m args below meth c A Q C hret
  unfold wp_X9_line at hw
  have C : Cx p s m args c cX9_line 4 wsX9_line RX9 D cA A := C
  have hin9 : ∀ w ∈ u_ws RX9 TX9 8, w ∈ wsX9_line := fun w h => List.mem_cons_of_mem _ (List.mem_append_left _ (List.mem_append_right _ h))
  have f39 : Cond.fieldLink RX9 39 "CreepBoard" "levels" "LCreepBoard$Levels;" ∈ wsX9_line := by decide +kernel
  change KK p l e (mkR 1 23) s m args below meth c 4 D cA ad A Q 0 [(0, .ref (ad 0 0)), (1, .int a1), (2, .int a2), (3, .int a3)] [] S
  refine k_aload_n (pc := 0) C dX9_line_0 0 rfl rfl ?_
  refine k_iload_n (pc := 1) C dX9_line_1 1 rfl rfl ?_
  refine k_afterQ (pc := 2) C 26 (wp_X9_markAt a1 S) hw (fun post hw => by
      exact rn_V C (ct_X9_markAt l D cA ad a1 S post hw) (cwV 1 C.2.2.2.2.1 gX9_line_X9_markAt rfl rfl rfl (by decide +kernel) ⟨Nat.le_of_ble_eq_true rfl, Nat.le_of_ble_eq_true rfl⟩) hm_0 (cel_0 cA ad S 0) rfl rfl rfl rfl (Nat.le_of_ble_eq_true rfl) dX9_line_2) (fun S_1 hw => ?_) (fun j_1 S_1 hw => ?_)
  · have hw := hw.1 rfl
    refine k_ifnullN (pc := 5) C 31 dX9_line_5 (by decide) ?_
    refine k_iconst (v := (-1)) (pc := 31) C dX9_line_31 (by decide) ?_
    exact hret _ _ _ _ dX9_line_32 hw
  · have hw := hw.2 j_1 rfl
    refine k_ifnull (pc := 5) C dX9_line_5 ?_
    refine k_aload_n (pc := 8) C dX9_line_8 0 rfl rfl ?_
    refine k_iload_n (pc := 9) C dX9_line_9 2 rfl rfl ?_
    refine k_afterQ (pc := 10) C 26 (wp_X9_markAt a2 S_1) hw (fun post hw => by
        exact rn_V C (ct_X9_markAt l D cA ad a2 S_1 post hw) (cwV 1 C.2.2.2.2.1 gX9_line_X9_markAt rfl rfl rfl (by decide +kernel) ⟨Nat.le_of_ble_eq_true rfl, Nat.le_of_ble_eq_true rfl⟩) hm_0 (cel_0 cA ad S_1 0) rfl rfl rfl rfl (Nat.le_of_ble_eq_true rfl) dX9_line_10) (fun S_2 hw => ?_) (fun j_2 S_2 hw => ?_)
    · have hw := hw.1 rfl
      refine k_ifnullN (pc := 13) C 31 dX9_line_13 (by decide) ?_
      refine k_iconst (v := (-1)) (pc := 31) C dX9_line_31 (by decide) ?_
      exact hret _ _ _ _ dX9_line_32 hw
    · have hw := hw.2 j_2 rfl
      refine k_ifnull (pc := 13) C dX9_line_13 ?_
      refine k_iload_n (pc := 16) C dX9_line_16 1 rfl rfl ?_
      refine k_iload_n (pc := 17) C dX9_line_17 2 rfl rfl ?_
      refine k_icmp_eq (pc := 18) C 31 dX9_line_18 (by decide) (fun q_3 => ?_) (fun q_3 => ?_)
      · have hw := hw.1 q_3
        refine k_iconst (v := (-1)) (pc := 31) C dX9_line_31 (by decide) ?_
        exact hret _ _ _ _ dX9_line_32 hw
      · have hw := hw.2 q_3
        refine k_iload_n (pc := 21) C dX9_line_21 3 rfl rfl ?_
        refine k_sipush (v := 10000) (pc := 22) C dX9_line_22 (by decide) ?_
        refine k_afterI (pc := 25) C (wp_X9_within a3 10000 S_2) hw (fun post hw => by
            exact rn_S C (ct_X9_within l D cA ad a3 10000 S_2 post hw) (va_cwS 2 C.2.2.2.2.1 gX9_line_X9_within rfl rfl rfl (by decide +kernel) ⟨Nat.le_of_ble_eq_true rfl, Nat.le_of_ble_eq_true rfl⟩) rfl rfl (Nat.le_of_ble_eq_true rfl) dX9_line_25) (fun r_4 S_4 hw => ?_)
        refine k_if_ne (pc := 28) C 33 dX9_line_28 (by decide) (fun q_5 => ?_) (fun q_5 => ?_)
        · have hw := hw.1 q_5
          refine k_aload_n (pc := 33) C dX9_line_33 0 rfl rfl ?_
          refine k_get (j := 4) (pc := 34) C hin9 hm_0 (cel_0 cA ad S_4 0) rfl (by decide) f39 (fun _ h => h) rfl dX9_line_34 ?_
          refine k_iload_n (pc := 37) C dX9_line_37 1 rfl rfl ?_
          refine k_iload_n (pc := 38) C dX9_line_38 2 rfl rfl ?_
          refine k_iload_n (pc := 39) C dX9_line_39 3 rfl rfl ?_
          refine k_afterI (pc := 40) C (wp_X2_addLine a1 a2 a3 S_4) hw (fun post hw => by
              exact rn_V C (ct_X2_addLine l D cA ad a1 a2 a3 S_4 post hw) (cwV 3 C.2.2.2.2.1 gX9_line_X2_addLine rfl rfl rfl (by decide +kernel) ⟨Nat.le_of_ble_eq_true rfl, Nat.le_of_ble_eq_true rfl⟩) hm_14 (cel_14 cA ad S_4 0) rfl rfl rfl rfl (Nat.le_of_ble_eq_true rfl) dX9_line_40) (fun r_6 S_6 hw => ?_)
          refine k_if_eq (pc := 43) C 58 dX9_line_43 (by decide) (fun q_7 => ?_) (fun q_7 => ?_)
          · have hw := hw.1 q_7
            refine k_bipush (v := (-2)) (pc := 58) C dX9_line_58 (by decide) ?_
            exact hret _ _ _ _ dX9_line_60 hw
          · have hw := hw.2 q_7
            refine k_aload_n (pc := 46) C dX9_line_46 0 rfl rfl ?_
            refine k_get (j := 4) (pc := 47) C hin9 hm_0 (cel_0 cA ad S_6 0) rfl (by decide) f39 (fun _ h => h) rfl dX9_line_47 ?_
            refine k_afterI (pc := 50) C (wp_X2_lineCount S_6) hw (fun post hw => by
                exact rn_V C (ct_X2_lineCount l D cA ad S_6 post hw) (cwV 0 C.2.2.2.2.1 gX9_line_X2_lineCount rfl rfl rfl (by decide +kernel) ⟨Nat.le_of_ble_eq_true rfl, Nat.le_of_ble_eq_true rfl⟩) hm_14 (cel_14 cA ad S_6 0) rfl rfl rfl rfl (Nat.le_of_ble_eq_true rfl) dX9_line_50) (fun r_8 S_8 hw => ?_)
            refine k_iconst (v := 1) (pc := 53) C dX9_line_53 (by decide) ?_
            refine k_isub (pc := 54) C dX9_line_54 ?_
            refine k_goto (pc := 55) C 60 dX9_line_55 (by decide) ?_
            exact hret _ _ _ _ dX9_line_60 hw
        · have hw := hw.2 q_5
          refine k_iconst (v := (-1)) (pc := 31) C dX9_line_31 (by decide) ?_
          exact hret _ _ _ _ dX9_line_32 hw
def wp_X9_unline (S : Sg) (Q : Int32 → Sg → Prop) : Prop :=
  wp_X2_dropLine S (fun r_1 S_1 => ((r_1 = 0 → Q (-3) S_1) ∧ (¬ r_1 = 0 → wp_X2_lineCount S_1 (fun r_3 S_3 => Q r_3 S_3))))
set_option maxHeartbeats 4000000 in
set_option maxRecDepth 100000 in
theorem ct_X9_unline (l : Launch) (D : va_G) (cA : Nat → ClassId) (ad : Nat → Nat → Nat) (S : Sg) (Q : Int32 → Sg → Prop) (hw : wp_X9_unline  S Q) : CtI l yX9_unline wsX9_unline (mkR 1 20) D cA ad [.ref (ad 0 0)] S Q := by
  refine ct_ofI (cc := cX9_unline) (nL := 1) (by decide) rfl (Nat.le_of_ble_eq_true rfl) ?_
  intro p e s m args below meth c A Q C hret
  unfold wp_X9_unline at hw
  have C : Cx p s m args c cX9_unline 1 wsX9_unline RX9 D cA A := C
  have hin9 : ∀ w ∈ u_ws RX9 TX9 8, w ∈ wsX9_unline := fun w h => List.mem_cons_of_mem _ (List.mem_append_left _ (List.mem_append_right _ h))
  have f39 : Cond.fieldLink RX9 39 "CreepBoard" "levels" "LCreepBoard$Levels;" ∈ wsX9_unline := by decide +kernel
  change KK p l e (mkR 1 20) s m args below meth c 1 D cA ad A Q 0 [(0, .ref (ad 0 0))] [] S
  refine k_aload_n (pc := 0) C dX9_unline_0 0 rfl rfl ?_
  refine k_get (j := 4) (pc := 1) C hin9 hm_0 (cel_0 cA ad S 0) rfl (by decide) f39 (fun _ h => h) rfl dX9_unline_1 ?_
  refine k_afterI (pc := 4) C (wp_X2_dropLine S) hw (fun post hw => by
      exact rn_V C (ct_X2_dropLine l D cA ad S post hw) (cwV 0 C.2.2.2.2.1 gX9_unline_X2_dropLine rfl rfl rfl (by decide +kernel) ⟨Nat.le_of_ble_eq_true rfl, Nat.le_of_ble_eq_true rfl⟩) hm_14 (cel_14 cA ad S 0) rfl rfl rfl rfl (Nat.le_of_ble_eq_true rfl) dX9_unline_4) (fun r_1 S_1 hw => ?_)
  refine k_if_eq (pc := 7) C 20 dX9_unline_7 (by decide) (fun q_2 => ?_) (fun q_2 => ?_)
  · have hw := hw.1 q_2
    refine k_bipush (v := (-3)) (pc := 20) C dX9_unline_20 (by decide) ?_
    exact hret _ _ _ _ dX9_unline_22 hw
  · have hw := hw.2 q_2
    refine k_aload_n (pc := 10) C dX9_unline_10 0 rfl rfl ?_
    refine k_get (j := 4) (pc := 11) C hin9 hm_0 (cel_0 cA ad S_1 0) rfl (by decide) f39 (fun _ h => h) rfl dX9_unline_11 ?_
    refine k_afterI (pc := 14) C (wp_X2_lineCount S_1) hw (fun post hw => by
        exact rn_V C (ct_X2_lineCount l D cA ad S_1 post hw) (cwV 0 C.2.2.2.2.1 gX9_unline_X2_lineCount rfl rfl rfl (by decide +kernel) ⟨Nat.le_of_ble_eq_true rfl, Nat.le_of_ble_eq_true rfl⟩) hm_14 (cel_14 cA ad S_1 0) rfl rfl rfl rfl (Nat.le_of_ble_eq_true rfl) dX9_unline_14) (fun r_3 S_3 hw => ?_)
    refine k_goto (pc := 17) C 22 dX9_unline_17 (by decide) ?_
    exact hret _ _ _ _ dX9_unline_22 hw
def wp_X9_count (a1 : Int32) (S : Sg) (Q : Int32 → Sg → Prop) : Prop :=
  ((a1 = 0 → Q (gI S 0 0 6) S) ∧ ((a1 = 1 → wp_X9_allReadings S (fun r_1 S_1 => Q r_1 S_1)) ∧ ((a1 = 2 → wp_X9_allSteps S (fun r_2 S_2 => Q r_2 S_2)) ∧ ((a1 = 3 → wp_X2_lineCount S (fun r_3 S_3 => Q r_3 S_3)) ∧ ((a1 = 4 → Q (gI S 0 0 7) S) ∧ (((¬ a1 = 0 ∧ ¬ a1 = 1 ∧ ¬ a1 = 2 ∧ ¬ a1 = 3 ∧ ¬ a1 = 4) → Q (-1) S)))))))
set_option maxHeartbeats 4000000 in
set_option maxRecDepth 100000 in
theorem ct_X9_count (l : Launch) (D : va_G) (cA : Nat → ClassId) (ad : Nat → Nat → Nat) (a1 : Int32) (S : Sg) (Q : Int32 → Sg → Prop) (hw : wp_X9_count a1 S Q) : CtI l yX9_count wsX9_count (mkR 2 44) D cA ad [.ref (ad 0 0), .int a1] S Q := by
  refine ct_ofI (cc := cX9_count) (nL := 2) (by decide) rfl (Nat.le_of_ble_eq_true rfl) ?_
  intro p e s m args below meth c A Q C hret
  unfold wp_X9_count at hw
  have C : Cx p s m args c cX9_count 2 wsX9_count RX9 D cA A := C
  have hin9 : ∀ w ∈ u_ws RX9 TX9 8, w ∈ wsX9_count := fun w h => List.mem_cons_of_mem _ (List.mem_append_left _ (List.mem_append_left _ (List.mem_append_left _ (List.mem_append_left _ (List.mem_append_left _ (List.mem_append_right _ h))))))
  have f54 : Cond.fieldLink RX9 54 "CreepBoard" "markCount" "I" ∈ wsX9_count := by decide +kernel
  have f39 : Cond.fieldLink RX9 39 "CreepBoard" "levels" "LCreepBoard$Levels;" ∈ wsX9_count := by decide +kernel
  have f201 : Cond.fieldLink RX9 201 "CreepBoard" "tolerance" "I" ∈ wsX9_count := by decide +kernel
  change KK p l e (mkR 2 44) s m args below meth c 2 D cA ad A Q 0 [(0, .ref (ad 0 0)), (1, .int a1)] [] S
  refine k_iload_n (pc := 0) C dX9_count_0 1 rfl rfl ?_
  by_cases q_1_0 : a1 = 0
  · have hw := hw.1 q_1_0
    refine k_tblIn (off := 35) (pc := 1) C 36 dX9_count_1 q_1_0 (by decide) (by decide) (by decide) (by decide) ?_
    refine k_aload_n (pc := 36) C dX9_count_36 0 rfl rfl ?_
    refine k_get (j := 6) (pc := 37) C hin9 hm_0 (cel_0 cA ad S 0) rfl (by decide) f54 (fun _ h => h) rfl dX9_count_37 ?_
    exact hret _ _ _ _ dX9_count_40 hw
  replace hw := hw.2
  by_cases q_1_1 : a1 = 1
  · have hw := hw.1 q_1_1
    refine k_tblIn (off := 40) (pc := 1) C 41 dX9_count_1 q_1_1 (by decide) (by decide) (by decide) (by decide) ?_
    refine k_aload_n (pc := 41) C dX9_count_41 0 rfl rfl ?_
    refine k_afterI (pc := 42) C (wp_X9_allReadings S) hw (fun post hw => by
        exact rn_V C (ct_X9_allReadings l D cA ad S post hw) (cwV 0 C.2.2.2.2.1 gX9_count_X9_allReadings rfl rfl rfl (by decide +kernel) ⟨Nat.le_of_ble_eq_true rfl, Nat.le_of_ble_eq_true rfl⟩) hm_0 (cel_0 cA ad S 0) rfl rfl rfl rfl (Nat.le_of_ble_eq_true rfl) dX9_count_42) (fun r_1 S_1 hw => ?_)
    exact hret _ _ _ _ dX9_count_45 hw
  replace hw := hw.2
  by_cases q_1_2 : a1 = 2
  · have hw := hw.1 q_1_2
    refine k_tblIn (off := 45) (pc := 1) C 46 dX9_count_1 q_1_2 (by decide) (by decide) (by decide) (by decide) ?_
    refine k_aload_n (pc := 46) C dX9_count_46 0 rfl rfl ?_
    refine k_afterI (pc := 47) C (wp_X9_allSteps S) hw (fun post hw => by
        exact rn_V C (ct_X9_allSteps l D cA ad S post hw) (cwV 0 C.2.2.2.2.1 gX9_count_X9_allSteps rfl rfl rfl (by decide +kernel) ⟨Nat.le_of_ble_eq_true rfl, Nat.le_of_ble_eq_true rfl⟩) hm_0 (cel_0 cA ad S 0) rfl rfl rfl rfl (Nat.le_of_ble_eq_true rfl) dX9_count_47) (fun r_2 S_2 hw => ?_)
    exact hret _ _ _ _ dX9_count_50 hw
  replace hw := hw.2
  by_cases q_1_3 : a1 = 3
  · have hw := hw.1 q_1_3
    refine k_tblIn (off := 50) (pc := 1) C 51 dX9_count_1 q_1_3 (by decide) (by decide) (by decide) (by decide) ?_
    refine k_aload_n (pc := 51) C dX9_count_51 0 rfl rfl ?_
    refine k_get (j := 4) (pc := 52) C hin9 hm_0 (cel_0 cA ad S 0) rfl (by decide) f39 (fun _ h => h) rfl dX9_count_52 ?_
    refine k_afterI (pc := 55) C (wp_X2_lineCount S) hw (fun post hw => by
        exact rn_V C (ct_X2_lineCount l D cA ad S post hw) (cwV 0 C.2.2.2.2.1 gX9_count_X2_lineCount rfl rfl rfl (by decide +kernel) ⟨Nat.le_of_ble_eq_true rfl, Nat.le_of_ble_eq_true rfl⟩) hm_14 (cel_14 cA ad S 0) rfl rfl rfl rfl (Nat.le_of_ble_eq_true rfl) dX9_count_55) (fun r_3 S_3 hw => ?_)
    exact hret _ _ _ _ dX9_count_58 hw
  replace hw := hw.2
  by_cases q_1_4 : a1 = 4
  · have hw := hw.1 q_1_4
    refine k_tblIn (off := 58) (pc := 1) C 59 dX9_count_1 q_1_4 (by decide) (by decide) (by decide) (by decide) ?_
    refine k_aload_n (pc := 59) C dX9_count_59 0 rfl rfl ?_
    refine k_get (j := 7) (pc := 60) C hin9 hm_0 (cel_0 cA ad S 0) rfl (by decide) f201 (fun _ h => h) rfl dX9_count_60 ?_
    exact hret _ _ _ _ dX9_count_63 hw
  replace hw := hw.2
  have z_1_0 := lv_neT q_1_0 (a := 0) (by decide)
  have z_1_1 := lv_neT q_1_1 (a := 1) (by decide)
  have z_1_2 := lv_neT q_1_2 (a := 2) (by decide)
  have z_1_3 := lv_neT q_1_3 (a := 3) (by decide)
  have z_1_4 := lv_neT q_1_4 (a := 4) (by decide)
  refine k_tblOut (pc := 1) C 64 dX9_count_1 (by omega) (by decide) ?_
  have hw := hw ⟨q_1_0, q_1_1, q_1_2, q_1_3, q_1_4⟩
  refine k_iconst (v := (-1)) (pc := 64) C dX9_count_64 (by decide) ?_
  exact hret _ _ _ _ dX9_count_65 hw
