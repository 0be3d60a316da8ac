def wp_J6_bitCount_0f7a4 (a0 : Int32) (S : Sg) (Q : Int32 → Sg → Prop) : Prop :=
  (∀ x0_1 : Int32, x0_1 = (a0 - ((((Int32.toUInt32 a0) >>> ((Int32.toUInt32 1) &&& Int32.toUInt32 31)).toInt32) &&& 1431655765)) → (∀ x0_2 : Int32, x0_2 = ((x0_1 &&& 858993459) + ((((Int32.toUInt32 x0_1) >>> ((Int32.toUInt32 2) &&& Int32.toUInt32 31)).toInt32) &&& 858993459)) → (∀ x0_3 : Int32, x0_3 = ((x0_2 + (((Int32.toUInt32 x0_2) >>> ((Int32.toUInt32 4) &&& Int32.toUInt32 31)).toInt32)) &&& 252645135) → (∀ x0_4 : Int32, x0_4 = (x0_3 + (((Int32.toUInt32 x0_3) >>> ((Int32.toUInt32 8) &&& Int32.toUInt32 31)).toInt32)) → (∀ x0_5 : Int32, x0_5 = (x0_4 + (((Int32.toUInt32 x0_4) >>> ((Int32.toUInt32 16) &&& Int32.toUInt32 31)).toInt32)) → Q (x0_5 &&& 63) S)))))
set_option maxHeartbeats 4000000 in
set_option maxRecDepth 100000 in
theorem ct_J6_bitCount_0f7a4 (l : Launch) (D : va_G) (cA : Nat → ClassId) (ad : Nat → Nat → Nat) (a0 : Int32) (S : Sg) (Q : Int32 → Sg → Prop) (hw : wp_J6_bitCount_0f7a4 a0 S Q) : CtI l yJ6_bitCount_0f7a4 wsJ6_bitCount_0f7a4 (mkR 0 0) D cA ad [.int a0] S Q := by
  refine ct_ofIF (cc := cJ6_bitCount_0f7a4) (nL := 1) (by decide +kernel) rfl (Nat.le_of_ble_eq_true rfl) ?_
  intro p e s m args below meth c A Q C hret
  unfold wp_J6_bitCount_0f7a4 at hw
  have C : Cx p s m args c cJ6_bitCount_0f7a4 1 wsJ6_bitCount_0f7a4 RJ6 D cA A := C
  change KK p l e (mkR 0 0) s m args below meth c 1 D cA ad A Q 0 [(0, .int a0)] [] S
  refine k_iload_n (pc := 0) C dJ6_bitCount_0f7a4_0 0 rfl rfl ?_
  refine k_iload_n (pc := 1) C dJ6_bitCount_0f7a4_1 0 rfl rfl ?_
  refine k_iconst (v := 1) (pc := 2) C dJ6_bitCount_0f7a4_2 (by decide) ?_
  refine k_iushr (pc := 3) C dJ6_bitCount_0f7a4_3 ?_
  refine k_ldcw (pc := 4) C (C.2.2.2.2.1 (.constant RJ6 265 (1431655765)) (by decide +kernel)) dJ6_bitCount_0f7a4_4 ?_
  refine k_iand (pc := 7) C dJ6_bitCount_0f7a4_7 ?_
  refine k_isub (pc := 8) C dJ6_bitCount_0f7a4_8 ?_
  refine k_topi (fun x0_1 ex0_1 => ?_)
  have hw := hw x0_1 ex0_1
  refine k_istore_n (pc := 9) C dJ6_bitCount_0f7a4_9 rfl (by decide) [(0, .int x0_1)] rfl ?_
  refine k_iload_n (pc := 10) C dJ6_bitCount_0f7a4_10 0 rfl rfl ?_
  refine k_ldcw (pc := 11) C (C.2.2.2.2.1 (.constant RJ6 266 (858993459)) (by decide +kernel)) dJ6_bitCount_0f7a4_11 ?_
  refine k_iand (pc := 14) C dJ6_bitCount_0f7a4_14 ?_
  refine k_iload_n (pc := 15) C dJ6_bitCount_0f7a4_15 0 rfl rfl ?_
  refine k_iconst (v := 2) (pc := 16) C dJ6_bitCount_0f7a4_16 (by decide) ?_
  refine k_iushr (pc := 17) C dJ6_bitCount_0f7a4_17 ?_
  refine k_ldcw (pc := 18) C (C.2.2.2.2.1 (.constant RJ6 266 (858993459)) (by decide +kernel)) dJ6_bitCount_0f7a4_18 ?_
  refine k_iand (pc := 21) C dJ6_bitCount_0f7a4_21 ?_
  refine k_iadd (pc := 22) C dJ6_bitCount_0f7a4_22 ?_
  refine k_topi (fun x0_2 ex0_2 => ?_)
  have hw := hw x0_2 ex0_2
  refine k_istore_n (pc := 23) C dJ6_bitCount_0f7a4_23 rfl (by decide) [(0, .int x0_2)] rfl ?_
  refine k_iload_n (pc := 24) C dJ6_bitCount_0f7a4_24 0 rfl rfl ?_
  refine k_iload_n (pc := 25) C dJ6_bitCount_0f7a4_25 0 rfl rfl ?_
  refine k_iconst (v := 4) (pc := 26) C dJ6_bitCount_0f7a4_26 (by decide) ?_
  refine k_iushr (pc := 27) C dJ6_bitCount_0f7a4_27 ?_
  refine k_iadd (pc := 28) C dJ6_bitCount_0f7a4_28 ?_
  refine k_ldcw (pc := 29) C (C.2.2.2.2.1 (.constant RJ6 267 (252645135)) (by decide +kernel)) dJ6_bitCount_0f7a4_29 ?_
  refine k_iand (pc := 32) C dJ6_bitCount_0f7a4_32 ?_
  refine k_topi (fun x0_3 ex0_3 => ?_)
  have hw := hw x0_3 ex0_3
  refine k_istore_n (pc := 33) C dJ6_bitCount_0f7a4_33 rfl (by decide) [(0, .int x0_3)] rfl ?_
  refine k_iload_n (pc := 34) C dJ6_bitCount_0f7a4_34 0 rfl rfl ?_
  refine k_iload_n (pc := 35) C dJ6_bitCount_0f7a4_35 0 rfl rfl ?_
  refine k_bipush (v := 8) (pc := 36) C dJ6_bitCount_0f7a4_36 (by decide) ?_
  refine k_iushr (pc := 38) C dJ6_bitCount_0f7a4_38 ?_
  refine k_iadd (pc := 39) C dJ6_bitCount_0f7a4_39 ?_
  refine k_topi (fun x0_4 ex0_4 => ?_)
  have hw := hw x0_4 ex0_4
  refine k_istore_n (pc := 40) C dJ6_bitCount_0f7a4_40 rfl (by decide) [(0, .int x0_4)] rfl ?_
  refine k_iload_n (pc := 41) C dJ6_bitCount_0f7a4_41 0 rfl rfl ?_
  refine k_iload_n (pc := 42) C dJ6_bitCount_0f7a4_42 0 rfl rfl ?_
  refine k_bipush (v := 16) (pc := 43) C dJ6_bitCount_0f7a4_43 (by decide) ?_
  refine k_iushr (pc := 45) C dJ6_bitCount_0f7a4_45 ?_
  refine k_iadd (pc := 46) C dJ6_bitCount_0f7a4_46 ?_
  refine k_topi (fun x0_5 ex0_5 => ?_)
  have hw := hw x0_5 ex0_5
  refine k_istore_n (pc := 47) C dJ6_bitCount_0f7a4_47 rfl (by decide) [(0, .int x0_5)] rfl ?_
  refine k_iload_n (pc := 48) C dJ6_bitCount_0f7a4_48 0 rfl rfl ?_
  refine k_bipush (v := 63) (pc := 49) C dJ6_bitCount_0f7a4_49 (by decide) ?_
  refine k_iand (pc := 51) C dJ6_bitCount_0f7a4_51 ?_
  exact hret _ _ _ _ dJ6_bitCount_0f7a4_52 hw
def wp_J9_floorDiv_7cf53 (a0 : Int32) (a1 : Int32) (S : Sg) (Q : Int32 → Sg → Prop) : Prop :=
  ((¬ a1 = 0) ∧ (∀ x2_2 : Int32, x2_2 = (a0 / a1) → ((0 ≤ (a0 ^^^ a1) → Q x2_2 S) ∧ (¬ 0 ≤ (a0 ^^^ a1) → (((x2_2 * a1) = a0 → Q x2_2 S) ∧ (¬ (x2_2 * a1) = a0 → Q (x2_2 - 1) S))))))
set_option maxHeartbeats 4000000 in
set_option maxRecDepth 100000 in
theorem ct_J9_floorDiv_7cf53 (l : Launch) (D : va_G) (cA : Nat → ClassId) (ad : Nat → Nat → Nat) (a0 : Int32) (a1 : Int32) (S : Sg) (Q : Int32 → Sg → Prop) (hw : wp_J9_floorDiv_7cf53 a0 a1 S Q) : CtI l yJ9_floorDiv_7cf53 wsJ9_floorDiv_7cf53 (mkR 0 0) D cA ad [.int a0, .int a1] S Q := by
  refine ct_ofIF (cc := cJ9_floorDiv_7cf53) (nL := 3) (by decide +kernel) rfl (Nat.le_of_ble_eq_true rfl) ?_
  intro p e s m args below meth c A Q C hret
  unfold wp_J9_floorDiv_7cf53 at hw
  have C : Cx p s m args c cJ9_floorDiv_7cf53 3 wsJ9_floorDiv_7cf53 RJ9 D cA A := C
  change KK p l e (mkR 0 0) s m args below meth c 3 D cA ad A Q 0 [(0, .int a0), (1, .int a1)] [] S
  refine k_iload_n (pc := 0) C dJ9_floorDiv_7cf53_0 0 rfl rfl ?_
  refine k_iload_n (pc := 1) C dJ9_floorDiv_7cf53_1 1 rfl rfl ?_
  obtain ⟨h_1, hw⟩ := hw
  refine k_idiv (pc := 2) C dJ9_floorDiv_7cf53_2 h_1 ?_
  refine k_topi (fun x2_2 ex2_2 => ?_)
  have hw := hw x2_2 ex2_2
  refine k_istore_n (pc := 3) C dJ9_floorDiv_7cf53_3 rfl (by decide) [(2, .int x2_2), (0, .int a0), (1, .int a1)] rfl ?_
  refine k_iload_n (pc := 4) C dJ9_floorDiv_7cf53_4 1 rfl rfl ?_
  refine k_iload_n (pc := 5) C dJ9_floorDiv_7cf53_5 2 rfl rfl ?_
  refine k_ixor (pc := 6) C dJ9_floorDiv_7cf53_6 ?_
  refine k_if_ge (pc := 7) C 21 dJ9_floorDiv_7cf53_7 (by decide) (fun q_3 => ?_) (fun q_3 => ?_)
  · have hw := hw.1 q_3
    refine k_iload_n (pc := 21) C dJ9_floorDiv_7cf53_21 0 rfl rfl ?_
    exact hret _ _ _ _ dJ9_floorDiv_7cf53_22 hw
  · have hw := hw.2 q_3
    refine k_iload_n (pc := 10) C dJ9_floorDiv_7cf53_10 0 rfl rfl ?_
    refine k_iload_n (pc := 11) C dJ9_floorDiv_7cf53_11 2 rfl rfl ?_
    refine k_imul (pc := 12) C dJ9_floorDiv_7cf53_12 ?_
    refine k_iload_n (pc := 13) C dJ9_floorDiv_7cf53_13 1 rfl rfl ?_
    refine k_icmp_eq (pc := 14) C 21 dJ9_floorDiv_7cf53_14 (by decide) (fun q_4 => ?_) (fun q_4 => ?_)
    · have hw := hw.1 q_4
      refine k_iload_n (pc := 21) C dJ9_floorDiv_7cf53_21 0 rfl rfl ?_
      exact hret _ _ _ _ dJ9_floorDiv_7cf53_22 hw
    · have hw := hw.2 q_4
      refine k_iload_n (pc := 17) C dJ9_floorDiv_7cf53_17 0 rfl rfl ?_
      refine k_iconst (v := 1) (pc := 18) C dJ9_floorDiv_7cf53_18 (by decide) ?_
      refine k_isub (pc := 19) C dJ9_floorDiv_7cf53_19 ?_
      exact hret _ _ _ _ dJ9_floorDiv_7cf53_20 hw
def wp_X3_number (k : Nat) (S : Sg) (Q : Int32 → Sg → Prop) : Prop :=
  (k < nM S ∧ Q (gI S 26 k 0) S)
set_option maxHeartbeats 4000000 in
set_option maxRecDepth 100000 in
theorem ct_X3_number (l : Launch) (D : va_G) (cA : Nat → ClassId) (ad : Nat → Nat → Nat) (k : Nat) (S : Sg) (Q : Int32 → Sg → Prop) (hw : wp_X3_number k S Q) : CtI l yX3_number wsX3_number (mkR 0 0) D cA ad [.ref (ad 26 k)] S Q := by
  refine ct_ofI (cc := cX3_number) (nL := 1) (by decide) rfl (Nat.le_of_ble_eq_true rfl) ?_
  intro p e s m args below meth c A Q C hret
  unfold wp_X3_number at hw
  have C : Cx p s m args c cX3_number 1 wsX3_number RX3 D cA A := C
  have hin1 : ∀ w ∈ u_ws RX1 TX1 11, w ∈ wsX3_number := fun w h => List.mem_cons_of_mem _ (List.mem_append_left _ (List.mem_append_left _ (List.mem_append_left _ (List.mem_append_right _ h))))
  have hin3 : ∀ w ∈ u_ws RX3 TX3 11, w ∈ wsX3_number := fun w h => List.mem_cons_of_mem _ (List.mem_append_left _ (List.mem_append_left _ (List.mem_append_right _ h)))
  have hin4 : ∀ w ∈ u_ws RX4 TX4 13, w ∈ wsX3_number := fun w h => List.mem_cons_of_mem _ (List.mem_append_left _ (List.mem_append_right _ h))
  have hin8 : ∀ w ∈ u_ws RX8 TX8 13, w ∈ wsX3_number := fun w h => List.mem_cons_of_mem _ (List.mem_append_right _ h)
  have f33 : Cond.fieldLink RX3 33 "CreepBoard$Mark" "number" "I" ∈ wsX3_number := by decide +kernel
  change KK p l e (mkR 0 0) s m args below meth c 1 D cA ad A Q 0 [(0, .ref (ad 26 k))] [] S
  refine k_aload_n (pc := 0) C dX3_number_0 0 rfl rfl ?_
  obtain ⟨h_1, hw⟩ := hw
  refine kG_number (pc := 1) C hin1 hin3 hin4 hin8 h_1 f33 dX3_number_1 ?_
  exact hret _ _ _ _ dX3_number_4 hw
def wp_X3_placeX (k : Nat) (S : Sg) (Q : Int32 → Sg → Prop) : Prop :=
  (k < nM S ∧ Q (gI S 26 k 1) S)
set_option maxHeartbeats 4000000 in
set_option maxRecDepth 100000 in
theorem ct_X3_placeX (l : Launch) (D : va_G) (cA : Nat → ClassId) (ad : Nat → Nat → Nat) (k : Nat) (S : Sg) (Q : Int32 → Sg → Prop) (hw : wp_X3_placeX k S Q) : CtI l yX3_placeX wsX3_placeX (mkR 0 0) D cA ad [.ref (ad 26 k)] S Q := by
  refine ct_ofI (cc := cX3_placeX) (nL := 1) (by decide) rfl (Nat.le_of_ble_eq_true rfl) ?_
  intro p e s m args below meth c A Q C hret
  unfold wp_X3_placeX at hw
  have C : Cx p s m args c cX3_placeX 1 wsX3_placeX RX3 D cA A := C
  have hin1 : ∀ w ∈ u_ws RX1 TX1 11, w ∈ wsX3_placeX := fun w h => List.mem_cons_of_mem _ (List.mem_append_left _ (List.mem_append_left _ (List.mem_append_left _ (List.mem_append_right _ h))))
  have hin3 : ∀ w ∈ u_ws RX3 TX3 11, w ∈ wsX3_placeX := fun w h => List.mem_cons_of_mem _ (List.mem_append_left _ (List.mem_append_left _ (List.mem_append_right _ h)))
  have hin4 : ∀ w ∈ u_ws RX4 TX4 13, w ∈ wsX3_placeX := fun w h => List.mem_cons_of_mem _ (List.mem_append_left _ (List.mem_append_right _ h))
  have hin8 : ∀ w ∈ u_ws RX8 TX8 13, w ∈ wsX3_placeX := fun w h => List.mem_cons_of_mem _ (List.mem_append_right _ h)
  have f37 : Cond.fieldLink RX3 37 "CreepBoard$Mark" "x" "I" ∈ wsX3_placeX := by decide +kernel
  change KK p l e (mkR 0 0) s m args below meth c 1 D cA ad A Q 0 [(0, .ref (ad 26 k))] [] S
  refine k_aload_n (pc := 0) C dX3_placeX_0 0 rfl rfl ?_
  obtain ⟨h_1, hw⟩ := hw
  refine kG_x (pc := 1) C hin1 hin3 hin4 hin8 h_1 f37 dX3_placeX_1 ?_
  exact hret _ _ _ _ dX3_placeX_4 hw
def wp_X3_placeY (k : Nat) (S : Sg) (Q : Int32 → Sg → Prop) : Prop :=
  (k < nM S ∧ Q (gI S 26 k 2) S)
set_option maxHeartbeats 4000000 in
set_option maxRecDepth 100000 in
theorem ct_X3_placeY (l : Launch) (D : va_G) (cA : Nat → ClassId) (ad : Nat → Nat → Nat) (k : Nat) (S : Sg) (Q : Int32 → Sg → Prop) (hw : wp_X3_placeY k S Q) : CtI l yX3_placeY wsX3_placeY (mkR 0 0) D cA ad [.ref (ad 26 k)] S Q := by
  refine ct_ofI (cc := cX3_placeY) (nL := 1) (by decide) rfl (Nat.le_of_ble_eq_true rfl) ?_
  intro p e s m args below meth c A Q C hret
  unfold wp_X3_placeY at hw
  have C : Cx p s m args c cX3_placeY 1 wsX3_placeY RX3 D cA A := C
  have hin1 : ∀ w ∈ u_ws RX1 TX1 11, w ∈ wsX3_placeY := fun w h => List.mem_cons_of_mem _ (List.mem_append_left _ (List.mem_append_left _ (List.mem_append_left _ (List.mem_append_right _ h))))
  have hin3 : ∀ w ∈ u_ws RX3 TX3 11, w ∈ wsX3_placeY := fun w h => List.mem_cons_of_mem _ (List.mem_append_left _ (List.mem_append_left _ (List.mem_append_right _ h)))
  have hin4 : ∀ w ∈ u_ws RX4 TX4 13, w ∈ wsX3_placeY := fun w h => List.mem_cons_of_mem _ (List.mem_append_left _ (List.mem_append_right _ h))
  have hin8 : ∀ w ∈ u_ws RX8 TX8 13, w ∈ wsX3_placeY := fun w h => List.mem_cons_of_mem _ (List.mem_append_right _ h)
  have f40 : Cond.fieldLink RX3 40 "CreepBoard$Mark" "y" "I" ∈ wsX3_placeY := by decide +kernel
  change KK p l e (mkR 0 0) s m args below meth c 1 D cA ad A Q 0 [(0, .ref (ad 26 k))] [] S
  refine k_aload_n (pc := 0) C dX3_placeY_0 0 rfl rfl ?_
  obtain ⟨h_1, hw⟩ := hw
  refine kG_y (pc := 1) C hin1 hin3 hin4 hin8 h_1 f40 dX3_placeY_1 ?_
  exact hret _ _ _ _ dX3_placeY_4 hw
def wp_X3_readingCount (k : Nat) (S : Sg) (Q : Int32 → Sg → Prop) : Prop :=
  (k < nM S ∧ Q (gI S 26 k 3) S)
set_option maxHeartbeats 4000000 in
set_option maxRecDepth 100000 in
theorem ct_X3_readingCount (l : Launch) (D : va_G) (cA : Nat → ClassId) (ad : Nat → Nat → Nat) (k : Nat) (S : Sg) (Q : Int32 → Sg → Prop) (hw : wp_X3_readingCount k S Q) : CtI l yX3_readingCount wsX3_readingCount (mkR 0 0) D cA ad [.ref (ad 26 k)] S Q := by
  refine ct_ofI (cc := cX3_readingCount) (nL := 1) (by decide) rfl (Nat.le_of_ble_eq_true rfl) ?_
  intro p e s m args below meth c A Q C hret
  unfold wp_X3_readingCount at hw
  have C : Cx p s m args c cX3_readingCount 1 wsX3_readingCount RX3 D cA A := C
  have hin1 : ∀ w ∈ u_ws RX1 TX1 11, w ∈ wsX3_readingCount := fun w h => List.mem_cons_of_mem _ (List.mem_append_left _ (List.mem_append_left _ (List.mem_append_left _ (List.mem_append_right _ h))))
  have hin3 : ∀ w ∈ u_ws RX3 TX3 11, w ∈ wsX3_readingCount := fun w h => List.mem_cons_of_mem _ (List.mem_append_left _ (List.mem_append_left _ (List.mem_append_right _ h)))
  have hin4 : ∀ w ∈ u_ws RX4 TX4 13, w ∈ wsX3_readingCount := fun w h => List.mem_cons_of_mem _ (List.mem_append_left _ (List.mem_append_right _ h))
  have hin8 : ∀ w ∈ u_ws RX8 TX8 13, w ∈ wsX3_readingCount := fun w h => List.mem_cons_of_mem _ (List.mem_append_right _ h)
  have f43 : Cond.fieldLink RX3 43 "CreepBoard$Mark" "readingCount" "I" ∈ wsX3_readingCount := by decide +kernel
  change KK p l e (mkR 0 0) s m args below meth c 1 D cA ad A Q 0 [(0, .ref (ad 26 k))] [] S
  refine k_aload_n (pc := 0) C dX3_readingCount_0 0 rfl rfl ?_
  obtain ⟨h_1, hw⟩ := hw
  refine kG_readingCount (pc := 1) C hin1 hin3 hin4 hin8 h_1 f43 dX3_readingCount_1 ?_
  exact hret _ _ _ _ dX3_readingCount_4 hw
def wp_X3_stepCount (k : Nat) (S : Sg) (Q : Int32 → Sg → Prop) : Prop :=
  (k < nM S ∧ Q (gI S 26 k 4) S)
set_option maxHeartbeats 4000000 in
set_option maxRecDepth 100000 in
theorem ct_X3_stepCount (l : Launch) (D : va_G) (cA : Nat → ClassId) (ad : Nat → Nat → Nat) (k : Nat) (S : Sg) (Q : Int32 → Sg → Prop) (hw : wp_X3_stepCount k S Q) : CtI l yX3_stepCount wsX3_stepCount (mkR 0 0) D cA ad [.ref (ad 26 k)] S Q := by
  refine ct_ofI (cc := cX3_stepCount) (nL := 1) (by decide) rfl (Nat.le_of_ble_eq_true rfl) ?_
  intro p e s m args below meth c A Q C hret
  unfold wp_X3_stepCount at hw
  have C : Cx p s m args c cX3_stepCount 1 wsX3_stepCount RX3 D cA A := C
  have hin1 : ∀ w ∈ u_ws RX1 TX1 11, w ∈ wsX3_stepCount := fun w h => List.mem_cons_of_mem _ (List.mem_append_left _ (List.mem_append_left _ (List.mem_append_left _ (List.mem_append_right _ h))))
  have hin3 : ∀ w ∈ u_ws RX3 TX3 11, w ∈ wsX3_stepCount := fun w h => List.mem_cons_of_mem _ (List.mem_append_left _ (List.mem_append_left _ (List.mem_append_right _ h)))
  have hin4 : ∀ w ∈ u_ws RX4 TX4 13, w ∈ wsX3_stepCount := fun w h => List.mem_cons_of_mem _ (List.mem_append_left _ (List.mem_append_right _ h))
  have hin8 : ∀ w ∈ u_ws RX8 TX8 13, w ∈ wsX3_stepCount := fun w h => List.mem_cons_of_mem _ (List.mem_append_right _ h)
  have f46 : Cond.fieldLink RX3 46 "CreepBoard$Mark" "stepCount" "I" ∈ wsX3_stepCount := by decide +kernel
  change KK p l e (mkR 0 0) s m args below meth c 1 D cA ad A Q 0 [(0, .ref (ad 26 k))] [] S
  refine k_aload_n (pc := 0) C dX3_stepCount_0 0 rfl rfl ?_
  obtain ⟨h_1, hw⟩ := hw
  refine kG_stepCount (pc := 1) C hin1 hin3 hin4 hin8 h_1 f46 dX3_stepCount_1 ?_
  exact hret _ _ _ _ dX3_stepCount_4 hw
def wp_X3_speed (k : Nat) (a1 : Int32) (S : Sg) (Q : Int32 → Sg → Prop) : Prop :=
  (k < nM S ∧ (vp_in a1 2 ∧ Q (gA S 33 k (Int32.toNatClampNeg a1)) S))
set_option maxHeartbeats 4000000 in
set_option maxRecDepth 100000 in
theorem ct_X3_speed (l : Launch) (D : va_G) (cA : Nat → ClassId) (ad : Nat → Nat → Nat) (k : Nat) (a1 : Int32) (S : Sg) (Q : Int32 → Sg → Prop) (hw : wp_X3_speed k a1 S Q) : CtI l yX3_speed wsX3_speed (mkR 0 0) D cA ad [.ref (ad 26 k), .int a1] S Q := by
  refine ct_ofI (cc := cX3_speed) (nL := 2) (by decide) rfl (Nat.le_of_ble_eq_true rfl) ?_
  intro p e s m args below meth c A Q C hret
  unfold wp_X3_speed at hw
  have C : Cx p s m args c cX3_speed 2 wsX3_speed RX3 D cA A := C
  have hin1 : ∀ w ∈ u_ws RX1 TX1 11, w ∈ wsX3_speed := fun w h => List.mem_cons_of_mem _ (List.mem_append_left _ (List.mem_append_left _ (List.mem_append_left _ (List.mem_append_right _ h))))
  have hin3 : ∀ w ∈ u_ws RX3 TX3 11, w ∈ wsX3_speed := fun w h => List.mem_cons_of_mem _ (List.mem_append_left _ (List.mem_append_left _ (List.mem_append_right _ h)))
  have hin4 : ∀ w ∈ u_ws RX4 TX4 13, w ∈ wsX3_speed := fun w h => List.mem_cons_of_mem _ (List.mem_append_left _ (List.mem_append_right _ h))
  have hin8 : ∀ w ∈ u_ws RX8 TX8 13, w ∈ wsX3_speed := fun w h => List.mem_cons_of_mem _ (List.mem_append_right _ h)
  have f27 : Cond.fieldLink RX3 27 "CreepBoard$Mark" "speeds" "[I" ∈ wsX3_speed := by decide +kernel
  change KK p l e (mkR 0 0) s m args below meth c 2 D cA ad A Q 0 [(0, .ref (ad 26 k)), (1, .int a1)] [] S
  refine k_aload_n (pc := 0) C dX3_speed_0 0 rfl rfl ?_
  obtain ⟨h_1, hw⟩ := hw
  refine kG_speeds (pc := 1) C hin1 hin3 hin4 hin8 h_1 f27 dX3_speed_1 ?_
  refine k_iload_n (pc := 4) C dX3_speed_4 1 rfl rfl ?_
  obtain ⟨h_2, hw⟩ := hw
  refine k_iald (pc := 5) C (mm_33 h_1) (cel_33 cA ad S k) h_2 dX3_speed_5 ?_
  exact hret _ _ _ _ dX3_speed_6 hw
def wp_X3_setSpeed (k : Nat) (a1 : Int32) (a2 : Int32) (S : Sg) (Q : Sg → Prop) : Prop :=
  (k < nM S ∧ (vp_in 0 2 ∧ (∀ S_3 : Sg, S_3 = uA S 33 k (Int32.toNatClampNeg 0) a1 → (vp_in 1 2 ∧ (∀ S_6 : Sg, S_6 = uA S_3 33 k (Int32.toNatClampNeg 1) a2 → Q S_6)))))
set_option maxHeartbeats 4000000 in
set_option maxRecDepth 100000 in
theorem ct_X3_setSpeed (l : Launch) (D : va_G) (cA : Nat → ClassId) (ad : Nat → Nat → Nat) (k : Nat) (a1 : Int32) (a2 : Int32) (S : Sg) (Q : Sg → Prop) (hw : wp_X3_setSpeed k a1 a2 S Q) : CtV l yX3_setSpeed wsX3_setSpeed (mkR 0 0) D cA ad [.ref (ad 26 k), .int a1, .int a2] S Q := by
  refine ct_ofV (cc := cX3_setSpeed) (nL := 3) (by decide) rfl (Nat.le_of_ble_eq_true rfl) ?_
  intro p e s m args below meth c A Q C hret
  unfold wp_X3_setSpeed at hw
  have C : Cx p s m args c cX3_setSpeed 3 wsX3_setSpeed RX3 D cA A := C
  have hin1 : ∀ w ∈ u_ws RX1 TX1 11, w ∈ wsX3_setSpeed := fun w h => List.mem_cons_of_mem _ (List.mem_append_left _ (List.mem_append_left _ (List.mem_append_left _ (List.mem_append_right _ h))))
  have hin3 : ∀ w ∈ u_ws RX3 TX3 11, w ∈ wsX3_setSpeed := fun w h => List.mem_cons_of_mem _ (List.mem_append_left _ (List.mem_append_left _ (List.mem_append_right _ h)))
  have hin4 : ∀ w ∈ u_ws RX4 TX4 13, w ∈ wsX3_setSpeed := fun w h => List.mem_cons_of_mem _ (List.mem_append_left _ (List.mem_append_right _ h))
  have hin8 : ∀ w ∈ u_ws RX8 TX8 13, w ∈ wsX3_setSpeed := fun w h => List.mem_cons_of_mem _ (List.mem_append_right _ h)
  have f27 : Cond.fieldLink RX3 27 "CreepBoard$Mark" "speeds" "[I" ∈ wsX3_setSpeed := by decide +kernel
  change KK p l e (mkR 0 0) s m args below meth c 3 D cA ad A Q 0 [(0, .ref (ad 26 k)), (1, .int a1), (2, .int a2)] [] S
  refine k_aload_n (pc := 0) C dX3_setSpeed_0 0 rfl rfl ?_
  obtain ⟨h_1, hw⟩ := hw
  refine kG_speeds (pc := 1) C hin1 hin3 hin4 hin8 h_1 f27 dX3_setSpeed_1 ?_
  refine k_iconst (v := 0) (pc := 4) C dX3_setSpeed_4 (by decide) ?_
  refine k_iload_n (pc := 5) C dX3_setSpeed_5 1 rfl rfl ?_
  obtain ⟨h_2, hw⟩ := hw
  refine k_iast (pc := 6) C (mm_33 h_1) (fun S => cel_33 cA ad S k) h_2 dX3_setSpeed_6 ?_
  refine k_nameS (fun S_3 eS_3 => ?_)
  have hw := hw S_3 eS_3
  refine k_aload_n (pc := 7) C dX3_setSpeed_7 0 rfl rfl ?_
  have p_4 : k < nM S_3 := by rw [eS_3]; exact h_1
  refine kG_speeds (pc := 8) C hin1 hin3 hin4 hin8 p_4 f27 dX3_setSpeed_8 ?_
  refine k_iconst (v := 1) (pc := 11) C dX3_setSpeed_11 (by decide) ?_
  refine k_iload_n (pc := 12) C dX3_setSpeed_12 2 rfl rfl ?_
  obtain ⟨h_5, hw⟩ := hw
  refine k_iast (pc := 13) C (mm_33 p_4) (fun S => cel_33 cA ad S k) h_5 dX3_setSpeed_13 ?_
  refine k_nameS (fun S_6 eS_6 => ?_)
  have hw := hw S_6 eS_6
  exact hret _ _ _ dX3_setSpeed_14 hw
def wp_X3_greenOf (k : Nat) (a1 : Int32) (S : Sg) (Q : Int32 → Sg → Prop) : Prop :=
  (k < nM S ∧ (vp_in a1 3 ∧ Q (gA S 34 k (Int32.toNatClampNeg a1)) S))
set_option maxHeartbeats 4000000 in
set_option maxRecDepth 100000 in
theorem ct_X3_greenOf (l : Launch) (D : va_G) (cA : Nat → ClassId) (ad : Nat → Nat → Nat) (k : Nat) (a1 : Int32) (S : Sg) (Q : Int32 → Sg → Prop) (hw : wp_X3_greenOf k a1 S Q) : CtI l yX3_greenOf wsX3_greenOf (mkR 0 0) D cA ad [.ref (ad 26 k), .int a1] S Q := by
  refine ct_ofI (cc := cX3_greenOf) (nL := 2) (by decide) rfl (Nat.le_of_ble_eq_true rfl) ?_
  intro p e s m args below meth c A Q C hret
  unfold wp_X3_greenOf at hw
  have C : Cx p s m args c cX3_greenOf 2 wsX3_greenOf RX3 D cA A := C
  have hin1 : ∀ w ∈ u_ws RX1 TX1 11, w ∈ wsX3_greenOf := fun w h => List.mem_cons_of_mem _ (List.mem_append_left _ (List.mem_append_left _ (List.mem_append_left _ (List.mem_append_right _ h))))
  have hin3 : ∀ w ∈ u_ws RX3 TX3 11, w ∈ wsX3_greenOf := fun w h => List.mem_cons_of_mem _ (List.mem_append_left _ (List.mem_append_left _ (List.mem_append_right _ h)))
  have hin4 : ∀ w ∈ u_ws RX4 TX4 13, w ∈ wsX3_greenOf := fun w h => List.mem_cons_of_mem _ (List.mem_append_left _ (List.mem_append_right _ h))
  have hin8 : ∀ w ∈ u_ws RX8 TX8 13, w ∈ wsX3_greenOf := fun w h => List.mem_cons_of_mem _ (List.mem_append_right _ h)
  have f30 : Cond.fieldLink RX3 30 "CreepBoard$Mark" "greens" "[I" ∈ wsX3_greenOf := by decide +kernel
  change KK p l e (mkR 0 0) s m args below meth c 2 D cA ad A Q 0 [(0, .ref (ad 26 k)), (1, .int a1)] [] S
  refine k_aload_n (pc := 0) C dX3_greenOf_0 0 rfl rfl ?_
  obtain ⟨h_1, hw⟩ := hw
  refine kG_greens (pc := 1) C hin1 hin3 hin4 hin8 h_1 f30 dX3_greenOf_1 ?_
  refine k_iload_n (pc := 4) C dX3_greenOf_4 1 rfl rfl ?_
  obtain ⟨h_2, hw⟩ := hw
  refine k_iald (pc := 5) C (mm_34 h_1) (cel_34 cA ad S k) h_2 dX3_greenOf_5 ?_
  exact hret _ _ _ _ dX3_greenOf_6 hw
def wp_X3_setGreen (k : Nat) (a1 : Int32) (a2 : Int32) (S : Sg) (Q : Sg → Prop) : Prop :=
  (k < nM S ∧ (vp_in a1 3 ∧ (∀ S_3 : Sg, S_3 = uA S 34 k (Int32.toNatClampNeg a1) a2 → Q S_3)))
set_option maxHeartbeats 4000000 in
set_option maxRecDepth 100000 in
theorem ct_X3_setGreen (l : Launch) (D : va_G) (cA : Nat → ClassId) (ad : Nat → Nat → Nat) (k : Nat) (a1 : Int32) (a2 : Int32) (S : Sg) (Q : Sg → Prop) (hw : wp_X3_setGreen k a1 a2 S Q) : CtV l yX3_setGreen wsX3_setGreen (mkR 0 0) D cA ad [.ref (ad 26 k), .int a1, .int a2] S Q := by
  refine ct_ofV (cc := cX3_setGreen) (nL := 3) (by decide) rfl (Nat.le_of_ble_eq_true rfl) ?_
  intro p e s m args below meth c A Q C hret
  unfold wp_X3_setGreen at hw
  have C : Cx p s m args c cX3_setGreen 3 wsX3_setGreen RX3 D cA A := C
  have hin1 : ∀ w ∈ u_ws RX1 TX1 11, w ∈ wsX3_setGreen := fun w h => List.mem_cons_of_mem _ (List.mem_append_left _ (List.mem_append_left _ (List.mem_append_left _ (List.mem_append_right _ h))))
  have hin3 : ∀ w ∈ u_ws RX3 TX3 11, w ∈ wsX3_setGreen := fun w h => List.mem_cons_of_mem _ (List.mem_append_left _ (List.mem_append_left _ (List.mem_append_right _ h)))
  have hin4 : ∀ w ∈ u_ws RX4 TX4 13, w ∈ wsX3_setGreen := fun w h => List.mem_cons_of_mem _ (List.mem_append_left _ (List.mem_append_right _ h))
  have hin8 : ∀ w ∈ u_ws RX8 TX8 13, w ∈ wsX3_setGreen := fun w h => List.mem_cons_of_mem _ (List.mem_append_right _ h)
  have f30 : Cond.fieldLink RX3 30 "CreepBoard$Mark" "greens" "[I" ∈ wsX3_setGreen := by decide +kernel
  change KK p l e (mkR 0 0) s m args below meth c 3 D cA ad A Q 0 [(0, .ref (ad 26 k)), (1, .int a1), (2, .int a2)] [] S
  refine k_aload_n (pc := 0) C dX3_setGreen_0 0 rfl rfl ?_
  obtain ⟨h_1, hw⟩ := hw
  refine kG_greens (pc := 1) C hin1 hin3 hin4 hin8 h_1 f30 dX3_setGreen_1 ?_
  refine k_iload_n (pc := 4) C dX3_setGreen_4 1 rfl rfl ?_
  refine k_iload_n (pc := 5) C dX3_setGreen_5 2 rfl rfl ?_
  obtain ⟨h_2, hw⟩ := hw
  refine k_iast (pc := 6) C (mm_34 h_1) (fun S => cel_34 cA ad S k) h_2 dX3_setGreen_6 ?_
  refine k_nameS (fun S_3 eS_3 => ?_)
  have hw := hw S_3 eS_3
  exact hret _ _ _ dX3_setGreen_7 hw
def wp_X3_hasReading (k : Nat) (a1 : Int32) (S : Sg) (Q : Int32 → Sg → Prop) : Prop :=
  (k < nM S ∧ (vp_in a1 40 ∧ (narrow .boolean (.int (gA S 27 k (Int32.toNatClampNeg a1))) = .int (gA S 27 k (Int32.toNatClampNeg a1)) ∧ Q (gA S 27 k (Int32.toNatClampNeg a1)) S)))
set_option maxHeartbeats 4000000 in
set_option maxRecDepth 100000 in
theorem ct_X3_hasReading (l : Launch) (D : va_G) (cA : Nat → ClassId) (ad : Nat → Nat → Nat) (k : Nat) (a1 : Int32) (S : Sg) (Q : Int32 → Sg → Prop) (hw : wp_X3_hasReading k a1 S Q) : CtI l yX3_hasReading wsX3_hasReading (mkR 0 0) D cA ad [.ref (ad 26 k), .int a1] S Q := by
  refine ct_ofZ (cc := cX3_hasReading) (nL := 2) (by decide) rfl (Nat.le_of_ble_eq_true rfl) ?_
  intro p e s m args below meth c A Q C hret
  unfold wp_X3_hasReading at hw
  have C : Cx p s m args c cX3_hasReading 2 wsX3_hasReading RX3 D cA A := C
  have hin1 : ∀ w ∈ u_ws RX1 TX1 11, w ∈ wsX3_hasReading := fun w h => List.mem_cons_of_mem _ (List.mem_append_left _ (List.mem_append_left _ (List.mem_append_left _ (List.mem_append_right _ h))))
  have hin3 : ∀ w ∈ u_ws RX3 TX3 11, w ∈ wsX3_hasReading := fun w h => List.mem_cons_of_mem _ (List.mem_append_left _ (List.mem_append_left _ (List.mem_append_right _ h)))
  have hin4 : ∀ w ∈ u_ws RX4 TX4 13, w ∈ wsX3_hasReading := fun w h => List.mem_cons_of_mem _ (List.mem_append_left _ (List.mem_append_right _ h))
  have hin8 : ∀ w ∈ u_ws RX8 TX8 13, w ∈ wsX3_hasReading := fun w h => List.mem_cons_of_mem _ (List.mem_append_right _ h)
  have f9 : Cond.fieldLink RX3 9 "CreepBoard$Mark" "present" "[Z" ∈ wsX3_hasReading := by decide +kernel
  change KK p l e (mkR 0 0) s m args below meth c 2 D cA ad A Q 0 [(0, .ref (ad 26 k)), (1, .int a1)] [] S
  refine k_aload_n (pc := 0) C dX3_hasReading_0 0 rfl rfl ?_
  obtain ⟨h_1, hw⟩ := hw
  refine kG_present (pc := 1) C hin1 hin3 hin4 hin8 h_1 f9 dX3_hasReading_1 ?_
  refine k_iload_n (pc := 4) C dX3_hasReading_4 1 rfl rfl ?_
  obtain ⟨h_2, hw⟩ := hw
  refine k_zald (pc := 5) C (mm_27 h_1) (cel_27 cA ad S k) h_2 dX3_hasReading_5 ?_
  exact hret _ _ _ _ dX3_hasReading_6 hw.1 hw.2
def wp_X3_rawValue (k : Nat) (a1 : Int32) (a2 : Int32) (S : Sg) (Q : Int32 → Sg → Prop) : Prop :=
  (k < nM S ∧ (vp_in a2 2 ∧ (vp_in a1 40 ∧ Q (gA S 29 (2 * k + (Int32.toNatClampNeg a2)) (Int32.toNatClampNeg a1)) S)))
set_option maxHeartbeats 4000000 in
set_option maxRecDepth 100000 in
theorem ct_X3_rawValue (l : Launch) (D : va_G) (cA : Nat → ClassId) (ad : Nat → Nat → Nat) (k : Nat) (a1 : Int32) (a2 : Int32) (S : Sg) (Q : Int32 → Sg → Prop) (hw : wp_X3_rawValue k a1 a2 S Q) : CtI l yX3_rawValue wsX3_rawValue (mkR 0 0) D cA ad [.ref (ad 26 k), .int a1, .int a2] S Q := by
  refine ct_ofI (cc := cX3_rawValue) (nL := 3) (by decide) rfl (Nat.le_of_ble_eq_true rfl) ?_
  intro p e s m args below meth c A Q C hret
  unfold wp_X3_rawValue at hw
  have C : Cx p s m args c cX3_rawValue 3 wsX3_rawValue RX3 D cA A := C
  have hin1 : ∀ w ∈ u_ws RX1 TX1 11, w ∈ wsX3_rawValue := fun w h => List.mem_cons_of_mem _ (List.mem_append_left _ (List.mem_append_left _ (List.mem_append_left _ (List.mem_append_right _ h))))
  have hin3 : ∀ w ∈ u_ws RX3 TX3 11, w ∈ wsX3_rawValue := fun w h => List.mem_cons_of_mem _ (List.mem_append_left _ (List.mem_append_left _ (List.mem_append_right _ h)))
  have hin4 : ∀ w ∈ u_ws RX4 TX4 13, w ∈ wsX3_rawValue := fun w h => List.mem_cons_of_mem _ (List.mem_append_left _ (List.mem_append_right _ h))
  have hin8 : ∀ w ∈ u_ws RX8 TX8 13, w ∈ wsX3_rawValue := fun w h => List.mem_cons_of_mem _ (List.mem_append_right _ h)
  have f17 : Cond.fieldLink RX3 17 "CreepBoard$Mark" "readings" "[[I" ∈ wsX3_rawValue := by decide +kernel
  change KK p l e (mkR 0 0) s m args below meth c 3 D cA ad A Q 0 [(0, .ref (ad 26 k)), (1, .int a1), (2, .int a2)] [] S
  refine k_aload_n (pc := 0) C dX3_rawValue_0 0 rfl rfl ?_
  obtain ⟨h_1, hw⟩ := hw
  refine kG_readings (pc := 1) C hin1 hin3 hin4 hin8 h_1 f17 dX3_rawValue_1 ?_
  refine k_iload_n (pc := 4) C dX3_rawValue_4 2 rfl rfl ?_
  obtain ⟨h_2, hw⟩ := hw
  refine k_aldg (pc := 5) C (mm_28 h_1) (cel_28 cA ad S k) h_2 dX3_rawValue_5 ?_
  refine k_iload_n (pc := 6) C dX3_rawValue_6 1 rfl rfl ?_
  obtain ⟨h_3, hw⟩ := hw
  refine k_iald (pc := 7) C (mm_29 h_1 (vp_lt h_2)) (cel_29 cA ad S (2 * k + (Int32.toNatClampNeg a2))) h_3 dX3_rawValue_7 ?_
  exact hret _ _ _ _ dX3_rawValue_8 hw
def wp_X3_putReading (k : Nat) (a1 : Int32) (a2 : Int32) (a3 : Int32) (S : Sg) (Q : Int32 → Sg → Prop) : Prop :=
  (k < nM S ∧ (vp_in a1 40 ∧ (∃ J_3 : Int32 → Sg → Prop, (∀ (t0_3 : Int32) (S_3 : Sg), J_3 t0_3 S_3 → (∃ J_4 : Sg → Prop, (∀ (S_4 : Sg), J_4 S_4 → (k < nM S_4 ∧ (vp_in 0 2 ∧ (vp_in a1 40 ∧ (∀ S_8 : Sg, S_8 = uA S_4 29 (2 * k + (Int32.toNatClampNeg 0)) (Int32.toNatClampNeg a1) a2 → (vp_in 1 2 ∧ (vp_in a1 40 ∧ (∀ S_12 : Sg, S_12 = uA S_8 29 (2 * k + (Int32.toNatClampNeg 1)) (Int32.toNatClampNeg a1) a3 → (narrow .boolean (.int t0_3) = .int t0_3 ∧ Q t0_3 S_12))))))))) ∧ ((t0_3 = 0 → J_4 S_3) ∧ (¬ t0_3 = 0 → (k < nM S_3 ∧ (vp_in a1 40 ∧ (∀ S_16 : Sg, S_16 = uA S_3 27 k (Int32.toNatClampNeg a1) (vp_nar .boolean 1) → (∀ S_18 : Sg, S_18 = uI S_16 26 k 3 ((gI S_16 26 k 3) + 1) → J_4 S_18)))))))) ∧ ((¬ (gA S 27 k (Int32.toNatClampNeg a1)) = 0 → J_3 0 S) ∧ ((gA S 27 k (Int32.toNatClampNeg a1)) = 0 → J_3 1 S)))))
set_option maxHeartbeats 4000000 in
set_option maxRecDepth 100000 in
theorem ct_X3_putReading (l : Launch) (D : va_G) (cA : Nat → ClassId) (ad : Nat → Nat → Nat) (k : Nat) (a1 : Int32) (a2 : Int32) (a3 : Int32) (S : Sg) (Q : Int32 → Sg → Prop) (hw : wp_X3_putReading k a1 a2 a3 S Q) : CtI l yX3_putReading wsX3_putReading (mkR 0 0) D cA ad [.ref (ad 26 k), .int a1, .int a2, .int a3] S Q := by
  refine ct_ofZ (cc := cX3_putReading) (nL := 5) (by decide) rfl (Nat.le_of_ble_eq_true rfl) ?_
  intro p e s m args below meth c A Q C hret
  unfold wp_X3_putReading at hw
  have C : Cx p s m args c cX3_putReading 5 wsX3_putReading RX3 D cA A := C
  have hin1 : ∀ w ∈ u_ws RX1 TX1 11, w ∈ wsX3_putReading := fun w h => List.mem_cons_of_mem _ (List.mem_append_left _ (List.mem_append_left _ (List.mem_append_left _ (List.mem_append_right _ h))))
  have hin3 : ∀ w ∈ u_ws RX3 TX3 11, w ∈ wsX3_putReading := fun w h => List.mem_cons_of_mem _ (List.mem_append_left _ (List.mem_append_left _ (List.mem_append_right _ h)))
  have hin4 : ∀ w ∈ u_ws RX4 TX4 13, w ∈ wsX3_putReading := fun w h => List.mem_cons_of_mem _ (List.mem_append_left _ (List.mem_append_right _ h))
  have hin8 : ∀ w ∈ u_ws RX8 TX8 13, w ∈ wsX3_putReading := fun w h => List.mem_cons_of_mem _ (List.mem_append_right _ h)
  have f9 : Cond.fieldLink RX3 9 "CreepBoard$Mark" "present" "[Z" ∈ wsX3_putReading := by decide +kernel
  have f17 : Cond.fieldLink RX3 17 "CreepBoard$Mark" "readings" "[[I" ∈ wsX3_putReading := by decide +kernel
  have f43 : Cond.fieldLink RX3 43 "CreepBoard$Mark" "readingCount" "I" ∈ wsX3_putReading := by decide +kernel
  change KK p l e (mkR 0 0) s m args below meth c 5 D cA ad A Q 0 [(0, .ref (ad 26 k)), (1, .int a1), (2, .int a2), (3, .int a3)] [] S
  refine k_aload_n (pc := 0) C dX3_putReading_0 0 rfl rfl ?_
  obtain ⟨h_1, hw⟩ := hw
  refine kG_present (pc := 1) C hin1 hin3 hin4 hin8 h_1 f9 dX3_putReading_1 ?_
  refine k_iload_n (pc := 4) C dX3_putReading_4 1 rfl rfl ?_
  obtain ⟨h_2, hw⟩ := hw
  refine k_zald (pc := 5) C (mm_27 h_1) (cel_27 cA ad S k) h_2 dX3_putReading_5 ?_
  obtain ⟨J_3, hj_3, hw⟩ := hw
  have j_3 : ∀ (t0_3 : Int32) (S_3 : Sg), J_3 t0_3 S_3 → KK p l e (mkR 0 0) s m args below meth c 5 D cA ad A Q 14 [(0, .ref (ad 26 k)), (1, .int a1), (2, .int a2), (3, .int a3)] [.int t0_3] S_3 := by
    intro t0_3 S_3 hw
    have hw := hj_3 t0_3 S_3 hw
    refine k_istore (pc := 14) C dX3_putReading_14 (by decide) [(4, .int t0_3), (0, .ref (ad 26 k)), (1, .int a1), (2, .int a2), (3, .int a3)] rfl ?_
    refine k_iload (pc := 16) C dX3_putReading_16 0 rfl ?_
    obtain ⟨J_4, hj_4, hw⟩ := hw
    have j_4 : ∀ (S_4 : Sg), J_4 S_4 → KK p l e (mkR 0 0) s m args below meth c 5 D cA ad A Q 38 [(0, .ref (ad 26 k)), (1, .int a1), (2, .int a2), (3, .int a3), (4, .int t0_3)] [] S_4 := by
      intro S_4 hw
      have hw := hj_4 S_4 hw
      refine k_aload_n (pc := 38) C dX3_putReading_38 0 rfl rfl ?_
      obtain ⟨h_5, hw⟩ := hw
      refine kG_readings (pc := 39) C hin1 hin3 hin4 hin8 h_5 f17 dX3_putReading_39 ?_
      refine k_iconst (v := 0) (pc := 42) C dX3_putReading_42 (by decide) ?_
      obtain ⟨h_6, hw⟩ := hw
      refine k_aldg (pc := 43) C (mm_28 h_5) (cel_28 cA ad S_4 k) h_6 dX3_putReading_43 ?_
      refine k_iload_n (pc := 44) C dX3_putReading_44 1 rfl rfl ?_
      refine k_iload_n (pc := 45) C dX3_putReading_45 2 rfl rfl ?_
      obtain ⟨h_7, hw⟩ := hw
      refine k_iast (pc := 46) C (mm_29 h_5 (vp_lt h_6)) (fun S => cel_29 cA ad S (2 * k + (Int32.toNatClampNeg 0))) h_7 dX3_putReading_46 ?_
      refine k_nameS (fun S_8 eS_8 => ?_)
      have hw := hw S_8 eS_8
      refine k_aload_n (pc := 47) C dX3_putReading_47 0 rfl rfl ?_
      have p_9 : k < nM S_8 := by rw [eS_8]; exact h_5
      refine kG_readings (pc := 48) C hin1 hin3 hin4 hin8 p_9 f17 dX3_putReading_48 ?_
      refine k_iconst (v := 1) (pc := 51) C dX3_putReading_51 (by decide) ?_
      obtain ⟨h_10, hw⟩ := hw
      refine k_aldg (pc := 52) C (mm_28 p_9) (cel_28 cA ad S_8 k) h_10 dX3_putReading_52 ?_
      refine k_iload_n (pc := 53) C dX3_putReading_53 1 rfl rfl ?_
      refine k_iload_n (pc := 54) C dX3_putReading_54 3 rfl rfl ?_
      obtain ⟨h_11, hw⟩ := hw
      refine k_iast (pc := 55) C (mm_29 p_9 (vp_lt h_10)) (fun S => cel_29 cA ad S (2 * k + (Int32.toNatClampNeg 1))) h_11 dX3_putReading_55 ?_
      refine k_nameS (fun S_12 eS_12 => ?_)
      have hw := hw S_12 eS_12
      refine k_iload (pc := 56) C dX3_putReading_56 4 rfl ?_
      exact hret _ _ _ _ dX3_putReading_58 hw.1 hw.2
    refine k_if_eq (pc := 18) C 38 dX3_putReading_18 (by decide) (fun q_13 => ?_) (fun q_13 => ?_)
    · have hw := hw.1 q_13
      refine k_sub [1, 2, 3, 4, 0] [(0, .ref (ad 26 k)), (1, .int a1), (2, .int a2), (3, .int a3), (4, .int t0_3)] rfl ?_
      exact j_4 S_3 hw
    · have hw := hw.2 q_13
      refine k_aload_n (pc := 21) C dX3_putReading_21 1 rfl rfl ?_
      obtain ⟨h_14, hw⟩ := hw
      refine kG_present (pc := 22) C hin1 hin3 hin4 hin8 h_14 f9 dX3_putReading_22 ?_
      refine k_iload_n (pc := 25) C dX3_putReading_25 2 rfl rfl ?_
      refine k_iconst (v := 1) (pc := 26) C dX3_putReading_26 (by decide) ?_
      obtain ⟨h_15, hw⟩ := hw
      refine k_zast (pc := 27) C (mm_27 h_14) (fun S => cel_27 cA ad S k) h_15 dX3_putReading_27 ?_
      refine k_nameS (fun S_16 eS_16 => ?_)
      have hw := hw S_16 eS_16
      refine k_aload_n (pc := 28) C dX3_putReading_28 1 rfl rfl ?_
      refine k_dup (pc := 29) C dX3_putReading_29 rfl ?_
      have p_17 : k < nM S_16 := by rw [eS_16]; exact h_14
      refine kG_readingCount (pc := 30) C hin1 hin3 hin4 hin8 p_17 f43 dX3_putReading_30 ?_
      refine k_iconst (v := 1) (pc := 33) C dX3_putReading_33 (by decide) ?_
      refine k_iadd (pc := 34) C dX3_putReading_34 ?_
      refine kP_readingCount (pc := 35) C hin1 hin3 hin4 hin8 p_17 f43 dX3_putReading_35 ?_
      refine k_nameS (fun S_18 eS_18 => ?_)
      have hw := hw S_18 eS_18
      refine k_sub [1, 2, 3, 4, 0] [(0, .ref (ad 26 k)), (1, .int a1), (2, .int a2), (3, .int a3), (4, .int t0_3)] rfl ?_
      exact j_4 S_18 hw
  refine k_if_ne (pc := 6) C 13 dX3_putReading_6 (by decide) (fun q_19 => ?_) (fun q_19 => ?_)
  · have hw := hw.1 q_19
    refine k_iconst (v := 0) (pc := 13) C dX3_putReading_13 (by decide) ?_
    refine k_sub [0, 1, 2, 3] [(0, .ref (ad 26 k)), (1, .int a1), (2, .int a2), (3, .int a3)] rfl ?_
    exact j_3 0 S hw
  · have hw := hw.2 q_19
    refine k_iconst (v := 1) (pc := 9) C dX3_putReading_9 (by decide) ?_
    refine k_goto (pc := 10) C 14 dX3_putReading_10 (by decide) ?_
    refine k_sub [0, 1, 2, 3] [(0, .ref (ad 26 k)), (1, .int a1), (2, .int a2), (3, .int a3)] rfl ?_
    exact j_3 1 S hw
def wp_X3_dropReading (k : Nat) (a1 : Int32) (S : Sg) (Q : Int32 → Sg → Prop) : Prop :=
  (k < nM S ∧ (vp_in a1 40 ∧ (∀ x2_3 : Int32, x2_3 = (gA S 27 k (Int32.toNatClampNeg a1)) → ((x2_3 = 0 → (narrow .boolean (.int x2_3) = .int x2_3 ∧ Q x2_3 S)) ∧ (¬ x2_3 = 0 → (vp_in a1 40 ∧ (∀ S_6 : Sg, S_6 = uA S 27 k (Int32.toNatClampNeg a1) (vp_nar .boolean 0) → (∀ S_8 : Sg, S_8 = uI S_6 26 k 3 ((gI S_6 26 k 3) - 1) → (narrow .boolean (.int x2_3) = .int x2_3 ∧ Q x2_3 S_8)))))))))
set_option maxHeartbeats 4000000 in
set_option maxRecDepth 100000 in
theorem ct_X3_dropReading (l : Launch) (D : va_G) (cA : Nat → ClassId) (ad : Nat → Nat → Nat) (k : Nat) (a1 : Int32) (S : Sg) (Q : Int32 → Sg → Prop) (hw : wp_X3_dropReading k a1 S Q) : CtI l yX3_dropReading wsX3_dropReading (mkR 0 0) D cA ad [.ref (ad 26 k), .int a1] S Q := by
  refine ct_ofZ (cc := cX3_dropReading) (nL := 3) (by decide) rfl (Nat.le_of_ble_eq_true rfl) ?_
  intro p e s m args below meth c A Q C hret
  unfold wp_X3_dropReading at hw
  have C : Cx p s m args c cX3_dropReading 3 wsX3_dropReading RX3 D cA A := C
  have hin1 : ∀ w ∈ u_ws RX1 TX1 11, w ∈ wsX3_dropReading := fun w h => List.mem_cons_of_mem _ (List.mem_append_left _ (List.mem_append_left _ (List.mem_append_left _ (List.mem_append_right _ h))))
  have hin3 : ∀ w ∈ u_ws RX3 TX3 11, w ∈ wsX3_dropReading := fun w h => List.mem_cons_of_mem _ (List.mem_append_left _ (List.mem_append_left _ (List.mem_append_right _ h)))
  have hin4 : ∀ w ∈ u_ws RX4 TX4 13, w ∈ wsX3_dropReading := fun w h => List.mem_cons_of_mem _ (List.mem_append_left _ (List.mem_append_right _ h))
  have hin8 : ∀ w ∈ u_ws RX8 TX8 13, w ∈ wsX3_dropReading := fun w h => List.mem_cons_of_mem _ (List.mem_append_right _ h)
  have f9 : Cond.fieldLink RX3 9 "CreepBoard$Mark" "present" "[Z" ∈ wsX3_dropReading := by decide +kernel
  have f43 : Cond.fieldLink RX3 43 "CreepBoard$Mark" "readingCount" "I" ∈ wsX3_dropReading := by decide +kernel
  change KK p l e (mkR 0 0) s m args below meth c 3 D cA ad A Q 0 [(0, .ref (ad 26 k)), (1, .int a1)] [] S
  refine k_aload_n (pc := 0) C dX3_dropReading_0 0 rfl rfl ?_
  obtain ⟨h_1, hw⟩ := hw
  refine kG_present (pc := 1) C hin1 hin3 hin4 hin8 h_1 f9 dX3_dropReading_1 ?_
  refine k_iload_n (pc := 4) C dX3_dropReading_4 1 rfl rfl ?_
  obtain ⟨h_2, hw⟩ := hw
  refine k_zald (pc := 5) C (mm_27 h_1) (cel_27 cA ad S k) h_2 dX3_dropReading_5 ?_
  refine k_topi (fun x2_3 ex2_3 => ?_)
  have hw := hw x2_3 ex2_3
  refine k_istore_n (pc := 6) C dX3_dropReading_6 rfl (by decide) [(2, .int x2_3), (0, .ref (ad 26 k)), (1, .int a1)] rfl ?_
  refine k_iload_n (pc := 7) C dX3_dropReading_7 0 rfl rfl ?_
  refine k_if_eq (pc := 8) C 28 dX3_dropReading_8 (by decide) (fun q_4 => ?_) (fun q_4 => ?_)
  · have hw := hw.1 q_4
    refine k_iload_n (pc := 28) C dX3_dropReading_28 0 rfl rfl ?_
    exact hret _ _ _ _ dX3_dropReading_29 hw.1 hw.2
  · have hw := hw.2 q_4
    refine k_aload_n (pc := 11) C dX3_dropReading_11 1 rfl rfl ?_
    refine kG_present (pc := 12) C hin1 hin3 hin4 hin8 h_1 f9 dX3_dropReading_12 ?_
    refine k_iload_n (pc := 15) C dX3_dropReading_15 2 rfl rfl ?_
    refine k_iconst (v := 0) (pc := 16) C dX3_dropReading_16 (by decide) ?_
    obtain ⟨h_5, hw⟩ := hw
    refine k_zast (pc := 17) C (mm_27 h_1) (fun S => cel_27 cA ad S k) h_5 dX3_dropReading_17 ?_
    refine k_nameS (fun S_6 eS_6 => ?_)
    have hw := hw S_6 eS_6
    refine k_aload_n (pc := 18) C dX3_dropReading_18 1 rfl rfl ?_
    refine k_dup (pc := 19) C dX3_dropReading_19 rfl ?_
    have p_7 : k < nM S_6 := by rw [eS_6]; exact h_1
    refine kG_readingCount (pc := 20) C hin1 hin3 hin4 hin8 p_7 f43 dX3_dropReading_20 ?_
    refine k_iconst (v := 1) (pc := 23) C dX3_dropReading_23 (by decide) ?_
    refine k_isub (pc := 24) C dX3_dropReading_24 ?_
    refine kP_readingCount (pc := 25) C hin1 hin3 hin4 hin8 p_7 f43 dX3_dropReading_25 ?_
    refine k_nameS (fun S_8 eS_8 => ?_)
    have hw := hw S_8 eS_8
    refine k_iload_n (pc := 28) C dX3_dropReading_28 0 rfl rfl ?_
    exact hret _ _ _ _ dX3_dropReading_29 hw.1 hw.2
def wp_X3_addStep (k : Nat) (a1 : Int32) (a2 : Int32) (a3 : Int32) (S : Sg) (Q : Int32 → Sg → Prop) : Prop :=
  (k < nM S ∧ (((gI S 26 k 4) < 10 → (vp_in (gI S 26 k 4) 10 ∧ (∀ S_4 : Sg, S_4 = uA S 30 k (Int32.toNatClampNeg (gI S 26 k 4)) a1 → (vp_in 0 2 ∧ (vp_in (gI S_4 26 k 4) 10 ∧ (∀ S_8 : Sg, S_8 = uA S_4 32 (2 * k + (Int32.toNatClampNeg 0)) (Int32.toNatClampNeg (gI S_4 26 k 4)) a2 → (vp_in 1 2 ∧ (vp_in (gI S_8 26 k 4) 10 ∧ (∀ S_12 : Sg, S_12 = uA S_8 32 (2 * k + (Int32.toNatClampNeg 1)) (Int32.toNatClampNeg (gI S_8 26 k 4)) a3 → (∀ S_14 : Sg, S_14 = uI S_12 26 k 4 ((gI S_12 26 k 4) + 1) → Q 1 S_14)))))))))) ∧ (¬ (gI S 26 k 4) < 10 → Q 0 S)))
set_option maxHeartbeats 4000000 in
set_option maxRecDepth 100000 in
theorem ct_X3_addStep (l : Launch) (D : va_G) (cA : Nat → ClassId) (ad : Nat → Nat → Nat) (k : Nat) (a1 : Int32) (a2 : Int32) (a3 : Int32) (S : Sg) (Q : Int32 → Sg → Prop) (hw : wp_X3_addStep k a1 a2 a3 S Q) : CtI l yX3_addStep wsX3_addStep (mkR 0 0) D cA ad [.ref (ad 26 k), .int a1, .int a2, .int a3] S Q := by
  refine ct_ofZ (cc := cX3_addStep) (nL := 4) (by decide) rfl (Nat.le_of_ble_eq_true rfl) ?_
  intro p e s m args below meth c A Q C hret
  unfold wp_X3_addStep at hw
  have C : Cx p s m args c cX3_addStep 4 wsX3_addStep RX3 D cA A := C
  have hin1 : ∀ w ∈ u_ws RX1 TX1 11, w ∈ wsX3_addStep := fun w h => List.mem_cons_of_mem _ (List.mem_append_left _ (List.mem_append_left _ (List.mem_append_left _ (List.mem_append_right _ h))))
  have hin3 : ∀ w ∈ u_ws RX3 TX3 11, w ∈ wsX3_addStep := fun w h => List.mem_cons_of_mem _ (List.mem_append_left _ (List.mem_append_left _ (List.mem_append_right _ h)))
  have hin4 : ∀ w ∈ u_ws RX4 TX4 13, w ∈ wsX3_addStep := fun w h => List.mem_cons_of_mem _ (List.mem_append_left _ (List.mem_append_right _ h))
  have hin8 : ∀ w ∈ u_ws RX8 TX8 13, w ∈ wsX3_addStep := fun w h => List.mem_cons_of_mem _ (List.mem_append_right _ h)
  have f46 : Cond.fieldLink RX3 46 "CreepBoard$Mark" "stepCount" "I" ∈ wsX3_addStep := by decide +kernel
  have f20 : Cond.fieldLink RX3 20 "CreepBoard$Mark" "stepEpochs" "[I" ∈ wsX3_addStep := by decide +kernel
  have f24 : Cond.fieldLink RX3 24 "CreepBoard$Mark" "stepSizes" "[[I" ∈ wsX3_addStep := by decide +kernel
  change KK p l e (mkR 0 0) s m args below meth c 4 D cA ad A Q 0 [(0, .ref (ad 26 k)), (1, .int a1), (2, .int a2), (3, .int a3)] [] S
  refine k_aload_n (pc := 0) C dX3_addStep_0 0 rfl rfl ?_
  obtain ⟨h_1, hw⟩ := hw
  refine kG_stepCount (pc := 1) C hin1 hin3 hin4 hin8 h_1 f46 dX3_addStep_1 ?_
  refine k_bipush (v := 10) (pc := 4) C dX3_addStep_4 (by decide) ?_
  refine k_icmp_lt (pc := 6) C 11 dX3_addStep_6 (by decide) (fun q_2 => ?_) (fun q_2 => ?_)
  · have hw := hw.1 q_2
    refine k_aload_n (pc := 11) C dX3_addStep_11 0 rfl rfl ?_
    refine kG_stepEpochs (pc := 12) C hin1 hin3 hin4 hin8 h_1 f20 dX3_addStep_12 ?_
    refine k_aload_n (pc := 15) C dX3_addStep_15 0 rfl rfl ?_
    refine kG_stepCount (pc := 16) C hin1 hin3 hin4 hin8 h_1 f46 dX3_addStep_16 ?_
    refine k_iload_n (pc := 19) C dX3_addStep_19 1 rfl rfl ?_
    obtain ⟨h_3, hw⟩ := hw
    refine k_iast (pc := 20) C (mm_30 h_1) (fun S => cel_30 cA ad S k) h_3 dX3_addStep_20 ?_
    refine k_nameS (fun S_4 eS_4 => ?_)
    have hw := hw S_4 eS_4
    refine k_aload_n (pc := 21) C dX3_addStep_21 0 rfl rfl ?_
    have p_5 : k < nM S_4 := by rw [eS_4]; exact h_1
    refine kG_stepSizes (pc := 22) C hin1 hin3 hin4 hin8 p_5 f24 dX3_addStep_22 ?_
    refine k_iconst (v := 0) (pc := 25) C dX3_addStep_25 (by decide) ?_
    obtain ⟨h_6, hw⟩ := hw
    refine k_aldg (pc := 26) C (mm_31 p_5) (cel_31 cA ad S_4 k) h_6 dX3_addStep_26 ?_
    refine k_aload_n (pc := 27) C dX3_addStep_27 0 rfl rfl ?_
    refine kG_stepCount (pc := 28) C hin1 hin3 hin4 hin8 p_5 f46 dX3_addStep_28 ?_
    refine k_iload_n (pc := 31) C dX3_addStep_31 2 rfl rfl ?_
    obtain ⟨h_7, hw⟩ := hw
    refine k_iast (pc := 32) C (mm_32 p_5 (vp_lt h_6)) (fun S => cel_32 cA ad S (2 * k + (Int32.toNatClampNeg 0))) h_7 dX3_addStep_32 ?_
    refine k_nameS (fun S_8 eS_8 => ?_)
    have hw := hw S_8 eS_8
    refine k_aload_n (pc := 33) C dX3_addStep_33 0 rfl rfl ?_
    have p_9 : k < nM S_8 := by rw [eS_8]; exact p_5
    refine kG_stepSizes (pc := 34) C hin1 hin3 hin4 hin8 p_9 f24 dX3_addStep_34 ?_
    refine k_iconst (v := 1) (pc := 37) C dX3_addStep_37 (by decide) ?_
    obtain ⟨h_10, hw⟩ := hw
    refine k_aldg (pc := 38) C (mm_31 p_9) (cel_31 cA ad S_8 k) h_10 dX3_addStep_38 ?_
    refine k_aload_n (pc := 39) C dX3_addStep_39 0 rfl rfl ?_
    refine kG_stepCount (pc := 40) C hin1 hin3 hin4 hin8 p_9 f46 dX3_addStep_40 ?_
    refine k_iload_n (pc := 43) C dX3_addStep_43 3 rfl rfl ?_
    obtain ⟨h_11, hw⟩ := hw
    refine k_iast (pc := 44) C (mm_32 p_9 (vp_lt h_10)) (fun S => cel_32 cA ad S (2 * k + (Int32.toNatClampNeg 1))) h_11 dX3_addStep_44 ?_
    refine k_nameS (fun S_12 eS_12 => ?_)
    have hw := hw S_12 eS_12
    refine k_aload_n (pc := 45) C dX3_addStep_45 0 rfl rfl ?_
    refine k_dup (pc := 46) C dX3_addStep_46 rfl ?_
    have p_13 : k < nM S_12 := by rw [eS_12]; exact p_9
    refine kG_stepCount (pc := 47) C hin1 hin3 hin4 hin8 p_13 f46 dX3_addStep_47 ?_
    refine k_iconst (v := 1) (pc := 50) C dX3_addStep_50 (by decide) ?_
    refine k_iadd (pc := 51) C dX3_addStep_51 ?_
    refine kP_stepCount (pc := 52) C hin1 hin3 hin4 hin8 p_13 f46 dX3_addStep_52 ?_
    refine k_nameS (fun S_14 eS_14 => ?_)
    have hw := hw S_14 eS_14
    refine k_iconst (v := 1) (pc := 55) C dX3_addStep_55 (by decide) ?_
    exact hret _ _ _ _ dX3_addStep_56 rfl hw
  · have hw := hw.2 q_2
    refine k_iconst (v := 0) (pc := 9) C dX3_addStep_9 (by decide) ?_
    exact hret _ _ _ _ dX3_addStep_10 rfl hw
def wp_X3_clearFrom (k : Nat) (S : Sg) (Q : Int32 → Sg → Prop) : Prop :=
  Q 0 S
set_option maxHeartbeats 4000000 in
set_option maxRecDepth 100000 in
theorem ct_X3_clearFrom (l : Launch) (D : va_G) (cA : Nat → ClassId) (ad : Nat → Nat → Nat) (k : Nat) (S : Sg) (Q : Int32 → Sg → Prop) (hw : wp_X3_clearFrom k S Q) : CtI l yX3_clearFrom wsX3_clearFrom (mkR 0 0) D cA ad [.ref (ad 26 k)] S Q := by
  refine ct_ofI (cc := cX3_clearFrom) (nL := 1) (by decide) rfl (Nat.le_of_ble_eq_true rfl) ?_
  intro p e s m args below meth c A Q C hret
  unfold wp_X3_clearFrom at hw
  have C : Cx p s m args c cX3_clearFrom 1 wsX3_clearFrom RX3 D cA A := C
  change KK p l e (mkR 0 0) s m args below meth c 1 D cA ad A Q 0 [(0, .ref (ad 26 k))] [] S
  refine k_iconst (v := 0) (pc := 0) C dX3_clearFrom_0 (by decide) ?_
  exact hret _ _ _ _ dX3_clearFrom_1 hw
def wp_X3_clearedValue (k : Nat) (a1 : Int32) (a2 : Int32) (S : Sg) (Q : Int64 → Sg → Prop) : Prop :=
  (k < nM S ∧ (vp_in a2 2 ∧ (vp_in a1 40 ∧ (∀ x3_4 : Int64, x3_4 = (Int32.toInt64 (gA S 29 (2 * k + (Int32.toNatClampNeg a2)) (Int32.toNatClampNeg a1))) → (∃ (I_5 : Int64 → Int32 → Sg → Prop) (μ_5 : Int64 → Int32 → Sg → Nat), I_5 x3_4 0 S ∧ ∀ (v3_5 : Int64) (v5_5 : Int32) (S_5 : Sg), I_5 v3_5 v5_5 S_5 → (k < nM S_5 ∧ (((gI S_5 26 k 4) ≤ v5_5 → Q v3_5 S_5) ∧ (¬ (gI S_5 26 k 4) ≤ v5_5 → (vp_in v5_5 10 ∧ ((a1 < (gA S_5 30 k (Int32.toNatClampNeg v5_5)) → (∀ x5_10 : Int32, x5_10 = v5_5 + 1 → (I_5 v3_5 x5_10 S_5 ∧ μ_5 v3_5 x5_10 S_5 < μ_5 v3_5 v5_5 S_5))) ∧ (¬ a1 < (gA S_5 30 k (Int32.toNatClampNeg v5_5)) → (vp_in a2 2 ∧ (vp_in v5_5 10 ∧ (∀ x3_13 : Int64, x3_13 = (v3_5 - (Int32.toInt64 (gA S_5 32 (2 * k + (Int32.toNatClampNeg a2)) (Int32.toNatClampNeg v5_5)))) → (∀ x5_14 : Int32, x5_14 = v5_5 + 1 → (I_5 x3_13 x5_14 S_5 ∧ μ_5 x3_13 x5_14 S_5 < μ_5 v3_5 v5_5 S_5))))))))))))))))
set_option maxHeartbeats 4000000 in
set_option maxRecDepth 100000 in
theorem ct_X3_clearedValue (l : Launch) (D : va_G) (cA : Nat → ClassId) (ad : Nat → Nat → Nat) (k : Nat) (a1 : Int32) (a2 : Int32) (S : Sg) (Q : Int64 → Sg → Prop) (hw : wp_X3_clearedValue k a1 a2 S Q) : CtL l yX3_clearedValue wsX3_clearedValue (mkR 0 0) D cA ad [.ref (ad 26 k), .int a1, .int a2] S Q := by
  refine ct_ofL (cc := cX3_clearedValue) (nL := 6) (by decide) rfl (Nat.le_of_ble_eq_true rfl) ?_
  intro p e s m args below meth c A Q C hret
  unfold wp_X3_clearedValue at hw
  have C : Cx p s m args c cX3_clearedValue 6 wsX3_clearedValue RX3 D cA A := C
  have hin1 : ∀ w ∈ u_ws RX1 TX1 11, w ∈ wsX3_clearedValue := fun w h => List.mem_cons_of_mem _ (List.mem_append_left _ (List.mem_append_left _ (List.mem_append_left _ (List.mem_append_right _ h))))
  have hin3 : ∀ w ∈ u_ws RX3 TX3 11, w ∈ wsX3_clearedValue := fun w h => List.mem_cons_of_mem _ (List.mem_append_left _ (List.mem_append_left _ (List.mem_append_right _ h)))
  have hin4 : ∀ w ∈ u_ws RX4 TX4 13, w ∈ wsX3_clearedValue := fun w h => List.mem_cons_of_mem _ (List.mem_append_left _ (List.mem_append_right _ h))
  have hin8 : ∀ w ∈ u_ws RX8 TX8 13, w ∈ wsX3_clearedValue := fun w h => List.mem_cons_of_mem _ (List.mem_append_right _ h)
  have f17 : Cond.fieldLink RX3 17 "CreepBoard$Mark" "readings" "[[I" ∈ wsX3_clearedValue := by decide +kernel
  have f46 : Cond.fieldLink RX3 46 "CreepBoard$Mark" "stepCount" "I" ∈ wsX3_clearedValue := by decide +kernel
  have f20 : Cond.fieldLink RX3 20 "CreepBoard$Mark" "stepEpochs" "[I" ∈ wsX3_clearedValue := by decide +kernel
  have f24 : Cond.fieldLink RX3 24 "CreepBoard$Mark" "stepSizes" "[[I" ∈ wsX3_clearedValue := by decide +kernel
  change KK p l e (mkR 0 0) s m args below meth c 6 D cA ad A Q 0 [(0, .ref (ad 26 k)), (1, .int a1), (2, .int a2)] [] S
  refine k_aload_n (pc := 0) C dX3_clearedValue_0 0 rfl rfl ?_
  obtain ⟨h_1, hw⟩ := hw
  refine kG_readings (pc := 1) C hin1 hin3 hin4 hin8 h_1 f17 dX3_clearedValue_1 ?_
  refine k_iload_n (pc := 4) C dX3_clearedValue_4 2 rfl rfl ?_
  obtain ⟨h_2, hw⟩ := hw
  refine k_aldg (pc := 5) C (mm_28 h_1) (cel_28 cA ad S k) h_2 dX3_clearedValue_5 ?_
  refine k_iload_n (pc := 6) C dX3_clearedValue_6 1 rfl rfl ?_
  obtain ⟨h_3, hw⟩ := hw
  refine k_iald (pc := 7) C (mm_29 h_1 (vp_lt h_2)) (cel_29 cA ad S (2 * k + (Int32.toNatClampNeg a2))) h_3 dX3_clearedValue_7 ?_
  refine k_i2l (pc := 8) C dX3_clearedValue_8 ?_
  refine k_topl (fun x3_4 ex3_4 => ?_)
  have hw := hw x3_4 ex3_4
  refine k_lstore_n (pc := 9) C dX3_clearedValue_9 rfl (by decide) [(3, .long x3_4), (0, .ref (ad 26 k)), (1, .int a1), (2, .int a2)] rfl ?_
  refine k_iconst (v := 0) (pc := 10) C dX3_clearedValue_10 (by decide) ?_
  refine k_istore (pc := 11) C dX3_clearedValue_11 (by decide) [(5, .int 0), (3, .long x3_4), (0, .ref (ad 26 k)), (1, .int a1), (2, .int a2)] rfl ?_
  refine k_sub [2, 3, 4, 1, 0] [(0, .ref (ad 26 k)), (1, .int a1), (2, .int a2), (3, .long x3_4), (5, .int 0)] rfl ?_
  obtain ⟨I_5, μ_5, hi_5, hw⟩ := hw
  have L_5 : ∀ (n : Nat) (v3_5 : Int64) (v5_5 : Int32) (S_5 : Sg), μ_5 v3_5 v5_5 S_5 < n → I_5 v3_5 v5_5 S_5 → KK p l e (mkR 0 0) s m args below meth c 6 D cA ad A Q 13 [(0, .ref (ad 26 k)), (1, .int a1), (2, .int a2), (3, .long v3_5), (5, .int v5_5)] [] S_5 := by
    intro n
    induction n with
    | zero => intro v3_5 v5_5 S_5 h; exact absurd h (Nat.not_lt_zero _)
    | succ n ih_5 =>
      intro v3_5 v5_5 S_5 hn_5 hi_5
      have hw := hw v3_5 v5_5 S_5 hi_5
      refine k_iload (pc := 13) C dX3_clearedValue_13 4 rfl ?_
      refine k_aload_n (pc := 15) C dX3_clearedValue_15 0 rfl rfl ?_
      obtain ⟨h_6, hw⟩ := hw
      refine kG_stepCount (pc := 16) C hin1 hin3 hin4 hin8 h_6 f46 dX3_clearedValue_16 ?_
      refine k_icmp_ge (pc := 19) C 52 dX3_clearedValue_19 (by decide) (fun q_7 => ?_) (fun q_7 => ?_)
      · have hw := hw.1 q_7
        refine k_lload_n (pc := 52) C dX3_clearedValue_52 3 rfl rfl ?_
        exact hret _ _ _ _ dX3_clearedValue_53 hw
      · have hw := hw.2 q_7
        refine k_aload_n (pc := 22) C dX3_clearedValue_22 0 rfl rfl ?_
        refine kG_stepEpochs (pc := 23) C hin1 hin3 hin4 hin8 h_6 f20 dX3_clearedValue_23 ?_
        refine k_iload (pc := 26) C dX3_clearedValue_26 4 rfl ?_
        obtain ⟨h_8, hw⟩ := hw
        refine k_iald (pc := 28) C (mm_30 h_6) (cel_30 cA ad S_5 k) h_8 dX3_clearedValue_28 ?_
        refine k_iload_n (pc := 29) C dX3_clearedValue_29 1 rfl rfl ?_
        refine k_icmp_gt (pc := 30) C 46 dX3_clearedValue_30 (by decide) (fun q_9 => ?_) (fun q_9 => ?_)
        · have hw := hw.1 q_9
          obtain ⟨x5_10, ex5_10⟩ : ∃ y : Int32, y = v5_5 + 1 := ⟨_, rfl⟩
          have hw := hw x5_10 ex5_10
          refine k_iinc (v := x5_10) (j := 4) (pc := 46) C dX3_clearedValue_46 rfl (by rw [ex5_10]; rfl) (by decide) [(5, .int x5_10), (0, .ref (ad 26 k)), (1, .int a1), (2, .int a2), (3, .long v3_5)] rfl ?_
          refine k_goto (pc := 49) C 13 dX3_clearedValue_49 (by decide) ?_
          refine k_sub [1, 2, 3, 4, 0] [(0, .ref (ad 26 k)), (1, .int a1), (2, .int a2), (3, .long v3_5), (5, .int x5_10)] rfl ?_
          exact ih_5 v3_5 x5_10 S_5 (Nat.lt_of_lt_of_le hw.2 (Nat.le_of_lt_succ hn_5)) hw.1
        · have hw := hw.2 q_9
          refine k_lload_n (pc := 33) C dX3_clearedValue_33 3 rfl rfl ?_
          refine k_aload_n (pc := 34) C dX3_clearedValue_34 0 rfl rfl ?_
          refine kG_stepSizes (pc := 35) C hin1 hin3 hin4 hin8 h_6 f24 dX3_clearedValue_35 ?_
          refine k_iload_n (pc := 38) C dX3_clearedValue_38 2 rfl rfl ?_
          obtain ⟨h_11, hw⟩ := hw
          refine k_aldg (pc := 39) C (mm_31 h_6) (cel_31 cA ad S_5 k) h_11 dX3_clearedValue_39 ?_
          refine k_iload (pc := 40) C dX3_clearedValue_40 4 rfl ?_
          obtain ⟨h_12, hw⟩ := hw
          refine k_iald (pc := 42) C (mm_32 h_6 (vp_lt h_11)) (cel_32 cA ad S_5 (2 * k + (Int32.toNatClampNeg a2))) h_12 dX3_clearedValue_42 ?_
          refine k_i2l (pc := 43) C dX3_clearedValue_43 ?_
          refine k_lsub (pc := 44) C dX3_clearedValue_44 ?_
          refine k_topl (fun x3_13 ex3_13 => ?_)
          have hw := hw x3_13 ex3_13
          refine k_lstore_n (pc := 45) C dX3_clearedValue_45 rfl (by decide) [(3, .long x3_13), (0, .ref (ad 26 k)), (1, .int a1), (2, .int a2), (5, .int v5_5)] rfl ?_
          obtain ⟨x5_14, ex5_14⟩ : ∃ y : Int32, y = v5_5 + 1 := ⟨_, rfl⟩
          have hw := hw x5_14 ex5_14
          refine k_iinc (v := x5_14) (j := 4) (pc := 46) C dX3_clearedValue_46 rfl (by rw [ex5_14]; rfl) (by decide) [(5, .int x5_14), (3, .long x3_13), (0, .ref (ad 26 k)), (1, .int a1), (2, .int a2)] rfl ?_
          refine k_goto (pc := 49) C 13 dX3_clearedValue_49 (by decide) ?_
          refine k_sub [2, 3, 4, 1, 0] [(0, .ref (ad 26 k)), (1, .int a1), (2, .int a2), (3, .long x3_13), (5, .int x5_14)] rfl ?_
          exact ih_5 x3_13 x5_14 S_5 (Nat.lt_of_lt_of_le hw.2 (Nat.le_of_lt_succ hn_5)) hw.1
  exact L_5 (μ_5 x3_4 0 S + 1) x3_4 0 S (Nat.lt_succ_self _) hi_5
def wp_X3_heft (k : Nat) (S : Sg) (Q : Int32 → Sg → Prop) : Prop :=
  (k < nM S ∧ Q (10 + (gI S 26 k 3)) S)
set_option maxHeartbeats 4000000 in
set_option maxRecDepth 100000 in
theorem ct_X3_heft (l : Launch) (D : va_G) (cA : Nat → ClassId) (ad : Nat → Nat → Nat) (k : Nat) (S : Sg) (Q : Int32 → Sg → Prop) (hw : wp_X3_heft k S Q) : CtI l yX3_heft wsX3_heft (mkR 0 0) D cA ad [.ref (ad 26 k)] S Q := by
  refine ct_ofI (cc := cX3_heft) (nL := 1) (by decide) rfl (Nat.le_of_ble_eq_true rfl) ?_
  intro p e s m args below meth c A Q C hret
  unfold wp_X3_heft at hw
  have C : Cx p s m args c cX3_heft 1 wsX3_heft RX3 D cA A := C
  have hin1 : ∀ w ∈ u_ws RX1 TX1 11, w ∈ wsX3_heft := fun w h => List.mem_cons_of_mem _ (List.mem_append_left _ (List.mem_append_left _ (List.mem_append_left _ (List.mem_append_right _ h))))
  have hin3 : ∀ w ∈ u_ws RX3 TX3 11, w ∈ wsX3_heft := fun w h => List.mem_cons_of_mem _ (List.mem_append_left _ (List.mem_append_left _ (List.mem_append_right _ h)))
  have hin4 : ∀ w ∈ u_ws RX4 TX4 13, w ∈ wsX3_heft := fun w h => List.mem_cons_of_mem _ (List.mem_append_left _ (List.mem_append_right _ h))
  have hin8 : ∀ w ∈ u_ws RX8 TX8 13, w ∈ wsX3_heft := fun w h => List.mem_cons_of_mem _ (List.mem_append_right _ h)
  have f43 : Cond.fieldLink RX3 43 "CreepBoard$Mark" "readingCount" "I" ∈ wsX3_heft := by decide +kernel
  change KK p l e (mkR 0 0) s m args below meth c 1 D cA ad A Q 0 [(0, .ref (ad 26 k))] [] S
  refine k_bipush (v := 10) (pc := 0) C dX3_heft_0 (by decide) ?_
  refine k_aload_n (pc := 2) C dX3_heft_2 0 rfl rfl ?_
  obtain ⟨h_1, hw⟩ := hw
  refine kG_readingCount (pc := 3) C hin1 hin3 hin4 hin8 h_1 f43 dX3_heft_3 ?_
  refine k_iadd (pc := 6) C dX3_heft_6 ?_
  exact hret _ _ _ _ dX3_heft_7 hw
def wp_X8_clearFrom (k : Nat) (S : Sg) (Q : Int32 → Sg → Prop) : Prop :=
  (∃ (I_1 : Int32 → Int32 → Sg → Prop) (μ_1 : Int32 → Int32 → Sg → Nat), I_1 0 0 S ∧ ∀ (v1_1 : Int32) (v2_1 : Int32) (S_1 : Sg), I_1 v1_1 v2_1 S_1 → ((40 ≤ v2_1 → Q 40 S_1) ∧ (¬ 40 ≤ v2_1 → (k < nM S_1 ∧ ((kM S_1 k = 2) ∧ wp_X3_hasReading k v2_1 S_1 (fun r_3 S_3 => ((r_3 = 0 → (∀ x2_7 : Int32, x2_7 = v2_1 + 1 → (I_1 v1_1 x2_7 S_3 ∧ μ_1 v1_1 x2_7 S_3 < μ_1 v1_1 v2_1 S_1))) ∧ (¬ r_3 = 0 → (∀ x1_8 : Int32, x1_8 = v1_1 + 1 → ((¬ x1_8 = 2 → (∀ x2_10 : Int32, x2_10 = v2_1 + 1 → (I_1 x1_8 x2_10 S_3 ∧ μ_1 x1_8 x2_10 S_3 < μ_1 v1_1 v2_1 S_1))) ∧ (x1_8 = 2 → Q (v2_1 + 1) S_3)))))))))))
set_option maxHeartbeats 4000000 in
set_option maxRecDepth 100000 in
theorem ct_X8_clearFrom (l : Launch) (D : va_G) (cA : Nat → ClassId) (ad : Nat → Nat → Nat) (k : Nat) (S : Sg) (Q : Int32 → Sg → Prop) (hw : wp_X8_clearFrom k S Q) : CtI l yX8_clearFrom wsX8_clearFrom (mkR 1 21) D cA ad [.ref (ad 26 k)] S Q := by
  refine ct_ofI (cc := cX8_clearFrom) (nL := 3) (by decide) rfl (Nat.le_of_ble_eq_true rfl) ?_
  intro p e s m args below meth c A Q C hret
  unfold wp_X8_clearFrom at hw
  have C : Cx p s m args c cX8_clearFrom 3 wsX8_clearFrom RX8 D cA A := C
  change KK p l e (mkR 1 21) s m args below meth c 3 D cA ad A Q 0 [(0, .ref (ad 26 k))] [] S
  refine k_iconst (v := 0) (pc := 0) C dX8_clearFrom_0 (by decide) ?_
  refine k_istore_n (pc := 1) C dX8_clearFrom_1 rfl (by decide) [(1, .int 0), (0, .ref (ad 26 k))] rfl ?_
  refine k_iconst (v := 0) (pc := 2) C dX8_clearFrom_2 (by decide) ?_
  refine k_istore_n (pc := 3) C dX8_clearFrom_3 rfl (by decide) [(2, .int 0), (1, .int 0), (0, .ref (ad 26 k))] rfl ?_
  refine k_sub [2, 1, 0] [(0, .ref (ad 26 k)), (1, .int 0), (2, .int 0)] rfl ?_
  obtain ⟨I_1, μ_1, hi_1, hw⟩ := hw
  have L_1 : ∀ (n : Nat) (v1_1 : Int32) (v2_1 : Int32) (S_1 : Sg), μ_1 v1_1 v2_1 S_1 < n → I_1 v1_1 v2_1 S_1 → KK p l e (mkR 1 21) s m args below meth c 3 D cA ad A Q 4 [(0, .ref (ad 26 k)), (1, .int v1_1), (2, .int v2_1)] [] S_1 := by
    intro n
    induction n with
    | zero => intro v1_1 v2_1 S_1 h; exact absurd h (Nat.not_lt_zero _)
    | succ n ih_1 =>
      intro v1_1 v2_1 S_1 hn_1 hi_1
      have hw := hw v1_1 v2_1 S_1 hi_1
      refine k_iload_n (pc := 4) C dX8_clearFrom_4 2 rfl rfl ?_
      refine k_bipush (v := 40) (pc := 5) C dX8_clearFrom_5 (by decide) ?_
      refine k_icmp_ge (pc := 7) C 36 dX8_clearFrom_7 (by decide) (fun q_2 => ?_) (fun q_2 => ?_)
      · have hw := hw.1 q_2
        refine k_bipush (v := 40) (pc := 36) C dX8_clearFrom_36 (by decide) ?_
        exact hret _ _ _ _ dX8_clearFrom_38 hw
      · have hw := hw.2 q_2
        refine k_aload_n (pc := 10) C dX8_clearFrom_10 0 rfl rfl ?_
        refine k_iload_n (pc := 11) C dX8_clearFrom_11 2 rfl rfl ?_
        obtain ⟨h_4, hw⟩ := hw
        obtain ⟨h_5, hw⟩ := hw
        refine k_afterI (pc := 12) C (wp_X3_hasReading k v2_1 S_1) hw (fun post hw => by
            have h := h_5
            exact rn_U C (ct_X3_hasReading l D cA ad k v2_1 S_1 post hw) (va_cwU 1 C.2.2.2.2.1 gX8_clearFrom_X3_hasReading_u9X8 rfl rfl rfl rfl (by decide +kernel) ⟨Nat.le_of_ble_eq_true rfl, Nat.le_of_ble_eq_true rfl⟩) (mm_26 h_4) (celM_2 h) rfl rfl rfl rfl (Nat.le_of_ble_eq_true rfl) dX8_clearFrom_12) (fun r_3 S_3 hw => ?_)
        refine k_if_eq (pc := 15) C 30 dX8_clearFrom_15 (by decide) (fun q_6 => ?_) (fun q_6 => ?_)
        · have hw := hw.1 q_6
          obtain ⟨x2_7, ex2_7⟩ : ∃ y : Int32, y = v2_1 + 1 := ⟨_, rfl⟩
          have hw := hw x2_7 ex2_7
          refine k_iinc (v := x2_7) (j := 2) (pc := 30) C dX8_clearFrom_30 rfl (by rw [ex2_7]; rfl) (by decide) [(2, .int x2_7), (0, .ref (ad 26 k)), (1, .int v1_1)] rfl ?_
          refine k_goto (pc := 33) C 4 dX8_clearFrom_33 (by decide) ?_
          refine k_sub [1, 2, 0] [(0, .ref (ad 26 k)), (1, .int v1_1), (2, .int x2_7)] rfl ?_
          exact ih_1 v1_1 x2_7 S_3 (Nat.lt_of_lt_of_le hw.2 (Nat.le_of_lt_succ hn_1)) hw.1
        · have hw := hw.2 q_6
          obtain ⟨x1_8, ex1_8⟩ : ∃ y : Int32, y = v1_1 + 1 := ⟨_, rfl⟩
          have hw := hw x1_8 ex1_8
          refine k_iinc (v := x1_8) (j := 1) (pc := 18) C dX8_clearFrom_18 rfl (by rw [ex1_8]; rfl) (by decide) [(1, .int x1_8), (0, .ref (ad 26 k)), (2, .int v2_1)] rfl ?_
          refine k_iload_n (pc := 21) C dX8_clearFrom_21 0 rfl rfl ?_
          refine k_iconst (v := 2) (pc := 22) C dX8_clearFrom_22 (by decide) ?_
          refine k_icmp_ne (pc := 23) C 30 dX8_clearFrom_23 (by decide) (fun q_9 => ?_) (fun q_9 => ?_)
          · have hw := hw.1 q_9
            obtain ⟨x2_10, ex2_10⟩ : ∃ y : Int32, y = v2_1 + 1 := ⟨_, rfl⟩
            have hw := hw x2_10 ex2_10
            refine k_iinc (v := x2_10) (j := 2) (pc := 30) C dX8_clearFrom_30 rfl (by rw [ex2_10]; rfl) (by decide) [(2, .int x2_10), (1, .int x1_8), (0, .ref (ad 26 k))] rfl ?_
            refine k_goto (pc := 33) C 4 dX8_clearFrom_33 (by decide) ?_
            refine k_sub [2, 1, 0] [(0, .ref (ad 26 k)), (1, .int x1_8), (2, .int x2_10)] rfl ?_
            exact ih_1 x1_8 x2_10 S_3 (Nat.lt_of_lt_of_le hw.2 (Nat.le_of_lt_succ hn_1)) hw.1
          · have hw := hw.2 q_9
            refine k_iload_n (pc := 26) C dX8_clearFrom_26 2 rfl rfl ?_
            refine k_iconst (v := 1) (pc := 27) C dX8_clearFrom_27 (by decide) ?_
            refine k_iadd (pc := 28) C dX8_clearFrom_28 ?_
            exact hret _ _ _ _ dX8_clearFrom_29 hw
  exact L_1 (μ_1 0 0 S + 1) 0 0 S (Nat.lt_succ_self _) hi_1
def wpv_clearFrom (k : Nat) (S : Sg) (Q : Int32 → Sg → Prop) : Prop := (kM S k = 2 → wp_X8_clearFrom k S Q) ∧ (¬ kM S k = 2 → wp_X3_clearFrom k S Q)
def wp_X3_isCleared (k : Nat) (a1 : Int32) (S : Sg) (Q : Int32 → Sg → Prop) : Prop :=
  (k < nM S ∧ (vp_in a1 40 ∧ (((gA S 27 k (Int32.toNatClampNeg a1)) = 0 → Q 0 S) ∧ (¬ (gA S 27 k (Int32.toNatClampNeg a1)) = 0 → wpv_clearFrom k S (fun r_4 S_4 => ((a1 < r_4 → Q 0 S_4) ∧ (¬ a1 < r_4 → Q 1 S_4)))))))
set_option maxHeartbeats 4000000 in
set_option maxRecDepth 100000 in
theorem ct_X3_isCleared (l : Launch) (D : va_G) (cA : Nat → ClassId) (ad : Nat → Nat → Nat) (k : Nat) (a1 : Int32) (S : Sg) (Q : Int32 → Sg → Prop) (hw : wp_X3_isCleared k a1 S Q) : CtI l yX3_isCleared wsX3_isCleared (mkR 2 43) D cA ad [.ref (ad 26 k), .int a1] S Q := by
  refine ct_ofZ (cc := cX3_isCleared) (nL := 2) (by decide) rfl (Nat.le_of_ble_eq_true rfl) ?_
  intro p e s m args below meth c A Q C hret
  unfold wp_X3_isCleared at hw
  have C : Cx p s m args c cX3_isCleared 2 wsX3_isCleared RX3 D cA A := C
  have hin1 : ∀ w ∈ u_ws RX1 TX1 11, w ∈ wsX3_isCleared := fun w h => List.mem_cons_of_mem _ (List.mem_append_left _ (List.mem_append_left _ (List.mem_append_left _ (List.mem_append_right _ h))))
  have hin3 : ∀ w ∈ u_ws RX3 TX3 11, w ∈ wsX3_isCleared := fun w h => List.mem_cons_of_mem _ (List.mem_append_left _ (List.mem_append_left _ (List.mem_append_right _ h)))
  have hin4 : ∀ w ∈ u_ws RX4 TX4 13, w ∈ wsX3_isCleared := fun w h => List.mem_cons_of_mem _ (List.mem_append_left _ (List.mem_append_right _ h))
  have hin8 : ∀ w ∈ u_ws RX8 TX8 13, w ∈ wsX3_isCleared := fun w h => List.mem_cons_of_mem _ (List.mem_append_right _ h)
  have f9 : Cond.fieldLink RX3 9 "CreepBoard$Mark" "present" "[Z" ∈ wsX3_isCleared := by decide +kernel
  change KK p l e (mkR 2 43) s m args below meth c 2 D cA ad A Q 0 [(0, .ref (ad 26 k)), (1, .int a1)] [] S
  refine k_aload_n (pc := 0) C dX3_isCleared_0 0 rfl rfl ?_
  obtain ⟨h_1, hw⟩ := hw
  refine kG_present (pc := 1) C hin1 hin3 hin4 hin8 h_1 f9 dX3_isCleared_1 ?_
  refine k_iload_n (pc := 4) C dX3_isCleared_4 1 rfl rfl ?_
  obtain ⟨h_2, hw⟩ := hw
  refine k_zald (pc := 5) C (mm_27 h_1) (cel_27 cA ad S k) h_2 dX3_isCleared_5 ?_
  refine k_if_eq (pc := 6) C 21 dX3_isCleared_6 (by decide) (fun q_3 => ?_) (fun q_3 => ?_)
  · have hw := hw.1 q_3
    refine k_iconst (v := 0) (pc := 21) C dX3_isCleared_21 (by decide) ?_
    exact hret _ _ _ _ dX3_isCleared_22 rfl hw
  · have hw := hw.2 q_3
    refine k_iload_n (pc := 9) C dX3_isCleared_9 1 rfl rfl ?_
    refine k_aload_n (pc := 10) C dX3_isCleared_10 0 rfl rfl ?_
    refine k_afterI (pc := 11) C (wpv_clearFrom k S) hw (fun post hw => by
        rcases kd4 S k with h | h | h | h
        · exact rn_V C (ct_X3_clearFrom l D cA ad k S post (hw.2 (by omega))) (cwV 0 C.2.2.2.2.1 gX3_isCleared_X3_clearFrom rfl rfl rfl (by decide +kernel) ⟨Nat.le_of_ble_eq_true rfl, Nat.le_of_ble_eq_true rfl⟩) (mm_26 h_1) (celM_0 h) rfl rfl rfl rfl (Nat.le_of_ble_eq_true rfl) dX3_isCleared_11
        · exact rn_U C (ct_X3_clearFrom l D cA ad k S post (hw.2 (by omega))) (va_cwU 0 C.2.2.2.2.1 gX3_isCleared_X3_clearFrom_u49X4 rfl rfl rfl rfl (by decide +kernel) ⟨Nat.le_of_ble_eq_true rfl, Nat.le_of_ble_eq_true rfl⟩) (mm_26 h_1) (celM_1 h) rfl rfl rfl rfl (Nat.le_of_ble_eq_true rfl) dX3_isCleared_11
        · exact rn_U C (ct_X8_clearFrom l D cA ad k S post (hw.1 h)) (va_cwO 0 C.2.2.2.2.1 gX3_isCleared_X8_clearFrom_u49X8 rfl rfl rfl (b0 := cX3_clearFrom) (m0 := 1) (r0 := (some .int)) (by decide +kernel) (by decide +kernel) ⟨Nat.le_of_ble_eq_true rfl, Nat.le_of_ble_eq_true rfl⟩) (mm_26 h_1) (celM_2 h) rfl rfl rfl rfl (Nat.le_of_ble_eq_true rfl) dX3_isCleared_11
        · exact rn_U C (ct_X3_clearFrom l D cA ad k S post (hw.2 (by omega))) (va_cwU 0 C.2.2.2.2.1 gX3_isCleared_X3_clearFrom_u49X1 rfl rfl rfl rfl (by decide +kernel) ⟨Nat.le_of_ble_eq_true rfl, Nat.le_of_ble_eq_true rfl⟩) (mm_26 h_1) (celM_3 h) rfl rfl rfl rfl (Nat.le_of_ble_eq_true rfl) dX3_isCleared_11) (fun r_4 S_4 hw => ?_)
    refine k_icmp_lt (pc := 14) C 21 dX3_isCleared_14 (by decide) (fun q_5 => ?_) (fun q_5 => ?_)
    · have hw := hw.1 q_5
      refine k_iconst (v := 0) (pc := 21) C dX3_isCleared_21 (by decide) ?_
      exact hret _ _ _ _ dX3_isCleared_22 rfl hw
    · have hw := hw.2 q_5
      refine k_iconst (v := 1) (pc := 17) C dX3_isCleared_17 (by decide) ?_
      refine k_goto (pc := 18) C 22 dX3_isCleared_18 (by decide) ?_
      exact hret _ _ _ _ dX3_isCleared_22 rfl hw
def wp_X3_firstCleared (k : Nat) (a1 : Int32) (S : Sg) (Q : Int32 → Sg → Prop) : Prop :=
  (k < nM S ∧ wpv_clearFrom k S (fun r_1 S_1 => (∃ (I_3 : Int32 → Sg → Prop) (μ_3 : Int32 → Sg → Nat), I_3 r_1 S_1 ∧ ∀ (v2_3 : Int32) (S_3 : Sg), I_3 v2_3 S_3 → ((a1 ≤ v2_3 → Q a1 S_3) ∧ (¬ a1 ≤ v2_3 → (k < nM S_3 ∧ (vp_in v2_3 40 ∧ (((gA S_3 27 k (Int32.toNatClampNeg v2_3)) = 0 → (∀ x2_8 : Int32, x2_8 = v2_3 + 1 → (I_3 x2_8 S_3 ∧ μ_3 x2_8 S_3 < μ_3 v2_3 S_3))) ∧ (¬ (gA S_3 27 k (Int32.toNatClampNeg v2_3)) = 0 → Q v2_3 S_3)))))))))
set_option maxHeartbeats 4000000 in
set_option maxRecDepth 100000 in
theorem ct_X3_firstCleared (l : Launch) (D : va_G) (cA : Nat → ClassId) (ad : Nat → Nat → Nat) (k : Nat) (a1 : Int32) (S : Sg) (Q : Int32 → Sg → Prop) (hw : wp_X3_firstCleared k a1 S Q) : CtI l yX3_firstCleared wsX3_firstCleared (mkR 2 43) D cA ad [.ref (ad 26 k), .int a1] S Q := by
  refine ct_ofI (cc := cX3_firstCleared) (nL := 3) (by decide) rfl (Nat.le_of_ble_eq_true rfl) ?_
  intro p e s m args below meth c A Q C hret
  unfold wp_X3_firstCleared at hw
  have C : Cx p s m args c cX3_firstCleared 3 wsX3_firstCleared RX3 D cA A := C
  have hin1 : ∀ w ∈ u_ws RX1 TX1 11, w ∈ wsX3_firstCleared := fun w h => List.mem_cons_of_mem _ (List.mem_append_left _ (List.mem_append_left _ (List.mem_append_left _ (List.mem_append_right _ h))))
  have hin3 : ∀ w ∈ u_ws RX3 TX3 11, w ∈ wsX3_firstCleared := fun w h => List.mem_cons_of_mem _ (List.mem_append_left _ (List.mem_append_left _ (List.mem_append_right _ h)))
  have hin4 : ∀ w ∈ u_ws RX4 TX4 13, w ∈ wsX3_firstCleared := fun w h => List.mem_cons_of_mem _ (List.mem_append_left _ (List.mem_append_right _ h))
  have hin8 : ∀ w ∈ u_ws RX8 TX8 13, w ∈ wsX3_firstCleared := fun w h => List.mem_cons_of_mem _ (List.mem_append_right _ h)
  have f9 : Cond.fieldLink RX3 9 "CreepBoard$Mark" "present" "[Z" ∈ wsX3_firstCleared := by decide +kernel
  change KK p l e (mkR 2 43) s m args below meth c 3 D cA ad A Q 0 [(0, .ref (ad 26 k)), (1, .int a1)] [] S
  refine k_aload_n (pc := 0) C dX3_firstCleared_0 0 rfl rfl ?_
  obtain ⟨h_2, hw⟩ := hw
  refine k_afterI (pc := 1) C (wpv_clearFrom k S) hw (fun post hw => by
      rcases kd4 S k with h | h | h | h
      · exact rn_V C (ct_X3_clearFrom l D cA ad k S post (hw.2 (by omega))) (cwV 0 C.2.2.2.2.1 gX3_firstCleared_X3_clearFrom rfl rfl rfl (by decide +kernel) ⟨Nat.le_of_ble_eq_true rfl, Nat.le_of_ble_eq_true rfl⟩) (mm_26 h_2) (celM_0 h) rfl rfl rfl rfl (Nat.le_of_ble_eq_true rfl) dX3_firstCleared_1
      · exact rn_U C (ct_X3_clearFrom l D cA ad k S post (hw.2 (by omega))) (va_cwU 0 C.2.2.2.2.1 gX3_firstCleared_X3_clearFrom_u49X4 rfl rfl rfl rfl (by decide +kernel) ⟨Nat.le_of_ble_eq_true rfl, Nat.le_of_ble_eq_true rfl⟩) (mm_26 h_2) (celM_1 h) rfl rfl rfl rfl (Nat.le_of_ble_eq_true rfl) dX3_firstCleared_1
      · exact rn_U C (ct_X8_clearFrom l D cA ad k S post (hw.1 h)) (va_cwO 0 C.2.2.2.2.1 gX3_firstCleared_X8_clearFrom_u49X8 rfl rfl rfl (b0 := cX3_clearFrom) (m0 := 1) (r0 := (some .int)) (by decide +kernel) (by decide +kernel) ⟨Nat.le_of_ble_eq_true rfl, Nat.le_of_ble_eq_true rfl⟩) (mm_26 h_2) (celM_2 h) rfl rfl rfl rfl (Nat.le_of_ble_eq_true rfl) dX3_firstCleared_1
      · exact rn_U C (ct_X3_clearFrom l D cA ad k S post (hw.2 (by omega))) (va_cwU 0 C.2.2.2.2.1 gX3_firstCleared_X3_clearFrom_u49X1 rfl rfl rfl rfl (by decide +kernel) ⟨Nat.le_of_ble_eq_true rfl, Nat.le_of_ble_eq_true rfl⟩) (mm_26 h_2) (celM_3 h) rfl rfl rfl rfl (Nat.le_of_ble_eq_true rfl) dX3_firstCleared_1) (fun r_1 S_1 hw => ?_)
  refine k_istore_n (pc := 4) C dX3_firstCleared_4 rfl (by decide) [(2, .int r_1), (0, .ref (ad 26 k)), (1, .int a1)] rfl ?_
  refine k_sub [1, 2, 0] [(0, .ref (ad 26 k)), (1, .int a1), (2, .int r_1)] rfl ?_
  obtain ⟨I_3, μ_3, hi_3, hw⟩ := hw
  have L_3 : ∀ (n : Nat) (v2_3 : Int32) (S_3 : Sg), μ_3 v2_3 S_3 < n → I_3 v2_3 S_3 → KK p l e (mkR 2 43) s m args below meth c 3 D cA ad A Q 5 [(0, .ref (ad 26 k)), (1, .int a1), (2, .int v2_3)] [] S_3 := by
    intro n
    induction n with
    | zero => intro v2_3 S_3 h; exact absurd h (Nat.not_lt_zero _)
    | succ n ih_3 =>
      intro v2_3 S_3 hn_3 hi_3
      have hw := hw v2_3 S_3 hi_3
      refine k_iload_n (pc := 5) C dX3_firstCleared_5 2 rfl rfl ?_
      refine k_iload_n (pc := 6) C dX3_firstCleared_6 1 rfl rfl ?_
      refine k_icmp_ge (pc := 7) C 27 dX3_firstCleared_7 (by decide) (fun q_4 => ?_) (fun q_4 => ?_)
      · have hw := hw.1 q_4
        refine k_iload_n (pc := 27) C dX3_firstCleared_27 1 rfl rfl ?_
        exact hret _ _ _ _ dX3_firstCleared_28 hw
      · have hw := hw.2 q_4
        refine k_aload_n (pc := 10) C dX3_firstCleared_10 0 rfl rfl ?_
        obtain ⟨h_5, hw⟩ := hw
        refine kG_present (pc := 11) C hin1 hin3 hin4 hin8 h_5 f9 dX3_firstCleared_11 ?_
        refine k_iload_n (pc := 14) C dX3_firstCleared_14 2 rfl rfl ?_
        obtain ⟨h_6, hw⟩ := hw
        refine k_zald (pc := 15) C (mm_27 h_5) (cel_27 cA ad S_3 k) h_6 dX3_firstCleared_15 ?_
        refine k_if_eq (pc := 16) C 21 dX3_firstCleared_16 (by decide) (fun q_7 => ?_) (fun q_7 => ?_)
        · have hw := hw.1 q_7
          obtain ⟨x2_8, ex2_8⟩ : ∃ y : Int32, y = v2_3 + 1 := ⟨_, rfl⟩
          have hw := hw x2_8 ex2_8
          refine k_iinc (v := x2_8) (j := 2) (pc := 21) C dX3_firstCleared_21 rfl (by rw [ex2_8]; rfl) (by decide) [(2, .int x2_8), (0, .ref (ad 26 k)), (1, .int a1)] rfl ?_
          refine k_goto (pc := 24) C 5 dX3_firstCleared_24 (by decide) ?_
          refine k_sub [1, 2, 0] [(0, .ref (ad 26 k)), (1, .int a1), (2, .int x2_8)] rfl ?_
          exact ih_3 x2_8 S_3 (Nat.lt_of_lt_of_le hw.2 (Nat.le_of_lt_succ hn_3)) hw.1
        · have hw := hw.2 q_7
          refine k_iload_n (pc := 19) C dX3_firstCleared_19 2 rfl rfl ?_
          exact hret _ _ _ _ dX3_firstCleared_20 hw
  exact L_3 (μ_3 r_1 S_1 + 1) r_1 S_1 (Nat.lt_succ_self _) hi_3
def wp_X4_changeAntenna (k : Nat) (a1 : Int32) (a2 : Int32) (S : Sg) (Q : Int32 → Sg → Prop) : Prop :=
  (k < nM S ∧ ((kM S k = 1 ∨ kM S k = 2) ∧ (∀ x3_3 : Int32, x3_3 = (gI S 26 k 6) → (∀ S_4 : Sg, S_4 = uI S 26 k 5 a1 → (∀ S_5 : Sg, S_5 = uI S_4 26 k 6 a2 → Q x3_3 S_5)))))
set_option maxHeartbeats 4000000 in
set_option maxRecDepth 100000 in
theorem ct_X4_changeAntenna (l : Launch) (D : va_G) (cA : Nat → ClassId) (ad : Nat → Nat → Nat) (k : Nat) (a1 : Int32) (a2 : Int32) (S : Sg) (Q : Int32 → Sg → Prop) (hw : wp_X4_changeAntenna k a1 a2 S Q) : CtI l yX4_changeAntenna wsX4_changeAntenna (mkR 0 0) D cA ad [.ref (ad 26 k), .int a1, .int a2] S Q := by
  refine ct_ofI (cc := cX4_changeAntenna) (nL := 4) (by decide) rfl (Nat.le_of_ble_eq_true rfl) ?_
  intro p e s m args below meth c A Q C hret
  unfold wp_X4_changeAntenna at hw
  have C : Cx p s m args c cX4_changeAntenna 4 wsX4_changeAntenna RX4 D cA A := C
  have hin4 : ∀ w ∈ u_ws RX4 TX4 13, w ∈ wsX4_changeAntenna := fun w h => List.mem_cons_of_mem _ (List.mem_append_left _ (List.mem_append_right _ h))
  have hin8 : ∀ w ∈ u_ws RX8 TX8 13, w ∈ wsX4_changeAntenna := fun w h => List.mem_cons_of_mem _ (List.mem_append_right _ h)
  have f7 : Cond.fieldLink RX4 7 "CreepBoard$Receiver" "antennaOffset" "I" ∈ wsX4_changeAntenna := by decide +kernel
  have f13 : Cond.fieldLink RX4 13 "CreepBoard$Receiver" "antennaEpoch" "I" ∈ wsX4_changeAntenna := by decide +kernel
  change KK p l e (mkR 0 0) s m args below meth c 4 D cA ad A Q 0 [(0, .ref (ad 26 k)), (1, .int a1), (2, .int a2)] [] S
  refine k_aload_n (pc := 0) C dX4_changeAntenna_0 0 rfl rfl ?_
  obtain ⟨h_1, hw⟩ := hw
  obtain ⟨h_2, hw⟩ := hw
  refine kG_antennaOffset (pc := 1) C hin4 hin8 h_1 h_2 f7 dX4_changeAntenna_1 ?_
  refine k_topi (fun x3_3 ex3_3 => ?_)
  have hw := hw x3_3 ex3_3
  refine k_istore_n (pc := 4) C dX4_changeAntenna_4 rfl (by decide) [(3, .int x3_3), (0, .ref (ad 26 k)), (1, .int a1), (2, .int a2)] rfl ?_
  refine k_aload_n (pc := 5) C dX4_changeAntenna_5 1 rfl rfl ?_
  refine k_iload_n (pc := 6) C dX4_changeAntenna_6 2 rfl rfl ?_
  refine kP_antennaEpoch (pc := 7) C hin4 hin8 h_1 h_2 f13 dX4_changeAntenna_7 ?_
  refine k_nameS (fun S_4 eS_4 => ?_)
  have hw := hw S_4 eS_4
  refine k_aload_n (pc := 10) C dX4_changeAntenna_10 1 rfl rfl ?_
  refine k_iload_n (pc := 11) C dX4_changeAntenna_11 3 rfl rfl ?_
  have p_6 : k < nM S_4 := by rw [eS_4]; exact h_1
  have p_7 : (kM S_4 k = 1 ∨ kM S_4 k = 2) := by rw [eS_4]; exact h_2
  refine kP_antennaOffset (pc := 12) C hin4 hin8 p_6 p_7 f7 dX4_changeAntenna_12 ?_
  refine k_nameS (fun S_5 eS_5 => ?_)
  have hw := hw S_5 eS_5
  refine k_iload_n (pc := 15) C dX4_changeAntenna_15 0 rfl rfl ?_
  exact hret _ _ _ _ dX4_changeAntenna_16 hw
def wp_X4_clearedValue (k : Nat) (a1 : Int32) (a2 : Int32) (S : Sg) (Q : Int64 → Sg → Prop) : Prop :=
  (k < nM S ∧ ((kM S k = 1 ∨ kM S k = 2) ∧ wp_X3_clearedValue k a1 a2 S (fun r_1 S_1 => (k < nM S_1 ∧ ((kM S_1 k = 1 ∨ kM S_1 k = 2) ∧ ((a1 < (gI S_1 26 k 5) → Q r_1 S_1) ∧ (¬ a1 < (gI S_1 26 k 5) → Q (r_1 - (Int32.toInt64 (gI S_1 26 k 6))) S_1)))))))
set_option maxHeartbeats 4000000 in
set_option maxRecDepth 100000 in
theorem ct_X4_clearedValue (l : Launch) (D : va_G) (cA : Nat → ClassId) (ad : Nat → Nat → Nat) (k : Nat) (a1 : Int32) (a2 : Int32) (S : Sg) (Q : Int64 → Sg → Prop) (hw : wp_X4_clearedValue k a1 a2 S Q) : CtL l yX4_clearedValue wsX4_clearedValue (mkR 1 25) D cA ad [.ref (ad 26 k), .int a1, .int a2] S Q := by
  refine ct_ofL (cc := cX4_clearedValue) (nL := 5) (by decide) rfl (Nat.le_of_ble_eq_true rfl) ?_
  intro p e s m args below meth c A Q C hret
  unfold wp_X4_clearedValue at hw
  have C : Cx p s m args c cX4_clearedValue 5 wsX4_clearedValue RX4 D cA A := C
  have hin4 : ∀ w ∈ u_ws RX4 TX4 13, w ∈ wsX4_clearedValue := fun w h => List.mem_cons_of_mem _ (List.mem_append_left _ (List.mem_append_left _ (List.mem_append_left _ (List.mem_append_right _ h))))
  have hin8 : ∀ w ∈ u_ws RX8 TX8 13, w ∈ wsX4_clearedValue := fun w h => List.mem_cons_of_mem _ (List.mem_append_left _ (List.mem_append_left _ (List.mem_append_right _ h)))
  have f13 : Cond.fieldLink RX4 13 "CreepBoard$Receiver" "antennaEpoch" "I" ∈ wsX4_clearedValue := by decide +kernel
  have f7 : Cond.fieldLink RX4 7 "CreepBoard$Receiver" "antennaOffset" "I" ∈ wsX4_clearedValue := by decide +kernel
  change KK p l e (mkR 1 25) s m args below meth c 5 D cA ad A Q 0 [(0, .ref (ad 26 k)), (1, .int a1), (2, .int a2)] [] S
  refine k_aload_n (pc := 0) C dX4_clearedValue_0 0 rfl rfl ?_
  refine k_iload_n (pc := 1) C dX4_clearedValue_1 1 rfl rfl ?_
  refine k_iload_n (pc := 2) C dX4_clearedValue_2 2 rfl rfl ?_
  obtain ⟨h_2, hw⟩ := hw
  obtain ⟨h_3, hw⟩ := hw
  refine k_afterL (pc := 3) C (wp_X3_clearedValue k a1 a2 S) hw (fun post hw => by
      rcases h_3 with h | h
      · exact rn_SU C (ct_X3_clearedValue l D cA ad k a1 a2 S post hw) (va_cwSU 2 C.2.2.2.2.1 gX4_clearedValue_X3_clearedValue_s16 rfl rfl rfl (by decide +kernel) ⟨Nat.le_of_ble_eq_true rfl, Nat.le_of_ble_eq_true rfl⟩) (mm_26 h_2) (celM_1 h) rfl rfl rfl rfl (Nat.le_of_ble_eq_true rfl) dX4_clearedValue_3
      · exact rn_SU C (ct_X3_clearedValue l D cA ad k a1 a2 S post hw) (va_cwSU 2 C.2.2.2.2.1 gX4_clearedValue_X3_clearedValue_s16 rfl rfl rfl (by decide +kernel) ⟨Nat.le_of_ble_eq_true rfl, Nat.le_of_ble_eq_true rfl⟩) (mm_26 h_2) (celM_2 h) rfl rfl rfl rfl (Nat.le_of_ble_eq_true rfl) dX4_clearedValue_3) (fun r_1 S_1 hw => ?_)
  refine k_lstore_n (pc := 6) C dX4_clearedValue_6 rfl (by decide) [(3, .long r_1), (0, .ref (ad 26 k)), (1, .int a1), (2, .int a2)] rfl ?_
  refine k_iload_n (pc := 7) C dX4_clearedValue_7 2 rfl rfl ?_
  refine k_aload_n (pc := 8) C dX4_clearedValue_8 1 rfl rfl ?_
  obtain ⟨h_4, hw⟩ := hw
  obtain ⟨h_5, hw⟩ := hw
  refine kG_antennaEpoch (pc := 9) C hin4 hin8 h_4 h_5 f13 dX4_clearedValue_9 ?_
  refine k_icmp_lt (pc := 12) C 25 dX4_clearedValue_12 (by decide) (fun q_6 => ?_) (fun q_6 => ?_)
  · have hw := hw.1 q_6
    refine k_lload_n (pc := 25) C dX4_clearedValue_25 0 rfl rfl ?_
    exact hret _ _ _ _ dX4_clearedValue_26 hw
  · have hw := hw.2 q_6
    refine k_lload_n (pc := 15) C dX4_clearedValue_15 0 rfl rfl ?_
    refine k_aload_n (pc := 16) C dX4_clearedValue_16 1 rfl rfl ?_
    refine kG_antennaOffset (pc := 17) C hin4 hin8 h_4 h_5 f7 dX4_clearedValue_17 ?_
    refine k_i2l (pc := 20) C dX4_clearedValue_20 ?_
    refine k_lsub (pc := 21) C dX4_clearedValue_21 ?_
    refine k_goto (pc := 22) C 26 dX4_clearedValue_22 (by decide) ?_
    exact hret _ _ _ _ dX4_clearedValue_26 hw
def wp_X4_heft (k : Nat) (S : Sg) (Q : Int32 → Sg → Prop) : Prop :=
  (k < nM S ∧ ((kM S k = 1 ∨ kM S k = 2) ∧ wp_X3_heft k S (fun r_1 S_1 => (k < nM S_1 ∧ ((kM S_1 k = 1 ∨ kM S_1 k = 2) ∧ Q ((r_1 + (gI S_1 26 k 6)) + 100) S_1)))))
set_option maxHeartbeats 4000000 in
set_option maxRecDepth 100000 in
theorem ct_X4_heft (l : Launch) (D : va_G) (cA : Nat → ClassId) (ad : Nat → Nat → Nat) (k : Nat) (S : Sg) (Q : Int32 → Sg → Prop) (hw : wp_X4_heft k S Q) : CtI l yX4_heft wsX4_heft (mkR 1 20) D cA ad [.ref (ad 26 k)] S Q := by
  refine ct_ofI (cc := cX4_heft) (nL := 1) (by decide) rfl (Nat.le_of_ble_eq_true rfl) ?_
  intro p e s m args below meth c A Q C hret
  unfold wp_X4_heft at hw
  have C : Cx p s m args c cX4_heft 1 wsX4_heft RX4 D cA A := C
  have hin4 : ∀ w ∈ u_ws RX4 TX4 13, w ∈ wsX4_heft := fun w h => List.mem_cons_of_mem _ (List.mem_append_left _ (List.mem_append_left _ (List.mem_append_left _ (List.mem_append_right _ h))))
  have hin8 : ∀ w ∈ u_ws RX8 TX8 13, w ∈ wsX4_heft := fun w h => List.mem_cons_of_mem _ (List.mem_append_left _ (List.mem_append_left _ (List.mem_append_right _ h)))
  have f7 : Cond.fieldLink RX4 7 "CreepBoard$Receiver" "antennaOffset" "I" ∈ wsX4_heft := by decide +kernel
  change KK p l e (mkR 1 20) s m args below meth c 1 D cA ad A Q 0 [(0, .ref (ad 26 k))] [] S
  refine k_aload_n (pc := 0) C dX4_heft_0 0 rfl rfl ?_
  obtain ⟨h_2, hw⟩ := hw
  obtain ⟨h_3, hw⟩ := hw
  refine k_afterI (pc := 1) C (wp_X3_heft k S) hw (fun post hw => by
      rcases h_3 with h | h
      · exact rn_SU C (ct_X3_heft l D cA ad k S post hw) (va_cwSU 0 C.2.2.2.2.1 gX4_heft_X3_heft_s20 rfl rfl rfl (by decide +kernel) ⟨Nat.le_of_ble_eq_true rfl, Nat.le_of_ble_eq_true rfl⟩) (mm_26 h_2) (celM_1 h) rfl rfl rfl rfl (Nat.le_of_ble_eq_true rfl) dX4_heft_1
      · exact rn_SU C (ct_X3_heft l D cA ad k S post hw) (va_cwSU 0 C.2.2.2.2.1 gX4_heft_X3_heft_s20 rfl rfl rfl (by decide +kernel) ⟨Nat.le_of_ble_eq_true rfl, Nat.le_of_ble_eq_true rfl⟩) (mm_26 h_2) (celM_2 h) rfl rfl rfl rfl (Nat.le_of_ble_eq_true rfl) dX4_heft_1) (fun r_1 S_1 hw => ?_)
  refine k_aload_n (pc := 4) C dX4_heft_4 0 rfl rfl ?_
  obtain ⟨h_4, hw⟩ := hw
  obtain ⟨h_5, hw⟩ := hw
  refine kG_antennaOffset (pc := 5) C hin4 hin8 h_4 h_5 f7 dX4_heft_5 ?_
  refine k_iadd (pc := 8) C dX4_heft_8 ?_
  refine k_bipush (v := 100) (pc := 9) C dX4_heft_9 (by decide) ?_
  refine k_iadd (pc := 11) C dX4_heft_11 ?_
  exact hret _ _ _ _ dX4_heft_12 hw
def wp_X8_heft (k : Nat) (S : Sg) (Q : Int32 → Sg → Prop) : Prop :=
  (k < nM S ∧ ((kM S k = 2) ∧ wp_X4_heft k S (fun r_1 S_1 => Q (2 * r_1) S_1)))
set_option maxHeartbeats 4000000 in
set_option maxRecDepth 100000 in
theorem ct_X8_heft (l : Launch) (D : va_G) (cA : Nat → ClassId) (ad : Nat → Nat → Nat) (k : Nat) (S : Sg) (Q : Int32 → Sg → Prop) (hw : wp_X8_heft k S Q) : CtI l yX8_heft wsX8_heft (mkR 2 40) D cA ad [.ref (ad 26 k)] S Q := by
  refine ct_ofI (cc := cX8_heft) (nL := 1) (by decide) rfl (Nat.le_of_ble_eq_true rfl) ?_
  intro p e s m args below meth c A Q C hret
  unfold wp_X8_heft at hw
  have C : Cx p s m args c cX8_heft 1 wsX8_heft RX8 D cA A := C
  change KK p l e (mkR 2 40) s m args below meth c 1 D cA ad A Q 0 [(0, .ref (ad 26 k))] [] S
  refine k_iconst (v := 2) (pc := 0) C dX8_heft_0 (by decide) ?_
  refine k_aload_n (pc := 1) C dX8_heft_1 0 rfl rfl ?_
  obtain ⟨h_2, hw⟩ := hw
  obtain ⟨h_3, hw⟩ := hw
  refine k_afterI (pc := 2) C (wp_X4_heft k S) hw (fun post hw => by
      have h := h_3
      exact rn_SU C (ct_X4_heft l D cA ad k S post hw) (va_cwSU 0 C.2.2.2.2.1 gX8_heft_X4_heft_s15 rfl rfl rfl (by decide +kernel) ⟨Nat.le_of_ble_eq_true rfl, Nat.le_of_ble_eq_true rfl⟩) (mm_26 h_2) (celM_2 h) rfl rfl rfl rfl (Nat.le_of_ble_eq_true rfl) dX8_heft_2) (fun r_1 S_1 hw => ?_)
  refine k_imul (pc := 5) C dX8_heft_5 ?_
  exact hret _ _ _ _ dX8_heft_6 hw
def wp_X1_seasonMean (k : Nat) (a1 : Int32) (a2 : Int32) (S : Sg) (Q : Int64 → Sg → Prop) : Prop :=
  (∀ x6_1 : Int32, x6_1 = (a1 - a1 / 4 * 4) → (∃ (I_2 : Int64 → Int32 → Int32 → Sg → Prop) (μ_2 : Int64 → Int32 → Int32 → Sg → Nat), I_2 0 0 x6_1 S ∧ ∀ (v3_2 : Int64) (v5_2 : Int32) (v6_2 : Int32) (S_2 : Sg), I_2 v3_2 v5_2 v6_2 S_2 → ((40 ≤ v6_2 → ((¬ v5_2 = 0 → ((¬ (Int32.toInt64 v5_2) = 0) ∧ Q (v3_2 / (Int32.toInt64 v5_2)) S_2)) ∧ (v5_2 = 0 → Q 0 S_2))) ∧ (¬ 40 ≤ v6_2 → (k < nM S_2 ∧ ((¬ kM S_2 k = 0 ∧ ¬ kM S_2 k = 1 ∧ ¬ kM S_2 k = 2) ∧ wp_X3_hasReading k v6_2 S_2 (fun r_6 S_6 => ((r_6 = 0 → (∀ x6_10 : Int32, x6_10 = v6_2 + 4 → (I_2 v3_2 v5_2 x6_10 S_6 ∧ μ_2 v3_2 v5_2 x6_10 S_6 < μ_2 v3_2 v5_2 v6_2 S_2))) ∧ (¬ r_6 = 0 → (k < nM S_6 ∧ ((¬ kM S_6 k = 0 ∧ ¬ kM S_6 k = 1 ∧ ¬ kM S_6 k = 2) ∧ wp_X3_rawValue k v6_2 a2 S_6 (fun r_11 S_11 => (∀ x3_14 : Int64, x3_14 = (v3_2 + (Int32.toInt64 r_11)) → (∀ x5_15 : Int32, x5_15 = v5_2 + 1 → (∀ x6_16 : Int32, x6_16 = v6_2 + 4 → (I_2 x3_14 x5_15 x6_16 S_11 ∧ μ_2 x3_14 x5_15 x6_16 S_11 < μ_2 v3_2 v5_2 v6_2 S_2))))))))))))))))
set_option maxHeartbeats 4000000 in
set_option maxRecDepth 100000 in
theorem ct_X1_seasonMean (l : Launch) (D : va_G) (cA : Nat → ClassId) (ad : Nat → Nat → Nat) (k : Nat) (a1 : Int32) (a2 : Int32) (S : Sg) (Q : Int64 → Sg → Prop) (hw : wp_X1_seasonMean k a1 a2 S Q) : CtL l yX1_seasonMean wsX1_seasonMean (mkR 1 22) D cA ad [.ref (ad 26 k), .int a1, .int a2] S Q := by
  refine ct_ofL (cc := cX1_seasonMean) (nL := 7) (by decide) rfl (Nat.le_of_ble_eq_true rfl) ?_
  intro p e s m args below meth c A Q C hret
  unfold wp_X1_seasonMean at hw
  have C : Cx p s m args c cX1_seasonMean 7 wsX1_seasonMean RX1 D cA A := C
  change KK p l e (mkR 1 22) s m args below meth c 7 D cA ad A Q 0 [(0, .ref (ad 26 k)), (1, .int a1), (2, .int a2)] [] S
  refine k_lconst (v := 0) (pc := 0) C dX1_seasonMean_0 (by decide) ?_
  refine k_lstore_n (pc := 1) C dX1_seasonMean_1 rfl (by decide) [(3, .long 0), (0, .ref (ad 26 k)), (1, .int a1), (2, .int a2)] rfl ?_
  refine k_iconst (v := 0) (pc := 2) C dX1_seasonMean_2 (by decide) ?_
  refine k_istore (pc := 3) C dX1_seasonMean_3 (by decide) [(5, .int 0), (3, .long 0), (0, .ref (ad 26 k)), (1, .int a1), (2, .int a2)] rfl ?_
  refine k_iload_n (pc := 5) C dX1_seasonMean_5 3 rfl rfl ?_
  refine k_iconst (v := 4) (pc := 6) C dX1_seasonMean_6 (by decide) ?_
  refine k_irem (pc := 7) C dX1_seasonMean_7 (by decide) ?_
  refine k_topi (fun x6_1 ex6_1 => ?_)
  have hw := hw x6_1 ex6_1
  refine k_istore (pc := 8) C dX1_seasonMean_8 (by decide) [(6, .int x6_1), (5, .int 0), (3, .long 0), (0, .ref (ad 26 k)), (1, .int a1), (2, .int a2)] rfl ?_
  refine k_sub [3, 5, 2, 1, 0] [(0, .ref (ad 26 k)), (2, .int a2), (3, .long 0), (5, .int 0), (6, .int x6_1)] rfl ?_
  obtain ⟨I_2, μ_2, hi_2, hw⟩ := hw
  have L_2 : ∀ (n : Nat) (v3_2 : Int64) (v5_2 : Int32) (v6_2 : Int32) (S_2 : Sg), μ_2 v3_2 v5_2 v6_2 S_2 < n → I_2 v3_2 v5_2 v6_2 S_2 → KK p l e (mkR 1 22) s m args below meth c 7 D cA ad A Q 10 [(0, .ref (ad 26 k)), (2, .int a2), (3, .long v3_2), (5, .int v5_2), (6, .int v6_2)] [] S_2 := by
    intro n
    induction n with
    | zero => intro v3_2 v5_2 v6_2 S_2 h; exact absurd h (Nat.not_lt_zero _)
    | succ n ih_2 =>
      intro v3_2 v5_2 v6_2 S_2 hn_2 hi_2
      have hw := hw v3_2 v5_2 v6_2 S_2 hi_2
      refine k_iload (pc := 10) C dX1_seasonMean_10 4 rfl ?_
      refine k_bipush (v := 40) (pc := 12) C dX1_seasonMean_12 (by decide) ?_
      refine k_icmp_ge (pc := 14) C 46 dX1_seasonMean_14 (by decide) (fun q_3 => ?_) (fun q_3 => ?_)
      · have hw := hw.1 q_3
        refine k_iload (pc := 46) C dX1_seasonMean_46 3 rfl ?_
        refine k_if_ne (pc := 48) C 55 dX1_seasonMean_48 (by decide) (fun q_4 => ?_) (fun q_4 => ?_)
        · have hw := hw.1 q_4
          refine k_lload_n (pc := 55) C dX1_seasonMean_55 2 rfl rfl ?_
          refine k_iload (pc := 56) C dX1_seasonMean_56 3 rfl ?_
          refine k_i2l (pc := 58) C dX1_seasonMean_58 ?_
          obtain ⟨h_5, hw⟩ := hw
          refine k_ldiv (pc := 59) C dX1_seasonMean_59 h_5 ?_
          exact hret _ _ _ _ dX1_seasonMean_60 hw
        · have hw := hw.2 q_4
          refine k_lconst (v := 0) (pc := 51) C dX1_seasonMean_51 (by decide) ?_
          refine k_goto (pc := 52) C 60 dX1_seasonMean_52 (by decide) ?_
          exact hret _ _ _ _ dX1_seasonMean_60 hw
      · have hw := hw.2 q_3
        refine k_aload_n (pc := 17) C dX1_seasonMean_17 0 rfl rfl ?_
        refine k_iload (pc := 18) C dX1_seasonMean_18 4 rfl ?_
        obtain ⟨h_7, hw⟩ := hw
        obtain ⟨h_8, hw⟩ := hw
        refine k_afterI (pc := 20) C (wp_X3_hasReading k v6_2 S_2) hw (fun post hw => by
            have h := h_8
            exact rn_U C (ct_X3_hasReading l D cA ad k v6_2 S_2 post hw) (va_cwU 1 C.2.2.2.2.1 gX1_seasonMean_X3_hasReading_u18X1 rfl rfl rfl rfl (by decide +kernel) ⟨Nat.le_of_ble_eq_true rfl, Nat.le_of_ble_eq_true rfl⟩) (mm_26 h_7) (celM_3 h) rfl rfl rfl rfl (Nat.le_of_ble_eq_true rfl) dX1_seasonMean_20) (fun r_6 S_6 hw => ?_)
        refine k_if_eq (pc := 23) C 40 dX1_seasonMean_23 (by decide) (fun q_9 => ?_) (fun q_9 => ?_)
        · have hw := hw.1 q_9
          obtain ⟨x6_10, ex6_10⟩ : ∃ y : Int32, y = v6_2 + 4 := ⟨_, rfl⟩
          have hw := hw x6_10 ex6_10
          refine k_iinc (v := x6_10) (j := 4) (pc := 40) C dX1_seasonMean_40 rfl (by rw [ex6_10]; rfl) (by decide) [(6, .int x6_10), (0, .ref (ad 26 k)), (2, .int a2), (3, .long v3_2), (5, .int v5_2)] rfl ?_
          refine k_goto (pc := 43) C 10 dX1_seasonMean_43 (by decide) ?_
          refine k_sub [1, 2, 3, 4, 0] [(0, .ref (ad 26 k)), (2, .int a2), (3, .long v3_2), (5, .int v5_2), (6, .int x6_10)] rfl ?_
          exact ih_2 v3_2 v5_2 x6_10 S_6 (Nat.lt_of_lt_of_le hw.2 (Nat.le_of_lt_succ hn_2)) hw.1
        · have hw := hw.2 q_9
          refine k_lload_n (pc := 26) C dX1_seasonMean_26 2 rfl rfl ?_
          refine k_aload_n (pc := 27) C dX1_seasonMean_27 0 rfl rfl ?_
          refine k_iload (pc := 28) C dX1_seasonMean_28 4 rfl ?_
          refine k_iload_n (pc := 30) C dX1_seasonMean_30 1 rfl rfl ?_
          obtain ⟨h_12, hw⟩ := hw
          obtain ⟨h_13, hw⟩ := hw
          refine k_afterI (pc := 31) C (wp_X3_rawValue k v6_2 a2 S_6) hw (fun post hw => by
              have h := h_13
              exact rn_U C (ct_X3_rawValue l D cA ad k v6_2 a2 S_6 post hw) (va_cwU 2 C.2.2.2.2.1 gX1_seasonMean_X3_rawValue_u22X1 rfl rfl rfl rfl (by decide +kernel) ⟨Nat.le_of_ble_eq_true rfl, Nat.le_of_ble_eq_true rfl⟩) (mm_26 h_12) (celM_3 h) rfl rfl rfl rfl (Nat.le_of_ble_eq_true rfl) dX1_seasonMean_31) (fun r_11 S_11 hw => ?_)
          refine k_i2l (pc := 34) C dX1_seasonMean_34 ?_
          refine k_ladd (pc := 35) C dX1_seasonMean_35 ?_
          refine k_topl (fun x3_14 ex3_14 => ?_)
          have hw := hw x3_14 ex3_14
          refine k_lstore_n (pc := 36) C dX1_seasonMean_36 rfl (by decide) [(3, .long x3_14), (0, .ref (ad 26 k)), (2, .int a2), (5, .int v5_2), (6, .int v6_2)] rfl ?_
          obtain ⟨x5_15, ex5_15⟩ : ∃ y : Int32, y = v5_2 + 1 := ⟨_, rfl⟩
          have hw := hw x5_15 ex5_15
          refine k_iinc (v := x5_15) (j := 3) (pc := 37) C dX1_seasonMean_37 rfl (by rw [ex5_15]; rfl) (by decide) [(5, .int x5_15), (3, .long x3_14), (0, .ref (ad 26 k)), (2, .int a2), (6, .int v6_2)] rfl ?_
          obtain ⟨x6_16, ex6_16⟩ : ∃ y : Int32, y = v6_2 + 4 := ⟨_, rfl⟩
          have hw := hw x6_16 ex6_16
          refine k_iinc (v := x6_16) (j := 4) (pc := 40) C dX1_seasonMean_40 rfl (by rw [ex6_16]; rfl) (by decide) [(6, .int x6_16), (5, .int x5_15), (3, .long x3_14), (0, .ref (ad 26 k)), (2, .int a2)] rfl ?_
          refine k_goto (pc := 43) C 10 dX1_seasonMean_43 (by decide) ?_
          refine k_sub [3, 4, 2, 1, 0] [(0, .ref (ad 26 k)), (2, .int a2), (3, .long x3_14), (5, .int x5_15), (6, .int x6_16)] rfl ?_
          exact ih_2 x3_14 x5_15 x6_16 S_11 (Nat.lt_of_lt_of_le hw.2 (Nat.le_of_lt_succ hn_2)) hw.1
  exact L_2 (μ_2 0 0 x6_1 S + 1) 0 0 x6_1 S (Nat.lt_succ_self _) hi_2
def wp_X1_clearedValue (k : Nat) (a1 : Int32) (a2 : Int32) (S : Sg) (Q : Int64 → Sg → Prop) : Prop :=
  (k < nM S ∧ ((¬ kM S k = 0 ∧ ¬ kM S k = 1 ∧ ¬ kM S k = 2) ∧ wp_X3_clearedValue k a1 a2 S (fun r_1 S_1 => (k < nM S_1 ∧ ((¬ kM S_1 k = 0 ∧ ¬ kM S_1 k = 1 ∧ ¬ kM S_1 k = 2) ∧ wp_X1_seasonMean k a1 a2 S_1 (fun r_4 S_4 => Q (r_1 - r_4) S_4))))))
set_option maxHeartbeats 4000000 in
set_option maxRecDepth 100000 in
theorem ct_X1_clearedValue (l : Launch) (D : va_G) (cA : Nat → ClassId) (ad : Nat → Nat → Nat) (k : Nat) (a1 : Int32) (a2 : Int32) (S : Sg) (Q : Int64 → Sg → Prop) (hw : wp_X1_clearedValue k a1 a2 S Q) : CtL l yX1_clearedValue wsX1_clearedValue (mkR 2 48) D cA ad [.ref (ad 26 k), .int a1, .int a2] S Q := by
  refine ct_ofL (cc := cX1_clearedValue) (nL := 3) (by decide) rfl (Nat.le_of_ble_eq_true rfl) ?_
  intro p e s m args below meth c A Q C hret
  unfold wp_X1_clearedValue at hw
  have C : Cx p s m args c cX1_clearedValue 3 wsX1_clearedValue RX1 D cA A := C
  change KK p l e (mkR 2 48) s m args below meth c 3 D cA ad A Q 0 [(0, .ref (ad 26 k)), (1, .int a1), (2, .int a2)] [] S
  refine k_aload_n (pc := 0) C dX1_clearedValue_0 0 rfl rfl ?_
  refine k_iload_n (pc := 1) C dX1_clearedValue_1 1 rfl rfl ?_
  refine k_iload_n (pc := 2) C dX1_clearedValue_2 2 rfl rfl ?_
  obtain ⟨h_2, hw⟩ := hw
  obtain ⟨h_3, hw⟩ := hw
  refine k_afterL (pc := 3) C (wp_X3_clearedValue k a1 a2 S) hw (fun post hw => by
      have h := h_3
      exact rn_SU C (ct_X3_clearedValue l D cA ad k a1 a2 S post hw) (va_cwSU 2 C.2.2.2.2.1 gX1_clearedValue_X3_clearedValue_s9 rfl rfl rfl (by decide +kernel) ⟨Nat.le_of_ble_eq_true rfl, Nat.le_of_ble_eq_true rfl⟩) (mm_26 h_2) (celM_3 h) rfl rfl rfl rfl (Nat.le_of_ble_eq_true rfl) dX1_clearedValue_3) (fun r_1 S_1 hw => ?_)
  refine k_aload_n (pc := 6) C dX1_clearedValue_6 0 rfl rfl ?_
  refine k_iload_n (pc := 7) C dX1_clearedValue_7 1 rfl rfl ?_
  refine k_iload_n (pc := 8) C dX1_clearedValue_8 2 rfl rfl ?_
  obtain ⟨h_5, hw⟩ := hw
  obtain ⟨h_6, hw⟩ := hw
  refine k_afterL (pc := 9) C (wp_X1_seasonMean k a1 a2 S_1) hw (fun post hw => by
      have h := h_6
      exact rn_V C (ct_X1_seasonMean l D cA ad k a1 a2 S_1 post hw) (cwV 2 C.2.2.2.2.1 gX1_clearedValue_X1_seasonMean rfl rfl rfl (by decide +kernel) ⟨Nat.le_of_ble_eq_true rfl, Nat.le_of_ble_eq_true rfl⟩) (mm_26 h_5) (celM_3 h) rfl rfl rfl rfl (Nat.le_of_ble_eq_true rfl) dX1_clearedValue_9) (fun r_4 S_4 hw => ?_)
  refine k_lsub (pc := 12) C dX1_clearedValue_12 ?_
  exact hret _ _ _ _ dX1_clearedValue_13 hw
def wp_X1_heft (k : Nat) (S : Sg) (Q : Int32 → Sg → Prop) : Prop :=
  (k < nM S ∧ ((¬ kM S k = 0 ∧ ¬ kM S k = 1 ∧ ¬ kM S k = 2) ∧ wp_X3_heft k S (fun r_1 S_1 => Q (r_1 + 7) S_1)))
set_option maxHeartbeats 4000000 in
set_option maxRecDepth 100000 in
theorem ct_X1_heft (l : Launch) (D : va_G) (cA : Nat → ClassId) (ad : Nat → Nat → Nat) (k : Nat) (S : Sg) (Q : Int32 → Sg → Prop) (hw : wp_X1_heft k S Q) : CtI l yX1_heft wsX1_heft (mkR 1 20) D cA ad [.ref (ad 26 k)] S Q := by
  refine ct_ofI (cc := cX1_heft) (nL := 1) (by decide) rfl (Nat.le_of_ble_eq_true rfl) ?_
  intro p e s m args below meth c A Q C hret
  unfold wp_X1_heft at hw
  have C : Cx p s m args c cX1_heft 1 wsX1_heft RX1 D cA A := C
  change KK p l e (mkR 1 20) s m args below meth c 1 D cA ad A Q 0 [(0, .ref (ad 26 k))] [] S
  refine k_aload_n (pc := 0) C dX1_heft_0 0 rfl rfl ?_
  obtain ⟨h_2, hw⟩ := hw
  obtain ⟨h_3, hw⟩ := hw
  refine k_afterI (pc := 1) C (wp_X3_heft k S) hw (fun post hw => by
      have h := h_3
      exact rn_SU C (ct_X3_heft l D cA ad k S post hw) (va_cwSU 0 C.2.2.2.2.1 gX1_heft_X3_heft_s26 rfl rfl rfl (by decide +kernel) ⟨Nat.le_of_ble_eq_true rfl, Nat.le_of_ble_eq_true rfl⟩) (mm_26 h_2) (celM_3 h) rfl rfl rfl rfl (Nat.le_of_ble_eq_true rfl) dX1_heft_1) (fun r_1 S_1 hw => ?_)
  refine k_bipush (v := 7) (pc := 4) C dX1_heft_4 (by decide) ?_
  refine k_iadd (pc := 6) C dX1_heft_6 ?_
  exact hret _ _ _ _ dX1_heft_7 hw
def wpv_clearedValue (k : Nat) (a1 a2 : Int32) (S : Sg) (Q : Int64 → Sg → Prop) : Prop := (kM S k = 0 → wp_X3_clearedValue k a1 a2 S Q) ∧ ((kM S k = 1 ∨ kM S k = 2) → wp_X4_clearedValue k a1 a2 S Q) ∧ ((¬ kM S k = 0 ∧ ¬ kM S k = 1 ∧ ¬ kM S k = 2) → wp_X1_clearedValue k a1 a2 S Q)
def wpv_heft (k : Nat) (S : Sg) (Q : Int32 → Sg → Prop) : Prop := (kM S k = 0 → wp_X3_heft k S Q) ∧ (kM S k = 1 → wp_X4_heft k S Q) ∧ (kM S k = 2 → wp_X8_heft k S Q) ∧ ((¬ kM S k = 0 ∧ ¬ kM S k = 1 ∧ ¬ kM S k = 2) → wp_X1_heft k S Q)
def wp_X5_gather (k1 : Nat) (a2 : Int32) (S : Sg) (Q : Sg → Prop) : Prop :=
  (∀ S_1 : Sg, S_1 = uI S 3 0 2 0 → (k1 < nM S ∧ wpv_clearFrom k1 S_1 (fun r_2 S_2 => (∃ (I_5 : Int32 → Sg → Prop) (μ_5 : Int32 → Sg → Nat), I_5 r_2 S_2 ∧ ∀ (v3_5 : Int32) (S_5 : Sg), I_5 v3_5 S_5 → ((40 ≤ v3_5 → Q S_5) ∧ (¬ 40 ≤ v3_5 → (k1 < nM S_5 ∧ wp_X3_hasReading k1 v3_5 S_5 (fun r_7 S_7 => ((r_7 = 0 → (∀ x3_10 : Int32, x3_10 = v3_5 + 1 → (I_5 x3_10 S_7 ∧ μ_5 x3_10 S_7 < μ_5 v3_5 S_5))) ∧ (¬ r_7 = 0 → (vp_in (gI S_7 3 0 2) 40 ∧ (∀ S_12 : Sg, S_12 = uA S_7 4 0 (Int32.toNatClampNeg (gI S_7 3 0 2)) v3_5 → (k1 < nM S_7 ∧ wpv_clearedValue k1 v3_5 a2 S_12 (fun r_13 S_13 => (vp_in (gI S_12 3 0 2) 40 ∧ (∀ S_17 : Sg, S_17 = uL S_13 5 0 (Int32.toNatClampNeg (gI S_12 3 0 2)) r_13 → (∀ S_18 : Sg, S_18 = uI S_17 3 0 2 ((gI S_17 3 0 2) + 1) → (∀ x3_19 : Int32, x3_19 = v3_5 + 1 → (I_5 x3_19 S_18 ∧ μ_5 x3_19 S_18 < μ_5 v3_5 S_5)))))))))))))))))))
set_option maxHeartbeats 4000000 in
set_option maxRecDepth 100000 in
theorem ct_X5_gather (l : Launch) (D : va_G) (cA : Nat → ClassId) (ad : Nat → Nat → Nat) (k1 : Nat) (a2 : Int32) (S : Sg) (Q : Sg → Prop) (hw : wp_X5_gather k1 a2 S Q) : CtV l yX5_gather wsX5_gather (mkR 3 70) D cA ad [.ref (ad 3 0), .ref (ad 26 k1), .int a2] S Q := by
  refine ct_ofV (cc := cX5_gather) (nL := 4) (by decide) rfl (Nat.le_of_ble_eq_true rfl) ?_
  intro p e s m args below meth c A Q C hret
  unfold wp_X5_gather at hw
  have C : Cx p s m args c cX5_gather 4 wsX5_gather RX5 D cA A := C
  have hin5 : ∀ w ∈ u_ws RX5 TX5 3, w ∈ wsX5_gather := fun w h => List.mem_cons_of_mem _ (List.mem_append_left _ (List.mem_append_left _ (List.mem_append_left _ (List.mem_append_left _ (List.mem_append_right _ h)))))
  have f19 : Cond.fieldLink RX5 19 "CreepBoard$Series" "size" "I" ∈ wsX5_gather := by decide +kernel
  have f9 : Cond.fieldLink RX5 9 "CreepBoard$Series" "epochs" "[I" ∈ wsX5_gather := by decide +kernel
  have f15 : Cond.fieldLink RX5 15 "CreepBoard$Series" "values" "[J" ∈ wsX5_gather := by decide +kernel
  change KK p l e (mkR 3 70) s m args below meth c 4 D cA ad A Q 0 [(0, .ref (ad 3 0)), (1, .ref (ad 26 k1)), (2, .int a2)] [] S
  refine k_aload_n (pc := 0) C dX5_gather_0 0 rfl rfl ?_
  refine k_iconst (v := 0) (pc := 1) C dX5_gather_1 (by decide) ?_
  refine k_put (S' := uI S 3 0 2 0) (j := 2) (ty := .int) (pc := 2) C hin5 tyX5 tyX5_ok nmX5 hm_3 (cel_3 cA ad S 0) rfl (by decide) f19 (fun _ h => h) rfl (by decide +kernel) rfl rfl (Nat.le_of_ble_eq_true rfl) rfl rfl (fun a b h => cel_uI h) dX5_gather_2 ?_
  refine k_nameS (fun S_1 eS_1 => ?_)
  have hw := hw S_1 eS_1
  refine k_aload_n (pc := 5) C dX5_gather_5 1 rfl rfl ?_
  obtain ⟨h_3, hw⟩ := hw
  have p_4 : k1 < nM S_1 := by rw [eS_1]; exact h_3
  refine k_afterI (pc := 6) C (wpv_clearFrom k1 S_1) hw (fun post hw => by
      rcases kd4 S_1 k1 with h | h | h | h
      · exact rn_V C (ct_X3_clearFrom l D cA ad k1 S_1 post (hw.2 (by omega))) (cwV 0 C.2.2.2.2.1 gX5_gather_X3_clearFrom rfl rfl rfl (by decide +kernel) ⟨Nat.le_of_ble_eq_true rfl, Nat.le_of_ble_eq_true rfl⟩) (mm_26 p_4) (celM_0 h) rfl rfl rfl rfl (Nat.le_of_ble_eq_true rfl) dX5_gather_6
      · exact rn_U C (ct_X3_clearFrom l D cA ad k1 S_1 post (hw.2 (by omega))) (va_cwU 0 C.2.2.2.2.1 gX5_gather_X3_clearFrom_u23X4 rfl rfl rfl rfl (by decide +kernel) ⟨Nat.le_of_ble_eq_true rfl, Nat.le_of_ble_eq_true rfl⟩) (mm_26 p_4) (celM_1 h) rfl rfl rfl rfl (Nat.le_of_ble_eq_true rfl) dX5_gather_6
      · exact rn_U C (ct_X8_clearFrom l D cA ad k1 S_1 post (hw.1 h)) (va_cwO 0 C.2.2.2.2.1 gX5_gather_X8_clearFrom_u23X8 rfl rfl rfl (b0 := cX3_clearFrom) (m0 := 1) (r0 := (some .int)) (by decide +kernel) (by decide +kernel) ⟨Nat.le_of_ble_eq_true rfl, Nat.le_of_ble_eq_true rfl⟩) (mm_26 p_4) (celM_2 h) rfl rfl rfl rfl (Nat.le_of_ble_eq_true rfl) dX5_gather_6
      · exact rn_U C (ct_X3_clearFrom l D cA ad k1 S_1 post (hw.2 (by omega))) (va_cwU 0 C.2.2.2.2.1 gX5_gather_X3_clearFrom_u23X1 rfl rfl rfl rfl (by decide +kernel) ⟨Nat.le_of_ble_eq_true rfl, Nat.le_of_ble_eq_true rfl⟩) (mm_26 p_4) (celM_3 h) rfl rfl rfl rfl (Nat.le_of_ble_eq_true rfl) dX5_gather_6) (fun r_2 S_2 hw => ?_)
  refine k_istore_n (pc := 9) C dX5_gather_9 rfl (by decide) [(3, .int r_2), (0, .ref (ad 3 0)), (1, .ref (ad 26 k1)), (2, .int a2)] rfl ?_
  refine k_sub [1, 2, 3, 0] [(0, .ref (ad 3 0)), (1, .ref (ad 26 k1)), (2, .int a2), (3, .int r_2)] rfl ?_
  obtain ⟨I_5, μ_5, hi_5, hw⟩ := hw
  have L_5 : ∀ (n : Nat) (v3_5 : Int32) (S_5 : Sg), μ_5 v3_5 S_5 < n → I_5 v3_5 S_5 → KK p l e (mkR 3 70) s m args below meth c 4 D cA ad A Q 10 [(0, .ref (ad 3 0)), (1, .ref (ad 26 k1)), (2, .int a2), (3, .int v3_5)] [] S_5 := by
    intro n
    induction n with
    | zero => intro v3_5 S_5 h; exact absurd h (Nat.not_lt_zero _)
    | succ n ih_5 =>
      intro v3_5 S_5 hn_5 hi_5
      have hw := hw v3_5 S_5 hi_5
      refine k_iload_n (pc := 10) C dX5_gather_10 3 rfl rfl ?_
      refine k_bipush (v := 40) (pc := 11) C dX5_gather_11 (by decide) ?_
      refine k_icmp_ge (pc := 13) C 65 dX5_gather_13 (by decide) (fun q_6 => ?_) (fun q_6 => ?_)
      · have hw := hw.1 q_6
        exact hret _ _ _ dX5_gather_65 hw
      · have hw := hw.2 q_6
        refine k_aload_n (pc := 16) C dX5_gather_16 1 rfl rfl ?_
        refine k_iload_n (pc := 17) C dX5_gather_17 3 rfl rfl ?_
        obtain ⟨h_8, hw⟩ := hw
        refine k_afterI (pc := 18) C (wp_X3_hasReading k1 v3_5 S_5) hw (fun post hw => by
            rcases kd4 S_5 k1 with h | h | h | h
            · exact rn_V C (ct_X3_hasReading l D cA ad k1 v3_5 S_5 post hw) (cwV 1 C.2.2.2.2.1 gX5_gather_X3_hasReading rfl rfl rfl (by decide +kernel) ⟨Nat.le_of_ble_eq_true rfl, Nat.le_of_ble_eq_true rfl⟩) (mm_26 h_8) (celM_0 h) rfl rfl rfl rfl (Nat.le_of_ble_eq_true rfl) dX5_gather_18
            · exact rn_U C (ct_X3_hasReading l D cA ad k1 v3_5 S_5 post hw) (va_cwU 1 C.2.2.2.2.1 gX5_gather_X3_hasReading_u29X4 rfl rfl rfl rfl (by decide +kernel) ⟨Nat.le_of_ble_eq_true rfl, Nat.le_of_ble_eq_true rfl⟩) (mm_26 h_8) (celM_1 h) rfl rfl rfl rfl (Nat.le_of_ble_eq_true rfl) dX5_gather_18
            · exact rn_U C (ct_X3_hasReading l D cA ad k1 v3_5 S_5 post hw) (va_cwU 1 C.2.2.2.2.1 gX5_gather_X3_hasReading_u29X8 rfl rfl rfl rfl (by decide +kernel) ⟨Nat.le_of_ble_eq_true rfl, Nat.le_of_ble_eq_true rfl⟩) (mm_26 h_8) (celM_2 h) rfl rfl rfl rfl (Nat.le_of_ble_eq_true rfl) dX5_gather_18
            · exact rn_U C (ct_X3_hasReading l D cA ad k1 v3_5 S_5 post hw) (va_cwU 1 C.2.2.2.2.1 gX5_gather_X3_hasReading_u29X1 rfl rfl rfl rfl (by decide +kernel) ⟨Nat.le_of_ble_eq_true rfl, Nat.le_of_ble_eq_true rfl⟩) (mm_26 h_8) (celM_3 h) rfl rfl rfl rfl (Nat.le_of_ble_eq_true rfl) dX5_gather_18) (fun r_7 S_7 hw => ?_)
        refine k_if_eq (pc := 21) C 59 dX5_gather_21 (by decide) (fun q_9 => ?_) (fun q_9 => ?_)
        · have hw := hw.1 q_9
          obtain ⟨x3_10, ex3_10⟩ : ∃ y : Int32, y = v3_5 + 1 := ⟨_, rfl⟩
          have hw := hw x3_10 ex3_10
          refine k_iinc (v := x3_10) (j := 3) (pc := 59) C dX5_gather_59 rfl (by rw [ex3_10]; rfl) (by decide) [(3, .int x3_10), (0, .ref (ad 3 0)), (1, .ref (ad 26 k1)), (2, .int a2)] rfl ?_
          refine k_goto (pc := 62) C 10 dX5_gather_62 (by decide) ?_
          refine k_sub [1, 2, 3, 0] [(0, .ref (ad 3 0)), (1, .ref (ad 26 k1)), (2, .int a2), (3, .int x3_10)] rfl ?_
          exact ih_5 x3_10 S_7 (Nat.lt_of_lt_of_le hw.2 (Nat.le_of_lt_succ hn_5)) hw.1
        · have hw := hw.2 q_9
          refine k_aload_n (pc := 24) C dX5_gather_24 0 rfl rfl ?_
          refine k_get (j := 0) (pc := 25) C hin5 hm_3 (cel_3 cA ad S_7 0) rfl (by decide) f9 (fun _ h => h) rfl dX5_gather_25 ?_
          refine k_aload_n (pc := 28) C dX5_gather_28 0 rfl rfl ?_
          refine k_get (j := 2) (pc := 29) C hin5 hm_3 (cel_3 cA ad S_7 0) rfl (by decide) f19 (fun _ h => h) rfl dX5_gather_29 ?_
          refine k_iload_n (pc := 32) C dX5_gather_32 3 rfl rfl ?_
          obtain ⟨h_11, hw⟩ := hw
          refine k_iast (pc := 33) C hm_4 (fun S => cel_4 cA ad S 0) h_11 dX5_gather_33 ?_
          refine k_nameS (fun S_12 eS_12 => ?_)
          have hw := hw S_12 eS_12
          refine k_aload_n (pc := 34) C dX5_gather_34 0 rfl rfl ?_
          refine k_get (j := 1) (pc := 35) C hin5 hm_3 (cel_3 cA ad S_12 0) rfl (by decide) f15 (fun _ h => h) rfl dX5_gather_35 ?_
          refine k_aload_n (pc := 38) C dX5_gather_38 0 rfl rfl ?_
          refine k_get (j := 2) (pc := 39) C hin5 hm_3 (cel_3 cA ad S_12 0) rfl (by decide) f19 (fun _ h => h) rfl dX5_gather_39 ?_
          refine k_aload_n (pc := 42) C dX5_gather_42 1 rfl rfl ?_
          refine k_iload_n (pc := 43) C dX5_gather_43 3 rfl rfl ?_
          refine k_iload_n (pc := 44) C dX5_gather_44 2 rfl rfl ?_
          obtain ⟨h_14, hw⟩ := hw
          have p_15 : k1 < nM S_12 := by rw [eS_12]; exact h_14
          refine k_afterL (pc := 45) C (wpv_clearedValue k1 v3_5 a2 S_12) hw (fun post hw => by
              rcases kd4 S_12 k1 with h | h | h | h
              · exact rn_V C (ct_X3_clearedValue l D cA ad k1 v3_5 a2 S_12 post (hw.1 h)) (cwV 2 C.2.2.2.2.1 gX5_gather_X3_clearedValue rfl rfl rfl (by decide +kernel) ⟨Nat.le_of_ble_eq_true rfl, Nat.le_of_ble_eq_true rfl⟩) (mm_26 p_15) (celM_0 h) rfl rfl rfl rfl (Nat.le_of_ble_eq_true rfl) dX5_gather_45
              · exact rn_U C (ct_X4_clearedValue l D cA ad k1 v3_5 a2 S_12 post (hw.2.1 (by omega))) (va_cwO 2 C.2.2.2.2.1 gX5_gather_X4_clearedValue_u33X4 rfl rfl rfl (b0 := cX3_clearedValue) (m0 := 6) (r0 := (some .long)) (by decide +kernel) (by decide +kernel) ⟨Nat.le_of_ble_eq_true rfl, Nat.le_of_ble_eq_true rfl⟩) (mm_26 p_15) (celM_1 h) rfl rfl rfl rfl (Nat.le_of_ble_eq_true rfl) dX5_gather_45
              · exact rn_U C (ct_X4_clearedValue l D cA ad k1 v3_5 a2 S_12 post (hw.2.1 (by omega))) (va_cwO 2 C.2.2.2.2.1 gX5_gather_X4_clearedValue_u33X8 rfl rfl rfl (b0 := cX3_clearedValue) (m0 := 6) (r0 := (some .long)) (by decide +kernel) (by decide +kernel) ⟨Nat.le_of_ble_eq_true rfl, Nat.le_of_ble_eq_true rfl⟩) (mm_26 p_15) (celM_2 h) rfl rfl rfl rfl (Nat.le_of_ble_eq_true rfl) dX5_gather_45
              · exact rn_U C (ct_X1_clearedValue l D cA ad k1 v3_5 a2 S_12 post (hw.2.2 h)) (va_cwO 2 C.2.2.2.2.1 gX5_gather_X1_clearedValue_u33X1 rfl rfl rfl (b0 := cX3_clearedValue) (m0 := 6) (r0 := (some .long)) (by decide +kernel) (by decide +kernel) ⟨Nat.le_of_ble_eq_true rfl, Nat.le_of_ble_eq_true rfl⟩) (mm_26 p_15) (celM_3 h) rfl rfl rfl rfl (Nat.le_of_ble_eq_true rfl) dX5_gather_45) (fun r_13 S_13 hw => ?_)
          obtain ⟨h_16, hw⟩ := hw
          refine k_last (pc := 48) C hm_5 (fun S => cel_5 cA ad S 0) h_16 dX5_gather_48 ?_
          refine k_nameS (fun S_17 eS_17 => ?_)
          have hw := hw S_17 eS_17
          refine k_aload_n (pc := 49) C dX5_gather_49 0 rfl rfl ?_
          refine k_dup (pc := 50) C dX5_gather_50 rfl ?_
          refine k_get (j := 2) (pc := 51) C hin5 hm_3 (cel_3 cA ad S_17 0) rfl (by decide) f19 (fun _ h => h) rfl dX5_gather_51 ?_
          refine k_iconst (v := 1) (pc := 54) C dX5_gather_54 (by decide) ?_
          refine k_iadd (pc := 55) C dX5_gather_55 ?_
          refine k_put (S' := uI S_17 3 0 2 ((gI S_17 3 0 2) + 1)) (j := 2) (ty := .int) (pc := 56) C hin5 tyX5 tyX5_ok nmX5 hm_3 (cel_3 cA ad S_17 0) rfl (by decide) f19 (fun _ h => h) rfl (by decide +kernel) rfl rfl (Nat.le_of_ble_eq_true rfl) rfl rfl (fun a b h => cel_uI h) dX5_gather_56 ?_
          refine k_nameS (fun S_18 eS_18 => ?_)
          have hw := hw S_18 eS_18
          obtain ⟨x3_19, ex3_19⟩ : ∃ y : Int32, y = v3_5 + 1 := ⟨_, rfl⟩
          have hw := hw x3_19 ex3_19
          refine k_iinc (v := x3_19) (j := 3) (pc := 59) C dX5_gather_59 rfl (by rw [ex3_19]; rfl) (by decide) [(3, .int x3_19), (0, .ref (ad 3 0)), (1, .ref (ad 26 k1)), (2, .int a2)] rfl ?_
          refine k_goto (pc := 62) C 10 dX5_gather_62 (by decide) ?_
          refine k_sub [1, 2, 3, 0] [(0, .ref (ad 3 0)), (1, .ref (ad 26 k1)), (2, .int a2), (3, .int x3_19)] rfl ?_
          exact ih_5 x3_19 S_18 (Nat.lt_of_lt_of_le hw.2 (Nat.le_of_lt_succ hn_5)) hw.1
  exact L_5 (μ_5 r_2 S_2 + 1) r_2 S_2 (Nat.lt_succ_self _) hi_5
def wp_X5_size (S : Sg) (Q : Int32 → Sg → Prop) : Prop :=
  Q (gI S 3 0 2) S
set_option maxHeartbeats 4000000 in
set_option maxRecDepth 100000 in
theorem ct_X5_size (l : Launch) (D : va_G) (cA : Nat → ClassId) (ad : Nat → Nat → Nat) (S : Sg) (Q : Int32 → Sg → Prop) (hw : wp_X5_size  S Q) : CtI l yX5_size wsX5_size (mkR 0 0) D cA ad [.ref (ad 3 0)] S Q := by
  refine ct_ofI (cc := cX5_size) (nL := 1) (by decide) rfl (Nat.le_of_ble_eq_true rfl) ?_
  intro p e s m args below meth c A Q C hret
  unfold wp_X5_size at hw
  have C : Cx p s m args c cX5_size 1 wsX5_size RX5 D cA A := C
  have hin5 : ∀ w ∈ u_ws RX5 TX5 3, w ∈ wsX5_size := fun w h => List.mem_cons_of_mem _ (List.mem_append_right _ h)
  have f19 : Cond.fieldLink RX5 19 "CreepBoard$Series" "size" "I" ∈ wsX5_size := by decide +kernel
  change KK p l e (mkR 0 0) s m args below meth c 1 D cA ad A Q 0 [(0, .ref (ad 3 0))] [] S
  refine k_aload_n (pc := 0) C dX5_size_0 0 rfl rfl ?_
  refine k_get (j := 2) (pc := 1) C hin5 hm_3 (cel_3 cA ad S 0) rfl (by decide) f19 (fun _ h => h) rfl dX5_size_1 ?_
  exact hret _ _ _ _ dX5_size_4 hw
def wp_X5_epochAt (a1 : Int32) (S : Sg) (Q : Int32 → Sg → Prop) : Prop :=
  (vp_in a1 40 ∧ Q (gA S 4 0 (Int32.toNatClampNeg a1)) S)
set_option maxHeartbeats 4000000 in
set_option maxRecDepth 100000 in
theorem ct_X5_epochAt (l : Launch) (D : va_G) (cA : Nat → ClassId) (ad : Nat → Nat → Nat) (a1 : Int32) (S : Sg) (Q : Int32 → Sg → Prop) (hw : wp_X5_epochAt a1 S Q) : CtI l yX5_epochAt wsX5_epochAt (mkR 0 0) D cA ad [.ref (ad 3 0), .int a1] S Q := by
  refine ct_ofI (cc := cX5_epochAt) (nL := 2) (by decide) rfl (Nat.le_of_ble_eq_true rfl) ?_
  intro p e s m args below meth c A Q C hret
  unfold wp_X5_epochAt at hw
  have C : Cx p s m args c cX5_epochAt 2 wsX5_epochAt RX5 D cA A := C
  have hin5 : ∀ w ∈ u_ws RX5 TX5 3, w ∈ wsX5_epochAt := fun w h => List.mem_cons_of_mem _ (List.mem_append_right _ h)
  have f9 : Cond.fieldLink RX5 9 "CreepBoard$Series" "epochs" "[I" ∈ wsX5_epochAt := by decide +kernel
  change KK p l e (mkR 0 0) s m args below meth c 2 D cA ad A Q 0 [(0, .ref (ad 3 0)), (1, .int a1)] [] S
  refine k_aload_n (pc := 0) C dX5_epochAt_0 0 rfl rfl ?_
  refine k_get (j := 0) (pc := 1) C hin5 hm_3 (cel_3 cA ad S 0) rfl (by decide) f9 (fun _ h => h) rfl dX5_epochAt_1 ?_
  refine k_iload_n (pc := 4) C dX5_epochAt_4 1 rfl rfl ?_
  obtain ⟨h_1, hw⟩ := hw
  refine k_iald (pc := 5) C hm_4 (cel_4 cA ad S 0) h_1 dX5_epochAt_5 ?_
  exact hret _ _ _ _ dX5_epochAt_6 hw
def wp_X5_valueAt (a1 : Int32) (S : Sg) (Q : Int64 → Sg → Prop) : Prop :=
  (vp_in a1 40 ∧ Q (gL S 5 0 (Int32.toNatClampNeg a1)) S)
set_option maxHeartbeats 4000000 in
set_option maxRecDepth 100000 in
theorem ct_X5_valueAt (l : Launch) (D : va_G) (cA : Nat → ClassId) (ad : Nat → Nat → Nat) (a1 : Int32) (S : Sg) (Q : Int64 → Sg → Prop) (hw : wp_X5_valueAt a1 S Q) : CtL l yX5_valueAt wsX5_valueAt (mkR 0 0) D cA ad [.ref (ad 3 0), .int a1] S Q := by
  refine ct_ofL (cc := cX5_valueAt) (nL := 2) (by decide) rfl (Nat.le_of_ble_eq_true rfl) ?_
  intro p e s m args below meth c A Q C hret
  unfold wp_X5_valueAt at hw
  have C : Cx p s m args c cX5_valueAt 2 wsX5_valueAt RX5 D cA A := C
  have hin5 : ∀ w ∈ u_ws RX5 TX5 3, w ∈ wsX5_valueAt := fun w h => List.mem_cons_of_mem _ (List.mem_append_right _ h)
  have f15 : Cond.fieldLink RX5 15 "CreepBoard$Series" "values" "[J" ∈ wsX5_valueAt := by decide +kernel
  change KK p l e (mkR 0 0) s m args below meth c 2 D cA ad A Q 0 [(0, .ref (ad 3 0)), (1, .int a1)] [] S
  refine k_aload_n (pc := 0) C dX5_valueAt_0 0 rfl rfl ?_
  refine k_get (j := 1) (pc := 1) C hin5 hm_3 (cel_3 cA ad S 0) rfl (by decide) f15 (fun _ h => h) rfl dX5_valueAt_1 ?_
  refine k_iload_n (pc := 4) C dX5_valueAt_4 1 rfl rfl ?_
  obtain ⟨h_1, hw⟩ := hw
  refine k_lald (pc := 5) C hm_5 (cel_5 cA ad S 0) h_1 dX5_valueAt_5 ?_
  exact hret _ _ _ _ dX5_valueAt_6 hw
def wp_X5_rateAbove (S : Sg) (Q : Int64 → Sg → Prop) : Prop :=
  (∃ (I_1 : Int64 → Int64 → Int64 → Int32 → Sg → Prop) (μ_1 : Int64 → Int64 → Int64 → Int32 → Sg → Nat), I_1 0 0 0 0 S ∧ ∀ (v1_1 : Int64) (v3_1 : Int64) (v5_1 : Int64) (v7_1 : Int32) (S_1 : Sg), I_1 v1_1 v3_1 v5_1 v7_1 S_1 → (((gI S_1 3 0 2) ≤ v7_1 → Q (((Int32.toInt64 (gI S_1 3 0 2)) * v5_1) - (v1_1 * v3_1)) S_1) ∧ (¬ (gI S_1 3 0 2) ≤ v7_1 → (vp_in v7_1 40 ∧ (∀ x1_4 : Int64, x1_4 = (v1_1 + (Int32.toInt64 (gA S_1 4 0 (Int32.toNatClampNeg v7_1)))) → (vp_in v7_1 40 ∧ (∀ x3_6 : Int64, x3_6 = (v3_1 + (gL S_1 5 0 (Int32.toNatClampNeg v7_1))) → (vp_in v7_1 40 ∧ (vp_in v7_1 40 ∧ (∀ x5_9 : Int64, x5_9 = (v5_1 + ((Int32.toInt64 (gA S_1 4 0 (Int32.toNatClampNeg v7_1))) * (gL S_1 5 0 (Int32.toNatClampNeg v7_1)))) → (∀ x7_10 : Int32, x7_10 = v7_1 + 1 → (I_1 x1_4 x3_6 x5_9 x7_10 S_1 ∧ μ_1 x1_4 x3_6 x5_9 x7_10 S_1 < μ_1 v1_1 v3_1 v5_1 v7_1 S_1))))))))))))
set_option maxHeartbeats 4000000 in
set_option maxRecDepth 100000 in
theorem ct_X5_rateAbove (l : Launch) (D : va_G) (cA : Nat → ClassId) (ad : Nat → Nat → Nat) (S : Sg) (Q : Int64 → Sg → Prop) (hw : wp_X5_rateAbove  S Q) : CtL l yX5_rateAbove wsX5_rateAbove (mkR 0 0) D cA ad [.ref (ad 3 0)] S Q := by
  refine ct_ofL (cc := cX5_rateAbove) (nL := 8) (by decide) rfl (Nat.le_of_ble_eq_true rfl) ?_
  intro p e s m args below meth c A Q C hret
  unfold wp_X5_rateAbove at hw
  have C : Cx p s m args c cX5_rateAbove 8 wsX5_rateAbove RX5 D cA A := C
  have hin5 : ∀ w ∈ u_ws RX5 TX5 3, w ∈ wsX5_rateAbove := fun w h => List.mem_cons_of_mem _ (List.mem_append_right _ h)
  have f19 : Cond.fieldLink RX5 19 "CreepBoard$Series" "size" "I" ∈ wsX5_rateAbove := by decide +kernel
  have f9 : Cond.fieldLink RX5 9 "CreepBoard$Series" "epochs" "[I" ∈ wsX5_rateAbove := by decide +kernel
  have f15 : Cond.fieldLink RX5 15 "CreepBoard$Series" "values" "[J" ∈ wsX5_rateAbove := by decide +kernel
  change KK p l e (mkR 0 0) s m args below meth c 8 D cA ad A Q 0 [(0, .ref (ad 3 0))] [] S
  refine k_lconst (v := 0) (pc := 0) C dX5_rateAbove_0 (by decide) ?_
  refine k_lstore_n (pc := 1) C dX5_rateAbove_1 rfl (by decide) [(1, .long 0), (0, .ref (ad 3 0))] rfl ?_
  refine k_lconst (v := 0) (pc := 2) C dX5_rateAbove_2 (by decide) ?_
  refine k_lstore_n (pc := 3) C dX5_rateAbove_3 rfl (by decide) [(3, .long 0), (1, .long 0), (0, .ref (ad 3 0))] rfl ?_
  refine k_lconst (v := 0) (pc := 4) C dX5_rateAbove_4 (by decide) ?_
  refine k_lstore (pc := 5) C dX5_rateAbove_5 (by decide) [(5, .long 0), (3, .long 0), (1, .long 0), (0, .ref (ad 3 0))] rfl ?_
  refine k_iconst (v := 0) (pc := 7) C dX5_rateAbove_7 (by decide) ?_
  refine k_istore (pc := 8) C dX5_rateAbove_8 (by decide) [(7, .int 0), (5, .long 0), (3, .long 0), (1, .long 0), (0, .ref (ad 3 0))] rfl ?_
  refine k_sub [4, 3, 2, 1, 0] [(0, .ref (ad 3 0)), (1, .long 0), (3, .long 0), (5, .long 0), (7, .int 0)] rfl ?_
  obtain ⟨I_1, μ_1, hi_1, hw⟩ := hw
  have L_1 : ∀ (n : Nat) (v1_1 : Int64) (v3_1 : Int64) (v5_1 : Int64) (v7_1 : Int32) (S_1 : Sg), μ_1 v1_1 v3_1 v5_1 v7_1 S_1 < n → I_1 v1_1 v3_1 v5_1 v7_1 S_1 → KK p l e (mkR 0 0) s m args below meth c 8 D cA ad A Q 10 [(0, .ref (ad 3 0)), (1, .long v1_1), (3, .long v3_1), (5, .long v5_1), (7, .int v7_1)] [] S_1 := by
    intro n
    induction n with
    | zero => intro v1_1 v3_1 v5_1 v7_1 S_1 h; exact absurd h (Nat.not_lt_zero _)
    | succ n ih_1 =>
      intro v1_1 v3_1 v5_1 v7_1 S_1 hn_1 hi_1
      have hw := hw v1_1 v3_1 v5_1 v7_1 S_1 hi_1
      refine k_iload (pc := 10) C dX5_rateAbove_10 4 rfl ?_
      refine k_aload_n (pc := 12) C dX5_rateAbove_12 0 rfl rfl ?_
      refine k_get (j := 2) (pc := 13) C hin5 hm_3 (cel_3 cA ad S_1 0) rfl (by decide) f19 (fun _ h => h) rfl dX5_rateAbove_13 ?_
      refine k_icmp_ge (pc := 16) C 67 dX5_rateAbove_16 (by decide) (fun q_2 => ?_) (fun q_2 => ?_)
      · have hw := hw.1 q_2
        refine k_aload_n (pc := 67) C dX5_rateAbove_67 0 rfl rfl ?_
        refine k_get (j := 2) (pc := 68) C hin5 hm_3 (cel_3 cA ad S_1 0) rfl (by decide) f19 (fun _ h => h) rfl dX5_rateAbove_68 ?_
        refine k_i2l (pc := 71) C dX5_rateAbove_71 ?_
        refine k_lload (pc := 72) C dX5_rateAbove_72 3 rfl ?_
        refine k_lmul (pc := 74) C dX5_rateAbove_74 ?_
        refine k_lload_n (pc := 75) C dX5_rateAbove_75 1 rfl rfl ?_
        refine k_lload_n (pc := 76) C dX5_rateAbove_76 2 rfl rfl ?_
        refine k_lmul (pc := 77) C dX5_rateAbove_77 ?_
        refine k_lsub (pc := 78) C dX5_rateAbove_78 ?_
        exact hret _ _ _ _ dX5_rateAbove_79 hw
      · have hw := hw.2 q_2
        refine k_lload_n (pc := 19) C dX5_rateAbove_19 1 rfl rfl ?_
        refine k_aload_n (pc := 20) C dX5_rateAbove_20 0 rfl rfl ?_
        refine k_get (j := 0) (pc := 21) C hin5 hm_3 (cel_3 cA ad S_1 0) rfl (by decide) f9 (fun _ h => h) rfl dX5_rateAbove_21 ?_
        refine k_iload (pc := 24) C dX5_rateAbove_24 4 rfl ?_
        obtain ⟨h_3, hw⟩ := hw
        refine k_iald (pc := 26) C hm_4 (cel_4 cA ad S_1 0) h_3 dX5_rateAbove_26 ?_
        refine k_i2l (pc := 27) C dX5_rateAbove_27 ?_
        refine k_ladd (pc := 28) C dX5_rateAbove_28 ?_
        refine k_topl (fun x1_4 ex1_4 => ?_)
        have hw := hw x1_4 ex1_4
        refine k_lstore_n (pc := 29) C dX5_rateAbove_29 rfl (by decide) [(1, .long x1_4), (0, .ref (ad 3 0)), (3, .long v3_1), (5, .long v5_1), (7, .int v7_1)] rfl ?_
        refine k_lload_n (pc := 30) C dX5_rateAbove_30 2 rfl rfl ?_
        refine k_aload_n (pc := 31) C dX5_rateAbove_31 1 rfl rfl ?_
        refine k_get (j := 1) (pc := 32) C hin5 hm_3 (cel_3 cA ad S_1 0) rfl (by decide) f15 (fun _ h => h) rfl dX5_rateAbove_32 ?_
        refine k_iload (pc := 35) C dX5_rateAbove_35 4 rfl ?_
        obtain ⟨h_5, hw⟩ := hw
        refine k_lald (pc := 37) C hm_5 (cel_5 cA ad S_1 0) h_5 dX5_rateAbove_37 ?_
        refine k_ladd (pc := 38) C dX5_rateAbove_38 ?_
        refine k_topl (fun x3_6 ex3_6 => ?_)
        have hw := hw x3_6 ex3_6
        refine k_lstore_n (pc := 39) C dX5_rateAbove_39 rfl (by decide) [(3, .long x3_6), (1, .long x1_4), (0, .ref (ad 3 0)), (5, .long v5_1), (7, .int v7_1)] rfl ?_
        refine k_lload (pc := 40) C dX5_rateAbove_40 3 rfl ?_
        refine k_aload_n (pc := 42) C dX5_rateAbove_42 2 rfl rfl ?_
        refine k_get (j := 0) (pc := 43) C hin5 hm_3 (cel_3 cA ad S_1 0) rfl (by decide) f9 (fun _ h => h) rfl dX5_rateAbove_43 ?_
        refine k_iload (pc := 46) C dX5_rateAbove_46 4 rfl ?_
        obtain ⟨h_7, hw⟩ := hw
        refine k_iald (pc := 48) C hm_4 (cel_4 cA ad S_1 0) h_7 dX5_rateAbove_48 ?_
        refine k_i2l (pc := 49) C dX5_rateAbove_49 ?_
        refine k_aload_n (pc := 50) C dX5_rateAbove_50 2 rfl rfl ?_
        refine k_get (j := 1) (pc := 51) C hin5 hm_3 (cel_3 cA ad S_1 0) rfl (by decide) f15 (fun _ h => h) rfl dX5_rateAbove_51 ?_
        refine k_iload (pc := 54) C dX5_rateAbove_54 4 rfl ?_
        obtain ⟨h_8, hw⟩ := hw
        refine k_lald (pc := 56) C hm_5 (cel_5 cA ad S_1 0) h_8 dX5_rateAbove_56 ?_
        refine k_lmul (pc := 57) C dX5_rateAbove_57 ?_
        refine k_ladd (pc := 58) C dX5_rateAbove_58 ?_
        refine k_topl (fun x5_9 ex5_9 => ?_)
        have hw := hw x5_9 ex5_9
        refine k_lstore (pc := 59) C dX5_rateAbove_59 (by decide) [(5, .long x5_9), (3, .long x3_6), (1, .long x1_4), (0, .ref (ad 3 0)), (7, .int v7_1)] rfl ?_
        obtain ⟨x7_10, ex7_10⟩ : ∃ y : Int32, y = v7_1 + 1 := ⟨_, rfl⟩
        have hw := hw x7_10 ex7_10
        refine k_iinc (v := x7_10) (j := 4) (pc := 61) C dX5_rateAbove_61 rfl (by rw [ex7_10]; rfl) (by decide) [(7, .int x7_10), (5, .long x5_9), (3, .long x3_6), (1, .long x1_4), (0, .ref (ad 3 0))] rfl ?_
        refine k_goto (pc := 64) C 10 dX5_rateAbove_64 (by decide) ?_
        refine k_sub [4, 3, 2, 1, 0] [(0, .ref (ad 3 0)), (1, .long x1_4), (3, .long x3_6), (5, .long x5_9), (7, .int x7_10)] rfl ?_
        exact ih_1 x1_4 x3_6 x5_9 x7_10 S_1 (Nat.lt_of_lt_of_le hw.2 (Nat.le_of_lt_succ hn_1)) hw.1
  exact L_1 (μ_1 0 0 0 0 S + 1) 0 0 0 0 S (Nat.lt_succ_self _) hi_1
def wp_X5_rateBelow (S : Sg) (Q : Int64 → Sg → Prop) : Prop :=
  (∃ (I_1 : Int64 → Int64 → Int32 → Sg → Prop) (μ_1 : Int64 → Int64 → Int32 → Sg → Nat), I_1 0 0 0 S ∧ ∀ (v1_1 : Int64) (v3_1 : Int64) (v5_1 : Int32) (S_1 : Sg), I_1 v1_1 v3_1 v5_1 S_1 → (((gI S_1 3 0 2) ≤ v5_1 → Q (((Int32.toInt64 (gI S_1 3 0 2)) * v3_1) - (v1_1 * v1_1)) S_1) ∧ (¬ (gI S_1 3 0 2) ≤ v5_1 → (vp_in v5_1 40 ∧ (∀ x1_4 : Int64, x1_4 = (v1_1 + (Int32.toInt64 (gA S_1 4 0 (Int32.toNatClampNeg v5_1)))) → (vp_in v5_1 40 ∧ (vp_in v5_1 40 ∧ (∀ x3_7 : Int64, x3_7 = (v3_1 + ((Int32.toInt64 (gA S_1 4 0 (Int32.toNatClampNeg v5_1))) * (Int32.toInt64 (gA S_1 4 0 (Int32.toNatClampNeg v5_1))))) → (∀ x5_8 : Int32, x5_8 = v5_1 + 1 → (I_1 x1_4 x3_7 x5_8 S_1 ∧ μ_1 x1_4 x3_7 x5_8 S_1 < μ_1 v1_1 v3_1 v5_1 S_1))))))))))
set_option maxHeartbeats 4000000 in
set_option maxRecDepth 100000 in
theorem ct_X5_rateBelow (l : Launch) (D : va_G) (cA : Nat → ClassId) (ad : Nat → Nat → Nat) (S : Sg) (Q : Int64 → Sg → Prop) (hw : wp_X5_rateBelow  S Q) : CtL l yX5_rateBelow wsX5_rateBelow (mkR 0 0) D cA ad [.ref (ad 3 0)] S Q := by
  refine ct_ofL (cc := cX5_rateBelow) (nL := 6) (by decide) rfl (Nat.le_of_ble_eq_true rfl) ?_
  intro p e s m args below meth c A Q C hret
  unfold wp_X5_rateBelow at hw
  have C : Cx p s m args c cX5_rateBelow 6 wsX5_rateBelow RX5 D cA A := C
  have hin5 : ∀ w ∈ u_ws RX5 TX5 3, w ∈ wsX5_rateBelow := fun w h => List.mem_cons_of_mem _ (List.mem_append_right _ h)
  have f19 : Cond.fieldLink RX5 19 "CreepBoard$Series" "size" "I" ∈ wsX5_rateBelow := by decide +kernel
  have f9 : Cond.fieldLink RX5 9 "CreepBoard$Series" "epochs" "[I" ∈ wsX5_rateBelow := by decide +kernel
  change KK p l e (mkR 0 0) s m args below meth c 6 D cA ad A Q 0 [(0, .ref (ad 3 0))] [] S
  refine k_lconst (v := 0) (pc := 0) C dX5_rateBelow_0 (by decide) ?_
  refine k_lstore_n (pc := 1) C dX5_rateBelow_1 rfl (by decide) [(1, .long 0), (0, .ref (ad 3 0))] rfl ?_
  refine k_lconst (v := 0) (pc := 2) C dX5_rateBelow_2 (by decide) ?_
  refine k_lstore_n (pc := 3) C dX5_rateBelow_3 rfl (by decide) [(3, .long 0), (1, .long 0), (0, .ref (ad 3 0))] rfl ?_
  refine k_iconst (v := 0) (pc := 4) C dX5_rateBelow_4 (by decide) ?_
  refine k_istore (pc := 5) C dX5_rateBelow_5 (by decide) [(5, .int 0), (3, .long 0), (1, .long 0), (0, .ref (ad 3 0))] rfl ?_
  refine k_sub [3, 2, 1, 0] [(0, .ref (ad 3 0)), (1, .long 0), (3, .long 0), (5, .int 0)] rfl ?_
  obtain ⟨I_1, μ_1, hi_1, hw⟩ := hw
  have L_1 : ∀ (n : Nat) (v1_1 : Int64) (v3_1 : Int64) (v5_1 : Int32) (S_1 : Sg), μ_1 v1_1 v3_1 v5_1 S_1 < n → I_1 v1_1 v3_1 v5_1 S_1 → KK p l e (mkR 0 0) s m args below meth c 6 D cA ad A Q 7 [(0, .ref (ad 3 0)), (1, .long v1_1), (3, .long v3_1), (5, .int v5_1)] [] S_1 := by
    intro n
    induction n with
    | zero => intro v1_1 v3_1 v5_1 S_1 h; exact absurd h (Nat.not_lt_zero _)
    | succ n ih_1 =>
      intro v1_1 v3_1 v5_1 S_1 hn_1 hi_1
      have hw := hw v1_1 v3_1 v5_1 S_1 hi_1
      refine k_iload (pc := 7) C dX5_rateBelow_7 3 rfl ?_
      refine k_aload_n (pc := 9) C dX5_rateBelow_9 0 rfl rfl ?_
      refine k_get (j := 2) (pc := 10) C hin5 hm_3 (cel_3 cA ad S_1 0) rfl (by decide) f19 (fun _ h => h) rfl dX5_rateBelow_10 ?_
      refine k_icmp_ge (pc := 13) C 53 dX5_rateBelow_13 (by decide) (fun q_2 => ?_) (fun q_2 => ?_)
      · have hw := hw.1 q_2
        refine k_aload_n (pc := 53) C dX5_rateBelow_53 0 rfl rfl ?_
        refine k_get (j := 2) (pc := 54) C hin5 hm_3 (cel_3 cA ad S_1 0) rfl (by decide) f19 (fun _ h => h) rfl dX5_rateBelow_54 ?_
        refine k_i2l (pc := 57) C dX5_rateBelow_57 ?_
        refine k_lload_n (pc := 58) C dX5_rateBelow_58 2 rfl rfl ?_
        refine k_lmul (pc := 59) C dX5_rateBelow_59 ?_
        refine k_lload_n (pc := 60) C dX5_rateBelow_60 1 rfl rfl ?_
        refine k_lload_n (pc := 61) C dX5_rateBelow_61 1 rfl rfl ?_
        refine k_lmul (pc := 62) C dX5_rateBelow_62 ?_
        refine k_lsub (pc := 63) C dX5_rateBelow_63 ?_
        exact hret _ _ _ _ dX5_rateBelow_64 hw
      · have hw := hw.2 q_2
        refine k_lload_n (pc := 16) C dX5_rateBelow_16 1 rfl rfl ?_
        refine k_aload_n (pc := 17) C dX5_rateBelow_17 0 rfl rfl ?_
        refine k_get (j := 0) (pc := 18) C hin5 hm_3 (cel_3 cA ad S_1 0) rfl (by decide) f9 (fun _ h => h) rfl dX5_rateBelow_18 ?_
        refine k_iload (pc := 21) C dX5_rateBelow_21 3 rfl ?_
        obtain ⟨h_3, hw⟩ := hw
        refine k_iald (pc := 23) C hm_4 (cel_4 cA ad S_1 0) h_3 dX5_rateBelow_23 ?_
        refine k_i2l (pc := 24) C dX5_rateBelow_24 ?_
        refine k_ladd (pc := 25) C dX5_rateBelow_25 ?_
        refine k_topl (fun x1_4 ex1_4 => ?_)
        have hw := hw x1_4 ex1_4
        refine k_lstore_n (pc := 26) C dX5_rateBelow_26 rfl (by decide) [(1, .long x1_4), (0, .ref (ad 3 0)), (3, .long v3_1), (5, .int v5_1)] rfl ?_
        refine k_lload_n (pc := 27) C dX5_rateBelow_27 2 rfl rfl ?_
        refine k_aload_n (pc := 28) C dX5_rateBelow_28 1 rfl rfl ?_
        refine k_get (j := 0) (pc := 29) C hin5 hm_3 (cel_3 cA ad S_1 0) rfl (by decide) f9 (fun _ h => h) rfl dX5_rateBelow_29 ?_
        refine k_iload (pc := 32) C dX5_rateBelow_32 3 rfl ?_
        obtain ⟨h_5, hw⟩ := hw
        refine k_iald (pc := 34) C hm_4 (cel_4 cA ad S_1 0) h_5 dX5_rateBelow_34 ?_
        refine k_i2l (pc := 35) C dX5_rateBelow_35 ?_
        refine k_aload_n (pc := 36) C dX5_rateBelow_36 1 rfl rfl ?_
        refine k_get (j := 0) (pc := 37) C hin5 hm_3 (cel_3 cA ad S_1 0) rfl (by decide) f9 (fun _ h => h) rfl dX5_rateBelow_37 ?_
        refine k_iload (pc := 40) C dX5_rateBelow_40 3 rfl ?_
        obtain ⟨h_6, hw⟩ := hw
        refine k_iald (pc := 42) C hm_4 (cel_4 cA ad S_1 0) h_6 dX5_rateBelow_42 ?_
        refine k_i2l (pc := 43) C dX5_rateBelow_43 ?_
        refine k_lmul (pc := 44) C dX5_rateBelow_44 ?_
        refine k_ladd (pc := 45) C dX5_rateBelow_45 ?_
        refine k_topl (fun x3_7 ex3_7 => ?_)
        have hw := hw x3_7 ex3_7
        refine k_lstore_n (pc := 46) C dX5_rateBelow_46 rfl (by decide) [(3, .long x3_7), (1, .long x1_4), (0, .ref (ad 3 0)), (5, .int v5_1)] rfl ?_
        obtain ⟨x5_8, ex5_8⟩ : ∃ y : Int32, y = v5_1 + 1 := ⟨_, rfl⟩
        have hw := hw x5_8 ex5_8
        refine k_iinc (v := x5_8) (j := 3) (pc := 47) C dX5_rateBelow_47 rfl (by rw [ex5_8]; rfl) (by decide) [(5, .int x5_8), (3, .long x3_7), (1, .long x1_4), (0, .ref (ad 3 0))] rfl ?_
        refine k_goto (pc := 50) C 7 dX5_rateBelow_50 (by decide) ?_
        refine k_sub [3, 2, 1, 0] [(0, .ref (ad 3 0)), (1, .long x1_4), (3, .long x3_7), (5, .int x5_8)] rfl ?_
        exact ih_1 x1_4 x3_7 x5_8 S_1 (Nat.lt_of_lt_of_le hw.2 (Nat.le_of_lt_succ hn_1)) hw.1
  exact L_1 (μ_1 0 0 0 S + 1) 0 0 0 S (Nat.lt_succ_self _) hi_1
def wp_X5_jumpEpoch (S : Sg) (Q : Int32 → Sg → Prop) : Prop :=
  (∃ (I_1 : Int64 → Int32 → Sg → Prop) (μ_1 : Int64 → Int32 → Sg → Nat), I_1 0 0 S ∧ ∀ (v1_1 : Int64) (v3_1 : Int32) (S_1 : Sg), I_1 v1_1 v3_1 S_1 → (((gI S_1 3 0 2) ≤ v3_1 → (∃ (I_3 : Int64 → Int32 → Int64 → Int64 → Int64 → Int32 → Sg → Prop) (μ_3 : Int64 → Int32 → Int64 → Int64 → Int64 → Int32 → Sg → Nat), I_3 v1_1 (-4) 0 1 0 0 S_1 ∧ ∀ (v1_3 : Int64) (v3_3 : Int32) (v4_3 : Int64) (v6_3 : Int64) (v8_3 : Int64) (v10_3 : Int32) (S_3 : Sg), I_3 v1_3 v3_3 v4_3 v6_3 v8_3 v10_3 S_3 → (((gI S_3 3 0 2) ≤ v10_3 → Q v3_3 S_3) ∧ (¬ (gI S_3 3 0 2) ≤ v10_3 → (∀ x11_5 : Int32, x11_5 = ((gI S_3 3 0 2) - v10_3) → (∃ J_6 : Int32 → Int64 → Int64 → Sg → Prop, (∀ (v3_6 : Int32) (v4_6 : Int64) (v6_6 : Int64) (S_6 : Sg), J_6 v3_6 v4_6 v6_6 S_6 → (vp_in v10_3 40 ∧ (∀ x8_8 : Int64, x8_8 = (v8_3 + (gL S_6 5 0 (Int32.toNatClampNeg v10_3))) → (vp_in v10_3 40 ∧ (∀ x1_10 : Int64, x1_10 = (v1_3 - (gL S_6 5 0 (Int32.toNatClampNeg v10_3))) → (∀ x10_11 : Int32, x10_11 = v10_3 + 1 → (I_3 x1_10 v3_6 v4_6 v6_6 x8_8 x10_11 S_6 ∧ μ_3 x1_10 v3_6 v4_6 v6_6 x8_8 x10_11 S_6 < μ_3 v1_3 v3_3 v4_3 v6_3 v8_3 v10_3 S_3))))))) ∧ ((v10_3 < 2 → J_6 v3_3 v4_3 v6_3 S_3) ∧ (¬ v10_3 < 2 → ((x11_5 < 2 → J_6 v3_3 v4_3 v6_3 S_3) ∧ (¬ x11_5 < 2 → (∀ x12_14 : Int64, x12_14 = (if 0 < ((v8_3 * (Int32.toInt64 x11_5)) - (v1_3 * (Int32.toInt64 v10_3))) then ((v8_3 * (Int32.toInt64 x11_5)) - (v1_3 * (Int32.toInt64 v10_3))) else -((v8_3 * (Int32.toInt64 x11_5)) - (v1_3 * (Int32.toInt64 v10_3)))) → (∀ x14_15 : Int64, x14_15 = ((Int32.toInt64 v10_3) * (Int32.toInt64 x11_5)) → (∃ J_16 : Sg → Prop, (∀ (S_16 : Sg), J_16 S_16 → (vp_in v10_3 40 ∧ (∀ x3_18 : Int32, x3_18 = (gA S_16 4 0 (Int32.toNatClampNeg v10_3)) → J_6 x3_18 x12_14 x14_15 S_16))) ∧ ((v3_3 = (-4) → J_16 S_3) ∧ (¬ v3_3 = (-4) → (((x12_14 * v6_3) ≤ (v4_3 * x14_15) → J_6 v3_3 v4_3 v6_3 S_3) ∧ (¬ (x12_14 * v6_3) ≤ (v4_3 * x14_15) → J_16 S_3))))))))))))))))) ∧ (¬ (gI S_1 3 0 2) ≤ v3_1 → (vp_in v3_1 40 ∧ (∀ x1_22 : Int64, x1_22 = (v1_1 + (gL S_1 5 0 (Int32.toNatClampNeg v3_1))) → (∀ x3_23 : Int32, x3_23 = v3_1 + 1 → (I_1 x1_22 x3_23 S_1 ∧ μ_1 x1_22 x3_23 S_1 < μ_1 v1_1 v3_1 S_1)))))))
set_option maxHeartbeats 4000000 in
set_option maxRecDepth 100000 in
theorem ct_X5_jumpEpoch (l : Launch) (D : va_G) (cA : Nat → ClassId) (ad : Nat → Nat → Nat) (S : Sg) (Q : Int32 → Sg → Prop) (hw : wp_X5_jumpEpoch  S Q) : CtI l yX5_jumpEpoch wsX5_jumpEpoch (mkR 1 21) D cA ad [.ref (ad 3 0)] S Q := by
  refine ct_ofI (cc := cX5_jumpEpoch) (nL := 16) (by decide) rfl (Nat.le_of_ble_eq_true rfl) ?_
  intro p e s m args below meth c A Q C hret
  unfold wp_X5_jumpEpoch at hw
  have C : Cx p s m args c cX5_jumpEpoch 16 wsX5_jumpEpoch RX5 D cA A := C
  have hin5 : ∀ w ∈ u_ws RX5 TX5 3, w ∈ wsX5_jumpEpoch := fun w h => List.mem_cons_of_mem _ (List.mem_append_right _ h)
  have f19 : Cond.fieldLink RX5 19 "CreepBoard$Series" "size" "I" ∈ wsX5_jumpEpoch := by decide +kernel
  have f15 : Cond.fieldLink RX5 15 "CreepBoard$Series" "values" "[J" ∈ wsX5_jumpEpoch := by decide +kernel
  have m37 : Cond.methodLink RX5 37 Lib.MathLoose.abs_long.x ∈ wsX5_jumpEpoch := by decide +kernel
  have m37s : Cond.static Lib.MathLoose.abs_long.x ∈ wsX5_jumpEpoch := by decide +kernel
  have mini : Cond.initialized "java/lang/Math" ∈ wsX5_jumpEpoch := by decide +kernel
  have m37c : Cond.code Lib.MathLoose.abs_long.x Lib.MathLoose.abs_long.code 2 (some .long) ∈ wsX5_jumpEpoch := by decide +kernel
  have f9 : Cond.fieldLink RX5 9 "CreepBoard$Series" "epochs" "[I" ∈ wsX5_jumpEpoch := by decide +kernel
  change KK p l e (mkR 1 21) s m args below meth c 16 D cA ad A Q 0 [(0, .ref (ad 3 0))] [] S
  refine k_lconst (v := 0) (pc := 0) C dX5_jumpEpoch_0 (by decide) ?_
  refine k_lstore_n (pc := 1) C dX5_jumpEpoch_1 rfl (by decide) [(1, .long 0), (0, .ref (ad 3 0))] rfl ?_
  refine k_iconst (v := 0) (pc := 2) C dX5_jumpEpoch_2 (by decide) ?_
  refine k_istore_n (pc := 3) C dX5_jumpEpoch_3 rfl (by decide) [(3, .int 0), (1, .long 0), (0, .ref (ad 3 0))] rfl ?_
  refine k_sub [2, 1, 0] [(0, .ref (ad 3 0)), (1, .long 0), (3, .int 0)] rfl ?_
  obtain ⟨I_1, μ_1, hi_1, hw⟩ := hw
  have L_1 : ∀ (n : Nat) (v1_1 : Int64) (v3_1 : Int32) (S_1 : Sg), μ_1 v1_1 v3_1 S_1 < n → I_1 v1_1 v3_1 S_1 → KK p l e (mkR 1 21) s m args below meth c 16 D cA ad A Q 4 [(0, .ref (ad 3 0)), (1, .long v1_1), (3, .int v3_1)] [] S_1 := by
    intro n
    induction n with
    | zero => intro v1_1 v3_1 S_1 h; exact absurd h (Nat.not_lt_zero _)
    | succ n ih_1 =>
      intro v1_1 v3_1 S_1 hn_1 hi_1
      have hw := hw v1_1 v3_1 S_1 hi_1
      refine k_iload_n (pc := 4) C dX5_jumpEpoch_4 2 rfl rfl ?_
      refine k_aload_n (pc := 5) C dX5_jumpEpoch_5 0 rfl rfl ?_
      refine k_get (j := 2) (pc := 6) C hin5 hm_3 (cel_3 cA ad S_1 0) rfl (by decide) f19 (fun _ h => h) rfl dX5_jumpEpoch_6 ?_
      refine k_icmp_ge (pc := 9) C 27 dX5_jumpEpoch_9 (by decide) (fun q_2 => ?_) (fun q_2 => ?_)
      · have hw := hw.1 q_2
        refine k_bipush (v := (-4)) (pc := 27) C dX5_jumpEpoch_27 (by decide) ?_
        refine k_istore_n (pc := 29) C dX5_jumpEpoch_29 rfl (by decide) [(3, .int (-4)), (0, .ref (ad 3 0)), (1, .long v1_1)] rfl ?_
        refine k_lconst (v := 0) (pc := 30) C dX5_jumpEpoch_30 (by decide) ?_
        refine k_lstore (pc := 31) C dX5_jumpEpoch_31 (by decide) [(4, .long 0), (3, .int (-4)), (0, .ref (ad 3 0)), (1, .long v1_1)] rfl ?_
        refine k_lconst (v := 1) (pc := 33) C dX5_jumpEpoch_33 (by decide) ?_
        refine k_lstore (pc := 34) C dX5_jumpEpoch_34 (by decide) [(6, .long 1), (4, .long 0), (3, .int (-4)), (0, .ref (ad 3 0)), (1, .long v1_1)] rfl ?_
        refine k_lconst (v := 0) (pc := 36) C dX5_jumpEpoch_36 (by decide) ?_
        refine k_lstore (pc := 37) C dX5_jumpEpoch_37 (by decide) [(8, .long 0), (6, .long 1), (4, .long 0), (3, .int (-4)), (0, .ref (ad 3 0)), (1, .long v1_1)] rfl ?_
        refine k_iconst (v := 0) (pc := 39) C dX5_jumpEpoch_39 (by decide) ?_
        refine k_istore (pc := 40) C dX5_jumpEpoch_40 (by decide) [(10, .int 0), (8, .long 0), (6, .long 1), (4, .long 0), (3, .int (-4)), (0, .ref (ad 3 0)), (1, .long v1_1)] rfl ?_
        refine k_sub [5, 6, 4, 3, 2, 1, 0] [(0, .ref (ad 3 0)), (1, .long v1_1), (3, .int (-4)), (4, .long 0), (6, .long 1), (8, .long 0), (10, .int 0)] rfl ?_
        obtain ⟨I_3, μ_3, hi_3, hw⟩ := hw
        have L_3 : ∀ (n : Nat) (v1_3 : Int64) (v3_3 : Int32) (v4_3 : Int64) (v6_3 : Int64) (v8_3 : Int64) (v10_3 : Int32) (S_3 : Sg), μ_3 v1_3 v3_3 v4_3 v6_3 v8_3 v10_3 S_3 < n → I_3 v1_3 v3_3 v4_3 v6_3 v8_3 v10_3 S_3 → KK p l e (mkR 1 21) s m args below meth c 16 D cA ad A Q 42 [(0, .ref (ad 3 0)), (1, .long v1_3), (3, .int v3_3), (4, .long v4_3), (6, .long v6_3), (8, .long v8_3), (10, .int v10_3)] [] S_3 := by
          intro n
          induction n with
          | zero => intro v1_3 v3_3 v4_3 v6_3 v8_3 v10_3 S_3 h; exact absurd h (Nat.not_lt_zero _)
          | succ n ih_3 =>
            intro v1_3 v3_3 v4_3 v6_3 v8_3 v10_3 S_3 hn_3 hi_3
            have hw := hw v1_3 v3_3 v4_3 v6_3 v8_3 v10_3 S_3 hi_3
            refine k_iload (pc := 42) C dX5_jumpEpoch_42 6 rfl ?_
            refine k_aload_n (pc := 44) C dX5_jumpEpoch_44 0 rfl rfl ?_
            refine k_get (j := 2) (pc := 45) C hin5 hm_3 (cel_3 cA ad S_3 0) rfl (by decide) f19 (fun _ h => h) rfl dX5_jumpEpoch_45 ?_
            refine k_icmp_ge (pc := 48) C 162 dX5_jumpEpoch_48 (by decide) (fun q_4 => ?_) (fun q_4 => ?_)
            · have hw := hw.1 q_4
              refine k_iload_n (pc := 162) C dX5_jumpEpoch_162 2 rfl rfl ?_
              exact hret _ _ _ _ dX5_jumpEpoch_163 hw
            · have hw := hw.2 q_4
              refine k_aload_n (pc := 51) C dX5_jumpEpoch_51 0 rfl rfl ?_
              refine k_get (j := 2) (pc := 52) C hin5 hm_3 (cel_3 cA ad S_3 0) rfl (by decide) f19 (fun _ h => h) rfl dX5_jumpEpoch_52 ?_
              refine k_iload (pc := 55) C dX5_jumpEpoch_55 6 rfl ?_
              refine k_isub (pc := 57) C dX5_jumpEpoch_57 ?_
              refine k_topi (fun x11_5 ex11_5 => ?_)
              have hw := hw x11_5 ex11_5
              refine k_istore (pc := 58) C dX5_jumpEpoch_58 (by decide) [(11, .int x11_5), (0, .ref (ad 3 0)), (1, .long v1_3), (3, .int v3_3), (4, .long v4_3), (6, .long v6_3), (8, .long v8_3), (10, .int v10_3)] rfl ?_
              refine k_iload (pc := 60) C dX5_jumpEpoch_60 7 rfl ?_
              refine k_iconst (v := 2) (pc := 62) C dX5_jumpEpoch_62 (by decide) ?_
              obtain ⟨J_6, hj_6, hw⟩ := hw
              have j_6 : ∀ (v3_6 : Int32) (v4_6 : Int64) (v6_6 : Int64) (S_6 : Sg), J_6 v3_6 v4_6 v6_6 S_6 → KK p l e (mkR 1 21) s m args below meth c 16 D cA ad A Q 134 [(0, .ref (ad 3 0)), (1, .long v1_3), (3, .int v3_6), (4, .long v4_6), (6, .long v6_6), (8, .long v8_3), (10, .int v10_3)] [] S_6 := by
                intro v3_6 v4_6 v6_6 S_6 hw
                have hw := hj_6 v3_6 v4_6 v6_6 S_6 hw
                refine k_lload (pc := 134) C dX5_jumpEpoch_134 5 rfl ?_
                refine k_aload_n (pc := 136) C dX5_jumpEpoch_136 0 rfl rfl ?_
                refine k_get (j := 1) (pc := 137) C hin5 hm_3 (cel_3 cA ad S_6 0) rfl (by decide) f15 (fun _ h => h) rfl dX5_jumpEpoch_137 ?_
                refine k_iload (pc := 140) C dX5_jumpEpoch_140 6 rfl ?_
                obtain ⟨h_7, hw⟩ := hw
                refine k_lald (pc := 142) C hm_5 (cel_5 cA ad S_6 0) h_7 dX5_jumpEpoch_142 ?_
                refine k_ladd (pc := 143) C dX5_jumpEpoch_143 ?_
                refine k_topl (fun x8_8 ex8_8 => ?_)
                have hw := hw x8_8 ex8_8
                refine k_lstore (pc := 144) C dX5_jumpEpoch_144 (by decide) [(8, .long x8_8), (0, .ref (ad 3 0)), (1, .long v1_3), (3, .int v3_6), (4, .long v4_6), (6, .long v6_6), (10, .int v10_3)] rfl ?_
                refine k_lload_n (pc := 146) C dX5_jumpEpoch_146 2 rfl rfl ?_
                refine k_aload_n (pc := 147) C dX5_jumpEpoch_147 1 rfl rfl ?_
                refine k_get (j := 1) (pc := 148) C hin5 hm_3 (cel_3 cA ad S_6 0) rfl (by decide) f15 (fun _ h => h) rfl dX5_jumpEpoch_148 ?_
                refine k_iload (pc := 151) C dX5_jumpEpoch_151 6 rfl ?_
                obtain ⟨h_9, hw⟩ := hw
                refine k_lald (pc := 153) C hm_5 (cel_5 cA ad S_6 0) h_9 dX5_jumpEpoch_153 ?_
                refine k_lsub (pc := 154) C dX5_jumpEpoch_154 ?_
                refine k_topl (fun x1_10 ex1_10 => ?_)
                have hw := hw x1_10 ex1_10
                refine k_lstore_n (pc := 155) C dX5_jumpEpoch_155 rfl (by decide) [(1, .long x1_10), (8, .long x8_8), (0, .ref (ad 3 0)), (3, .int v3_6), (4, .long v4_6), (6, .long v6_6), (10, .int v10_3)] rfl ?_
                obtain ⟨x10_11, ex10_11⟩ : ∃ y : Int32, y = v10_3 + 1 := ⟨_, rfl⟩
                have hw := hw x10_11 ex10_11
                refine k_iinc (v := x10_11) (j := 6) (pc := 156) C dX5_jumpEpoch_156 rfl (by rw [ex10_11]; rfl) (by decide) [(10, .int x10_11), (1, .long x1_10), (8, .long x8_8), (0, .ref (ad 3 0)), (3, .int v3_6), (4, .long v4_6), (6, .long v6_6)] rfl ?_
                refine k_goto (pc := 159) C 42 dX5_jumpEpoch_159 (by decide) ?_
                refine k_sub [3, 1, 4, 5, 6, 2, 0] [(0, .ref (ad 3 0)), (1, .long x1_10), (3, .int v3_6), (4, .long v4_6), (6, .long v6_6), (8, .long x8_8), (10, .int x10_11)] rfl ?_
                exact ih_3 x1_10 v3_6 v4_6 v6_6 x8_8 x10_11 S_6 (Nat.lt_of_lt_of_le hw.2 (Nat.le_of_lt_succ hn_3)) hw.1
              refine k_icmp_lt (pc := 63) C 134 dX5_jumpEpoch_63 (by decide) (fun q_12 => ?_) (fun q_12 => ?_)
              · have hw := hw.1 q_12
                refine k_sub [1, 2, 3, 4, 5, 6, 7] [(0, .ref (ad 3 0)), (1, .long v1_3), (3, .int v3_3), (4, .long v4_3), (6, .long v6_3), (8, .long v8_3), (10, .int v10_3)] rfl ?_
                exact j_6 v3_3 v4_3 v6_3 S_3 hw
              · have hw := hw.2 q_12
                refine k_iload (pc := 66) C dX5_jumpEpoch_66 0 rfl ?_
                refine k_iconst (v := 2) (pc := 68) C dX5_jumpEpoch_68 (by decide) ?_
                refine k_icmp_lt (pc := 69) C 134 dX5_jumpEpoch_69 (by decide) (fun q_13 => ?_) (fun q_13 => ?_)
                · have hw := hw.1 q_13
                  refine k_sub [1, 2, 3, 4, 5, 6, 7] [(0, .ref (ad 3 0)), (1, .long v1_3), (3, .int v3_3), (4, .long v4_3), (6, .long v6_3), (8, .long v8_3), (10, .int v10_3)] rfl ?_
                  exact j_6 v3_3 v4_3 v6_3 S_3 hw
                · have hw := hw.2 q_13
                  refine k_lload (pc := 72) C dX5_jumpEpoch_72 6 rfl ?_
                  refine k_iload (pc := 74) C dX5_jumpEpoch_74 0 rfl ?_
                  refine k_i2l (pc := 76) C dX5_jumpEpoch_76 ?_
                  refine k_lmul (pc := 77) C dX5_jumpEpoch_77 ?_
                  refine k_lload_n (pc := 78) C dX5_jumpEpoch_78 2 rfl rfl ?_
                  refine k_iload (pc := 79) C dX5_jumpEpoch_79 7 rfl ?_
                  refine k_i2l (pc := 81) C dX5_jumpEpoch_81 ?_
                  refine k_lmul (pc := 82) C dX5_jumpEpoch_82 ?_
                  refine k_lsub (pc := 83) C dX5_jumpEpoch_83 ?_
                  refine k_labs (pc := 84) C m37 m37s mini m37c ⟨Nat.le_of_ble_eq_true rfl, Nat.le_of_ble_eq_true rfl⟩ dX5_jumpEpoch_84 ?_
                  refine k_topl (fun x12_14 ex12_14 => ?_)
                  have hw := hw x12_14 ex12_14
                  refine k_lstore (pc := 87) C dX5_jumpEpoch_87 (by decide) [(12, .long x12_14), (11, .int x11_5), (0, .ref (ad 3 0)), (1, .long v1_3), (3, .int v3_3), (4, .long v4_3), (6, .long v6_3), (8, .long v8_3), (10, .int v10_3)] rfl ?_
                  refine k_iload (pc := 89) C dX5_jumpEpoch_89 8 rfl ?_
                  refine k_i2l (pc := 91) C dX5_jumpEpoch_91 ?_
                  refine k_iload (pc := 92) C dX5_jumpEpoch_92 1 rfl ?_
                  refine k_i2l (pc := 94) C dX5_jumpEpoch_94 ?_
                  refine k_lmul (pc := 95) C dX5_jumpEpoch_95 ?_
                  refine k_topl (fun x14_15 ex14_15 => ?_)
                  have hw := hw x14_15 ex14_15
                  refine k_lstore (pc := 96) C dX5_jumpEpoch_96 (by decide) [(14, .long x14_15), (12, .long x12_14), (11, .int x11_5), (0, .ref (ad 3 0)), (1, .long v1_3), (3, .int v3_3), (4, .long v4_3), (6, .long v6_3), (8, .long v8_3), (10, .int v10_3)] rfl ?_
                  refine k_iload_n (pc := 98) C dX5_jumpEpoch_98 5 rfl rfl ?_
                  refine k_bipush (v := (-4)) (pc := 99) C dX5_jumpEpoch_99 (by decide) ?_
                  obtain ⟨J_16, hj_16, hw⟩ := hw
                  have j_16 : ∀ (S_16 : Sg), J_16 S_16 → KK p l e (mkR 1 21) s m args below meth c 16 D cA ad A Q 118 [(0, .ref (ad 3 0)), (1, .long v1_3), (8, .long v8_3), (10, .int v10_3), (12, .long x12_14), (14, .long x14_15)] [] S_16 := by
                    intro S_16 hw
                    have hw := hj_16 S_16 hw
                    refine k_aload_n (pc := 118) C dX5_jumpEpoch_118 0 rfl rfl ?_
                    refine k_get (j := 0) (pc := 119) C hin5 hm_3 (cel_3 cA ad S_16 0) rfl (by decide) f9 (fun _ h => h) rfl dX5_jumpEpoch_119 ?_
                    refine k_iload (pc := 122) C dX5_jumpEpoch_122 3 rfl ?_
                    obtain ⟨h_17, hw⟩ := hw
                    refine k_iald (pc := 124) C hm_4 (cel_4 cA ad S_16 0) h_17 dX5_jumpEpoch_124 ?_
                    refine k_topi (fun x3_18 ex3_18 => ?_)
                    have hw := hw x3_18 ex3_18
                    refine k_istore_n (pc := 125) C dX5_jumpEpoch_125 rfl (by decide) [(3, .int x3_18), (0, .ref (ad 3 0)), (1, .long v1_3), (8, .long v8_3), (10, .int v10_3), (12, .long x12_14), (14, .long x14_15)] rfl ?_
                    refine k_lload (pc := 126) C dX5_jumpEpoch_126 5 rfl ?_
                    refine k_lstore (pc := 128) C dX5_jumpEpoch_128 (by decide) [(4, .long x12_14), (3, .int x3_18), (0, .ref (ad 3 0)), (1, .long v1_3), (8, .long v8_3), (10, .int v10_3), (12, .long x12_14), (14, .long x14_15)] rfl ?_
                    refine k_lload (pc := 130) C dX5_jumpEpoch_130 7 rfl ?_
                    refine k_lstore (pc := 132) C dX5_jumpEpoch_132 (by decide) [(6, .long x14_15), (4, .long x12_14), (3, .int x3_18), (0, .ref (ad 3 0)), (1, .long v1_3), (8, .long v8_3), (10, .int v10_3), (12, .long x12_14), (14, .long x14_15)] rfl ?_
                    refine k_sub [3, 4, 2, 1, 0, 5, 6] [(0, .ref (ad 3 0)), (1, .long v1_3), (3, .int x3_18), (4, .long x12_14), (6, .long x14_15), (8, .long v8_3), (10, .int v10_3)] rfl ?_
                    exact j_6 x3_18 x12_14 x14_15 S_16 hw
                  refine k_icmp_eq (pc := 101) C 118 dX5_jumpEpoch_101 (by decide) (fun q_19 => ?_) (fun q_19 => ?_)
                  · have hw := hw.1 q_19
                    refine k_sub [3, 4, 8, 9, 1, 0] [(0, .ref (ad 3 0)), (1, .long v1_3), (8, .long v8_3), (10, .int v10_3), (12, .long x12_14), (14, .long x14_15)] rfl ?_
                    exact j_16 S_3 hw
                  · have hw := hw.2 q_19
                    refine k_lload (pc := 104) C dX5_jumpEpoch_104 1 rfl ?_
                    refine k_lload (pc := 106) C dX5_jumpEpoch_106 7 rfl ?_
                    refine k_lmul (pc := 108) C dX5_jumpEpoch_108 ?_
                    refine k_lload (pc := 109) C dX5_jumpEpoch_109 6 rfl ?_
                    refine k_lload (pc := 111) C dX5_jumpEpoch_111 0 rfl ?_
                    refine k_lmul (pc := 113) C dX5_jumpEpoch_113 ?_
                    refine k_lif_le (pc := 114) C 134 dX5_jumpEpoch_114 dX5_jumpEpoch_115 (by decide) (fun q_20 => ?_) (fun q_20 => ?_)
                    · have hw := hw.1 q_20
                      refine k_sub [3, 4, 5, 6, 7, 8, 9] [(0, .ref (ad 3 0)), (1, .long v1_3), (3, .int v3_3), (4, .long v4_3), (6, .long v6_3), (8, .long v8_3), (10, .int v10_3)] rfl ?_
                      exact j_6 v3_3 v4_3 v6_3 S_3 hw
                    · have hw := hw.2 q_20
                      refine k_sub [3, 4, 8, 9, 1, 0] [(0, .ref (ad 3 0)), (1, .long v1_3), (8, .long v8_3), (10, .int v10_3), (12, .long x12_14), (14, .long x14_15)] rfl ?_
                      exact j_16 S_3 hw
        exact L_3 (μ_3 v1_1 (-4) 0 1 0 0 S_1 + 1) v1_1 (-4) 0 1 0 0 S_1 (Nat.lt_succ_self _) hi_3
      · have hw := hw.2 q_2
        refine k_lload_n (pc := 12) C dX5_jumpEpoch_12 1 rfl rfl ?_
        refine k_aload_n (pc := 13) C dX5_jumpEpoch_13 0 rfl rfl ?_
        refine k_get (j := 1) (pc := 14) C hin5 hm_3 (cel_3 cA ad S_1 0) rfl (by decide) f15 (fun _ h => h) rfl dX5_jumpEpoch_14 ?_
        refine k_iload_n (pc := 17) C dX5_jumpEpoch_17 2 rfl rfl ?_
        obtain ⟨h_21, hw⟩ := hw
        refine k_lald (pc := 18) C hm_5 (cel_5 cA ad S_1 0) h_21 dX5_jumpEpoch_18 ?_
        refine k_ladd (pc := 19) C dX5_jumpEpoch_19 ?_
        refine k_topl (fun x1_22 ex1_22 => ?_)
        have hw := hw x1_22 ex1_22
        refine k_lstore_n (pc := 20) C dX5_jumpEpoch_20 rfl (by decide) [(1, .long x1_22), (0, .ref (ad 3 0)), (3, .int v3_1)] rfl ?_
        obtain ⟨x3_23, ex3_23⟩ : ∃ y : Int32, y = v3_1 + 1 := ⟨_, rfl⟩
        have hw := hw x3_23 ex3_23
        refine k_iinc (v := x3_23) (j := 2) (pc := 21) C dX5_jumpEpoch_21 rfl (by rw [ex3_23]; rfl) (by decide) [(3, .int x3_23), (1, .long x1_22), (0, .ref (ad 3 0))] rfl ?_
        refine k_goto (pc := 24) C 4 dX5_jumpEpoch_24 (by decide) ?_
        refine k_sub [2, 1, 0] [(0, .ref (ad 3 0)), (1, .long x1_22), (3, .int x3_23)] rfl ?_
        exact ih_1 x1_22 x3_23 S_1 (Nat.lt_of_lt_of_le hw.2 (Nat.le_of_lt_succ hn_1)) hw.1
  exact L_1 (μ_1 0 0 S + 1) 0 0 S (Nat.lt_succ_self _) hi_1
