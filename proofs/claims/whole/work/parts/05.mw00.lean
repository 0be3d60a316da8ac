def wp_X10_thrown (S : Sg) (Q : Int32 → Sg → Prop) : Prop :=
  Q (gI S 40 0 0) S
set_option maxHeartbeats 4000000 in
set_option maxRecDepth 100000 in
theorem ct_X10_thrown (l : Launch) (D : va_G) (cA : Nat → ClassId) (ad : Nat → Nat → Nat) (S : Sg) (Q : Int32 → Sg → Prop) (hw : wp_X10_thrown  S Q) : CtI l yX10_thrown wsX10_thrown (mkR 0 0) D cA ad [.ref (ad 40 0)] S Q := by
  refine ct_ofI (cc := cX10_thrown) (nL := 1) (by decide) rfl (Nat.le_of_ble_eq_true rfl) ?_
  intro p e s m args below meth c A Q C hret
  unfold wp_X10_thrown at hw
  have C : Cx p s m args c cX10_thrown 1 wsX10_thrown RX10 D cA A := C
  have hin : ∀ w ∈ u_ws RX10 TX10 33, w ∈ wsX10_thrown := fun w h => List.mem_cons_of_mem _ (List.mem_append_right _ h)
  have f7 : Cond.fieldLink RX10 7 "CreepBoardModel" "thrown" "I" ∈ wsX10_thrown := by decide +kernel
  change KK p l e (mkR 0 0) s m args below meth c 1 D cA ad A Q 0 [(0, .ref (ad 40 0))] [] S
  refine k_aload_n (pc := 0) C dX10_thrown_0 0 rfl rfl ?_
  refine k_get (j := 0) (pc := 1) C hin hm_40 (cel_40 cA ad S 0) rfl (by decide) f7 (fun _ h => h) rfl dX10_thrown_1 ?_
  exact hret _ _ _ _ dX10_thrown_4 hw
def wp_X10_in (a1 : Int32) (a2 : Int32) (a3 : Int32) (S : Sg) (Q : Int32 → Sg → Prop) : Prop :=
  ((a1 < a2 → Q 0 S) ∧ (¬ a1 < a2 → ((a3 < a1 → Q 0 S) ∧ (¬ a3 < a1 → Q 1 S))))
set_option maxHeartbeats 4000000 in
set_option maxRecDepth 100000 in
theorem ct_X10_in (l : Launch) (D : va_G) (cA : Nat → ClassId) (ad : Nat → Nat → Nat) (a1 : Int32) (a2 : Int32) (a3 : Int32) (S : Sg) (Q : Int32 → Sg → Prop) (hw : wp_X10_in a1 a2 a3 S Q) : CtI l yX10_in wsX10_in (mkR 0 0) D cA ad [.ref (ad 40 0), .int a1, .int a2, .int a3] S Q := by
  refine ct_ofZ (cc := cX10_in) (nL := 4) (by decide) rfl (Nat.le_of_ble_eq_true rfl) ?_
  intro p e s m args below meth c A Q C hret
  unfold wp_X10_in at hw
  have C : Cx p s m args c cX10_in 4 wsX10_in RX10 D cA A := C
  change KK p l e (mkR 0 0) s m args below meth c 4 D cA ad A Q 0 [(0, .ref (ad 40 0)), (1, .int a1), (2, .int a2), (3, .int a3)] [] S
  refine k_iload_n (pc := 0) C dX10_in_0 1 rfl rfl ?_
  refine k_iload_n (pc := 1) C dX10_in_1 2 rfl rfl ?_
  refine k_icmp_lt (pc := 2) C 14 dX10_in_2 (by decide) (fun q_1 => ?_) (fun q_1 => ?_)
  · have hw := hw.1 q_1
    refine k_iconst (v := 0) (pc := 14) C dX10_in_14 (by decide) ?_
    exact hret _ _ _ _ dX10_in_15 rfl hw
  · have hw := hw.2 q_1
    refine k_iload_n (pc := 5) C dX10_in_5 1 rfl rfl ?_
    refine k_iload_n (pc := 6) C dX10_in_6 3 rfl rfl ?_
    refine k_icmp_gt (pc := 7) C 14 dX10_in_7 (by decide) (fun q_2 => ?_) (fun q_2 => ?_)
    · have hw := hw.1 q_2
      refine k_iconst (v := 0) (pc := 14) C dX10_in_14 (by decide) ?_
      exact hret _ _ _ _ dX10_in_15 rfl hw
    · have hw := hw.2 q_2
      refine k_iconst (v := 1) (pc := 10) C dX10_in_10 (by decide) ?_
      refine k_goto (pc := 11) C 15 dX10_in_11 (by decide) ?_
      exact hret _ _ _ _ dX10_in_15 rfl hw
def wp_X10_isMark (a1 : Int32) (S : Sg) (Q : Int32 → Sg → Prop) : Prop :=
  wp_X10_in a1 0 ((gI S 40 0 1) - 1) S (fun r_1 S_1 => (narrow .boolean (.int r_1) = .int r_1 ∧ Q r_1 S_1))
set_option maxHeartbeats 4000000 in
set_option maxRecDepth 100000 in
theorem ct_X10_isMark (l : Launch) (D : va_G) (cA : Nat → ClassId) (ad : Nat → Nat → Nat) (a1 : Int32) (S : Sg) (Q : Int32 → Sg → Prop) (hw : wp_X10_isMark a1 S Q) : CtI l yX10_isMark wsX10_isMark (mkR 1 23) D cA ad [.ref (ad 40 0), .int a1] S Q := by
  refine ct_ofZ (cc := cX10_isMark) (nL := 2) (by decide) rfl (Nat.le_of_ble_eq_true rfl) ?_
  intro p e s m args below meth c A Q C hret
  unfold wp_X10_isMark at hw
  have C : Cx p s m args c cX10_isMark 2 wsX10_isMark RX10 D cA A := C
  have hin : ∀ w ∈ u_ws RX10 TX10 33, w ∈ wsX10_isMark := fun w h => List.mem_cons_of_mem _ (List.mem_append_right _ h)
  have f13 : Cond.fieldLink RX10 13 "CreepBoardModel" "marks" "I" ∈ wsX10_isMark := by decide +kernel
  change KK p l e (mkR 1 23) s m args below meth c 2 D cA ad A Q 0 [(0, .ref (ad 40 0)), (1, .int a1)] [] S
  refine k_aload_n (pc := 0) C dX10_isMark_0 0 rfl rfl ?_
  refine k_iload_n (pc := 1) C dX10_isMark_1 1 rfl rfl ?_
  refine k_iconst (v := 0) (pc := 2) C dX10_isMark_2 (by decide) ?_
  refine k_aload_n (pc := 3) C dX10_isMark_3 0 rfl rfl ?_
  refine k_get (j := 1) (pc := 4) C hin hm_40 (cel_40 cA ad S 0) rfl (by decide) f13 (fun _ h => h) rfl dX10_isMark_4 ?_
  refine k_iconst (v := 1) (pc := 7) C dX10_isMark_7 (by decide) ?_
  refine k_isub (pc := 8) C dX10_isMark_8 ?_
  refine k_callVi (pc := 9) C (ct_X10_in l D cA ad a1 0 ((gI S 40 0 1) - 1) S _ hw) (cwV 3 C.2.2.2.2.1 gX10_isMark_X10_in rfl rfl rfl (by decide +kernel) ⟨Nat.le_of_ble_eq_true rfl, Nat.le_of_ble_eq_true rfl⟩) hm_40 (cel_40 cA ad S 0) rfl rfl rfl rfl (Nat.le_of_ble_eq_true rfl) dX10_isMark_9 (fun r_1 S_1 hw => ?_)
  exact hret _ _ _ _ dX10_isMark_12 hw.1 hw.2
def wp_X10_isEpoch (a1 : Int32) (S : Sg) (Q : Int32 → Sg → Prop) : Prop :=
  wp_X10_in a1 0 39 S (fun r_1 S_1 => (narrow .boolean (.int r_1) = .int r_1 ∧ Q r_1 S_1))
set_option maxHeartbeats 4000000 in
set_option maxRecDepth 100000 in
theorem ct_X10_isEpoch (l : Launch) (D : va_G) (cA : Nat → ClassId) (ad : Nat → Nat → Nat) (a1 : Int32) (S : Sg) (Q : Int32 → Sg → Prop) (hw : wp_X10_isEpoch a1 S Q) : CtI l yX10_isEpoch wsX10_isEpoch (mkR 1 23) D cA ad [.ref (ad 40 0), .int a1] S Q := by
  refine ct_ofZ (cc := cX10_isEpoch) (nL := 2) (by decide) rfl (Nat.le_of_ble_eq_true rfl) ?_
  intro p e s m args below meth c A Q C hret
  unfold wp_X10_isEpoch at hw
  have C : Cx p s m args c cX10_isEpoch 2 wsX10_isEpoch RX10 D cA A := C
  change KK p l e (mkR 1 23) s m args below meth c 2 D cA ad A Q 0 [(0, .ref (ad 40 0)), (1, .int a1)] [] S
  refine k_aload_n (pc := 0) C dX10_isEpoch_0 0 rfl rfl ?_
  refine k_iload_n (pc := 1) C dX10_isEpoch_1 1 rfl rfl ?_
  refine k_iconst (v := 0) (pc := 2) C dX10_isEpoch_2 (by decide) ?_
  refine k_bipush (v := 39) (pc := 3) C dX10_isEpoch_3 (by decide) ?_
  refine k_callVi (pc := 5) C (ct_X10_in l D cA ad a1 0 39 S _ hw) (cwV 3 C.2.2.2.2.1 gX10_isEpoch_X10_in rfl rfl rfl (by decide +kernel) ⟨Nat.le_of_ble_eq_true rfl, Nat.le_of_ble_eq_true rfl⟩) hm_40 (cel_40 cA ad S 0) rfl rfl rfl rfl (Nat.le_of_ble_eq_true rfl) dX10_isEpoch_5 (fun r_1 S_1 hw => ?_)
  exact hret _ _ _ _ dX10_isEpoch_8 hw.1 hw.2
def wp_X10_isSide (a1 : Int32) (S : Sg) (Q : Int32 → Sg → Prop) : Prop :=
  ((a1 = 0 → Q 1 S) ∧ (¬ a1 = 0 → ((¬ a1 = 1 → Q 0 S) ∧ (a1 = 1 → Q 1 S))))
set_option maxHeartbeats 4000000 in
set_option maxRecDepth 100000 in
theorem ct_X10_isSide (l : Launch) (D : va_G) (cA : Nat → ClassId) (ad : Nat → Nat → Nat) (a1 : Int32) (S : Sg) (Q : Int32 → Sg → Prop) (hw : wp_X10_isSide a1 S Q) : CtI l yX10_isSide wsX10_isSide (mkR 0 0) D cA ad [.ref (ad 40 0), .int a1] S Q := by
  refine ct_ofZ (cc := cX10_isSide) (nL := 2) (by decide) rfl (Nat.le_of_ble_eq_true rfl) ?_
  intro p e s m args below meth c A Q C hret
  unfold wp_X10_isSide at hw
  have C : Cx p s m args c cX10_isSide 2 wsX10_isSide RX10 D cA A := C
  change KK p l e (mkR 0 0) s m args below meth c 2 D cA ad A Q 0 [(0, .ref (ad 40 0)), (1, .int a1)] [] S
  refine k_iload_n (pc := 0) C dX10_isSide_0 1 rfl rfl ?_
  refine k_if_eq (pc := 1) C 9 dX10_isSide_1 (by decide) (fun q_1 => ?_) (fun q_1 => ?_)
  · have hw := hw.1 q_1
    refine k_iconst (v := 1) (pc := 9) C dX10_isSide_9 (by decide) ?_
    refine k_goto (pc := 10) C 14 dX10_isSide_10 (by decide) ?_
    exact hret _ _ _ _ dX10_isSide_14 rfl hw
  · have hw := hw.2 q_1
    refine k_iload_n (pc := 4) C dX10_isSide_4 1 rfl rfl ?_
    refine k_iconst (v := 1) (pc := 5) C dX10_isSide_5 (by decide) ?_
    refine k_icmp_ne (pc := 6) C 13 dX10_isSide_6 (by decide) (fun q_2 => ?_) (fun q_2 => ?_)
    · have hw := hw.1 q_2
      refine k_iconst (v := 0) (pc := 13) C dX10_isSide_13 (by decide) ?_
      exact hret _ _ _ _ dX10_isSide_14 rfl hw
    · have hw := hw.2 q_2
      refine k_iconst (v := 1) (pc := 9) C dX10_isSide_9 (by decide) ?_
      refine k_goto (pc := 10) C 14 dX10_isSide_10 (by decide) ?_
      exact hret _ _ _ _ dX10_isSide_14 rfl hw
def wp_X10_hasAntenna (a1 : Int32) (S : Sg) (Q : Int32 → Sg → Prop) : Prop :=
  (vp_in a1 10 ∧ (((gA S 41 0 (Int32.toNatClampNeg a1)) = 1 → Q 1 S) ∧ (¬ (gA S 41 0 (Int32.toNatClampNeg a1)) = 1 → (vp_in a1 10 ∧ ((¬ (gA S 41 0 (Int32.toNatClampNeg a1)) = 2 → Q 0 S) ∧ ((gA S 41 0 (Int32.toNatClampNeg a1)) = 2 → Q 1 S))))))
set_option maxHeartbeats 4000000 in
set_option maxRecDepth 100000 in
theorem ct_X10_hasAntenna (l : Launch) (D : va_G) (cA : Nat → ClassId) (ad : Nat → Nat → Nat) (a1 : Int32) (S : Sg) (Q : Int32 → Sg → Prop) (hw : wp_X10_hasAntenna a1 S Q) : CtI l yX10_hasAntenna wsX10_hasAntenna (mkR 0 0) D cA ad [.ref (ad 40 0), .int a1] S Q := by
  refine ct_ofZ (cc := cX10_hasAntenna) (nL := 2) (by decide) rfl (Nat.le_of_ble_eq_true rfl) ?_
  intro p e s m args below meth c A Q C hret
  unfold wp_X10_hasAntenna at hw
  have C : Cx p s m args c cX10_hasAntenna 2 wsX10_hasAntenna RX10 D cA A := C
  have hin : ∀ w ∈ u_ws RX10 TX10 33, w ∈ wsX10_hasAntenna := fun w h => List.mem_cons_of_mem _ (List.mem_append_right _ h)
  have f16 : Cond.fieldLink RX10 16 "CreepBoardModel" "kind" "[I" ∈ wsX10_hasAntenna := by decide +kernel
  change KK p l e (mkR 0 0) s m args below meth c 2 D cA ad A Q 0 [(0, .ref (ad 40 0)), (1, .int a1)] [] S
  refine k_aload_n (pc := 0) C dX10_hasAntenna_0 0 rfl rfl ?_
  refine k_get (j := 2) (pc := 1) C hin hm_40 (cel_40 cA ad S 0) rfl (by decide) f16 (fun _ h => h) rfl dX10_hasAntenna_1 ?_
  refine k_iload_n (pc := 4) C dX10_hasAntenna_4 1 rfl rfl ?_
  obtain ⟨h_1, hw⟩ := hw
  refine k_iald (pc := 5) C hm_41 (cel_41 cA ad S 0) h_1 dX10_hasAntenna_5 ?_
  refine k_iconst (v := 1) (pc := 6) C dX10_hasAntenna_6 (by decide) ?_
  refine k_icmp_eq (pc := 7) C 20 dX10_hasAntenna_7 (by decide) (fun q_2 => ?_) (fun q_2 => ?_)
  · have hw := hw.1 q_2
    refine k_iconst (v := 1) (pc := 20) C dX10_hasAntenna_20 (by decide) ?_
    refine k_goto (pc := 21) C 25 dX10_hasAntenna_21 (by decide) ?_
    exact hret _ _ _ _ dX10_hasAntenna_25 rfl hw
  · have hw := hw.2 q_2
    refine k_aload_n (pc := 10) C dX10_hasAntenna_10 0 rfl rfl ?_
    refine k_get (j := 2) (pc := 11) C hin hm_40 (cel_40 cA ad S 0) rfl (by decide) f16 (fun _ h => h) rfl dX10_hasAntenna_11 ?_
    refine k_iload_n (pc := 14) C dX10_hasAntenna_14 1 rfl rfl ?_
    obtain ⟨h_3, hw⟩ := hw
    refine k_iald (pc := 15) C hm_41 (cel_41 cA ad S 0) h_3 dX10_hasAntenna_15 ?_
    refine k_iconst (v := 2) (pc := 16) C dX10_hasAntenna_16 (by decide) ?_
    refine k_icmp_ne (pc := 17) C 24 dX10_hasAntenna_17 (by decide) (fun q_4 => ?_) (fun q_4 => ?_)
    · have hw := hw.1 q_4
      refine k_iconst (v := 0) (pc := 24) C dX10_hasAntenna_24 (by decide) ?_
      exact hret _ _ _ _ dX10_hasAntenna_25 rfl hw
    · have hw := hw.2 q_4
      refine k_iconst (v := 1) (pc := 20) C dX10_hasAntenna_20 (by decide) ?_
      refine k_goto (pc := 21) C 25 dX10_hasAntenna_21 (by decide) ?_
      exact hret _ _ _ _ dX10_hasAntenna_25 rfl hw
def wp_X10_mark (a1 : Int32) (a2 : Int32) (a3 : Int32) (S : Sg) (Q : Int32 → Sg → Prop) : Prop :=
  wp_X10_in a1 0 3 S (fun r_1 S_1 => ((r_1 = 0 → Q (-1) S_1) ∧ (¬ r_1 = 0 → wp_X10_in a2 (-1000) 1000 S_1 (fun r_3 S_3 => ((r_3 = 0 → Q (-1) S_3) ∧ (¬ r_3 = 0 → wp_X10_in a3 (-1000) 1000 S_3 (fun r_5 S_5 => ((¬ r_5 = 0 → ((¬ (gI S_5 40 0 1) = 10 → (vp_in (gI S_5 40 0 1) 10 ∧ ∀ S_9 : Sg, S_9 = uA S_5 41 0 (Int32.toNatClampNeg (gI S_5 40 0 1)) a1 → (vp_in (gI S_9 40 0 1) 10 ∧ ∀ S_11 : Sg, S_11 = uA S_9 42 0 (Int32.toNatClampNeg (gI S_9 40 0 1)) a2 → (vp_in (gI S_11 40 0 1) 10 ∧ ∀ S_13 : Sg, S_13 = uA S_11 43 0 (Int32.toNatClampNeg (gI S_11 40 0 1)) a3 → (∀ S_14 : Sg, S_14 = uI S_13 40 0 1 ((gI S_13 40 0 1) + 1) → Q ((gI S_14 40 0 1) - 1) S_14))))) ∧ ((gI S_5 40 0 1) = 10 → Q (-2) S_5))) ∧ (r_5 = 0 → Q (-1) S_5)))))))))
set_option maxHeartbeats 4000000 in
set_option maxRecDepth 100000 in
theorem ct_X10_mark (l : Launch) (D : va_G) (cA : Nat → ClassId) (ad : Nat → Nat → Nat) (a1 : Int32) (a2 : Int32) (a3 : Int32) (S : Sg) (Q : Int32 → Sg → Prop) (hw : wp_X10_mark a1 a2 a3 S Q) : CtI l yX10_mark wsX10_mark (mkR 1 23) D cA ad [.ref (ad 40 0), .int a1, .int a2, .int a3] S Q := by
  refine ct_ofI (cc := cX10_mark) (nL := 4) (by decide) rfl (Nat.le_of_ble_eq_true rfl) ?_
  intro p e s m args below meth c A Q C hret
  unfold wp_X10_mark at hw
  have C : Cx p s m args c cX10_mark 4 wsX10_mark RX10 D cA A := C
  have hin : ∀ w ∈ u_ws RX10 TX10 33, w ∈ wsX10_mark := fun w h => List.mem_cons_of_mem _ (List.mem_append_right _ h)
  have f13 : Cond.fieldLink RX10 13 "CreepBoardModel" "marks" "I" ∈ wsX10_mark := by decide +kernel
  have f16 : Cond.fieldLink RX10 16 "CreepBoardModel" "kind" "[I" ∈ wsX10_mark := by decide +kernel
  have f20 : Cond.fieldLink RX10 20 "CreepBoardModel" "x" "[I" ∈ wsX10_mark := by decide +kernel
  have f23 : Cond.fieldLink RX10 23 "CreepBoardModel" "y" "[I" ∈ wsX10_mark := by decide +kernel
  change KK p l e (mkR 1 23) s m args below meth c 4 D cA ad A Q 0 [(0, .ref (ad 40 0)), (1, .int a1), (2, .int a2), (3, .int a3)] [] S
  refine k_aload_n (pc := 0) C dX10_mark_0 0 rfl rfl ?_
  refine k_iload_n (pc := 1) C dX10_mark_1 1 rfl rfl ?_
  refine k_iconst (v := 0) (pc := 2) C dX10_mark_2 (by decide) ?_
  refine k_iconst (v := 3) (pc := 3) C dX10_mark_3 (by decide) ?_
  refine k_callVi (pc := 4) C (ct_X10_in l D cA ad a1 0 3 S _ hw) (cwV 3 C.2.2.2.2.1 gX10_mark_X10_in rfl rfl rfl (by decide +kernel) ⟨Nat.le_of_ble_eq_true rfl, Nat.le_of_ble_eq_true rfl⟩) hm_40 (cel_40 cA ad S 0) rfl rfl rfl rfl (Nat.le_of_ble_eq_true rfl) dX10_mark_4 (fun r_1 S_1 hw => ?_)
  refine k_if_eq (pc := 7) C 38 dX10_mark_7 (by decide) (fun q_2 => ?_) (fun q_2 => ?_)
  · have hw := hw.1 q_2
    refine k_iconst (v := (-1)) (pc := 38) C dX10_mark_38 (by decide) ?_
    exact hret _ _ _ _ dX10_mark_39 hw
  · have hw := hw.2 q_2
    refine k_aload_n (pc := 10) C dX10_mark_10 0 rfl rfl ?_
    refine k_iload_n (pc := 11) C dX10_mark_11 2 rfl rfl ?_
    refine k_sipush (v := (-1000)) (pc := 12) C dX10_mark_12 (by decide) ?_
    refine k_sipush (v := 1000) (pc := 15) C dX10_mark_15 (by decide) ?_
    refine k_callVi (pc := 18) C (ct_X10_in l D cA ad a2 (-1000) 1000 S_1 _ hw) (cwV 3 C.2.2.2.2.1 gX10_mark_X10_in rfl rfl rfl (by decide +kernel) ⟨Nat.le_of_ble_eq_true rfl, Nat.le_of_ble_eq_true rfl⟩) hm_40 (cel_40 cA ad S_1 0) rfl rfl rfl rfl (Nat.le_of_ble_eq_true rfl) dX10_mark_18 (fun r_3 S_3 hw => ?_)
    refine k_if_eq (pc := 21) C 38 dX10_mark_21 (by decide) (fun q_4 => ?_) (fun q_4 => ?_)
    · have hw := hw.1 q_4
      refine k_iconst (v := (-1)) (pc := 38) C dX10_mark_38 (by decide) ?_
      exact hret _ _ _ _ dX10_mark_39 hw
    · have hw := hw.2 q_4
      refine k_aload_n (pc := 24) C dX10_mark_24 0 rfl rfl ?_
      refine k_iload_n (pc := 25) C dX10_mark_25 3 rfl rfl ?_
      refine k_sipush (v := (-1000)) (pc := 26) C dX10_mark_26 (by decide) ?_
      refine k_sipush (v := 1000) (pc := 29) C dX10_mark_29 (by decide) ?_
      refine k_callVi (pc := 32) C (ct_X10_in l D cA ad a3 (-1000) 1000 S_3 _ hw) (cwV 3 C.2.2.2.2.1 gX10_mark_X10_in rfl rfl rfl (by decide +kernel) ⟨Nat.le_of_ble_eq_true rfl, Nat.le_of_ble_eq_true rfl⟩) hm_40 (cel_40 cA ad S_3 0) rfl rfl rfl rfl (Nat.le_of_ble_eq_true rfl) dX10_mark_32 (fun r_5 S_5 hw => ?_)
      refine k_if_ne (pc := 35) C 40 dX10_mark_35 (by decide) (fun q_6 => ?_) (fun q_6 => ?_)
      · have hw := hw.1 q_6
        refine k_aload_n (pc := 40) C dX10_mark_40 0 rfl rfl ?_
        refine k_get (j := 1) (pc := 41) C hin hm_40 (cel_40 cA ad S_5 0) rfl (by decide) f13 (fun _ h => h) rfl dX10_mark_41 ?_
        refine k_bipush (v := 10) (pc := 44) C dX10_mark_44 (by decide) ?_
        refine k_icmp_ne (pc := 46) C 52 dX10_mark_46 (by decide) (fun q_7 => ?_) (fun q_7 => ?_)
        · have hw := hw.1 q_7
          refine k_aload_n (pc := 52) C dX10_mark_52 0 rfl rfl ?_
          refine k_get (j := 2) (pc := 53) C hin hm_40 (cel_40 cA ad S_5 0) rfl (by decide) f16 (fun _ h => h) rfl dX10_mark_53 ?_
          refine k_aload_n (pc := 56) C dX10_mark_56 0 rfl rfl ?_
          refine k_get (j := 1) (pc := 57) C hin hm_40 (cel_40 cA ad S_5 0) rfl (by decide) f13 (fun _ h => h) rfl dX10_mark_57 ?_
          refine k_iload_n (pc := 60) C dX10_mark_60 1 rfl rfl ?_
          obtain ⟨h_8, hw⟩ := hw
          refine k_iast (pc := 61) C hm_41 (fun S => cel_41 cA ad S 0) h_8 dX10_mark_61 ?_
          refine k_nameS (fun S_9 eS_9 => ?_)
          have hw := hw S_9 eS_9
          refine k_aload_n (pc := 62) C dX10_mark_62 0 rfl rfl ?_
          refine k_get (j := 3) (pc := 63) C hin hm_40 (cel_40 cA ad S_9 0) rfl (by decide) f20 (fun _ h => h) rfl dX10_mark_63 ?_
          refine k_aload_n (pc := 66) C dX10_mark_66 0 rfl rfl ?_
          refine k_get (j := 1) (pc := 67) C hin hm_40 (cel_40 cA ad S_9 0) rfl (by decide) f13 (fun _ h => h) rfl dX10_mark_67 ?_
          refine k_iload_n (pc := 70) C dX10_mark_70 2 rfl rfl ?_
          obtain ⟨h_10, hw⟩ := hw
          refine k_iast (pc := 71) C hm_42 (fun S => cel_42 cA ad S 0) h_10 dX10_mark_71 ?_
          refine k_nameS (fun S_11 eS_11 => ?_)
          have hw := hw S_11 eS_11
          refine k_aload_n (pc := 72) C dX10_mark_72 0 rfl rfl ?_
          refine k_get (j := 4) (pc := 73) C hin hm_40 (cel_40 cA ad S_11 0) rfl (by decide) f23 (fun _ h => h) rfl dX10_mark_73 ?_
          refine k_aload_n (pc := 76) C dX10_mark_76 0 rfl rfl ?_
          refine k_get (j := 1) (pc := 77) C hin hm_40 (cel_40 cA ad S_11 0) rfl (by decide) f13 (fun _ h => h) rfl dX10_mark_77 ?_
          refine k_iload_n (pc := 80) C dX10_mark_80 3 rfl rfl ?_
          obtain ⟨h_12, hw⟩ := hw
          refine k_iast (pc := 81) C hm_43 (fun S => cel_43 cA ad S 0) h_12 dX10_mark_81 ?_
          refine k_nameS (fun S_13 eS_13 => ?_)
          have hw := hw S_13 eS_13
          refine k_aload_n (pc := 82) C dX10_mark_82 0 rfl rfl ?_
          refine k_dup (pc := 83) C dX10_mark_83 rfl ?_
          refine k_get (j := 1) (pc := 84) C hin hm_40 (cel_40 cA ad S_13 0) rfl (by decide) f13 (fun _ h => h) rfl dX10_mark_84 ?_
          refine k_iconst (v := 1) (pc := 87) C dX10_mark_87 (by decide) ?_
          refine k_iadd (pc := 88) C dX10_mark_88 ?_
          refine k_put (S' := uI S_13 40 0 1 ((gI S_13 40 0 1) + 1)) (j := 1) (ty := .int) (pc := 89) C hin tyX10 tyX10_ok nmX10 hm_40 (cel_40 cA ad S_13 0) rfl (by decide) f13 (fun _ h => h) rfl (by decide +kernel) rfl rfl (Nat.le_of_ble_eq_true rfl) rfl rfl (fun a b h => cel_uI h) dX10_mark_89 ?_
          refine k_nameS (fun S_14 eS_14 => ?_)
          have hw := hw S_14 eS_14
          refine k_aload_n (pc := 92) C dX10_mark_92 0 rfl rfl ?_
          refine k_get (j := 1) (pc := 93) C hin hm_40 (cel_40 cA ad S_14 0) rfl (by decide) f13 (fun _ h => h) rfl dX10_mark_93 ?_
          refine k_iconst (v := 1) (pc := 96) C dX10_mark_96 (by decide) ?_
          refine k_isub (pc := 97) C dX10_mark_97 ?_
          exact hret _ _ _ _ dX10_mark_98 hw
        · have hw := hw.2 q_7
          refine k_bipush (v := (-2)) (pc := 49) C dX10_mark_49 (by decide) ?_
          exact hret _ _ _ _ dX10_mark_51 hw
      · have hw := hw.2 q_6
        refine k_iconst (v := (-1)) (pc := 38) C dX10_mark_38 (by decide) ?_
        exact hret _ _ _ _ dX10_mark_39 hw
def wp_X10_antenna (a1 : Int32) (a2 : Int32) (a3 : Int32) (S : Sg) (Q : Int32 → Sg → Prop) : Prop :=
  wp_X10_isMark a1 S (fun r_1 S_1 => ((r_1 = 0 → Q (-1001) S_1) ∧ (¬ r_1 = 0 → wp_X10_isEpoch a2 S_1 (fun r_3 S_3 => ((r_3 = 0 → Q (-1001) S_3) ∧ (¬ r_3 = 0 → wp_X10_in a3 (-99) 99 S_3 (fun r_5 S_5 => ((¬ r_5 = 0 → wp_X10_hasAntenna a1 S_5 (fun r_7 S_7 => ((¬ r_7 = 0 → (vp_in a1 10 ∧ (∀ x4_10 : Int32, x4_10 = (gA S_7 44 0 (Int32.toNatClampNeg a1)) → (vp_in a1 10 ∧ ∀ S_12 : Sg, S_12 = uA S_7 44 0 (Int32.toNatClampNeg a1) a3 → (vp_in a1 10 ∧ ∀ S_14 : Sg, S_14 = uA S_12 45 0 (Int32.toNatClampNeg a1) a2 → Q x4_10 S_14))))) ∧ (r_7 = 0 → Q (-1003) S_7)))) ∧ (r_5 = 0 → Q (-1001) S_5)))))))))
set_option maxHeartbeats 4000000 in
set_option maxRecDepth 100000 in
theorem ct_X10_antenna (l : Launch) (D : va_G) (cA : Nat → ClassId) (ad : Nat → Nat → Nat) (a1 : Int32) (a2 : Int32) (a3 : Int32) (S : Sg) (Q : Int32 → Sg → Prop) (hw : wp_X10_antenna a1 a2 a3 S Q) : CtI l yX10_antenna wsX10_antenna (mkR 2 44) D cA ad [.ref (ad 40 0), .int a1, .int a2, .int a3] S Q := by
  refine ct_ofI (cc := cX10_antenna) (nL := 5) (by decide) rfl (Nat.le_of_ble_eq_true rfl) ?_
  intro p e s m args below meth c A Q C hret
  unfold wp_X10_antenna at hw
  have C : Cx p s m args c cX10_antenna 5 wsX10_antenna RX10 D cA A := C
  have hin : ∀ w ∈ u_ws RX10 TX10 33, w ∈ wsX10_antenna := fun w h => List.mem_cons_of_mem _ (List.mem_append_right _ h)
  have f26 : Cond.fieldLink RX10 26 "CreepBoardModel" "offset" "[I" ∈ wsX10_antenna := by decide +kernel
  have f29 : Cond.fieldLink RX10 29 "CreepBoardModel" "since" "[I" ∈ wsX10_antenna := by decide +kernel
  change KK p l e (mkR 2 44) s m args below meth c 5 D cA ad A Q 0 [(0, .ref (ad 40 0)), (1, .int a1), (2, .int a2), (3, .int a3)] [] S
  refine k_aload_n (pc := 0) C dX10_antenna_0 0 rfl rfl ?_
  refine k_iload_n (pc := 1) C dX10_antenna_1 1 rfl rfl ?_
  refine k_callVi (pc := 2) C (ct_X10_isMark l D cA ad a1 S _ hw) (cwV 1 C.2.2.2.2.1 gX10_antenna_X10_isMark rfl rfl rfl (by decide +kernel) ⟨Nat.le_of_ble_eq_true rfl, Nat.le_of_ble_eq_true rfl⟩) hm_40 (cel_40 cA ad S 0) rfl rfl rfl rfl (Nat.le_of_ble_eq_true rfl) dX10_antenna_2 (fun r_1 S_1 hw => ?_)
  refine k_if_eq (pc := 5) C 28 dX10_antenna_5 (by decide) (fun q_2 => ?_) (fun q_2 => ?_)
  · have hw := hw.1 q_2
    refine k_sipush (v := (-1001)) (pc := 28) C dX10_antenna_28 (by decide) ?_
    exact hret _ _ _ _ dX10_antenna_31 hw
  · have hw := hw.2 q_2
    refine k_aload_n (pc := 8) C dX10_antenna_8 0 rfl rfl ?_
    refine k_iload_n (pc := 9) C dX10_antenna_9 2 rfl rfl ?_
    refine k_callVi (pc := 10) C (ct_X10_isEpoch l D cA ad a2 S_1 _ hw) (cwV 1 C.2.2.2.2.1 gX10_antenna_X10_isEpoch rfl rfl rfl (by decide +kernel) ⟨Nat.le_of_ble_eq_true rfl, Nat.le_of_ble_eq_true rfl⟩) hm_40 (cel_40 cA ad S_1 0) rfl rfl rfl rfl (Nat.le_of_ble_eq_true rfl) dX10_antenna_10 (fun r_3 S_3 hw => ?_)
    refine k_if_eq (pc := 13) C 28 dX10_antenna_13 (by decide) (fun q_4 => ?_) (fun q_4 => ?_)
    · have hw := hw.1 q_4
      refine k_sipush (v := (-1001)) (pc := 28) C dX10_antenna_28 (by decide) ?_
      exact hret _ _ _ _ dX10_antenna_31 hw
    · have hw := hw.2 q_4
      refine k_aload_n (pc := 16) C dX10_antenna_16 0 rfl rfl ?_
      refine k_iload_n (pc := 17) C dX10_antenna_17 3 rfl rfl ?_
      refine k_bipush (v := (-99)) (pc := 18) C dX10_antenna_18 (by decide) ?_
      refine k_bipush (v := 99) (pc := 20) C dX10_antenna_20 (by decide) ?_
      refine k_callVi (pc := 22) C (ct_X10_in l D cA ad a3 (-99) 99 S_3 _ hw) (cwV 3 C.2.2.2.2.1 gX10_antenna_X10_in rfl rfl rfl (by decide +kernel) ⟨Nat.le_of_ble_eq_true rfl, Nat.le_of_ble_eq_true rfl⟩) hm_40 (cel_40 cA ad S_3 0) rfl rfl rfl rfl (Nat.le_of_ble_eq_true rfl) dX10_antenna_22 (fun r_5 S_5 hw => ?_)
      refine k_if_ne (pc := 25) C 32 dX10_antenna_25 (by decide) (fun q_6 => ?_) (fun q_6 => ?_)
      · have hw := hw.1 q_6
        refine k_aload_n (pc := 32) C dX10_antenna_32 0 rfl rfl ?_
        refine k_iload_n (pc := 33) C dX10_antenna_33 1 rfl rfl ?_
        refine k_callVi (pc := 34) C (ct_X10_hasAntenna l D cA ad a1 S_5 _ hw) (cwV 1 C.2.2.2.2.1 gX10_antenna_X10_hasAntenna rfl rfl rfl (by decide +kernel) ⟨Nat.le_of_ble_eq_true rfl, Nat.le_of_ble_eq_true rfl⟩) hm_40 (cel_40 cA ad S_5 0) rfl rfl rfl rfl (Nat.le_of_ble_eq_true rfl) dX10_antenna_34 (fun r_7 S_7 hw => ?_)
        refine k_if_ne (pc := 37) C 44 dX10_antenna_37 (by decide) (fun q_8 => ?_) (fun q_8 => ?_)
        · have hw := hw.1 q_8
          refine k_aload_n (pc := 44) C dX10_antenna_44 0 rfl rfl ?_
          refine k_get (j := 5) (pc := 45) C hin hm_40 (cel_40 cA ad S_7 0) rfl (by decide) f26 (fun _ h => h) rfl dX10_antenna_45 ?_
          refine k_iload_n (pc := 48) C dX10_antenna_48 1 rfl rfl ?_
          obtain ⟨h_9, hw⟩ := hw
          refine k_iald (pc := 49) C hm_44 (cel_44 cA ad S_7 0) h_9 dX10_antenna_49 ?_
          refine k_topi (fun x4_10 ex4_10 => ?_)
          have hw := hw x4_10 ex4_10
          refine k_istore (pc := 50) C dX10_antenna_50 (by decide) [(4, .int x4_10), (0, .ref (ad 40 0)), (1, .int a1), (2, .int a2), (3, .int a3)] rfl ?_
          refine k_aload_n (pc := 52) C dX10_antenna_52 1 rfl rfl ?_
          refine k_get (j := 5) (pc := 53) C hin hm_40 (cel_40 cA ad S_7 0) rfl (by decide) f26 (fun _ h => h) rfl dX10_antenna_53 ?_
          refine k_iload_n (pc := 56) C dX10_antenna_56 2 rfl rfl ?_
          refine k_iload_n (pc := 57) C dX10_antenna_57 4 rfl rfl ?_
          obtain ⟨h_11, hw⟩ := hw
          refine k_iast (pc := 58) C hm_44 (fun S => cel_44 cA ad S 0) h_11 dX10_antenna_58 ?_
          refine k_nameS (fun S_12 eS_12 => ?_)
          have hw := hw S_12 eS_12
          refine k_aload_n (pc := 59) C dX10_antenna_59 1 rfl rfl ?_
          refine k_get (j := 6) (pc := 60) C hin hm_40 (cel_40 cA ad S_12 0) rfl (by decide) f29 (fun _ h => h) rfl dX10_antenna_60 ?_
          refine k_iload_n (pc := 63) C dX10_antenna_63 2 rfl rfl ?_
          refine k_iload_n (pc := 64) C dX10_antenna_64 3 rfl rfl ?_
          obtain ⟨h_13, hw⟩ := hw
          refine k_iast (pc := 65) C hm_45 (fun S => cel_45 cA ad S 0) h_13 dX10_antenna_65 ?_
          refine k_nameS (fun S_14 eS_14 => ?_)
          have hw := hw S_14 eS_14
          refine k_iload (pc := 66) C dX10_antenna_66 0 rfl ?_
          exact hret _ _ _ _ dX10_antenna_68 hw
        · have hw := hw.2 q_8
          refine k_sipush (v := (-1003)) (pc := 40) C dX10_antenna_40 (by decide) ?_
          exact hret _ _ _ _ dX10_antenna_43 hw
      · have hw := hw.2 q_6
        refine k_sipush (v := (-1001)) (pc := 28) C dX10_antenna_28 (by decide) ?_
        exact hret _ _ _ _ dX10_antenna_31 hw
def wp_X10_spot (a1 : Int32) (a2 : Int32) (S : Sg) (Q : Int32 → Sg → Prop) : Prop :=
  Q ((40 * a1) + a2) S
set_option maxHeartbeats 4000000 in
set_option maxRecDepth 100000 in
theorem ct_X10_spot (l : Launch) (D : va_G) (cA : Nat → ClassId) (ad : Nat → Nat → Nat) (a1 : Int32) (a2 : Int32) (S : Sg) (Q : Int32 → Sg → Prop) (hw : wp_X10_spot a1 a2 S Q) : CtI l yX10_spot wsX10_spot (mkR 0 0) D cA ad [.ref (ad 40 0), .int a1, .int a2] S Q := by
  refine ct_ofI (cc := cX10_spot) (nL := 3) (by decide) rfl (Nat.le_of_ble_eq_true rfl) ?_
  intro p e s m args below meth c A Q C hret
  unfold wp_X10_spot at hw
  have C : Cx p s m args c cX10_spot 3 wsX10_spot RX10 D cA A := C
  change KK p l e (mkR 0 0) s m args below meth c 3 D cA ad A Q 0 [(0, .ref (ad 40 0)), (1, .int a1), (2, .int a2)] [] S
  refine k_bipush (v := 40) (pc := 0) C dX10_spot_0 (by decide) ?_
  refine k_iload_n (pc := 2) C dX10_spot_2 1 rfl rfl ?_
  refine k_imul (pc := 3) C dX10_spot_3 ?_
  refine k_iload_n (pc := 4) C dX10_spot_4 2 rfl rfl ?_
  refine k_iadd (pc := 5) C dX10_spot_5 ?_
  exact hret _ _ _ _ dX10_spot_6 hw
def wp_X10_read (a1 : Int32) (a2 : Int32) (a3 : Int32) (a4 : Int32) (S : Sg) (Q : Int32 → Sg → Prop) : Prop :=
  wp_X10_isMark a1 S (fun r_1 S_1 => ((r_1 = 0 → Q (-1) S_1) ∧ (¬ r_1 = 0 → wp_X10_isEpoch a2 S_1 (fun r_3 S_3 => ((r_3 = 0 → Q (-1) S_3) ∧ (¬ r_3 = 0 → wp_X10_in a3 (-100000) 100000 S_3 (fun r_5 S_5 => ((r_5 = 0 → Q (-1) S_5) ∧ (¬ r_5 = 0 → wp_X10_in a4 (-100000) 100000 S_5 (fun r_7 S_7 => ((¬ r_7 = 0 → wp_X10_spot a1 a2 S_7 (fun r_9 S_9 => (vp_in r_9 400 ∧ (∃ J_11 : Int32 → Sg → Prop, (∀ (t0_11 : Int32) (S_11 : Sg), J_11 t0_11 S_11 → wp_X10_spot a1 a2 S_11 (fun r_12 S_12 => (vp_in r_12 400 ∧ ∀ S_14 : Sg, S_14 = uA S_12 47 0 (Int32.toNatClampNeg r_12) (vp_nar .boolean 1) → wp_X10_spot a1 a2 S_14 (fun r_15 S_15 => (vp_in (2 * r_15) 800 ∧ ∀ S_17 : Sg, S_17 = uA S_15 48 0 (Int32.toNatClampNeg (2 * r_15)) a3 → wp_X10_spot a1 a2 S_17 (fun r_18 S_18 => (vp_in ((2 * r_18) + 1) 800 ∧ ∀ S_20 : Sg, S_20 = uA S_18 48 0 (Int32.toNatClampNeg ((2 * r_18) + 1)) a4 → Q t0_11 S_20))))))) ∧ (((gA S_9 47 0 (Int32.toNatClampNeg r_9)) = 0 → J_11 1 S_9) ∧ (¬ (gA S_9 47 0 (Int32.toNatClampNeg r_9)) = 0 → J_11 0 S_9)))))) ∧ (r_7 = 0 → Q (-1) S_7))))))))))))
set_option maxHeartbeats 4000000 in
set_option maxRecDepth 100000 in
theorem ct_X10_read (l : Launch) (D : va_G) (cA : Nat → ClassId) (ad : Nat → Nat → Nat) (a1 : Int32) (a2 : Int32) (a3 : Int32) (a4 : Int32) (S : Sg) (Q : Int32 → Sg → Prop) (hw : wp_X10_read a1 a2 a3 a4 S Q) : CtI l yX10_read wsX10_read (mkR 2 44) D cA ad [.ref (ad 40 0), .int a1, .int a2, .int a3, .int a4] S Q := by
  refine ct_ofI (cc := cX10_read) (nL := 6) (by decide) rfl (Nat.le_of_ble_eq_true rfl) ?_
  intro p e s m args below meth c A Q C hret
  unfold wp_X10_read at hw
  have C : Cx p s m args c cX10_read 6 wsX10_read RX10 D cA A := C
  have hin : ∀ w ∈ u_ws RX10 TX10 33, w ∈ wsX10_read := fun w h => List.mem_cons_of_mem _ (List.mem_append_right _ h)
  have f35 : Cond.fieldLink RX10 35 "CreepBoardModel" "isRead" "[Z" ∈ wsX10_read := by decide +kernel
  have f39 : Cond.fieldLink RX10 39 "CreepBoardModel" "reading" "[I" ∈ wsX10_read := by decide +kernel
  change KK p l e (mkR 2 44) s m args below meth c 6 D cA ad A Q 0 [(0, .ref (ad 40 0)), (1, .int a1), (2, .int a2), (3, .int a3), (4, .int a4)] [] S
  refine k_aload_n (pc := 0) C dX10_read_0 0 rfl rfl ?_
  refine k_iload_n (pc := 1) C dX10_read_1 1 rfl rfl ?_
  refine k_callVi (pc := 2) C (ct_X10_isMark l D cA ad a1 S _ hw) (cwV 1 C.2.2.2.2.1 gX10_read_X10_isMark rfl rfl rfl (by decide +kernel) ⟨Nat.le_of_ble_eq_true rfl, Nat.le_of_ble_eq_true rfl⟩) hm_40 (cel_40 cA ad S 0) rfl rfl rfl rfl (Nat.le_of_ble_eq_true rfl) dX10_read_2 (fun r_1 S_1 hw => ?_)
  refine k_if_eq (pc := 5) C 41 dX10_read_5 (by decide) (fun q_2 => ?_) (fun q_2 => ?_)
  · have hw := hw.1 q_2
    refine k_iconst (v := (-1)) (pc := 41) C dX10_read_41 (by decide) ?_
    exact hret _ _ _ _ dX10_read_42 hw
  · have hw := hw.2 q_2
    refine k_aload_n (pc := 8) C dX10_read_8 0 rfl rfl ?_
    refine k_iload_n (pc := 9) C dX10_read_9 2 rfl rfl ?_
    refine k_callVi (pc := 10) C (ct_X10_isEpoch l D cA ad a2 S_1 _ hw) (cwV 1 C.2.2.2.2.1 gX10_read_X10_isEpoch rfl rfl rfl (by decide +kernel) ⟨Nat.le_of_ble_eq_true rfl, Nat.le_of_ble_eq_true rfl⟩) hm_40 (cel_40 cA ad S_1 0) rfl rfl rfl rfl (Nat.le_of_ble_eq_true rfl) dX10_read_10 (fun r_3 S_3 hw => ?_)
    refine k_if_eq (pc := 13) C 41 dX10_read_13 (by decide) (fun q_4 => ?_) (fun q_4 => ?_)
    · have hw := hw.1 q_4
      refine k_iconst (v := (-1)) (pc := 41) C dX10_read_41 (by decide) ?_
      exact hret _ _ _ _ dX10_read_42 hw
    · have hw := hw.2 q_4
      refine k_aload_n (pc := 16) C dX10_read_16 0 rfl rfl ?_
      refine k_iload_n (pc := 17) C dX10_read_17 3 rfl rfl ?_
      refine k_ldc (pc := 18) C (C.2.2.2.2.1 (.constant RX10 126 (-100000)) (by decide +kernel)) dX10_read_18 ?_
      refine k_ldc (pc := 20) C (C.2.2.2.2.1 (.constant RX10 127 (100000)) (by decide +kernel)) dX10_read_20 ?_
      refine k_callVi (pc := 22) C (ct_X10_in l D cA ad a3 (-100000) 100000 S_3 _ hw) (cwV 3 C.2.2.2.2.1 gX10_read_X10_in rfl rfl rfl (by decide +kernel) ⟨Nat.le_of_ble_eq_true rfl, Nat.le_of_ble_eq_true rfl⟩) hm_40 (cel_40 cA ad S_3 0) rfl rfl rfl rfl (Nat.le_of_ble_eq_true rfl) dX10_read_22 (fun r_5 S_5 hw => ?_)
      refine k_if_eq (pc := 25) C 41 dX10_read_25 (by decide) (fun q_6 => ?_) (fun q_6 => ?_)
      · have hw := hw.1 q_6
        refine k_iconst (v := (-1)) (pc := 41) C dX10_read_41 (by decide) ?_
        exact hret _ _ _ _ dX10_read_42 hw
      · have hw := hw.2 q_6
        refine k_aload_n (pc := 28) C dX10_read_28 0 rfl rfl ?_
        refine k_iload (pc := 29) C dX10_read_29 4 rfl ?_
        refine k_ldc (pc := 31) C (C.2.2.2.2.1 (.constant RX10 126 (-100000)) (by decide +kernel)) dX10_read_31 ?_
        refine k_ldc (pc := 33) C (C.2.2.2.2.1 (.constant RX10 127 (100000)) (by decide +kernel)) dX10_read_33 ?_
        refine k_callVi (pc := 35) C (ct_X10_in l D cA ad a4 (-100000) 100000 S_5 _ hw) (cwV 3 C.2.2.2.2.1 gX10_read_X10_in rfl rfl rfl (by decide +kernel) ⟨Nat.le_of_ble_eq_true rfl, Nat.le_of_ble_eq_true rfl⟩) hm_40 (cel_40 cA ad S_5 0) rfl rfl rfl rfl (Nat.le_of_ble_eq_true rfl) dX10_read_35 (fun r_7 S_7 hw => ?_)
        refine k_if_ne (pc := 38) C 43 dX10_read_38 (by decide) (fun q_8 => ?_) (fun q_8 => ?_)
        · have hw := hw.1 q_8
          refine k_aload_n (pc := 43) C dX10_read_43 0 rfl rfl ?_
          refine k_get (j := 8) (pc := 44) C hin hm_40 (cel_40 cA ad S_7 0) rfl (by decide) f35 (fun _ h => h) rfl dX10_read_44 ?_
          refine k_aload_n (pc := 47) C dX10_read_47 0 rfl rfl ?_
          refine k_iload_n (pc := 48) C dX10_read_48 1 rfl rfl ?_
          refine k_iload_n (pc := 49) C dX10_read_49 2 rfl rfl ?_
          refine k_callVi (pc := 50) C (ct_X10_spot l D cA ad a1 a2 S_7 _ hw) (cwV 2 C.2.2.2.2.1 gX10_read_X10_spot rfl rfl rfl (by decide +kernel) ⟨Nat.le_of_ble_eq_true rfl, Nat.le_of_ble_eq_true rfl⟩) hm_40 (cel_40 cA ad S_7 0) rfl rfl rfl rfl (Nat.le_of_ble_eq_true rfl) dX10_read_50 (fun r_9 S_9 hw => ?_)
          obtain ⟨h_10, hw⟩ := hw
          refine k_zald (pc := 53) C hm_47 (cel_47 cA ad S_9 0) h_10 dX10_read_53 ?_
          obtain ⟨J_11, hj_11, hw⟩ := hw
          have j_11 : ∀ (t0_11 : Int32) (S_11 : Sg), J_11 t0_11 S_11 → KK p l e (mkR 2 44) s m args below meth c 6 D cA ad A Q 62 [(0, .ref (ad 40 0)), (1, .int a1), (2, .int a2), (3, .int a3), (4, .int a4)] [.int t0_11] S_11 := by
            intro t0_11 S_11 hw
            have hw := hj_11 t0_11 S_11 hw
            refine k_istore (pc := 62) C dX10_read_62 (by decide) [(5, .int t0_11), (0, .ref (ad 40 0)), (1, .int a1), (2, .int a2), (3, .int a3), (4, .int a4)] rfl ?_
            refine k_aload_n (pc := 64) C dX10_read_64 1 rfl rfl ?_
            refine k_get (j := 8) (pc := 65) C hin hm_40 (cel_40 cA ad S_11 0) rfl (by decide) f35 (fun _ h => h) rfl dX10_read_65 ?_
            refine k_aload_n (pc := 68) C dX10_read_68 1 rfl rfl ?_
            refine k_iload_n (pc := 69) C dX10_read_69 2 rfl rfl ?_
            refine k_iload_n (pc := 70) C dX10_read_70 3 rfl rfl ?_
            refine k_callVi (pc := 71) C (ct_X10_spot l D cA ad a1 a2 S_11 _ hw) (cwV 2 C.2.2.2.2.1 gX10_read_X10_spot rfl rfl rfl (by decide +kernel) ⟨Nat.le_of_ble_eq_true rfl, Nat.le_of_ble_eq_true rfl⟩) hm_40 (cel_40 cA ad S_11 0) rfl rfl rfl rfl (Nat.le_of_ble_eq_true rfl) dX10_read_71 (fun r_12 S_12 hw => ?_)
            refine k_iconst (v := 1) (pc := 74) C dX10_read_74 (by decide) ?_
            obtain ⟨h_13, hw⟩ := hw
            refine k_zast (pc := 75) C hm_47 (fun S => cel_47 cA ad S 0) h_13 dX10_read_75 ?_
            refine k_nameS (fun S_14 eS_14 => ?_)
            have hw := hw S_14 eS_14
            refine k_aload_n (pc := 76) C dX10_read_76 1 rfl rfl ?_
            refine k_get (j := 9) (pc := 77) C hin hm_40 (cel_40 cA ad S_14 0) rfl (by decide) f39 (fun _ h => h) rfl dX10_read_77 ?_
            refine k_iconst (v := 2) (pc := 80) C dX10_read_80 (by decide) ?_
            refine k_aload_n (pc := 81) C dX10_read_81 1 rfl rfl ?_
            refine k_iload_n (pc := 82) C dX10_read_82 2 rfl rfl ?_
            refine k_iload_n (pc := 83) C dX10_read_83 3 rfl rfl ?_
            refine k_callVi (pc := 84) C (ct_X10_spot l D cA ad a1 a2 S_14 _ hw) (cwV 2 C.2.2.2.2.1 gX10_read_X10_spot rfl rfl rfl (by decide +kernel) ⟨Nat.le_of_ble_eq_true rfl, Nat.le_of_ble_eq_true rfl⟩) hm_40 (cel_40 cA ad S_14 0) rfl rfl rfl rfl (Nat.le_of_ble_eq_true rfl) dX10_read_84 (fun r_15 S_15 hw => ?_)
            refine k_imul (pc := 87) C dX10_read_87 ?_
            refine k_iload_n (pc := 88) C dX10_read_88 4 rfl rfl ?_
            obtain ⟨h_16, hw⟩ := hw
            refine k_iast (pc := 89) C hm_48 (fun S => cel_48 cA ad S 0) h_16 dX10_read_89 ?_
            refine k_nameS (fun S_17 eS_17 => ?_)
            have hw := hw S_17 eS_17
            refine k_aload_n (pc := 90) C dX10_read_90 1 rfl rfl ?_
            refine k_get (j := 9) (pc := 91) C hin hm_40 (cel_40 cA ad S_17 0) rfl (by decide) f39 (fun _ h => h) rfl dX10_read_91 ?_
            refine k_iconst (v := 2) (pc := 94) C dX10_read_94 (by decide) ?_
            refine k_aload_n (pc := 95) C dX10_read_95 1 rfl rfl ?_
            refine k_iload_n (pc := 96) C dX10_read_96 2 rfl rfl ?_
            refine k_iload_n (pc := 97) C dX10_read_97 3 rfl rfl ?_
            refine k_callVi (pc := 98) C (ct_X10_spot l D cA ad a1 a2 S_17 _ hw) (cwV 2 C.2.2.2.2.1 gX10_read_X10_spot rfl rfl rfl (by decide +kernel) ⟨Nat.le_of_ble_eq_true rfl, Nat.le_of_ble_eq_true rfl⟩) hm_40 (cel_40 cA ad S_17 0) rfl rfl rfl rfl (Nat.le_of_ble_eq_true rfl) dX10_read_98 (fun r_18 S_18 hw => ?_)
            refine k_imul (pc := 101) C dX10_read_101 ?_
            refine k_iconst (v := 1) (pc := 102) C dX10_read_102 (by decide) ?_
            refine k_iadd (pc := 103) C dX10_read_103 ?_
            refine k_iload (pc := 104) C dX10_read_104 5 rfl ?_
            obtain ⟨h_19, hw⟩ := hw
            refine k_iast (pc := 106) C hm_48 (fun S => cel_48 cA ad S 0) h_19 dX10_read_106 ?_
            refine k_nameS (fun S_20 eS_20 => ?_)
            have hw := hw S_20 eS_20
            refine k_iload (pc := 107) C dX10_read_107 0 rfl ?_
            exact hret _ _ _ _ dX10_read_109 hw
          refine k_if_eq (pc := 54) C 61 dX10_read_54 (by decide) (fun q_21 => ?_) (fun q_21 => ?_)
          · have hw := hw.1 q_21
            refine k_iconst (v := 1) (pc := 61) C dX10_read_61 (by decide) ?_
            refine k_sub [0, 1, 2, 3, 4] [(0, .ref (ad 40 0)), (1, .int a1), (2, .int a2), (3, .int a3), (4, .int a4)] rfl ?_
            exact j_11 1 S_9 hw
          · have hw := hw.2 q_21
            refine k_iconst (v := 0) (pc := 57) C dX10_read_57 (by decide) ?_
            refine k_goto (pc := 58) C 62 dX10_read_58 (by decide) ?_
            refine k_sub [0, 1, 2, 3, 4] [(0, .ref (ad 40 0)), (1, .int a1), (2, .int a2), (3, .int a3), (4, .int a4)] rfl ?_
            exact j_11 0 S_9 hw
        · have hw := hw.2 q_8
          refine k_iconst (v := (-1)) (pc := 41) C dX10_read_41 (by decide) ?_
          exact hret _ _ _ _ dX10_read_42 hw
def wp_X10_gap (a1 : Int32) (a2 : Int32) (S : Sg) (Q : Int32 → Sg → Prop) : Prop :=
  wp_X10_isMark a1 S (fun r_1 S_1 => ((r_1 = 0 → Q (-1) S_1) ∧ (¬ r_1 = 0 → wp_X10_isEpoch a2 S_1 (fun r_3 S_3 => ((¬ r_3 = 0 → wp_X10_spot a1 a2 S_3 (fun r_5 S_5 => (vp_in r_5 400 ∧ (∃ J_7 : Int32 → Sg → Prop, (∀ (t0_7 : Int32) (S_7 : Sg), J_7 t0_7 S_7 → wp_X10_spot a1 a2 S_7 (fun r_8 S_8 => (vp_in r_8 400 ∧ ∀ S_10 : Sg, S_10 = uA S_8 47 0 (Int32.toNatClampNeg r_8) (vp_nar .boolean 0) → Q t0_7 S_10))) ∧ (((gA S_5 47 0 (Int32.toNatClampNeg r_5)) = 0 → J_7 0 S_5) ∧ (¬ (gA S_5 47 0 (Int32.toNatClampNeg r_5)) = 0 → J_7 1 S_5)))))) ∧ (r_3 = 0 → Q (-1) S_3))))))
set_option maxHeartbeats 4000000 in
set_option maxRecDepth 100000 in
theorem ct_X10_gap (l : Launch) (D : va_G) (cA : Nat → ClassId) (ad : Nat → Nat → Nat) (a1 : Int32) (a2 : Int32) (S : Sg) (Q : Int32 → Sg → Prop) (hw : wp_X10_gap a1 a2 S Q) : CtI l yX10_gap wsX10_gap (mkR 2 44) D cA ad [.ref (ad 40 0), .int a1, .int a2] S Q := by
  refine ct_ofI (cc := cX10_gap) (nL := 4) (by decide) rfl (Nat.le_of_ble_eq_true rfl) ?_
  intro p e s m args below meth c A Q C hret
  unfold wp_X10_gap at hw
  have C : Cx p s m args c cX10_gap 4 wsX10_gap RX10 D cA A := C
  have hin : ∀ w ∈ u_ws RX10 TX10 33, w ∈ wsX10_gap := fun w h => List.mem_cons_of_mem _ (List.mem_append_right _ h)
  have f35 : Cond.fieldLink RX10 35 "CreepBoardModel" "isRead" "[Z" ∈ wsX10_gap := by decide +kernel
  change KK p l e (mkR 2 44) s m args below meth c 4 D cA ad A Q 0 [(0, .ref (ad 40 0)), (1, .int a1), (2, .int a2)] [] S
  refine k_aload_n (pc := 0) C dX10_gap_0 0 rfl rfl ?_
  refine k_iload_n (pc := 1) C dX10_gap_1 1 rfl rfl ?_
  refine k_callVi (pc := 2) C (ct_X10_isMark l D cA ad a1 S _ hw) (cwV 1 C.2.2.2.2.1 gX10_gap_X10_isMark rfl rfl rfl (by decide +kernel) ⟨Nat.le_of_ble_eq_true rfl, Nat.le_of_ble_eq_true rfl⟩) hm_40 (cel_40 cA ad S 0) rfl rfl rfl rfl (Nat.le_of_ble_eq_true rfl) dX10_gap_2 (fun r_1 S_1 hw => ?_)
  refine k_if_eq (pc := 5) C 16 dX10_gap_5 (by decide) (fun q_2 => ?_) (fun q_2 => ?_)
  · have hw := hw.1 q_2
    refine k_iconst (v := (-1)) (pc := 16) C dX10_gap_16 (by decide) ?_
    exact hret _ _ _ _ dX10_gap_17 hw
  · have hw := hw.2 q_2
    refine k_aload_n (pc := 8) C dX10_gap_8 0 rfl rfl ?_
    refine k_iload_n (pc := 9) C dX10_gap_9 2 rfl rfl ?_
    refine k_callVi (pc := 10) C (ct_X10_isEpoch l D cA ad a2 S_1 _ hw) (cwV 1 C.2.2.2.2.1 gX10_gap_X10_isEpoch rfl rfl rfl (by decide +kernel) ⟨Nat.le_of_ble_eq_true rfl, Nat.le_of_ble_eq_true rfl⟩) hm_40 (cel_40 cA ad S_1 0) rfl rfl rfl rfl (Nat.le_of_ble_eq_true rfl) dX10_gap_10 (fun r_3 S_3 hw => ?_)
    refine k_if_ne (pc := 13) C 18 dX10_gap_13 (by decide) (fun q_4 => ?_) (fun q_4 => ?_)
    · have hw := hw.1 q_4
      refine k_aload_n (pc := 18) C dX10_gap_18 0 rfl rfl ?_
      refine k_get (j := 8) (pc := 19) C hin hm_40 (cel_40 cA ad S_3 0) rfl (by decide) f35 (fun _ h => h) rfl dX10_gap_19 ?_
      refine k_aload_n (pc := 22) C dX10_gap_22 0 rfl rfl ?_
      refine k_iload_n (pc := 23) C dX10_gap_23 1 rfl rfl ?_
      refine k_iload_n (pc := 24) C dX10_gap_24 2 rfl rfl ?_
      refine k_callVi (pc := 25) C (ct_X10_spot l D cA ad a1 a2 S_3 _ hw) (cwV 2 C.2.2.2.2.1 gX10_gap_X10_spot rfl rfl rfl (by decide +kernel) ⟨Nat.le_of_ble_eq_true rfl, Nat.le_of_ble_eq_true rfl⟩) hm_40 (cel_40 cA ad S_3 0) rfl rfl rfl rfl (Nat.le_of_ble_eq_true rfl) dX10_gap_25 (fun r_5 S_5 hw => ?_)
      obtain ⟨h_6, hw⟩ := hw
      refine k_zald (pc := 28) C hm_47 (cel_47 cA ad S_5 0) h_6 dX10_gap_28 ?_
      obtain ⟨J_7, hj_7, hw⟩ := hw
      have j_7 : ∀ (t0_7 : Int32) (S_7 : Sg), J_7 t0_7 S_7 → KK p l e (mkR 2 44) s m args below meth c 4 D cA ad A Q 37 [(0, .ref (ad 40 0)), (1, .int a1), (2, .int a2)] [.int t0_7] S_7 := by
        intro t0_7 S_7 hw
        have hw := hj_7 t0_7 S_7 hw
        refine k_istore_n (pc := 37) C dX10_gap_37 rfl (by decide) [(3, .int t0_7), (0, .ref (ad 40 0)), (1, .int a1), (2, .int a2)] rfl ?_
        refine k_aload_n (pc := 38) C dX10_gap_38 1 rfl rfl ?_
        refine k_get (j := 8) (pc := 39) C hin hm_40 (cel_40 cA ad S_7 0) rfl (by decide) f35 (fun _ h => h) rfl dX10_gap_39 ?_
        refine k_aload_n (pc := 42) C dX10_gap_42 1 rfl rfl ?_
        refine k_iload_n (pc := 43) C dX10_gap_43 2 rfl rfl ?_
        refine k_iload_n (pc := 44) C dX10_gap_44 3 rfl rfl ?_
        refine k_callVi (pc := 45) C (ct_X10_spot l D cA ad a1 a2 S_7 _ hw) (cwV 2 C.2.2.2.2.1 gX10_gap_X10_spot rfl rfl rfl (by decide +kernel) ⟨Nat.le_of_ble_eq_true rfl, Nat.le_of_ble_eq_true rfl⟩) hm_40 (cel_40 cA ad S_7 0) rfl rfl rfl rfl (Nat.le_of_ble_eq_true rfl) dX10_gap_45 (fun r_8 S_8 hw => ?_)
        refine k_iconst (v := 0) (pc := 48) C dX10_gap_48 (by decide) ?_
        obtain ⟨h_9, hw⟩ := hw
        refine k_zast (pc := 49) C hm_47 (fun S => cel_47 cA ad S 0) h_9 dX10_gap_49 ?_
        refine k_nameS (fun S_10 eS_10 => ?_)
        have hw := hw S_10 eS_10
        refine k_iload_n (pc := 50) C dX10_gap_50 0 rfl rfl ?_
        exact hret _ _ _ _ dX10_gap_51 hw
      refine k_if_eq (pc := 29) C 36 dX10_gap_29 (by decide) (fun q_11 => ?_) (fun q_11 => ?_)
      · have hw := hw.1 q_11
        refine k_iconst (v := 0) (pc := 36) C dX10_gap_36 (by decide) ?_
        refine k_sub [0, 1, 2] [(0, .ref (ad 40 0)), (1, .int a1), (2, .int a2)] rfl ?_
        exact j_7 0 S_5 hw
      · have hw := hw.2 q_11
        refine k_iconst (v := 1) (pc := 32) C dX10_gap_32 (by decide) ?_
        refine k_goto (pc := 33) C 37 dX10_gap_33 (by decide) ?_
        refine k_sub [0, 1, 2] [(0, .ref (ad 40 0)), (1, .int a1), (2, .int a2)] rfl ?_
        exact j_7 1 S_5 hw
    · have hw := hw.2 q_4
      refine k_iconst (v := (-1)) (pc := 16) C dX10_gap_16 (by decide) ?_
      exact hret _ _ _ _ dX10_gap_17 hw
def wp_X10_step (a1 : Int32) (a2 : Int32) (a3 : Int32) (a4 : Int32) (S : Sg) (Q : Int32 → Sg → Prop) : Prop :=
  wp_X10_isMark a1 S (fun r_1 S_1 => ((r_1 = 0 → Q (-1) S_1) ∧ (¬ r_1 = 0 → wp_X10_isEpoch a2 S_1 (fun r_3 S_3 => ((r_3 = 0 → Q (-1) S_3) ∧ (¬ r_3 = 0 → wp_X10_in a3 (-10000) 10000 S_3 (fun r_5 S_5 => ((r_5 = 0 → Q (-1) S_5) ∧ (¬ r_5 = 0 → wp_X10_in a4 (-10000) 10000 S_5 (fun r_7 S_7 => ((¬ r_7 = 0 → (vp_in a1 10 ∧ ((¬ (gA S_7 46 0 (Int32.toNatClampNeg a1)) = 10 → (vp_in a1 10 ∧ (∀ x5_12 : Int32, x5_12 = ((10 * a1) + (gA S_7 46 0 (Int32.toNatClampNeg a1))) → (vp_in x5_12 100 ∧ ∀ S_14 : Sg, S_14 = uA S_7 49 0 (Int32.toNatClampNeg x5_12) a2 → (vp_in (2 * x5_12) 200 ∧ ∀ S_16 : Sg, S_16 = uA S_14 50 0 (Int32.toNatClampNeg (2 * x5_12)) a3 → (vp_in ((2 * x5_12) + 1) 200 ∧ ∀ S_18 : Sg, S_18 = uA S_16 50 0 (Int32.toNatClampNeg ((2 * x5_12) + 1)) a4 → (vp_in a1 10 ∧ (vp_in a1 10 ∧ ∀ S_21 : Sg, S_21 = uA S_18 46 0 (Int32.toNatClampNeg a1) ((gA S_18 46 0 (Int32.toNatClampNeg a1)) + 1) → (vp_in a1 10 ∧ Q (gA S_21 46 0 (Int32.toNatClampNeg a1)) S_21))))))))) ∧ ((gA S_7 46 0 (Int32.toNatClampNeg a1)) = 10 → Q (-2) S_7)))) ∧ (r_7 = 0 → Q (-1) S_7))))))))))))
set_option maxHeartbeats 4000000 in
set_option maxRecDepth 100000 in
theorem ct_X10_step (l : Launch) (D : va_G) (cA : Nat → ClassId) (ad : Nat → Nat → Nat) (a1 : Int32) (a2 : Int32) (a3 : Int32) (a4 : Int32) (S : Sg) (Q : Int32 → Sg → Prop) (hw : wp_X10_step a1 a2 a3 a4 S Q) : CtI l yX10_step wsX10_step (mkR 2 44) D cA ad [.ref (ad 40 0), .int a1, .int a2, .int a3, .int a4] S Q := by
  refine ct_ofI (cc := cX10_step) (nL := 6) (by decide) rfl (Nat.le_of_ble_eq_true rfl) ?_
  intro p e s m args below meth c A Q C hret
  unfold wp_X10_step at hw
  have C : Cx p s m args c cX10_step 6 wsX10_step RX10 D cA A := C
  have hin : ∀ w ∈ u_ws RX10 TX10 33, w ∈ wsX10_step := fun w h => List.mem_cons_of_mem _ (List.mem_append_right _ h)
  have f32 : Cond.fieldLink RX10 32 "CreepBoardModel" "steps" "[I" ∈ wsX10_step := by decide +kernel
  have f42 : Cond.fieldLink RX10 42 "CreepBoardModel" "stepAt" "[I" ∈ wsX10_step := by decide +kernel
  have f45 : Cond.fieldLink RX10 45 "CreepBoardModel" "step" "[I" ∈ wsX10_step := by decide +kernel
  change KK p l e (mkR 2 44) s m args below meth c 6 D cA ad A Q 0 [(0, .ref (ad 40 0)), (1, .int a1), (2, .int a2), (3, .int a3), (4, .int a4)] [] S
  refine k_aload_n (pc := 0) C dX10_step_0 0 rfl rfl ?_
  refine k_iload_n (pc := 1) C dX10_step_1 1 rfl rfl ?_
  refine k_callVi (pc := 2) C (ct_X10_isMark l D cA ad a1 S _ hw) (cwV 1 C.2.2.2.2.1 gX10_step_X10_isMark rfl rfl rfl (by decide +kernel) ⟨Nat.le_of_ble_eq_true rfl, Nat.le_of_ble_eq_true rfl⟩) hm_40 (cel_40 cA ad S 0) rfl rfl rfl rfl (Nat.le_of_ble_eq_true rfl) dX10_step_2 (fun r_1 S_1 hw => ?_)
  refine k_if_eq (pc := 5) C 45 dX10_step_5 (by decide) (fun q_2 => ?_) (fun q_2 => ?_)
  · have hw := hw.1 q_2
    refine k_iconst (v := (-1)) (pc := 45) C dX10_step_45 (by decide) ?_
    exact hret _ _ _ _ dX10_step_46 hw
  · have hw := hw.2 q_2
    refine k_aload_n (pc := 8) C dX10_step_8 0 rfl rfl ?_
    refine k_iload_n (pc := 9) C dX10_step_9 2 rfl rfl ?_
    refine k_callVi (pc := 10) C (ct_X10_isEpoch l D cA ad a2 S_1 _ hw) (cwV 1 C.2.2.2.2.1 gX10_step_X10_isEpoch rfl rfl rfl (by decide +kernel) ⟨Nat.le_of_ble_eq_true rfl, Nat.le_of_ble_eq_true rfl⟩) hm_40 (cel_40 cA ad S_1 0) rfl rfl rfl rfl (Nat.le_of_ble_eq_true rfl) dX10_step_10 (fun r_3 S_3 hw => ?_)
    refine k_if_eq (pc := 13) C 45 dX10_step_13 (by decide) (fun q_4 => ?_) (fun q_4 => ?_)
    · have hw := hw.1 q_4
      refine k_iconst (v := (-1)) (pc := 45) C dX10_step_45 (by decide) ?_
      exact hret _ _ _ _ dX10_step_46 hw
    · have hw := hw.2 q_4
      refine k_aload_n (pc := 16) C dX10_step_16 0 rfl rfl ?_
      refine k_iload_n (pc := 17) C dX10_step_17 3 rfl rfl ?_
      refine k_sipush (v := (-10000)) (pc := 18) C dX10_step_18 (by decide) ?_
      refine k_sipush (v := 10000) (pc := 21) C dX10_step_21 (by decide) ?_
      refine k_callVi (pc := 24) C (ct_X10_in l D cA ad a3 (-10000) 10000 S_3 _ hw) (cwV 3 C.2.2.2.2.1 gX10_step_X10_in rfl rfl rfl (by decide +kernel) ⟨Nat.le_of_ble_eq_true rfl, Nat.le_of_ble_eq_true rfl⟩) hm_40 (cel_40 cA ad S_3 0) rfl rfl rfl rfl (Nat.le_of_ble_eq_true rfl) dX10_step_24 (fun r_5 S_5 hw => ?_)
      refine k_if_eq (pc := 27) C 45 dX10_step_27 (by decide) (fun q_6 => ?_) (fun q_6 => ?_)
      · have hw := hw.1 q_6
        refine k_iconst (v := (-1)) (pc := 45) C dX10_step_45 (by decide) ?_
        exact hret _ _ _ _ dX10_step_46 hw
      · have hw := hw.2 q_6
        refine k_aload_n (pc := 30) C dX10_step_30 0 rfl rfl ?_
        refine k_iload (pc := 31) C dX10_step_31 4 rfl ?_
        refine k_sipush (v := (-10000)) (pc := 33) C dX10_step_33 (by decide) ?_
        refine k_sipush (v := 10000) (pc := 36) C dX10_step_36 (by decide) ?_
        refine k_callVi (pc := 39) C (ct_X10_in l D cA ad a4 (-10000) 10000 S_5 _ hw) (cwV 3 C.2.2.2.2.1 gX10_step_X10_in rfl rfl rfl (by decide +kernel) ⟨Nat.le_of_ble_eq_true rfl, Nat.le_of_ble_eq_true rfl⟩) hm_40 (cel_40 cA ad S_5 0) rfl rfl rfl rfl (Nat.le_of_ble_eq_true rfl) dX10_step_39 (fun r_7 S_7 hw => ?_)
        refine k_if_ne (pc := 42) C 47 dX10_step_42 (by decide) (fun q_8 => ?_) (fun q_8 => ?_)
        · have hw := hw.1 q_8
          refine k_aload_n (pc := 47) C dX10_step_47 0 rfl rfl ?_
          refine k_get (j := 7) (pc := 48) C hin hm_40 (cel_40 cA ad S_7 0) rfl (by decide) f32 (fun _ h => h) rfl dX10_step_48 ?_
          refine k_iload_n (pc := 51) C dX10_step_51 1 rfl rfl ?_
          obtain ⟨h_9, hw⟩ := hw
          refine k_iald (pc := 52) C hm_46 (cel_46 cA ad S_7 0) h_9 dX10_step_52 ?_
          refine k_bipush (v := 10) (pc := 53) C dX10_step_53 (by decide) ?_
          refine k_icmp_ne (pc := 55) C 61 dX10_step_55 (by decide) (fun q_10 => ?_) (fun q_10 => ?_)
          · have hw := hw.1 q_10
            refine k_bipush (v := 10) (pc := 61) C dX10_step_61 (by decide) ?_
            refine k_iload_n (pc := 63) C dX10_step_63 1 rfl rfl ?_
            refine k_imul (pc := 64) C dX10_step_64 ?_
            refine k_aload_n (pc := 65) C dX10_step_65 0 rfl rfl ?_
            refine k_get (j := 7) (pc := 66) C hin hm_40 (cel_40 cA ad S_7 0) rfl (by decide) f32 (fun _ h => h) rfl dX10_step_66 ?_
            refine k_iload_n (pc := 69) C dX10_step_69 1 rfl rfl ?_
            obtain ⟨h_11, hw⟩ := hw
            refine k_iald (pc := 70) C hm_46 (cel_46 cA ad S_7 0) h_11 dX10_step_70 ?_
            refine k_iadd (pc := 71) C dX10_step_71 ?_
            refine k_topi (fun x5_12 ex5_12 => ?_)
            have hw := hw x5_12 ex5_12
            refine k_istore (pc := 72) C dX10_step_72 (by decide) [(5, .int x5_12), (0, .ref (ad 40 0)), (1, .int a1), (2, .int a2), (3, .int a3), (4, .int a4)] rfl ?_
            refine k_aload_n (pc := 74) C dX10_step_74 1 rfl rfl ?_
            refine k_get (j := 10) (pc := 75) C hin hm_40 (cel_40 cA ad S_7 0) rfl (by decide) f42 (fun _ h => h) rfl dX10_step_75 ?_
            refine k_iload (pc := 78) C dX10_step_78 0 rfl ?_
            refine k_iload_n (pc := 80) C dX10_step_80 3 rfl rfl ?_
            obtain ⟨h_13, hw⟩ := hw
            refine k_iast (pc := 81) C hm_49 (fun S => cel_49 cA ad S 0) h_13 dX10_step_81 ?_
            refine k_nameS (fun S_14 eS_14 => ?_)
            have hw := hw S_14 eS_14
            refine k_aload_n (pc := 82) C dX10_step_82 1 rfl rfl ?_
            refine k_get (j := 11) (pc := 83) C hin hm_40 (cel_40 cA ad S_14 0) rfl (by decide) f45 (fun _ h => h) rfl dX10_step_83 ?_
            refine k_iconst (v := 2) (pc := 86) C dX10_step_86 (by decide) ?_
            refine k_iload (pc := 87) C dX10_step_87 0 rfl ?_
            refine k_imul (pc := 89) C dX10_step_89 ?_
            refine k_iload_n (pc := 90) C dX10_step_90 4 rfl rfl ?_
            obtain ⟨h_15, hw⟩ := hw
            refine k_iast (pc := 91) C hm_50 (fun S => cel_50 cA ad S 0) h_15 dX10_step_91 ?_
            refine k_nameS (fun S_16 eS_16 => ?_)
            have hw := hw S_16 eS_16
            refine k_aload_n (pc := 92) C dX10_step_92 1 rfl rfl ?_
            refine k_get (j := 11) (pc := 93) C hin hm_40 (cel_40 cA ad S_16 0) rfl (by decide) f45 (fun _ h => h) rfl dX10_step_93 ?_
            refine k_iconst (v := 2) (pc := 96) C dX10_step_96 (by decide) ?_
            refine k_iload (pc := 97) C dX10_step_97 0 rfl ?_
            refine k_imul (pc := 99) C dX10_step_99 ?_
            refine k_iconst (v := 1) (pc := 100) C dX10_step_100 (by decide) ?_
            refine k_iadd (pc := 101) C dX10_step_101 ?_
            refine k_iload (pc := 102) C dX10_step_102 5 rfl ?_
            obtain ⟨h_17, hw⟩ := hw
            refine k_iast (pc := 104) C hm_50 (fun S => cel_50 cA ad S 0) h_17 dX10_step_104 ?_
            refine k_nameS (fun S_18 eS_18 => ?_)
            have hw := hw S_18 eS_18
            refine k_aload_n (pc := 105) C dX10_step_105 1 rfl rfl ?_
            refine k_get (j := 7) (pc := 106) C hin hm_40 (cel_40 cA ad S_18 0) rfl (by decide) f32 (fun _ h => h) rfl dX10_step_106 ?_
            refine k_iload_n (pc := 109) C dX10_step_109 2 rfl rfl ?_
            refine k_dup2 (pc := 110) C dX10_step_110 rfl rfl ?_
            obtain ⟨h_19, hw⟩ := hw
            refine k_iald (pc := 111) C hm_46 (cel_46 cA ad S_18 0) h_19 dX10_step_111 ?_
            refine k_iconst (v := 1) (pc := 112) C dX10_step_112 (by decide) ?_
            refine k_iadd (pc := 113) C dX10_step_113 ?_
            obtain ⟨h_20, hw⟩ := hw
            refine k_iast (pc := 114) C hm_46 (fun S => cel_46 cA ad S 0) h_20 dX10_step_114 ?_
            refine k_nameS (fun S_21 eS_21 => ?_)
            have hw := hw S_21 eS_21
            refine k_aload_n (pc := 115) C dX10_step_115 1 rfl rfl ?_
            refine k_get (j := 7) (pc := 116) C hin hm_40 (cel_40 cA ad S_21 0) rfl (by decide) f32 (fun _ h => h) rfl dX10_step_116 ?_
            refine k_iload_n (pc := 119) C dX10_step_119 2 rfl rfl ?_
            obtain ⟨h_22, hw⟩ := hw
            refine k_iald (pc := 120) C hm_46 (cel_46 cA ad S_21 0) h_22 dX10_step_120 ?_
            exact hret _ _ _ _ dX10_step_121 hw
          · have hw := hw.2 q_10
            refine k_bipush (v := (-2)) (pc := 58) C dX10_step_58 (by decide) ?_
            exact hret _ _ _ _ dX10_step_60 hw
        · have hw := hw.2 q_8
          refine k_iconst (v := (-1)) (pc := 45) C dX10_step_45 (by decide) ?_
          exact hret _ _ _ _ dX10_step_46 hw
def wp_X10_isLeftOut (a1 : Int32) (a2 : Int32) (S : Sg) (Q : Int32 → Sg → Prop) : Prop :=
  (∃ (I_1 : Int32 → Int32 → Sg → Prop) (μ_1 : Int32 → Int32 → Sg → Nat), I_1 0 0 S ∧ ∀ (v3_1 : Int32) (v4_1 : Int32) (S_1 : Sg), I_1 v3_1 v4_1 S_1 → ((a2 ≤ v4_1 → (vp_in a1 10 ∧ ((¬ (gA S_1 41 0 (Int32.toNatClampNeg a1)) = 2 → Q 0 S_1) ∧ ((gA S_1 41 0 (Int32.toNatClampNeg a1)) = 2 → ((2 ≤ v3_1 → Q 0 S_1) ∧ (¬ 2 ≤ v3_1 → Q 1 S_1)))))) ∧ (¬ a2 ≤ v4_1 → wp_X10_spot a1 v4_1 S_1 (fun r_6 S_6 => (vp_in r_6 400 ∧ (((gA S_6 47 0 (Int32.toNatClampNeg r_6)) = 0 → (∀ x3_9 : Int32, x3_9 = (v3_1 + 0) → (∀ x4_10 : Int32, x4_10 = v4_1 + 1 → (I_1 x3_9 x4_10 S_6 ∧ μ_1 x3_9 x4_10 S_6 < μ_1 v3_1 v4_1 S_1)))) ∧ (¬ (gA S_6 47 0 (Int32.toNatClampNeg r_6)) = 0 → (∀ x3_11 : Int32, x3_11 = (v3_1 + 1) → (∀ x4_12 : Int32, x4_12 = v4_1 + 1 → (I_1 x3_11 x4_12 S_6 ∧ μ_1 x3_11 x4_12 S_6 < μ_1 v3_1 v4_1 S_1))))))))))
set_option maxHeartbeats 4000000 in
set_option maxRecDepth 100000 in
theorem ct_X10_isLeftOut (l : Launch) (D : va_G) (cA : Nat → ClassId) (ad : Nat → Nat → Nat) (a1 : Int32) (a2 : Int32) (S : Sg) (Q : Int32 → Sg → Prop) (hw : wp_X10_isLeftOut a1 a2 S Q) : CtI l yX10_isLeftOut wsX10_isLeftOut (mkR 1 22) D cA ad [.ref (ad 40 0), .int a1, .int a2] S Q := by
  refine ct_ofZ (cc := cX10_isLeftOut) (nL := 5) (by decide) rfl (Nat.le_of_ble_eq_true rfl) ?_
  intro p e s m args below meth c A Q C hret
  unfold wp_X10_isLeftOut at hw
  have C : Cx p s m args c cX10_isLeftOut 5 wsX10_isLeftOut RX10 D cA A := C
  have hin : ∀ w ∈ u_ws RX10 TX10 33, w ∈ wsX10_isLeftOut := fun w h => List.mem_cons_of_mem _ (List.mem_append_right _ h)
  have f16 : Cond.fieldLink RX10 16 "CreepBoardModel" "kind" "[I" ∈ wsX10_isLeftOut := by decide +kernel
  have f35 : Cond.fieldLink RX10 35 "CreepBoardModel" "isRead" "[Z" ∈ wsX10_isLeftOut := by decide +kernel
  change KK p l e (mkR 1 22) s m args below meth c 5 D cA ad A Q 0 [(0, .ref (ad 40 0)), (1, .int a1), (2, .int a2)] [] S
  refine k_iconst (v := 0) (pc := 0) C dX10_isLeftOut_0 (by decide) ?_
  refine k_istore_n (pc := 1) C dX10_isLeftOut_1 rfl (by decide) [(3, .int 0), (0, .ref (ad 40 0)), (1, .int a1), (2, .int a2)] rfl ?_
  refine k_iconst (v := 0) (pc := 2) C dX10_isLeftOut_2 (by decide) ?_
  refine k_istore (pc := 3) C dX10_isLeftOut_3 (by decide) [(4, .int 0), (3, .int 0), (0, .ref (ad 40 0)), (1, .int a1), (2, .int a2)] rfl ?_
  refine k_sub [2, 3, 4, 1, 0] [(0, .ref (ad 40 0)), (1, .int a1), (2, .int a2), (3, .int 0), (4, .int 0)] rfl ?_
  obtain ⟨I_1, μ_1, hi_1, hw⟩ := hw
  have L_1 : ∀ (n : Nat) (v3_1 : Int32) (v4_1 : Int32) (S_1 : Sg), μ_1 v3_1 v4_1 S_1 < n → I_1 v3_1 v4_1 S_1 → KK p l e (mkR 1 22) s m args below meth c 5 D cA ad A Q 5 [(0, .ref (ad 40 0)), (1, .int a1), (2, .int a2), (3, .int v3_1), (4, .int v4_1)] [] S_1 := by
    intro n
    induction n with
    | zero => intro v3_1 v4_1 S_1 h; exact absurd h (Nat.not_lt_zero _)
    | succ n ih_1 =>
      intro v3_1 v4_1 S_1 hn_1 hi_1
      have hw := hw v3_1 v4_1 S_1 hi_1
      refine k_iload (pc := 5) C dX10_isLeftOut_5 4 rfl ?_
      refine k_iload_n (pc := 7) C dX10_isLeftOut_7 2 rfl rfl ?_
      refine k_icmp_ge (pc := 8) C 40 dX10_isLeftOut_8 (by decide) (fun q_2 => ?_) (fun q_2 => ?_)
      · have hw := hw.1 q_2
        refine k_aload_n (pc := 40) C dX10_isLeftOut_40 0 rfl rfl ?_
        refine k_get (j := 2) (pc := 41) C hin hm_40 (cel_40 cA ad S_1 0) rfl (by decide) f16 (fun _ h => h) rfl dX10_isLeftOut_41 ?_
        refine k_iload_n (pc := 44) C dX10_isLeftOut_44 1 rfl rfl ?_
        obtain ⟨h_3, hw⟩ := hw
        refine k_iald (pc := 45) C hm_41 (cel_41 cA ad S_1 0) h_3 dX10_isLeftOut_45 ?_
        refine k_iconst (v := 2) (pc := 46) C dX10_isLeftOut_46 (by decide) ?_
        refine k_icmp_ne (pc := 47) C 59 dX10_isLeftOut_47 (by decide) (fun q_4 => ?_) (fun q_4 => ?_)
        · have hw := hw.1 q_4
          refine k_iconst (v := 0) (pc := 59) C dX10_isLeftOut_59 (by decide) ?_
          exact hret _ _ _ _ dX10_isLeftOut_60 rfl hw
        · have hw := hw.2 q_4
          refine k_iload_n (pc := 50) C dX10_isLeftOut_50 3 rfl rfl ?_
          refine k_iconst (v := 2) (pc := 51) C dX10_isLeftOut_51 (by decide) ?_
          refine k_icmp_ge (pc := 52) C 59 dX10_isLeftOut_52 (by decide) (fun q_5 => ?_) (fun q_5 => ?_)
          · have hw := hw.1 q_5
            refine k_iconst (v := 0) (pc := 59) C dX10_isLeftOut_59 (by decide) ?_
            exact hret _ _ _ _ dX10_isLeftOut_60 rfl hw
          · have hw := hw.2 q_5
            refine k_iconst (v := 1) (pc := 55) C dX10_isLeftOut_55 (by decide) ?_
            refine k_goto (pc := 56) C 60 dX10_isLeftOut_56 (by decide) ?_
            exact hret _ _ _ _ dX10_isLeftOut_60 rfl hw
      · have hw := hw.2 q_2
        refine k_iload_n (pc := 11) C dX10_isLeftOut_11 3 rfl rfl ?_
        refine k_aload_n (pc := 12) C dX10_isLeftOut_12 0 rfl rfl ?_
        refine k_get (j := 8) (pc := 13) C hin hm_40 (cel_40 cA ad S_1 0) rfl (by decide) f35 (fun _ h => h) rfl dX10_isLeftOut_13 ?_
        refine k_aload_n (pc := 16) C dX10_isLeftOut_16 0 rfl rfl ?_
        refine k_iload_n (pc := 17) C dX10_isLeftOut_17 1 rfl rfl ?_
        refine k_iload (pc := 18) C dX10_isLeftOut_18 4 rfl ?_
        refine k_callVi (pc := 20) C (ct_X10_spot l D cA ad a1 v4_1 S_1 _ hw) (cwV 2 C.2.2.2.2.1 gX10_isLeftOut_X10_spot rfl rfl rfl (by decide +kernel) ⟨Nat.le_of_ble_eq_true rfl, Nat.le_of_ble_eq_true rfl⟩) hm_40 (cel_40 cA ad S_1 0) rfl rfl rfl rfl (Nat.le_of_ble_eq_true rfl) dX10_isLeftOut_20 (fun r_6 S_6 hw => ?_)
        obtain ⟨h_7, hw⟩ := hw
        refine k_zald (pc := 23) C hm_47 (cel_47 cA ad S_6 0) h_7 dX10_isLeftOut_23 ?_
        refine k_if_eq (pc := 24) C 31 dX10_isLeftOut_24 (by decide) (fun q_8 => ?_) (fun q_8 => ?_)
        · have hw := hw.1 q_8
          refine k_iconst (v := 0) (pc := 31) C dX10_isLeftOut_31 (by decide) ?_
          refine k_iadd (pc := 32) C dX10_isLeftOut_32 ?_
          refine k_topi (fun x3_9 ex3_9 => ?_)
          have hw := hw x3_9 ex3_9
          refine k_istore_n (pc := 33) C dX10_isLeftOut_33 rfl (by decide) [(3, .int x3_9), (0, .ref (ad 40 0)), (1, .int a1), (2, .int a2), (4, .int v4_1)] rfl ?_
          obtain ⟨x4_10, ex4_10⟩ : ∃ y : Int32, y = v4_1 + 1 := ⟨_, rfl⟩
          have hw := hw x4_10 ex4_10
          refine k_iinc (v := x4_10) (j := 4) (pc := 34) C dX10_isLeftOut_34 rfl (by rw [ex4_10]; rfl) (by decide) [(4, .int x4_10), (3, .int x3_9), (0, .ref (ad 40 0)), (1, .int a1), (2, .int a2)] rfl ?_
          refine k_goto (pc := 37) C 5 dX10_isLeftOut_37 (by decide) ?_
          refine k_sub [2, 3, 4, 1, 0] [(0, .ref (ad 40 0)), (1, .int a1), (2, .int a2), (3, .int x3_9), (4, .int x4_10)] rfl ?_
          exact ih_1 x3_9 x4_10 S_6 (Nat.lt_of_lt_of_le hw.2 (Nat.le_of_lt_succ hn_1)) hw.1
        · have hw := hw.2 q_8
          refine k_iconst (v := 1) (pc := 27) C dX10_isLeftOut_27 (by decide) ?_
          refine k_goto (pc := 28) C 32 dX10_isLeftOut_28 (by decide) ?_
          refine k_iadd (pc := 32) C dX10_isLeftOut_32 ?_
          refine k_topi (fun x3_11 ex3_11 => ?_)
          have hw := hw x3_11 ex3_11
          refine k_istore_n (pc := 33) C dX10_isLeftOut_33 rfl (by decide) [(3, .int x3_11), (0, .ref (ad 40 0)), (1, .int a1), (2, .int a2), (4, .int v4_1)] rfl ?_
          obtain ⟨x4_12, ex4_12⟩ : ∃ y : Int32, y = v4_1 + 1 := ⟨_, rfl⟩
          have hw := hw x4_12 ex4_12
          refine k_iinc (v := x4_12) (j := 4) (pc := 34) C dX10_isLeftOut_34 rfl (by rw [ex4_12]; rfl) (by decide) [(4, .int x4_12), (3, .int x3_11), (0, .ref (ad 40 0)), (1, .int a1), (2, .int a2)] rfl ?_
          refine k_goto (pc := 37) C 5 dX10_isLeftOut_37 (by decide) ?_
          refine k_sub [2, 3, 4, 1, 0] [(0, .ref (ad 40 0)), (1, .int a1), (2, .int a2), (3, .int x3_11), (4, .int x4_12)] rfl ?_
          exact ih_1 x3_11 x4_12 S_6 (Nat.lt_of_lt_of_le hw.2 (Nat.le_of_lt_succ hn_1)) hw.1
  exact L_1 (μ_1 0 0 S + 1) 0 0 S (Nat.lt_succ_self _) hi_1
def wp_X10_isCleared (a1 : Int32) (a2 : Int32) (S : Sg) (Q : Int32 → Sg → Prop) : Prop :=
  wp_X10_spot a1 a2 S (fun r_1 S_1 => (vp_in r_1 400 ∧ (((gA S_1 47 0 (Int32.toNatClampNeg r_1)) = 0 → Q 0 S_1) ∧ (¬ (gA S_1 47 0 (Int32.toNatClampNeg r_1)) = 0 → wp_X10_isLeftOut a1 a2 S_1 (fun r_4 S_4 => ((¬ r_4 = 0 → Q 0 S_4) ∧ (r_4 = 0 → Q 1 S_4)))))))
set_option maxHeartbeats 4000000 in
set_option maxRecDepth 100000 in
theorem ct_X10_isCleared (l : Launch) (D : va_G) (cA : Nat → ClassId) (ad : Nat → Nat → Nat) (a1 : Int32) (a2 : Int32) (S : Sg) (Q : Int32 → Sg → Prop) (hw : wp_X10_isCleared a1 a2 S Q) : CtI l yX10_isCleared wsX10_isCleared (mkR 2 46) D cA ad [.ref (ad 40 0), .int a1, .int a2] S Q := by
  refine ct_ofZ (cc := cX10_isCleared) (nL := 3) (by decide) rfl (Nat.le_of_ble_eq_true rfl) ?_
  intro p e s m args below meth c A Q C hret
  unfold wp_X10_isCleared at hw
  have C : Cx p s m args c cX10_isCleared 3 wsX10_isCleared RX10 D cA A := C
  have hin : ∀ w ∈ u_ws RX10 TX10 33, w ∈ wsX10_isCleared := fun w h => List.mem_cons_of_mem _ (List.mem_append_right _ h)
  have f35 : Cond.fieldLink RX10 35 "CreepBoardModel" "isRead" "[Z" ∈ wsX10_isCleared := by decide +kernel
  change KK p l e (mkR 2 46) s m args below meth c 3 D cA ad A Q 0 [(0, .ref (ad 40 0)), (1, .int a1), (2, .int a2)] [] S
  refine k_aload_n (pc := 0) C dX10_isCleared_0 0 rfl rfl ?_
  refine k_get (j := 8) (pc := 1) C hin hm_40 (cel_40 cA ad S 0) rfl (by decide) f35 (fun _ h => h) rfl dX10_isCleared_1 ?_
  refine k_aload_n (pc := 4) C dX10_isCleared_4 0 rfl rfl ?_
  refine k_iload_n (pc := 5) C dX10_isCleared_5 1 rfl rfl ?_
  refine k_iload_n (pc := 6) C dX10_isCleared_6 2 rfl rfl ?_
  refine k_callVi (pc := 7) C (ct_X10_spot l D cA ad a1 a2 S _ hw) (cwV 2 C.2.2.2.2.1 gX10_isCleared_X10_spot rfl rfl rfl (by decide +kernel) ⟨Nat.le_of_ble_eq_true rfl, Nat.le_of_ble_eq_true rfl⟩) hm_40 (cel_40 cA ad S 0) rfl rfl rfl rfl (Nat.le_of_ble_eq_true rfl) dX10_isCleared_7 (fun r_1 S_1 hw => ?_)
  obtain ⟨h_2, hw⟩ := hw
  refine k_zald (pc := 10) C hm_47 (cel_47 cA ad S_1 0) h_2 dX10_isCleared_10 ?_
  refine k_if_eq (pc := 11) C 27 dX10_isCleared_11 (by decide) (fun q_3 => ?_) (fun q_3 => ?_)
  · have hw := hw.1 q_3
    refine k_iconst (v := 0) (pc := 27) C dX10_isCleared_27 (by decide) ?_
    exact hret _ _ _ _ dX10_isCleared_28 rfl hw
  · have hw := hw.2 q_3
    refine k_aload_n (pc := 14) C dX10_isCleared_14 0 rfl rfl ?_
    refine k_iload_n (pc := 15) C dX10_isCleared_15 1 rfl rfl ?_
    refine k_iload_n (pc := 16) C dX10_isCleared_16 2 rfl rfl ?_
    refine k_callVi (pc := 17) C (ct_X10_isLeftOut l D cA ad a1 a2 S_1 _ hw) (cwV 2 C.2.2.2.2.1 gX10_isCleared_X10_isLeftOut rfl rfl rfl (by decide +kernel) ⟨Nat.le_of_ble_eq_true rfl, Nat.le_of_ble_eq_true rfl⟩) hm_40 (cel_40 cA ad S_1 0) rfl rfl rfl rfl (Nat.le_of_ble_eq_true rfl) dX10_isCleared_17 (fun r_4 S_4 hw => ?_)
    refine k_if_ne (pc := 20) C 27 dX10_isCleared_20 (by decide) (fun q_5 => ?_) (fun q_5 => ?_)
    · have hw := hw.1 q_5
      refine k_iconst (v := 0) (pc := 27) C dX10_isCleared_27 (by decide) ?_
      exact hret _ _ _ _ dX10_isCleared_28 rfl hw
    · have hw := hw.2 q_5
      refine k_iconst (v := 1) (pc := 23) C dX10_isCleared_23 (by decide) ?_
      refine k_goto (pc := 24) C 28 dX10_isCleared_24 (by decide) ?_
      exact hret _ _ _ _ dX10_isCleared_28 rfl hw
def wp_X10_withoutSteps (a1 : Int32) (a2 : Int32) (a3 : Int32) (S : Sg) (Q : Int64 → Sg → Prop) : Prop :=
  wp_X10_spot a1 a2 S (fun r_1 S_1 => (vp_in ((2 * r_1) + a3) 800 ∧ (∀ x4_3 : Int64, x4_3 = (Int32.toInt64 (gA S_1 48 0 (Int32.toNatClampNeg ((2 * r_1) + a3)))) → (∀ x6_4 : Int32, x6_4 = (10 * a1) → (∃ (I_5 : Int64 → Int32 → Sg → Prop) (μ_5 : Int64 → Int32 → Sg → Nat), I_5 x4_3 x6_4 S_1 ∧ ∀ (v4_5 : Int64) (v6_5 : Int32) (S_5 : Sg), I_5 v4_5 v6_5 S_5 → (vp_in a1 10 ∧ ((((10 * a1) + (gA S_5 46 0 (Int32.toNatClampNeg a1))) ≤ v6_5 → Q v4_5 S_5) ∧ (¬ ((10 * a1) + (gA S_5 46 0 (Int32.toNatClampNeg a1))) ≤ v6_5 → (vp_in v6_5 100 ∧ ((a2 < (gA S_5 49 0 (Int32.toNatClampNeg v6_5)) → (∀ x4_10 : Int64, x4_10 = (v4_5 - 0) → (∀ x6_11 : Int32, x6_11 = v6_5 + 1 → (I_5 x4_10 x6_11 S_5 ∧ μ_5 x4_10 x6_11 S_5 < μ_5 v4_5 v6_5 S_5)))) ∧ (¬ a2 < (gA S_5 49 0 (Int32.toNatClampNeg v6_5)) → (vp_in ((2 * v6_5) + a3) 200 ∧ (∀ x4_13 : Int64, x4_13 = (v4_5 - (Int32.toInt64 (gA S_5 50 0 (Int32.toNatClampNeg ((2 * v6_5) + a3))))) → (∀ x6_14 : Int32, x6_14 = v6_5 + 1 → (I_5 x4_13 x6_14 S_5 ∧ μ_5 x4_13 x6_14 S_5 < μ_5 v4_5 v6_5 S_5)))))))))))))))
set_option maxHeartbeats 4000000 in
set_option maxRecDepth 100000 in
theorem ct_X10_withoutSteps (l : Launch) (D : va_G) (cA : Nat → ClassId) (ad : Nat → Nat → Nat) (a1 : Int32) (a2 : Int32) (a3 : Int32) (S : Sg) (Q : Int64 → Sg → Prop) (hw : wp_X10_withoutSteps a1 a2 a3 S Q) : CtL l yX10_withoutSteps wsX10_withoutSteps (mkR 1 22) D cA ad [.ref (ad 40 0), .int a1, .int a2, .int a3] S Q := by
  refine ct_ofL (cc := cX10_withoutSteps) (nL := 7) (by decide) rfl (Nat.le_of_ble_eq_true rfl) ?_
  intro p e s m args below meth c A Q C hret
  unfold wp_X10_withoutSteps at hw
  have C : Cx p s m args c cX10_withoutSteps 7 wsX10_withoutSteps RX10 D cA A := C
  have hin : ∀ w ∈ u_ws RX10 TX10 33, w ∈ wsX10_withoutSteps := fun w h => List.mem_cons_of_mem _ (List.mem_append_right _ h)
  have f39 : Cond.fieldLink RX10 39 "CreepBoardModel" "reading" "[I" ∈ wsX10_withoutSteps := by decide +kernel
  have f32 : Cond.fieldLink RX10 32 "CreepBoardModel" "steps" "[I" ∈ wsX10_withoutSteps := by decide +kernel
  have f42 : Cond.fieldLink RX10 42 "CreepBoardModel" "stepAt" "[I" ∈ wsX10_withoutSteps := by decide +kernel
  have f45 : Cond.fieldLink RX10 45 "CreepBoardModel" "step" "[I" ∈ wsX10_withoutSteps := by decide +kernel
  change KK p l e (mkR 1 22) s m args below meth c 7 D cA ad A Q 0 [(0, .ref (ad 40 0)), (1, .int a1), (2, .int a2), (3, .int a3)] [] S
  refine k_aload_n (pc := 0) C dX10_withoutSteps_0 0 rfl rfl ?_
  refine k_get (j := 9) (pc := 1) C hin hm_40 (cel_40 cA ad S 0) rfl (by decide) f39 (fun _ h => h) rfl dX10_withoutSteps_1 ?_
  refine k_iconst (v := 2) (pc := 4) C dX10_withoutSteps_4 (by decide) ?_
  refine k_aload_n (pc := 5) C dX10_withoutSteps_5 0 rfl rfl ?_
  refine k_iload_n (pc := 6) C dX10_withoutSteps_6 1 rfl rfl ?_
  refine k_iload_n (pc := 7) C dX10_withoutSteps_7 2 rfl rfl ?_
  refine k_callVi (pc := 8) C (ct_X10_spot l D cA ad a1 a2 S _ hw) (cwV 2 C.2.2.2.2.1 gX10_withoutSteps_X10_spot rfl rfl rfl (by decide +kernel) ⟨Nat.le_of_ble_eq_true rfl, Nat.le_of_ble_eq_true rfl⟩) hm_40 (cel_40 cA ad S 0) rfl rfl rfl rfl (Nat.le_of_ble_eq_true rfl) dX10_withoutSteps_8 (fun r_1 S_1 hw => ?_)
  refine k_imul (pc := 11) C dX10_withoutSteps_11 ?_
  refine k_iload_n (pc := 12) C dX10_withoutSteps_12 3 rfl rfl ?_
  refine k_iadd (pc := 13) C dX10_withoutSteps_13 ?_
  obtain ⟨h_2, hw⟩ := hw
  refine k_iald (pc := 14) C hm_48 (cel_48 cA ad S_1 0) h_2 dX10_withoutSteps_14 ?_
  refine k_i2l (pc := 15) C dX10_withoutSteps_15 ?_
  refine k_topl (fun x4_3 ex4_3 => ?_)
  have hw := hw x4_3 ex4_3
  refine k_lstore (pc := 16) C dX10_withoutSteps_16 (by decide) [(4, .long x4_3), (0, .ref (ad 40 0)), (1, .int a1), (2, .int a2), (3, .int a3)] rfl ?_
  refine k_bipush (v := 10) (pc := 18) C dX10_withoutSteps_18 (by decide) ?_
  refine k_iload_n (pc := 20) C dX10_withoutSteps_20 2 rfl rfl ?_
  refine k_imul (pc := 21) C dX10_withoutSteps_21 ?_
  refine k_topi (fun x6_4 ex6_4 => ?_)
  have hw := hw x6_4 ex6_4
  refine k_istore (pc := 22) C dX10_withoutSteps_22 (by decide) [(6, .int x6_4), (4, .long x4_3), (0, .ref (ad 40 0)), (1, .int a1), (2, .int a2), (3, .int a3)] rfl ?_
  refine k_sub [2, 3, 4, 5, 1, 0] [(0, .ref (ad 40 0)), (1, .int a1), (2, .int a2), (3, .int a3), (4, .long x4_3), (6, .int x6_4)] rfl ?_
  obtain ⟨I_5, μ_5, hi_5, hw⟩ := hw
  have L_5 : ∀ (n : Nat) (v4_5 : Int64) (v6_5 : Int32) (S_5 : Sg), μ_5 v4_5 v6_5 S_5 < n → I_5 v4_5 v6_5 S_5 → KK p l e (mkR 1 22) s m args below meth c 7 D cA ad A Q 24 [(0, .ref (ad 40 0)), (1, .int a1), (2, .int a2), (3, .int a3), (4, .long v4_5), (6, .int v6_5)] [] S_5 := by
    intro n
    induction n with
    | zero => intro v4_5 v6_5 S_5 h; exact absurd h (Nat.not_lt_zero _)
    | succ n ih_5 =>
      intro v4_5 v6_5 S_5 hn_5 hi_5
      have hw := hw v4_5 v6_5 S_5 hi_5
      refine k_iload (pc := 24) C dX10_withoutSteps_24 5 rfl ?_
      refine k_bipush (v := 10) (pc := 26) C dX10_withoutSteps_26 (by decide) ?_
      refine k_iload_n (pc := 28) C dX10_withoutSteps_28 1 rfl rfl ?_
      refine k_imul (pc := 29) C dX10_withoutSteps_29 ?_
      refine k_aload_n (pc := 30) C dX10_withoutSteps_30 0 rfl rfl ?_
      refine k_get (j := 7) (pc := 31) C hin hm_40 (cel_40 cA ad S_5 0) rfl (by decide) f32 (fun _ h => h) rfl dX10_withoutSteps_31 ?_
      refine k_iload_n (pc := 34) C dX10_withoutSteps_34 1 rfl rfl ?_
      obtain ⟨h_6, hw⟩ := hw
      refine k_iald (pc := 35) C hm_46 (cel_46 cA ad S_5 0) h_6 dX10_withoutSteps_35 ?_
      refine k_iadd (pc := 36) C dX10_withoutSteps_36 ?_
      refine k_icmp_ge (pc := 37) C 78 dX10_withoutSteps_37 (by decide) (fun q_7 => ?_) (fun q_7 => ?_)
      · have hw := hw.1 q_7
        refine k_lload (pc := 78) C dX10_withoutSteps_78 4 rfl ?_
        exact hret _ _ _ _ dX10_withoutSteps_80 hw
      · have hw := hw.2 q_7
        refine k_lload (pc := 40) C dX10_withoutSteps_40 4 rfl ?_
        refine k_aload_n (pc := 42) C dX10_withoutSteps_42 0 rfl rfl ?_
        refine k_get (j := 10) (pc := 43) C hin hm_40 (cel_40 cA ad S_5 0) rfl (by decide) f42 (fun _ h => h) rfl dX10_withoutSteps_43 ?_
        refine k_iload (pc := 46) C dX10_withoutSteps_46 5 rfl ?_
        obtain ⟨h_8, hw⟩ := hw
        refine k_iald (pc := 48) C hm_49 (cel_49 cA ad S_5 0) h_8 dX10_withoutSteps_48 ?_
        refine k_iload_n (pc := 49) C dX10_withoutSteps_49 2 rfl rfl ?_
        refine k_icmp_gt (pc := 50) C 68 dX10_withoutSteps_50 (by decide) (fun q_9 => ?_) (fun q_9 => ?_)
        · have hw := hw.1 q_9
          refine k_lconst (v := 0) (pc := 68) C dX10_withoutSteps_68 (by decide) ?_
          refine k_lsub (pc := 69) C dX10_withoutSteps_69 ?_
          refine k_topl (fun x4_10 ex4_10 => ?_)
          have hw := hw x4_10 ex4_10
          refine k_lstore (pc := 70) C dX10_withoutSteps_70 (by decide) [(4, .long x4_10), (0, .ref (ad 40 0)), (1, .int a1), (2, .int a2), (3, .int a3), (6, .int v6_5)] rfl ?_
          obtain ⟨x6_11, ex6_11⟩ : ∃ y : Int32, y = v6_5 + 1 := ⟨_, rfl⟩
          have hw := hw x6_11 ex6_11
          refine k_iinc (v := x6_11) (j := 5) (pc := 72) C dX10_withoutSteps_72 rfl (by rw [ex6_11]; rfl) (by decide) [(6, .int x6_11), (4, .long x4_10), (0, .ref (ad 40 0)), (1, .int a1), (2, .int a2), (3, .int a3)] rfl ?_
          refine k_goto (pc := 75) C 24 dX10_withoutSteps_75 (by decide) ?_
          refine k_sub [2, 3, 4, 5, 1, 0] [(0, .ref (ad 40 0)), (1, .int a1), (2, .int a2), (3, .int a3), (4, .long x4_10), (6, .int x6_11)] rfl ?_
          exact ih_5 x4_10 x6_11 S_5 (Nat.lt_of_lt_of_le hw.2 (Nat.le_of_lt_succ hn_5)) hw.1
        · have hw := hw.2 q_9
          refine k_aload_n (pc := 53) C dX10_withoutSteps_53 0 rfl rfl ?_
          refine k_get (j := 11) (pc := 54) C hin hm_40 (cel_40 cA ad S_5 0) rfl (by decide) f45 (fun _ h => h) rfl dX10_withoutSteps_54 ?_
          refine k_iconst (v := 2) (pc := 57) C dX10_withoutSteps_57 (by decide) ?_
          refine k_iload (pc := 58) C dX10_withoutSteps_58 5 rfl ?_
          refine k_imul (pc := 60) C dX10_withoutSteps_60 ?_
          refine k_iload_n (pc := 61) C dX10_withoutSteps_61 3 rfl rfl ?_
          refine k_iadd (pc := 62) C dX10_withoutSteps_62 ?_
          obtain ⟨h_12, hw⟩ := hw
          refine k_iald (pc := 63) C hm_50 (cel_50 cA ad S_5 0) h_12 dX10_withoutSteps_63 ?_
          refine k_i2l (pc := 64) C dX10_withoutSteps_64 ?_
          refine k_goto (pc := 65) C 69 dX10_withoutSteps_65 (by decide) ?_
          refine k_lsub (pc := 69) C dX10_withoutSteps_69 ?_
          refine k_topl (fun x4_13 ex4_13 => ?_)
          have hw := hw x4_13 ex4_13
          refine k_lstore (pc := 70) C dX10_withoutSteps_70 (by decide) [(4, .long x4_13), (0, .ref (ad 40 0)), (1, .int a1), (2, .int a2), (3, .int a3), (6, .int v6_5)] rfl ?_
          obtain ⟨x6_14, ex6_14⟩ : ∃ y : Int32, y = v6_5 + 1 := ⟨_, rfl⟩
          have hw := hw x6_14 ex6_14
          refine k_iinc (v := x6_14) (j := 5) (pc := 72) C dX10_withoutSteps_72 rfl (by rw [ex6_14]; rfl) (by decide) [(6, .int x6_14), (4, .long x4_13), (0, .ref (ad 40 0)), (1, .int a1), (2, .int a2), (3, .int a3)] rfl ?_
          refine k_goto (pc := 75) C 24 dX10_withoutSteps_75 (by decide) ?_
          refine k_sub [2, 3, 4, 5, 1, 0] [(0, .ref (ad 40 0)), (1, .int a1), (2, .int a2), (3, .int a3), (4, .long x4_13), (6, .int x6_14)] rfl ?_
          exact ih_5 x4_13 x6_14 S_5 (Nat.lt_of_lt_of_le hw.2 (Nat.le_of_lt_succ hn_5)) hw.1
  exact L_5 (μ_5 x4_3 x6_4 S_1 + 1) x4_3 x6_4 S_1 (Nat.lt_succ_self _) hi_5
def wp_X10_meanOf (a1 : Int32) (a2 : Int32) (a3 : Int32) (S : Sg) (Q : Int64 → Sg → Prop) : Prop :=
  (∃ (I_1 : Int64 → Int32 → Int32 → Sg → Prop) (μ_1 : Int64 → Int32 → Int32 → Sg → Nat), I_1 0 0 a2 S ∧ ∀ (v4_1 : Int64) (v6_1 : Int32) (v7_1 : Int32) (S_1 : Sg), I_1 v4_1 v6_1 v7_1 S_1 → ((40 ≤ v7_1 → ((¬ (Int32.toInt64 v6_1) = 0) ∧ Q (v4_1 / (Int32.toInt64 v6_1)) S_1)) ∧ (¬ 40 ≤ v7_1 → wp_X10_spot a1 v7_1 S_1 (fun r_4 S_4 => (vp_in r_4 400 ∧ ((¬ (gA S_4 47 0 (Int32.toNatClampNeg r_4)) = 0 → wp_X10_spot a1 v7_1 S_4 (fun r_7 S_7 => (vp_in ((2 * r_7) + a3) 800 ∧ (∀ x4_9 : Int64, x4_9 = (v4_1 + (Int32.toInt64 (gA S_7 48 0 (Int32.toNatClampNeg ((2 * r_7) + a3))))) → (∀ x6_10 : Int32, x6_10 = v6_1 + 1 → (∀ x7_11 : Int32, x7_11 = v7_1 + 4 → (I_1 x4_9 x6_10 x7_11 S_7 ∧ μ_1 x4_9 x6_10 x7_11 S_7 < μ_1 v4_1 v6_1 v7_1 S_1))))))) ∧ ((gA S_4 47 0 (Int32.toNatClampNeg r_4)) = 0 → (∀ x7_12 : Int32, x7_12 = v7_1 + 4 → (I_1 v4_1 v6_1 x7_12 S_4 ∧ μ_1 v4_1 v6_1 x7_12 S_4 < μ_1 v4_1 v6_1 v7_1 S_1)))))))))
set_option maxHeartbeats 4000000 in
set_option maxRecDepth 100000 in
theorem ct_X10_meanOf (l : Launch) (D : va_G) (cA : Nat → ClassId) (ad : Nat → Nat → Nat) (a1 : Int32) (a2 : Int32) (a3 : Int32) (S : Sg) (Q : Int64 → Sg → Prop) (hw : wp_X10_meanOf a1 a2 a3 S Q) : CtL l yX10_meanOf wsX10_meanOf (mkR 1 22) D cA ad [.ref (ad 40 0), .int a1, .int a2, .int a3] S Q := by
  refine ct_ofL (cc := cX10_meanOf) (nL := 8) (by decide) rfl (Nat.le_of_ble_eq_true rfl) ?_
  intro p e s m args below meth c A Q C hret
  unfold wp_X10_meanOf at hw
  have C : Cx p s m args c cX10_meanOf 8 wsX10_meanOf RX10 D cA A := C
  have hin : ∀ w ∈ u_ws RX10 TX10 33, w ∈ wsX10_meanOf := fun w h => List.mem_cons_of_mem _ (List.mem_append_right _ h)
  have f35 : Cond.fieldLink RX10 35 "CreepBoardModel" "isRead" "[Z" ∈ wsX10_meanOf := by decide +kernel
  have f39 : Cond.fieldLink RX10 39 "CreepBoardModel" "reading" "[I" ∈ wsX10_meanOf := by decide +kernel
  change KK p l e (mkR 1 22) s m args below meth c 8 D cA ad A Q 0 [(0, .ref (ad 40 0)), (1, .int a1), (2, .int a2), (3, .int a3)] [] S
  refine k_lconst (v := 0) (pc := 0) C dX10_meanOf_0 (by decide) ?_
  refine k_lstore (pc := 1) C dX10_meanOf_1 (by decide) [(4, .long 0), (0, .ref (ad 40 0)), (1, .int a1), (2, .int a2), (3, .int a3)] rfl ?_
  refine k_iconst (v := 0) (pc := 3) C dX10_meanOf_3 (by decide) ?_
  refine k_istore (pc := 4) C dX10_meanOf_4 (by decide) [(6, .int 0), (4, .long 0), (0, .ref (ad 40 0)), (1, .int a1), (2, .int a2), (3, .int a3)] rfl ?_
  refine k_iload_n (pc := 6) C dX10_meanOf_6 4 rfl rfl ?_
  refine k_istore (pc := 7) C dX10_meanOf_7 (by decide) [(7, .int a2), (6, .int 0), (4, .long 0), (0, .ref (ad 40 0)), (1, .int a1), (2, .int a2), (3, .int a3)] rfl ?_
  refine k_sub [3, 4, 6, 2, 1, 0] [(0, .ref (ad 40 0)), (1, .int a1), (3, .int a3), (4, .long 0), (6, .int 0), (7, .int a2)] rfl ?_
  obtain ⟨I_1, μ_1, hi_1, hw⟩ := hw
  have L_1 : ∀ (n : Nat) (v4_1 : Int64) (v6_1 : Int32) (v7_1 : Int32) (S_1 : Sg), μ_1 v4_1 v6_1 v7_1 S_1 < n → I_1 v4_1 v6_1 v7_1 S_1 → KK p l e (mkR 1 22) s m args below meth c 8 D cA ad A Q 9 [(0, .ref (ad 40 0)), (1, .int a1), (3, .int a3), (4, .long v4_1), (6, .int v6_1), (7, .int v7_1)] [] S_1 := by
    intro n
    induction n with
    | zero => intro v4_1 v6_1 v7_1 S_1 h; exact absurd h (Nat.not_lt_zero _)
    | succ n ih_1 =>
      intro v4_1 v6_1 v7_1 S_1 hn_1 hi_1
      have hw := hw v4_1 v6_1 v7_1 S_1 hi_1
      refine k_iload (pc := 9) C dX10_meanOf_9 5 rfl ?_
      refine k_bipush (v := 40) (pc := 11) C dX10_meanOf_11 (by decide) ?_
      refine k_icmp_ge (pc := 13) C 65 dX10_meanOf_13 (by decide) (fun q_2 => ?_) (fun q_2 => ?_)
      · have hw := hw.1 q_2
        refine k_lload (pc := 65) C dX10_meanOf_65 3 rfl ?_
        refine k_iload (pc := 67) C dX10_meanOf_67 4 rfl ?_
        refine k_i2l (pc := 69) C dX10_meanOf_69 ?_
        obtain ⟨h_3, hw⟩ := hw
        refine k_ldiv (pc := 70) C dX10_meanOf_70 h_3 ?_
        exact hret _ _ _ _ dX10_meanOf_71 hw
      · have hw := hw.2 q_2
        refine k_aload_n (pc := 16) C dX10_meanOf_16 0 rfl rfl ?_
        refine k_get (j := 8) (pc := 17) C hin hm_40 (cel_40 cA ad S_1 0) rfl (by decide) f35 (fun _ h => h) rfl dX10_meanOf_17 ?_
        refine k_aload_n (pc := 20) C dX10_meanOf_20 0 rfl rfl ?_
        refine k_iload_n (pc := 21) C dX10_meanOf_21 1 rfl rfl ?_
        refine k_iload (pc := 22) C dX10_meanOf_22 5 rfl ?_
        refine k_callVi (pc := 24) C (ct_X10_spot l D cA ad a1 v7_1 S_1 _ hw) (cwV 2 C.2.2.2.2.1 gX10_meanOf_X10_spot rfl rfl rfl (by decide +kernel) ⟨Nat.le_of_ble_eq_true rfl, Nat.le_of_ble_eq_true rfl⟩) hm_40 (cel_40 cA ad S_1 0) rfl rfl rfl rfl (Nat.le_of_ble_eq_true rfl) dX10_meanOf_24 (fun r_4 S_4 hw => ?_)
        obtain ⟨h_5, hw⟩ := hw
        refine k_zald (pc := 27) C hm_47 (cel_47 cA ad S_4 0) h_5 dX10_meanOf_27 ?_
        refine k_if_ne (pc := 28) C 34 dX10_meanOf_28 (by decide) (fun q_6 => ?_) (fun q_6 => ?_)
        · have hw := hw.1 q_6
          refine k_lload (pc := 34) C dX10_meanOf_34 3 rfl ?_
          refine k_aload_n (pc := 36) C dX10_meanOf_36 0 rfl rfl ?_
          refine k_get (j := 9) (pc := 37) C hin hm_40 (cel_40 cA ad S_4 0) rfl (by decide) f39 (fun _ h => h) rfl dX10_meanOf_37 ?_
          refine k_iconst (v := 2) (pc := 40) C dX10_meanOf_40 (by decide) ?_
          refine k_aload_n (pc := 41) C dX10_meanOf_41 0 rfl rfl ?_
          refine k_iload_n (pc := 42) C dX10_meanOf_42 1 rfl rfl ?_
          refine k_iload (pc := 43) C dX10_meanOf_43 5 rfl ?_
          refine k_callVi (pc := 45) C (ct_X10_spot l D cA ad a1 v7_1 S_4 _ hw) (cwV 2 C.2.2.2.2.1 gX10_meanOf_X10_spot rfl rfl rfl (by decide +kernel) ⟨Nat.le_of_ble_eq_true rfl, Nat.le_of_ble_eq_true rfl⟩) hm_40 (cel_40 cA ad S_4 0) rfl rfl rfl rfl (Nat.le_of_ble_eq_true rfl) dX10_meanOf_45 (fun r_7 S_7 hw => ?_)
          refine k_imul (pc := 48) C dX10_meanOf_48 ?_
          refine k_iload_n (pc := 49) C dX10_meanOf_49 2 rfl rfl ?_
          refine k_iadd (pc := 50) C dX10_meanOf_50 ?_
          obtain ⟨h_8, hw⟩ := hw
          refine k_iald (pc := 51) C hm_48 (cel_48 cA ad S_7 0) h_8 dX10_meanOf_51 ?_
          refine k_i2l (pc := 52) C dX10_meanOf_52 ?_
          refine k_ladd (pc := 53) C dX10_meanOf_53 ?_
          refine k_topl (fun x4_9 ex4_9 => ?_)
          have hw := hw x4_9 ex4_9
          refine k_lstore (pc := 54) C dX10_meanOf_54 (by decide) [(4, .long x4_9), (0, .ref (ad 40 0)), (1, .int a1), (3, .int a3), (6, .int v6_1), (7, .int v7_1)] rfl ?_
          obtain ⟨x6_10, ex6_10⟩ : ∃ y : Int32, y = v6_1 + 1 := ⟨_, rfl⟩
          have hw := hw x6_10 ex6_10
          refine k_iinc (v := x6_10) (j := 4) (pc := 56) C dX10_meanOf_56 rfl (by rw [ex6_10]; rfl) (by decide) [(6, .int x6_10), (4, .long x4_9), (0, .ref (ad 40 0)), (1, .int a1), (3, .int a3), (7, .int v7_1)] rfl ?_
          obtain ⟨x7_11, ex7_11⟩ : ∃ y : Int32, y = v7_1 + 4 := ⟨_, rfl⟩
          have hw := hw x7_11 ex7_11
          refine k_iinc (v := x7_11) (j := 5) (pc := 59) C dX10_meanOf_59 rfl (by rw [ex7_11]; rfl) (by decide) [(7, .int x7_11), (6, .int x6_10), (4, .long x4_9), (0, .ref (ad 40 0)), (1, .int a1), (3, .int a3)] rfl ?_
          refine k_goto (pc := 62) C 9 dX10_meanOf_62 (by decide) ?_
          refine k_sub [3, 4, 5, 2, 1, 0] [(0, .ref (ad 40 0)), (1, .int a1), (3, .int a3), (4, .long x4_9), (6, .int x6_10), (7, .int x7_11)] rfl ?_
          exact ih_1 x4_9 x6_10 x7_11 S_7 (Nat.lt_of_lt_of_le hw.2 (Nat.le_of_lt_succ hn_1)) hw.1
        · have hw := hw.2 q_6
          refine k_goto (pc := 31) C 59 dX10_meanOf_31 (by decide) ?_
          obtain ⟨x7_12, ex7_12⟩ : ∃ y : Int32, y = v7_1 + 4 := ⟨_, rfl⟩
          have hw := hw x7_12 ex7_12
          refine k_iinc (v := x7_12) (j := 5) (pc := 59) C dX10_meanOf_59 rfl (by rw [ex7_12]; rfl) (by decide) [(7, .int x7_12), (0, .ref (ad 40 0)), (1, .int a1), (3, .int a3), (4, .long v4_1), (6, .int v6_1)] rfl ?_
          refine k_goto (pc := 62) C 9 dX10_meanOf_62 (by decide) ?_
          refine k_sub [1, 2, 3, 4, 5, 0] [(0, .ref (ad 40 0)), (1, .int a1), (3, .int a3), (4, .long v4_1), (6, .int v6_1), (7, .int x7_12)] rfl ?_
          exact ih_1 v4_1 v6_1 x7_12 S_4 (Nat.lt_of_lt_of_le hw.2 (Nat.le_of_lt_succ hn_1)) hw.1
  exact L_1 (μ_1 0 0 a2 S + 1) 0 0 a2 S (Nat.lt_succ_self _) hi_1
def wp_X10_clear (a1 : Int32) (a2 : Int32) (a3 : Int32) (S : Sg) (Q : Int64 → Sg → Prop) : Prop :=
  wp_X10_withoutSteps a1 a2 a3 S (fun r_1 S_1 => wp_X10_hasAntenna a1 S_1 (fun r_2 S_2 => (∃ J_3 : Int64 → Sg → Prop, (∀ (v4_3 : Int64) (S_3 : Sg), J_3 v4_3 S_3 → (vp_in a1 10 ∧ ((¬ (gA S_3 41 0 (Int32.toNatClampNeg a1)) = 3 → Q v4_3 S_3) ∧ ((gA S_3 41 0 (Int32.toNatClampNeg a1)) = 3 → wp_X10_meanOf a1 (a2 - a2 / 4 * 4) a3 S_3 (fun r_7 S_7 => Q (v4_3 - r_7) S_7))))) ∧ ((r_2 = 0 → J_3 r_1 S_2) ∧ (¬ r_2 = 0 → (vp_in a1 10 ∧ ((a2 < (gA S_2 45 0 (Int32.toNatClampNeg a1)) → J_3 r_1 S_2) ∧ (¬ a2 < (gA S_2 45 0 (Int32.toNatClampNeg a1)) → (vp_in a1 10 ∧ (∀ x4_12 : Int64, x4_12 = (r_1 - (Int32.toInt64 (gA S_2 44 0 (Int32.toNatClampNeg a1)))) → J_3 x4_12 S_2))))))))))
set_option maxHeartbeats 4000000 in
set_option maxRecDepth 100000 in
theorem ct_X10_clear (l : Launch) (D : va_G) (cA : Nat → ClassId) (ad : Nat → Nat → Nat) (a1 : Int32) (a2 : Int32) (a3 : Int32) (S : Sg) (Q : Int64 → Sg → Prop) (hw : wp_X10_clear a1 a2 a3 S Q) : CtL l yX10_clear wsX10_clear (mkR 2 49) D cA ad [.ref (ad 40 0), .int a1, .int a2, .int a3] S Q := by
  refine ct_ofL (cc := cX10_clear) (nL := 6) (by decide) rfl (Nat.le_of_ble_eq_true rfl) ?_
  intro p e s m args below meth c A Q C hret
  unfold wp_X10_clear at hw
  have C : Cx p s m args c cX10_clear 6 wsX10_clear RX10 D cA A := C
  have hin : ∀ w ∈ u_ws RX10 TX10 33, w ∈ wsX10_clear := fun w h => List.mem_cons_of_mem _ (List.mem_append_right _ h)
  have f16 : Cond.fieldLink RX10 16 "CreepBoardModel" "kind" "[I" ∈ wsX10_clear := by decide +kernel
  have f29 : Cond.fieldLink RX10 29 "CreepBoardModel" "since" "[I" ∈ wsX10_clear := by decide +kernel
  have f26 : Cond.fieldLink RX10 26 "CreepBoardModel" "offset" "[I" ∈ wsX10_clear := by decide +kernel
  change KK p l e (mkR 2 49) s m args below meth c 6 D cA ad A Q 0 [(0, .ref (ad 40 0)), (1, .int a1), (2, .int a2), (3, .int a3)] [] S
  refine k_aload_n (pc := 0) C dX10_clear_0 0 rfl rfl ?_
  refine k_iload_n (pc := 1) C dX10_clear_1 1 rfl rfl ?_
  refine k_iload_n (pc := 2) C dX10_clear_2 2 rfl rfl ?_
  refine k_iload_n (pc := 3) C dX10_clear_3 3 rfl rfl ?_
  refine k_callVl (pc := 4) C (ct_X10_withoutSteps l D cA ad a1 a2 a3 S _ hw) (cwV 3 C.2.2.2.2.1 gX10_clear_X10_withoutSteps rfl rfl rfl (by decide +kernel) ⟨Nat.le_of_ble_eq_true rfl, Nat.le_of_ble_eq_true rfl⟩) hm_40 (cel_40 cA ad S 0) rfl rfl rfl rfl (Nat.le_of_ble_eq_true rfl) dX10_clear_4 (fun r_1 S_1 hw => ?_)
  refine k_lstore (pc := 7) C dX10_clear_7 (by decide) [(4, .long r_1), (0, .ref (ad 40 0)), (1, .int a1), (2, .int a2), (3, .int a3)] rfl ?_
  refine k_aload_n (pc := 9) C dX10_clear_9 1 rfl rfl ?_
  refine k_iload_n (pc := 10) C dX10_clear_10 2 rfl rfl ?_
  refine k_callVi (pc := 11) C (ct_X10_hasAntenna l D cA ad a1 S_1 _ hw) (cwV 1 C.2.2.2.2.1 gX10_clear_X10_hasAntenna rfl rfl rfl (by decide +kernel) ⟨Nat.le_of_ble_eq_true rfl, Nat.le_of_ble_eq_true rfl⟩) hm_40 (cel_40 cA ad S_1 0) rfl rfl rfl rfl (Nat.le_of_ble_eq_true rfl) dX10_clear_11 (fun r_2 S_2 hw => ?_)
  obtain ⟨J_3, hj_3, hw⟩ := hw
  have j_3 : ∀ (v4_3 : Int64) (S_3 : Sg), J_3 v4_3 S_3 → KK p l e (mkR 2 49) s m args below meth c 6 D cA ad A Q 39 [(0, .ref (ad 40 0)), (1, .int a1), (2, .int a2), (3, .int a3), (4, .long v4_3)] [] S_3 := by
    intro v4_3 S_3 hw
    have hw := hj_3 v4_3 S_3 hw
    refine k_aload_n (pc := 39) C dX10_clear_39 0 rfl rfl ?_
    refine k_get (j := 2) (pc := 40) C hin hm_40 (cel_40 cA ad S_3 0) rfl (by decide) f16 (fun _ h => h) rfl dX10_clear_40 ?_
    refine k_iload_n (pc := 43) C dX10_clear_43 1 rfl rfl ?_
    obtain ⟨h_4, hw⟩ := hw
    refine k_iald (pc := 44) C hm_41 (cel_41 cA ad S_3 0) h_4 dX10_clear_44 ?_
    refine k_iconst (v := 3) (pc := 45) C dX10_clear_45 (by decide) ?_
    refine k_icmp_ne (pc := 46) C 64 dX10_clear_46 (by decide) (fun q_5 => ?_) (fun q_5 => ?_)
    · have hw := hw.1 q_5
      refine k_lload (pc := 64) C dX10_clear_64 4 rfl ?_
      exact hret _ _ _ _ dX10_clear_66 hw
    · have hw := hw.2 q_5
      refine k_lload (pc := 49) C dX10_clear_49 4 rfl ?_
      refine k_aload_n (pc := 51) C dX10_clear_51 0 rfl rfl ?_
      refine k_iload_n (pc := 52) C dX10_clear_52 1 rfl rfl ?_
      refine k_iload_n (pc := 53) C dX10_clear_53 2 rfl rfl ?_
      refine k_iconst (v := 4) (pc := 54) C dX10_clear_54 (by decide) ?_
      refine k_irem (pc := 55) C dX10_clear_55 (by decide) ?_
      refine k_iload_n (pc := 56) C dX10_clear_56 3 rfl rfl ?_
      refine k_callVl (pc := 57) C (ct_X10_meanOf l D cA ad a1 (a2 - a2 / 4 * 4) a3 S_3 _ hw) (cwV 3 C.2.2.2.2.1 gX10_clear_X10_meanOf rfl rfl rfl (by decide +kernel) ⟨Nat.le_of_ble_eq_true rfl, Nat.le_of_ble_eq_true rfl⟩) hm_40 (cel_40 cA ad S_3 0) rfl rfl rfl rfl (Nat.le_of_ble_eq_true rfl) dX10_clear_57 (fun r_7 S_7 hw => ?_)
      refine k_lsub (pc := 60) C dX10_clear_60 ?_
      refine k_goto (pc := 61) C 66 dX10_clear_61 (by decide) ?_
      exact hret _ _ _ _ dX10_clear_66 hw
  refine k_if_eq (pc := 14) C 39 dX10_clear_14 (by decide) (fun q_8 => ?_) (fun q_8 => ?_)
  · have hw := hw.1 q_8
    refine k_sub [1, 2, 3, 4, 0] [(0, .ref (ad 40 0)), (1, .int a1), (2, .int a2), (3, .int a3), (4, .long r_1)] rfl ?_
    exact j_3 r_1 S_2 hw
  · have hw := hw.2 q_8
    refine k_iload_n (pc := 17) C dX10_clear_17 3 rfl rfl ?_
    refine k_aload_n (pc := 18) C dX10_clear_18 1 rfl rfl ?_
    refine k_get (j := 6) (pc := 19) C hin hm_40 (cel_40 cA ad S_2 0) rfl (by decide) f29 (fun _ h => h) rfl dX10_clear_19 ?_
    refine k_iload_n (pc := 22) C dX10_clear_22 2 rfl rfl ?_
    obtain ⟨h_9, hw⟩ := hw
    refine k_iald (pc := 23) C hm_45 (cel_45 cA ad S_2 0) h_9 dX10_clear_23 ?_
    refine k_icmp_lt (pc := 24) C 39 dX10_clear_24 (by decide) (fun q_10 => ?_) (fun q_10 => ?_)
    · have hw := hw.1 q_10
      refine k_sub [1, 2, 3, 4, 0] [(0, .ref (ad 40 0)), (1, .int a1), (2, .int a2), (3, .int a3), (4, .long r_1)] rfl ?_
      exact j_3 r_1 S_2 hw
    · have hw := hw.2 q_10
      refine k_lload (pc := 27) C dX10_clear_27 0 rfl ?_
      refine k_aload_n (pc := 29) C dX10_clear_29 1 rfl rfl ?_
      refine k_get (j := 5) (pc := 30) C hin hm_40 (cel_40 cA ad S_2 0) rfl (by decide) f26 (fun _ h => h) rfl dX10_clear_30 ?_
      refine k_iload_n (pc := 33) C dX10_clear_33 2 rfl rfl ?_
      obtain ⟨h_11, hw⟩ := hw
      refine k_iald (pc := 34) C hm_44 (cel_44 cA ad S_2 0) h_11 dX10_clear_34 ?_
      refine k_i2l (pc := 35) C dX10_clear_35 ?_
      refine k_lsub (pc := 36) C dX10_clear_36 ?_
      refine k_topl (fun x4_12 ex4_12 => ?_)
      have hw := hw x4_12 ex4_12
      refine k_lstore (pc := 37) C dX10_clear_37 (by decide) [(4, .long x4_12), (0, .ref (ad 40 0)), (1, .int a1), (2, .int a2), (3, .int a3)] rfl ?_
      refine k_sub [1, 2, 3, 4, 0] [(0, .ref (ad 40 0)), (1, .int a1), (2, .int a2), (3, .int a3), (4, .long x4_12)] rfl ?_
      exact j_3 x4_12 S_2 hw
def wp_X10_cleared (a1 : Int32) (a2 : Int32) (a3 : Int32) (S : Sg) (Q : Int64 → Sg → Prop) : Prop :=
  wp_X10_isMark a1 S (fun r_1 S_1 => (∃ J_2 : Int32 → Sg → Prop, (∀ (t0_2 : Int32) (S_2 : Sg), J_2 t0_2 S_2 → (∀ S_3 : Sg, S_3 = uI S_2 40 0 0 t0_2 → (((gI S_3 40 0 0) ≤ 0 → wp_X10_clear a1 a2 a3 S_3 (fun r_5 S_5 => Q r_5 S_5)) ∧ (¬ (gI S_3 40 0 0) ≤ 0 → Q 0 S_3)))) ∧ (∃ J_6 : Sg → Prop, (∀ (S_6 : Sg), J_6 S_6 → J_2 1 S_6) ∧ ((r_1 = 0 → J_6 S_1) ∧ (¬ r_1 = 0 → wp_X10_isEpoch a2 S_1 (fun r_8 S_8 => ((r_8 = 0 → J_6 S_8) ∧ (¬ r_8 = 0 → wp_X10_isSide a3 S_8 (fun r_10 S_10 => ((¬ r_10 = 0 → wp_X10_isCleared a1 a2 S_10 (fun r_12 S_12 => ((r_12 = 0 → J_2 2 S_12) ∧ (¬ r_12 = 0 → J_2 0 S_12)))) ∧ (r_10 = 0 → J_6 S_10)))))))))))
set_option maxHeartbeats 4000000 in
set_option maxRecDepth 100000 in
theorem ct_X10_cleared (l : Launch) (D : va_G) (cA : Nat → ClassId) (ad : Nat → Nat → Nat) (a1 : Int32) (a2 : Int32) (a3 : Int32) (S : Sg) (Q : Int64 → Sg → Prop) (hw : wp_X10_cleared a1 a2 a3 S Q) : CtL l yX10_cleared wsX10_cleared (mkR 3 74) D cA ad [.ref (ad 40 0), .int a1, .int a2, .int a3] S Q := by
  refine ct_ofL (cc := cX10_cleared) (nL := 4) (by decide) rfl (Nat.le_of_ble_eq_true rfl) ?_
  intro p e s m args below meth c A Q C hret
  unfold wp_X10_cleared at hw
  have C : Cx p s m args c cX10_cleared 4 wsX10_cleared RX10 D cA A := C
  have hin : ∀ w ∈ u_ws RX10 TX10 33, w ∈ wsX10_cleared := fun w h => List.mem_cons_of_mem _ (List.mem_append_right _ h)
  have f7 : Cond.fieldLink RX10 7 "CreepBoardModel" "thrown" "I" ∈ wsX10_cleared := by decide +kernel
  change KK p l e (mkR 3 74) s m args below meth c 4 D cA ad A Q 0 [(0, .ref (ad 40 0)), (1, .int a1), (2, .int a2), (3, .int a3)] [] S
  refine k_aload_n (pc := 0) C dX10_cleared_0 0 rfl rfl ?_
  refine k_aload_n (pc := 1) C dX10_cleared_1 0 rfl rfl ?_
  refine k_iload_n (pc := 2) C dX10_cleared_2 1 rfl rfl ?_
  refine k_callVi (pc := 3) C (ct_X10_isMark l D cA ad a1 S _ hw) (cwV 1 C.2.2.2.2.1 gX10_cleared_X10_isMark rfl rfl rfl (by decide +kernel) ⟨Nat.le_of_ble_eq_true rfl, Nat.le_of_ble_eq_true rfl⟩) hm_40 (cel_40 cA ad S 0) rfl rfl rfl rfl (Nat.le_of_ble_eq_true rfl) dX10_cleared_3 (fun r_1 S_1 hw => ?_)
  obtain ⟨J_2, hj_2, hw⟩ := hw
  have j_2 : ∀ (t0_2 : Int32) (S_2 : Sg), J_2 t0_2 S_2 → KK p l e (mkR 3 74) s m args below meth c 4 D cA ad A Q 43 [(0, .ref (ad 40 0)), (1, .int a1), (2, .int a2), (3, .int a3)] [.int t0_2, .ref (ad 40 0)] S_2 := by
    intro t0_2 S_2 hw
    have hw := hj_2 t0_2 S_2 hw
    refine k_put (S' := uI S_2 40 0 0 t0_2) (j := 0) (ty := .int) (pc := 43) C hin tyX10 tyX10_ok nmX10 hm_40 (cel_40 cA ad S_2 0) rfl (by decide) f7 (fun _ h => h) rfl (by decide +kernel) rfl rfl (Nat.le_of_ble_eq_true rfl) rfl rfl (fun a b h => cel_uI h) dX10_cleared_43 ?_
    refine k_nameS (fun S_3 eS_3 => ?_)
    have hw := hw S_3 eS_3
    refine k_aload_n (pc := 46) C dX10_cleared_46 0 rfl rfl ?_
    refine k_get (j := 0) (pc := 47) C hin hm_40 (cel_40 cA ad S_3 0) rfl (by decide) f7 (fun _ h => h) rfl dX10_cleared_47 ?_
    refine k_if_le (pc := 50) C 57 dX10_cleared_50 (by decide) (fun q_4 => ?_) (fun q_4 => ?_)
    · have hw := hw.1 q_4
      refine k_aload_n (pc := 57) C dX10_cleared_57 0 rfl rfl ?_
      refine k_iload_n (pc := 58) C dX10_cleared_58 1 rfl rfl ?_
      refine k_iload_n (pc := 59) C dX10_cleared_59 2 rfl rfl ?_
      refine k_iload_n (pc := 60) C dX10_cleared_60 3 rfl rfl ?_
      refine k_callVl (pc := 61) C (ct_X10_clear l D cA ad a1 a2 a3 S_3 _ hw) (cwV 3 C.2.2.2.2.1 gX10_cleared_X10_clear rfl rfl rfl (by decide +kernel) ⟨Nat.le_of_ble_eq_true rfl, Nat.le_of_ble_eq_true rfl⟩) hm_40 (cel_40 cA ad S_3 0) rfl rfl rfl rfl (Nat.le_of_ble_eq_true rfl) dX10_cleared_61 (fun r_5 S_5 hw => ?_)
      exact hret _ _ _ _ dX10_cleared_64 hw
    · have hw := hw.2 q_4
      refine k_lconst (v := 0) (pc := 53) C dX10_cleared_53 (by decide) ?_
      refine k_goto (pc := 54) C 64 dX10_cleared_54 (by decide) ?_
      exact hret _ _ _ _ dX10_cleared_64 hw
  obtain ⟨J_6, hj_6, hw⟩ := hw
  have j_6 : ∀ (S_6 : Sg), J_6 S_6 → KK p l e (mkR 3 74) s m args below meth c 4 D cA ad A Q 25 [(0, .ref (ad 40 0)), (1, .int a1), (2, .int a2), (3, .int a3)] [.ref (ad 40 0)] S_6 := by
    intro S_6 hw
    have hw := hj_6 S_6 hw
    refine k_iconst (v := 1) (pc := 25) C dX10_cleared_25 (by decide) ?_
    refine k_goto (pc := 26) C 43 dX10_cleared_26 (by decide) ?_
    refine k_sub [0, 1, 2, 3] [(0, .ref (ad 40 0)), (1, .int a1), (2, .int a2), (3, .int a3)] rfl ?_
    exact j_2 1 S_6 hw
  refine k_if_eq (pc := 6) C 25 dX10_cleared_6 (by decide) (fun q_7 => ?_) (fun q_7 => ?_)
  · have hw := hw.1 q_7
    refine k_sub [0, 1, 2, 3] [(0, .ref (ad 40 0)), (1, .int a1), (2, .int a2), (3, .int a3)] rfl ?_
    exact j_6 S_1 hw
  · have hw := hw.2 q_7
    refine k_aload_n (pc := 9) C dX10_cleared_9 0 rfl rfl ?_
    refine k_iload_n (pc := 10) C dX10_cleared_10 2 rfl rfl ?_
    refine k_callVi (pc := 11) C (ct_X10_isEpoch l D cA ad a2 S_1 _ hw) (cwV 1 C.2.2.2.2.1 gX10_cleared_X10_isEpoch rfl rfl rfl (by decide +kernel) ⟨Nat.le_of_ble_eq_true rfl, Nat.le_of_ble_eq_true rfl⟩) hm_40 (cel_40 cA ad S_1 0) rfl rfl rfl rfl (Nat.le_of_ble_eq_true rfl) dX10_cleared_11 (fun r_8 S_8 hw => ?_)
    refine k_if_eq (pc := 14) C 25 dX10_cleared_14 (by decide) (fun q_9 => ?_) (fun q_9 => ?_)
    · have hw := hw.1 q_9
      refine k_sub [0, 1, 2, 3] [(0, .ref (ad 40 0)), (1, .int a1), (2, .int a2), (3, .int a3)] rfl ?_
      exact j_6 S_8 hw
    · have hw := hw.2 q_9
      refine k_aload_n (pc := 17) C dX10_cleared_17 0 rfl rfl ?_
      refine k_iload_n (pc := 18) C dX10_cleared_18 3 rfl rfl ?_
      refine k_callVi (pc := 19) C (ct_X10_isSide l D cA ad a3 S_8 _ hw) (cwV 1 C.2.2.2.2.1 gX10_cleared_X10_isSide rfl rfl rfl (by decide +kernel) ⟨Nat.le_of_ble_eq_true rfl, Nat.le_of_ble_eq_true rfl⟩) hm_40 (cel_40 cA ad S_8 0) rfl rfl rfl rfl (Nat.le_of_ble_eq_true rfl) dX10_cleared_19 (fun r_10 S_10 hw => ?_)
      refine k_if_ne (pc := 22) C 29 dX10_cleared_22 (by decide) (fun q_11 => ?_) (fun q_11 => ?_)
      · have hw := hw.1 q_11
        refine k_aload_n (pc := 29) C dX10_cleared_29 0 rfl rfl ?_
        refine k_iload_n (pc := 30) C dX10_cleared_30 1 rfl rfl ?_
        refine k_iload_n (pc := 31) C dX10_cleared_31 2 rfl rfl ?_
        refine k_callVi (pc := 32) C (ct_X10_isCleared l D cA ad a1 a2 S_10 _ hw) (cwV 2 C.2.2.2.2.1 gX10_cleared_X10_isCleared rfl rfl rfl (by decide +kernel) ⟨Nat.le_of_ble_eq_true rfl, Nat.le_of_ble_eq_true rfl⟩) hm_40 (cel_40 cA ad S_10 0) rfl rfl rfl rfl (Nat.le_of_ble_eq_true rfl) dX10_cleared_32 (fun r_12 S_12 hw => ?_)
        refine k_if_eq (pc := 35) C 42 dX10_cleared_35 (by decide) (fun q_13 => ?_) (fun q_13 => ?_)
        · have hw := hw.1 q_13
          refine k_iconst (v := 2) (pc := 42) C dX10_cleared_42 (by decide) ?_
          refine k_sub [0, 1, 2, 3] [(0, .ref (ad 40 0)), (1, .int a1), (2, .int a2), (3, .int a3)] rfl ?_
          exact j_2 2 S_12 hw
        · have hw := hw.2 q_13
          refine k_iconst (v := 0) (pc := 38) C dX10_cleared_38 (by decide) ?_
          refine k_goto (pc := 39) C 43 dX10_cleared_39 (by decide) ?_
          refine k_sub [0, 1, 2, 3] [(0, .ref (ad 40 0)), (1, .int a1), (2, .int a2), (3, .int a3)] rfl ?_
          exact j_2 0 S_12 hw
      · have hw := hw.2 q_11
        refine k_sub [0, 1, 2, 3] [(0, .ref (ad 40 0)), (1, .int a1), (2, .int a2), (3, .int a3)] rfl ?_
        exact j_6 S_10 hw
def wp_X10_manyOf (a1 : Int32) (S : Sg) (Q : Int32 → Sg → Prop) : Prop :=
  (∃ (I_1 : Int32 → Int32 → Sg → Prop) (μ_1 : Int32 → Int32 → Sg → Nat), I_1 0 0 S ∧ ∀ (v2_1 : Int32) (v3_1 : Int32) (S_1 : Sg), I_1 v2_1 v3_1 S_1 → ((40 ≤ v3_1 → Q v2_1 S_1) ∧ (¬ 40 ≤ v3_1 → wp_X10_isCleared a1 v3_1 S_1 (fun r_3 S_3 => ((r_3 = 0 → (∀ x2_5 : Int32, x2_5 = (v2_1 + 0) → (∀ x3_6 : Int32, x3_6 = v3_1 + 1 → (I_1 x2_5 x3_6 S_3 ∧ μ_1 x2_5 x3_6 S_3 < μ_1 v2_1 v3_1 S_1)))) ∧ (¬ r_3 = 0 → (∀ x2_7 : Int32, x2_7 = (v2_1 + 1) → (∀ x3_8 : Int32, x3_8 = v3_1 + 1 → (I_1 x2_7 x3_8 S_3 ∧ μ_1 x2_7 x3_8 S_3 < μ_1 v2_1 v3_1 S_1)))))))))
set_option maxHeartbeats 4000000 in
set_option maxRecDepth 100000 in
theorem ct_X10_manyOf (l : Launch) (D : va_G) (cA : Nat → ClassId) (ad : Nat → Nat → Nat) (a1 : Int32) (S : Sg) (Q : Int32 → Sg → Prop) (hw : wp_X10_manyOf a1 S Q) : CtI l yX10_manyOf wsX10_manyOf (mkR 3 68) D cA ad [.ref (ad 40 0), .int a1] S Q := by
  refine ct_ofI (cc := cX10_manyOf) (nL := 4) (by decide) rfl (Nat.le_of_ble_eq_true rfl) ?_
  intro p e s m args below meth c A Q C hret
  unfold wp_X10_manyOf at hw
  have C : Cx p s m args c cX10_manyOf 4 wsX10_manyOf RX10 D cA A := C
  change KK p l e (mkR 3 68) s m args below meth c 4 D cA ad A Q 0 [(0, .ref (ad 40 0)), (1, .int a1)] [] S
  refine k_iconst (v := 0) (pc := 0) C dX10_manyOf_0 (by decide) ?_
  refine k_istore_n (pc := 1) C dX10_manyOf_1 rfl (by decide) [(2, .int 0), (0, .ref (ad 40 0)), (1, .int a1)] rfl ?_
  refine k_iconst (v := 0) (pc := 2) C dX10_manyOf_2 (by decide) ?_
  refine k_istore_n (pc := 3) C dX10_manyOf_3 rfl (by decide) [(3, .int 0), (2, .int 0), (0, .ref (ad 40 0)), (1, .int a1)] rfl ?_
  refine k_sub [2, 3, 1, 0] [(0, .ref (ad 40 0)), (1, .int a1), (2, .int 0), (3, .int 0)] rfl ?_
  obtain ⟨I_1, μ_1, hi_1, hw⟩ := hw
  have L_1 : ∀ (n : Nat) (v2_1 : Int32) (v3_1 : Int32) (S_1 : Sg), μ_1 v2_1 v3_1 S_1 < n → I_1 v2_1 v3_1 S_1 → KK p l e (mkR 3 68) s m args below meth c 4 D cA ad A Q 4 [(0, .ref (ad 40 0)), (1, .int a1), (2, .int v2_1), (3, .int v3_1)] [] S_1 := by
    intro n
    induction n with
    | zero => intro v2_1 v3_1 S_1 h; exact absurd h (Nat.not_lt_zero _)
    | succ n ih_1 =>
      intro v2_1 v3_1 S_1 hn_1 hi_1
      have hw := hw v2_1 v3_1 S_1 hi_1
      refine k_iload_n (pc := 4) C dX10_manyOf_4 3 rfl rfl ?_
      refine k_bipush (v := 40) (pc := 5) C dX10_manyOf_5 (by decide) ?_
      refine k_icmp_ge (pc := 7) C 33 dX10_manyOf_7 (by decide) (fun q_2 => ?_) (fun q_2 => ?_)
      · have hw := hw.1 q_2
        refine k_iload_n (pc := 33) C dX10_manyOf_33 2 rfl rfl ?_
        exact hret _ _ _ _ dX10_manyOf_34 hw
      · have hw := hw.2 q_2
        refine k_iload_n (pc := 10) C dX10_manyOf_10 2 rfl rfl ?_
        refine k_aload_n (pc := 11) C dX10_manyOf_11 0 rfl rfl ?_
        refine k_iload_n (pc := 12) C dX10_manyOf_12 1 rfl rfl ?_
        refine k_iload_n (pc := 13) C dX10_manyOf_13 3 rfl rfl ?_
        refine k_callVi (pc := 14) C (ct_X10_isCleared l D cA ad a1 v3_1 S_1 _ hw) (cwV 2 C.2.2.2.2.1 gX10_manyOf_X10_isCleared rfl rfl rfl (by decide +kernel) ⟨Nat.le_of_ble_eq_true rfl, Nat.le_of_ble_eq_true rfl⟩) hm_40 (cel_40 cA ad S_1 0) rfl rfl rfl rfl (Nat.le_of_ble_eq_true rfl) dX10_manyOf_14 (fun r_3 S_3 hw => ?_)
        refine k_if_eq (pc := 17) C 24 dX10_manyOf_17 (by decide) (fun q_4 => ?_) (fun q_4 => ?_)
        · have hw := hw.1 q_4
          refine k_iconst (v := 0) (pc := 24) C dX10_manyOf_24 (by decide) ?_
          refine k_iadd (pc := 25) C dX10_manyOf_25 ?_
          refine k_topi (fun x2_5 ex2_5 => ?_)
          have hw := hw x2_5 ex2_5
          refine k_istore_n (pc := 26) C dX10_manyOf_26 rfl (by decide) [(2, .int x2_5), (0, .ref (ad 40 0)), (1, .int a1), (3, .int v3_1)] rfl ?_
          obtain ⟨x3_6, ex3_6⟩ : ∃ y : Int32, y = v3_1 + 1 := ⟨_, rfl⟩
          have hw := hw x3_6 ex3_6
          refine k_iinc (v := x3_6) (j := 3) (pc := 27) C dX10_manyOf_27 rfl (by rw [ex3_6]; rfl) (by decide) [(3, .int x3_6), (2, .int x2_5), (0, .ref (ad 40 0)), (1, .int a1)] rfl ?_
          refine k_goto (pc := 30) C 4 dX10_manyOf_30 (by decide) ?_
          refine k_sub [2, 3, 1, 0] [(0, .ref (ad 40 0)), (1, .int a1), (2, .int x2_5), (3, .int x3_6)] rfl ?_
          exact ih_1 x2_5 x3_6 S_3 (Nat.lt_of_lt_of_le hw.2 (Nat.le_of_lt_succ hn_1)) hw.1
        · have hw := hw.2 q_4
          refine k_iconst (v := 1) (pc := 20) C dX10_manyOf_20 (by decide) ?_
          refine k_goto (pc := 21) C 25 dX10_manyOf_21 (by decide) ?_
          refine k_iadd (pc := 25) C dX10_manyOf_25 ?_
          refine k_topi (fun x2_7 ex2_7 => ?_)
          have hw := hw x2_7 ex2_7
          refine k_istore_n (pc := 26) C dX10_manyOf_26 rfl (by decide) [(2, .int x2_7), (0, .ref (ad 40 0)), (1, .int a1), (3, .int v3_1)] rfl ?_
          obtain ⟨x3_8, ex3_8⟩ : ∃ y : Int32, y = v3_1 + 1 := ⟨_, rfl⟩
          have hw := hw x3_8 ex3_8
          refine k_iinc (v := x3_8) (j := 3) (pc := 27) C dX10_manyOf_27 rfl (by rw [ex3_8]; rfl) (by decide) [(3, .int x3_8), (2, .int x2_7), (0, .ref (ad 40 0)), (1, .int a1)] rfl ?_
          refine k_goto (pc := 30) C 4 dX10_manyOf_30 (by decide) ?_
          refine k_sub [2, 3, 1, 0] [(0, .ref (ad 40 0)), (1, .int a1), (2, .int x2_7), (3, .int x3_8)] rfl ?_
          exact ih_1 x2_7 x3_8 S_3 (Nat.lt_of_lt_of_le hw.2 (Nat.le_of_lt_succ hn_1)) hw.1
  exact L_1 (μ_1 0 0 S + 1) 0 0 S (Nat.lt_succ_self _) hi_1
def wp_X10_many (a1 : Int32) (S : Sg) (Q : Int32 → Sg → Prop) : Prop :=
  wp_X10_isMark a1 S (fun r_1 S_1 => ((r_1 = 0 → Q (-1) S_1) ∧ (¬ r_1 = 0 → wp_X10_manyOf a1 S_1 (fun r_3 S_3 => Q r_3 S_3))))
set_option maxHeartbeats 4000000 in
set_option maxRecDepth 100000 in
theorem ct_X10_many (l : Launch) (D : va_G) (cA : Nat → ClassId) (ad : Nat → Nat → Nat) (a1 : Int32) (S : Sg) (Q : Int32 → Sg → Prop) (hw : wp_X10_many a1 S Q) : CtI l yX10_many wsX10_many (mkR 4 91) D cA ad [.ref (ad 40 0), .int a1] S Q := by
  refine ct_ofI (cc := cX10_many) (nL := 2) (by decide) rfl (Nat.le_of_ble_eq_true rfl) ?_
  intro p e s m args below meth c A Q C hret
  unfold wp_X10_many at hw
  have C : Cx p s m args c cX10_many 2 wsX10_many RX10 D cA A := C
  change KK p l e (mkR 4 91) s m args below meth c 2 D cA ad A Q 0 [(0, .ref (ad 40 0)), (1, .int a1)] [] S
  refine k_aload_n (pc := 0) C dX10_many_0 0 rfl rfl ?_
  refine k_iload_n (pc := 1) C dX10_many_1 1 rfl rfl ?_
  refine k_callVi (pc := 2) C (ct_X10_isMark l D cA ad a1 S _ hw) (cwV 1 C.2.2.2.2.1 gX10_many_X10_isMark rfl rfl rfl (by decide +kernel) ⟨Nat.le_of_ble_eq_true rfl, Nat.le_of_ble_eq_true rfl⟩) hm_40 (cel_40 cA ad S 0) rfl rfl rfl rfl (Nat.le_of_ble_eq_true rfl) dX10_many_2 (fun r_1 S_1 hw => ?_)
  refine k_if_eq (pc := 5) C 16 dX10_many_5 (by decide) (fun q_2 => ?_) (fun q_2 => ?_)
  · have hw := hw.1 q_2
    refine k_iconst (v := (-1)) (pc := 16) C dX10_many_16 (by decide) ?_
    exact hret _ _ _ _ dX10_many_17 hw
  · have hw := hw.2 q_2
    refine k_aload_n (pc := 8) C dX10_many_8 0 rfl rfl ?_
    refine k_iload_n (pc := 9) C dX10_many_9 1 rfl rfl ?_
    refine k_callVi (pc := 10) C (ct_X10_manyOf l D cA ad a1 S_1 _ hw) (cwV 1 C.2.2.2.2.1 gX10_many_X10_manyOf rfl rfl rfl (by decide +kernel) ⟨Nat.le_of_ble_eq_true rfl, Nat.le_of_ble_eq_true rfl⟩) hm_40 (cel_40 cA ad S_1 0) rfl rfl rfl rfl (Nat.le_of_ble_eq_true rfl) dX10_many_10 (fun r_3 S_3 hw => ?_)
    refine k_goto (pc := 13) C 17 dX10_many_13 (by decide) ?_
    exact hret _ _ _ _ dX10_many_17 hw
def wp_X10_divisor (a1 : Int64) (a3 : Int64) (S : Sg) (Q : Int64 → Sg → Prop) : Prop :=
  (∃ J_1 : Int64 → Sg → Prop, (∀ (t0_1 : Int64) (S_1 : Sg), J_1 t0_1 S_1 → (∃ J_2 : Int64 → Sg → Prop, (∀ (t0_2 : Int64) (S_2 : Sg), J_2 t0_2 S_2 → (∃ (I_3 : Int64 → Int64 → Sg → Prop) (μ_3 : Int64 → Int64 → Sg → Nat), I_3 t0_1 t0_2 S_2 ∧ ∀ (v5_3 : Int64) (v7_3 : Int64) (S_3 : Sg), I_3 v5_3 v7_3 S_3 → ((v7_3 = 0 → Q v5_3 S_3) ∧ (¬ v7_3 = 0 → ((¬ v7_3 = 0) ∧ (∀ x9_6 : Int64, x9_6 = (v5_3 - v5_3 / v7_3 * v7_3) → (I_3 v7_3 x9_6 S_3 ∧ μ_3 v7_3 x9_6 S_3 < μ_3 v5_3 v7_3 S_3))))))) ∧ ((0 ≤ a3 → J_2 a3 S_1) ∧ (¬ 0 ≤ a3 → J_2 (-a3) S_1)))) ∧ ((0 ≤ a1 → J_1 a1 S) ∧ (¬ 0 ≤ a1 → J_1 (-a1) S)))
set_option maxHeartbeats 4000000 in
set_option maxRecDepth 100000 in
theorem ct_X10_divisor (l : Launch) (D : va_G) (cA : Nat → ClassId) (ad : Nat → Nat → Nat) (a1 : Int64) (a3 : Int64) (S : Sg) (Q : Int64 → Sg → Prop) (hw : wp_X10_divisor a1 a3 S Q) : CtL l yX10_divisor wsX10_divisor (mkR 0 0) D cA ad [.ref (ad 40 0), .long a1, .long a3] S Q := by
  refine ct_ofL (cc := cX10_divisor) (nL := 11) (by decide) rfl (Nat.le_of_ble_eq_true rfl) ?_
  intro p e s m args below meth c A Q C hret
  unfold wp_X10_divisor at hw
  have C : Cx p s m args c cX10_divisor 11 wsX10_divisor RX10 D cA A := C
  change KK p l e (mkR 0 0) s m args below meth c 11 D cA ad A Q 0 [(0, .ref (ad 40 0)), (1, .long a1), (3, .long a3)] [] S
  refine k_lload_n (pc := 0) C dX10_divisor_0 1 rfl rfl ?_
  refine k_lconst (v := 0) (pc := 1) C dX10_divisor_1 (by decide) ?_
  obtain ⟨J_1, hj_1, hw⟩ := hw
  have j_1 : ∀ (t0_1 : Int64) (S_1 : Sg), J_1 t0_1 S_1 → KK p l e (mkR 0 0) s m args below meth c 11 D cA ad A Q 12 [(3, .long a3)] [.long t0_1] S_1 := by
    intro t0_1 S_1 hw
    have hw := hj_1 t0_1 S_1 hw
    refine k_lstore (pc := 12) C dX10_divisor_12 (by decide) [(5, .long t0_1), (3, .long a3)] rfl ?_
    refine k_lload_n (pc := 14) C dX10_divisor_14 1 rfl rfl ?_
    refine k_lconst (v := 0) (pc := 15) C dX10_divisor_15 (by decide) ?_
    obtain ⟨J_2, hj_2, hw⟩ := hw
    have j_2 : ∀ (t0_2 : Int64) (S_2 : Sg), J_2 t0_2 S_2 → KK p l e (mkR 0 0) s m args below meth c 11 D cA ad A Q 26 [(5, .long t0_1)] [.long t0_2] S_2 := by
      intro t0_2 S_2 hw
      have hw := hj_2 t0_2 S_2 hw
      refine k_lstore (pc := 26) C dX10_divisor_26 (by decide) [(7, .long t0_2), (5, .long t0_1)] rfl ?_
      refine k_sub [1, 0] [(5, .long t0_1), (7, .long t0_2)] rfl ?_
      obtain ⟨I_3, μ_3, hi_3, hw⟩ := hw
      have L_3 : ∀ (n : Nat) (v5_3 : Int64) (v7_3 : Int64) (S_3 : Sg), μ_3 v5_3 v7_3 S_3 < n → I_3 v5_3 v7_3 S_3 → KK p l e (mkR 0 0) s m args below meth c 11 D cA ad A Q 28 [(5, .long v5_3), (7, .long v7_3)] [] S_3 := by
        intro n
        induction n with
        | zero => intro v5_3 v7_3 S_3 h; exact absurd h (Nat.not_lt_zero _)
        | succ n ih_3 =>
          intro v5_3 v7_3 S_3 hn_3 hi_3
          have hw := hw v5_3 v7_3 S_3 hi_3
          refine k_lload (pc := 28) C dX10_divisor_28 1 rfl ?_
          refine k_lconst (v := 0) (pc := 30) C dX10_divisor_30 (by decide) ?_
          refine k_lif_eq (pc := 31) C 53 dX10_divisor_31 dX10_divisor_32 (by decide) (fun q_4 => ?_) (fun q_4 => ?_)
          · have hw := hw.1 q_4
            refine k_lload (pc := 53) C dX10_divisor_53 0 rfl ?_
            exact hret _ _ _ _ dX10_divisor_55 hw
          · have hw := hw.2 q_4
            refine k_lload (pc := 35) C dX10_divisor_35 0 rfl ?_
            refine k_lload (pc := 37) C dX10_divisor_37 1 rfl ?_
            obtain ⟨h_5, hw⟩ := hw
            refine k_lrem (pc := 39) C dX10_divisor_39 h_5 ?_
            refine k_topl (fun x9_6 ex9_6 => ?_)
            have hw := hw x9_6 ex9_6
            refine k_lstore (pc := 40) C dX10_divisor_40 (by decide) [(9, .long x9_6), (5, .long v5_3), (7, .long v7_3)] rfl ?_
            refine k_lload (pc := 42) C dX10_divisor_42 2 rfl ?_
            refine k_lstore (pc := 44) C dX10_divisor_44 (by decide) [(5, .long v7_3), (9, .long x9_6), (7, .long v7_3)] rfl ?_
            refine k_lload (pc := 46) C dX10_divisor_46 1 rfl ?_
            refine k_lstore (pc := 48) C dX10_divisor_48 (by decide) [(7, .long x9_6), (5, .long v7_3), (9, .long x9_6)] rfl ?_
            refine k_goto (pc := 50) C 28 dX10_divisor_50 (by decide) ?_
            refine k_sub [1, 0] [(5, .long v7_3), (7, .long x9_6)] rfl ?_
            exact ih_3 v7_3 x9_6 S_3 (Nat.lt_of_lt_of_le hw.2 (Nat.le_of_lt_succ hn_3)) hw.1
      exact L_3 (μ_3 t0_1 t0_2 S_2 + 1) t0_1 t0_2 S_2 (Nat.lt_succ_self _) hi_3
    refine k_lif_ge (pc := 16) C 25 dX10_divisor_16 dX10_divisor_17 (by decide) (fun q_7 => ?_) (fun q_7 => ?_)
    · have hw := hw.1 q_7
      refine k_lload_n (pc := 25) C dX10_divisor_25 1 rfl rfl ?_
      refine k_sub [0] [(5, .long t0_1)] rfl ?_
      exact j_2 a3 S_1 hw
    · have hw := hw.2 q_7
      refine k_lload_n (pc := 20) C dX10_divisor_20 1 rfl rfl ?_
      refine k_lneg (pc := 21) C dX10_divisor_21 ?_
      refine k_goto (pc := 22) C 26 dX10_divisor_22 (by decide) ?_
      refine k_sub [0] [(5, .long t0_1)] rfl ?_
      exact j_2 (-a3) S_1 hw
  refine k_lif_ge (pc := 2) C 11 dX10_divisor_2 dX10_divisor_3 (by decide) (fun q_8 => ?_) (fun q_8 => ?_)
  · have hw := hw.1 q_8
    refine k_lload_n (pc := 11) C dX10_divisor_11 1 rfl rfl ?_
    refine k_sub [2] [(3, .long a3)] rfl ?_
    exact j_1 a1 S hw
  · have hw := hw.2 q_8
    refine k_lload_n (pc := 6) C dX10_divisor_6 1 rfl rfl ?_
    refine k_lneg (pc := 7) C dX10_divisor_7 ?_
    refine k_goto (pc := 8) C 12 dX10_divisor_8 (by decide) ?_
    refine k_sub [2] [(3, .long a3)] rfl ?_
    exact j_1 (-a1) S hw
def wp_X10_lowest (a1 : Int64) (a3 : Int64) (a5 : Int32) (S : Sg) (Q : Int64 → Sg → Prop) : Prop :=
  wp_X10_divisor a1 a3 S (fun r_1 S_1 => (∃ J_2 : Int64 → Sg → Prop, (∀ (v6_2 : Int64) (S_2 : Sg), J_2 v6_2 S_2 → ((a5 = 0 → ((¬ v6_2 = 0) ∧ Q (a1 / v6_2) S_2)) ∧ (¬ a5 = 0 → ((¬ v6_2 = 0) ∧ Q (a3 / v6_2) S_2)))) ∧ ((0 ≤ a3 → J_2 r_1 S_1) ∧ (¬ 0 ≤ a3 → (∀ x6_7 : Int64, x6_7 = (-r_1) → J_2 x6_7 S_1)))))
set_option maxHeartbeats 4000000 in
set_option maxRecDepth 100000 in
theorem ct_X10_lowest (l : Launch) (D : va_G) (cA : Nat → ClassId) (ad : Nat → Nat → Nat) (a1 : Int64) (a3 : Int64) (a5 : Int32) (S : Sg) (Q : Int64 → Sg → Prop) (hw : wp_X10_lowest a1 a3 a5 S Q) : CtL l yX10_lowest wsX10_lowest (mkR 1 30) D cA ad [.ref (ad 40 0), .long a1, .long a3, .int a5] S Q := by
  refine ct_ofL (cc := cX10_lowest) (nL := 8) (by decide) rfl (Nat.le_of_ble_eq_true rfl) ?_
  intro p e s m args below meth c A Q C hret
  unfold wp_X10_lowest at hw
  have C : Cx p s m args c cX10_lowest 8 wsX10_lowest RX10 D cA A := C
  change KK p l e (mkR 1 30) s m args below meth c 8 D cA ad A Q 0 [(0, .ref (ad 40 0)), (1, .long a1), (3, .long a3), (5, .int a5)] [] S
  refine k_aload_n (pc := 0) C dX10_lowest_0 0 rfl rfl ?_
  refine k_lload_n (pc := 1) C dX10_lowest_1 1 rfl rfl ?_
  refine k_lload_n (pc := 2) C dX10_lowest_2 2 rfl rfl ?_
  refine k_callVl (pc := 3) C (ct_X10_divisor l D cA ad a1 a3 S _ hw) (cwV 2 C.2.2.2.2.1 gX10_lowest_X10_divisor rfl rfl rfl (by decide +kernel) ⟨Nat.le_of_ble_eq_true rfl, Nat.le_of_ble_eq_true rfl⟩) hm_40 (cel_40 cA ad S 0) rfl rfl rfl rfl (Nat.le_of_ble_eq_true rfl) dX10_lowest_3 (fun r_1 S_1 hw => ?_)
  refine k_lstore (pc := 6) C dX10_lowest_6 (by decide) [(6, .long r_1), (0, .ref (ad 40 0)), (1, .long a1), (3, .long a3), (5, .int a5)] rfl ?_
  refine k_lload_n (pc := 8) C dX10_lowest_8 3 rfl rfl ?_
  refine k_lconst (v := 0) (pc := 9) C dX10_lowest_9 (by decide) ?_
  obtain ⟨J_2, hj_2, hw⟩ := hw
  have j_2 : ∀ (v6_2 : Int64) (S_2 : Sg), J_2 v6_2 S_2 → KK p l e (mkR 1 30) s m args below meth c 8 D cA ad A Q 19 [(1, .long a1), (3, .long a3), (5, .int a5), (6, .long v6_2)] [] S_2 := by
    intro v6_2 S_2 hw
    have hw := hj_2 v6_2 S_2 hw
    refine k_iload (pc := 19) C dX10_lowest_19 2 rfl ?_
    refine k_if_eq (pc := 21) C 31 dX10_lowest_21 (by decide) (fun q_3 => ?_) (fun q_3 => ?_)
    · have hw := hw.1 q_3
      refine k_lload_n (pc := 31) C dX10_lowest_31 0 rfl rfl ?_
      refine k_lload (pc := 32) C dX10_lowest_32 3 rfl ?_
      obtain ⟨h_4, hw⟩ := hw
      refine k_ldiv (pc := 34) C dX10_lowest_34 h_4 ?_
      exact hret _ _ _ _ dX10_lowest_35 hw
    · have hw := hw.2 q_3
      refine k_lload_n (pc := 24) C dX10_lowest_24 1 rfl rfl ?_
      refine k_lload (pc := 25) C dX10_lowest_25 3 rfl ?_
      obtain ⟨h_5, hw⟩ := hw
      refine k_ldiv (pc := 27) C dX10_lowest_27 h_5 ?_
      refine k_goto (pc := 28) C 35 dX10_lowest_28 (by decide) ?_
      exact hret _ _ _ _ dX10_lowest_35 hw
  refine k_lif_ge (pc := 10) C 19 dX10_lowest_10 dX10_lowest_11 (by decide) (fun q_6 => ?_) (fun q_6 => ?_)
  · have hw := hw.1 q_6
    refine k_sub [2, 3, 4, 0] [(1, .long a1), (3, .long a3), (5, .int a5), (6, .long r_1)] rfl ?_
    exact j_2 r_1 S_1 hw
  · have hw := hw.2 q_6
    refine k_lload (pc := 14) C dX10_lowest_14 0 rfl ?_
    refine k_lneg (pc := 16) C dX10_lowest_16 ?_
    refine k_topl (fun x6_7 ex6_7 => ?_)
    have hw := hw x6_7 ex6_7
    refine k_lstore (pc := 17) C dX10_lowest_17 (by decide) [(6, .long x6_7), (0, .ref (ad 40 0)), (1, .long a1), (3, .long a3), (5, .int a5)] rfl ?_
    refine k_sub [2, 3, 4, 0] [(1, .long a1), (3, .long a3), (5, .int a5), (6, .long x6_7)] rfl ?_
    exact j_2 x6_7 S_1 hw
