def wp_X3_fail (k : Nat) (S : Sg) (Q : Sg → Prop) : Prop :=
  Q S
set_option maxHeartbeats 4000000 in
set_option maxRecDepth 100000 in
theorem ct_X3_fail (l : Launch) (D : va_G) (cA : Nat → ClassId) (ad : Nat → Nat → Nat) (k : Nat) (S : Sg) (Q : Sg → Prop) (hw : wp_X3_fail k S Q) : CtV l yX3_fail wsX3_fail (mkR 0 0) D cA ad [.ref (ad 26 k)] S Q := by
  refine ct_ofV (cc := cX3_fail) (nL := 1) (by decide) rfl (Nat.le_of_ble_eq_true rfl) ?_
  intro p e s m args below meth c A Q C hret
  unfold wp_X3_fail at hw
  have C : Cx p s m args c cX3_fail 1 wsX3_fail RX3 D cA A := C
  change KK p l e (mkR 0 0) s m args below meth c 1 D cA ad A Q 0 [(0, .ref (ad 26 k))] [] S
  exact hret _ _ _ dX3_fail_0 hw
def wp_X4_fail (k : Nat) (S : Sg) (Q : Sg → Prop) (X : String → Sg → Prop) : Prop :=
  X "java/lang/IllegalStateException" S
set_option maxHeartbeats 4000000 in
set_option maxRecDepth 100000 in
theorem ct_X4_fail (l : Launch) (hst : l.stackTraces = false) (D : va_G) (cA : Nat → ClassId) (ad : Nat → Nat → Nat) (k : Nat) (S : Sg) (Q : Sg → Prop) (X : String → Sg → Prop) (hw : wp_X4_fail k S Q X) : CtX l yX4_fail wsX4_fail (mkX 6 90) D cA ad [.ref (ad 26 k)] S (fun B A => va_Qv Q B A) X := by
  refine ctx_of (cc := cX4_fail) (nL := 1) (ret := none) (by decide) rfl (Nat.le_of_ble_eq_true rfl) ?_
  intro p e s m args below meth c A C hr hk hE htab
  unfold wp_X4_fail at hw
  have C : Cx p s m args c cX4_fail 1 wsX4_fail RX4 D cA A := C
  have cl24 : Cond.classLink RX4 24 "java/lang/IllegalStateException" ∈ wsX4_fail := by decide +kernel
  have iniIllegalStateException : Cond.initialized "java/lang/IllegalStateException" ∈ wsX4_fail := by decide +kernel
  have hatIllegalStateException : ∀ w ∈ (vx_atS RX4 28 "java/lang/IllegalStateException" ["java/lang/RuntimeException", "java/lang/Exception"]).filter goodWord, w ∈ wsX4_fail := by decide +kernel
  have hatnIllegalStateException : ∀ w ∈ (vx_atS RX4 28 "java/lang/IllegalStateException" ["java/lang/RuntimeException", "java/lang/Exception"]).filter (fun w => !goodWord w), w ∈ [Cond.castable "java/lang/IllegalStateException" "java/lang/IllegalStateException", Cond.declares (Bundle.initS "java/lang/RuntimeException"), Cond.declares (Bundle.initS "java/lang/Exception"), Cond.declares (Bundle.initS Bundle.tN)] := by decide +kernel
  have hgIllegalStateException_24 : ∀ w ∈ Cond.classLink RX4 24 "java/lang/IllegalStateException" :: Cond.initialized "java/lang/IllegalStateException" :: vx_atS RX4 28 "java/lang/IllegalStateException" ["java/lang/RuntimeException", "java/lang/Exception"], vx_ot w = true := by decide +kernel
  change KK p l e (mkX 6 90) s m args below meth c 1 D cA ad A (vx_MQ below (va_Qv Q (fun S' t => va_P D vwCl (lW cA ad S') t.heap ∧ va_D A (lW cA ad S')) A) (xcX D cA ad A X) args s 1 6 A) 0 [(0, .ref (ad 26 k))] [] S
  exact k_throwS (pc := 0) C hst "java/lang/IllegalStateException" "the receiver fails" hE htab hk (by decide +kernel) (by decide +kernel) cl24 iniIllegalStateException (by decide +kernel) hatIllegalStateException hatnIllegalStateException hE.2.2.2.1 hgIllegalStateException_24 dX4_fail_0 dX4_fail_3 dX4_fail_4 dX4_fail_6 dX4_fail_9 ⟨Nat.le_of_ble_eq_true rfl, Nat.le_of_ble_eq_true rfl, Nat.le_of_ble_eq_true rfl, Nat.le_of_ble_eq_true rfl⟩ hw
def wp_X9_antenna (a1 : Int32) (a2 : Int32) (a3 : Int32) (S : Sg) (Q : Int32 → Sg → Prop) : Prop :=
  wp_X9_markAt a1 S (fun o_1 S_1 => (o_1 = none → Q (-1001) S_1) ∧ (∀ j_1 : Nat, o_1 = some j_1 → wp_X9_isEpoch a2 S_1 (fun r_2 S_2 => ((r_2 = 0 → Q (-1001) S_2) ∧ (¬ r_2 = 0 → wp_X9_within a3 99 S_2 (fun r_4 S_4 => ((¬ r_4 = 0 → (j_1 < nM S_4 ∧ (((kM S_4 j_1 = 1 ∨ kM S_4 j_1 = 2) → wp_X4_changeAntenna j_1 a2 a3 S_4 (fun r_8 S_8 => Q r_8 S_8)) ∧ (¬ (kM S_4 j_1 = 1 ∨ kM S_4 j_1 = 2) → Q (-1003) S_4)))) ∧ (r_4 = 0 → Q (-1001) S_4))))))))
set_option maxHeartbeats 4000000 in
set_option maxRecDepth 100000 in
theorem ct_X9_antenna (l : Launch) (D : va_G) (cA : Nat → ClassId) (ad : Nat → Nat → Nat) (a1 : Int32) (a2 : Int32) (a3 : Int32) (S : Sg) (Q : Int32 → Sg → Prop) (hw : wp_X9_antenna a1 a2 a3 S Q) : CtE l yX9_antenna wsX9_antenna (mkR 1 23) D cA ad [.ref (ad 0 0), .int a1, .int a2, .int a3] S Q := by
  refine ct_ofE (cc := cX9_antenna) (nL := 6) (by decide) rfl (Nat.le_of_ble_eq_true rfl) ?_
  intro p e s m args below meth c A Q C hE hret
  unfold wp_X9_antenna at hw
  have C : Cx p s m args c cX9_antenna 6 wsX9_antenna RX9 D cA A := C
  have cl73 : Cond.classLink RX9 73 RX4 ∈ wsX9_antenna := by decide +kernel
  change KK p l e (mkR 1 23) s m args below meth c 6 D cA ad A Q 0 [(0, .ref (ad 0 0)), (1, .int a1), (2, .int a2), (3, .int a3)] [] S
  refine k_aload_n (pc := 0) C dX9_antenna_0 0 rfl rfl ?_
  refine k_iload_n (pc := 1) C dX9_antenna_1 1 rfl rfl ?_
  refine k_afterQ (pc := 2) C 26 (wp_X9_markAt a1 S) hw (fun post hw => by
      exact rn_V C (ct_X9_markAt l D cA ad a1 S post hw) (cwV 1 C.2.2.2.2.1 gX9_antenna_X9_markAt rfl rfl rfl (by decide +kernel) ⟨Nat.le_of_ble_eq_true rfl, Nat.le_of_ble_eq_true rfl⟩) hm_0 (cel_0 cA ad S 0) rfl rfl rfl rfl (Nat.le_of_ble_eq_true rfl) dX9_antenna_2) (fun S_1 hw => ?_) (fun j_1 S_1 hw => ?_)
  · have hw := hw.1 rfl
    refine k_astoreN (pc := 5) C dX9_antenna_5 (by decide) [(4, .null), (0, .ref (ad 0 0)), (1, .int a1), (2, .int a2), (3, .int a3)] rfl ?_
    refine k_aloadN (pc := 7) C dX9_antenna_7 0 rfl ?_
    refine k_ifnullN (pc := 9) C 28 dX9_antenna_9 (by decide) ?_
    refine k_sipush (v := (-1001)) (pc := 28) C dX9_antenna_28 (by decide) ?_
    exact hret _ _ _ _ dX9_antenna_31 hw
  · have hw := hw.2 j_1 rfl
    refine k_astore (pc := 5) C dX9_antenna_5 (by decide) [(4, .ref (ad 26 j_1)), (0, .ref (ad 0 0)), (1, .int a1), (2, .int a2), (3, .int a3)] rfl ?_
    refine k_aload (pc := 7) C dX9_antenna_7 0 rfl ?_
    refine k_ifnull (pc := 9) C dX9_antenna_9 ?_
    refine k_iload_n (pc := 12) C dX9_antenna_12 3 rfl rfl ?_
    refine k_afterI (pc := 13) C (wp_X9_isEpoch a2 S_1) hw (fun post hw => by
        exact rn_S C (ct_X9_isEpoch l D cA ad a2 S_1 post hw) (va_cwS 1 C.2.2.2.2.1 gX9_antenna_X9_isEpoch rfl rfl rfl (by decide +kernel) ⟨Nat.le_of_ble_eq_true rfl, Nat.le_of_ble_eq_true rfl⟩) rfl rfl (Nat.le_of_ble_eq_true rfl) dX9_antenna_13) (fun r_2 S_2 hw => ?_)
    refine k_if_eq (pc := 16) C 28 dX9_antenna_16 (by decide) (fun q_3 => ?_) (fun q_3 => ?_)
    · have hw := hw.1 q_3
      refine k_sipush (v := (-1001)) (pc := 28) C dX9_antenna_28 (by decide) ?_
      exact hret _ _ _ _ dX9_antenna_31 hw
    · have hw := hw.2 q_3
      refine k_iload_n (pc := 19) C dX9_antenna_19 4 rfl rfl ?_
      refine k_bipush (v := 99) (pc := 20) C dX9_antenna_20 (by decide) ?_
      refine k_afterI (pc := 22) C (wp_X9_within a3 99 S_2) hw (fun post hw => by
          exact rn_S C (ct_X9_within l D cA ad a3 99 S_2 post hw) (va_cwS 2 C.2.2.2.2.1 gX9_antenna_X9_within rfl rfl rfl (by decide +kernel) ⟨Nat.le_of_ble_eq_true rfl, Nat.le_of_ble_eq_true rfl⟩) rfl rfl (Nat.le_of_ble_eq_true rfl) dX9_antenna_22) (fun r_4 S_4 hw => ?_)
      refine k_if_ne (pc := 25) C 32 dX9_antenna_25 (by decide) (fun q_5 => ?_) (fun q_5 => ?_)
      · have hw := hw.1 q_5
        refine k_aload (pc := 32) C dX9_antenna_32 0 rfl ?_
        obtain ⟨h_7, hw⟩ := hw
        refine k_inst (pc := 34) C hE h_7 cl73 dX9_antenna_34 (fun g_6 => ?_) (fun g_6 => ?_)
        · have hw := hw.1 g_6
          refine k_if_eq (pc := 37) C 55 dX9_antenna_37 (by decide) (fun q => absurd q (by decide)) (fun _ => ?_)
          refine k_aload (pc := 40) C dX9_antenna_40 0 rfl ?_
          refine k_cast (pc := 42) C hE h_7 g_6 cl73 dX9_antenna_42 ?_
          refine k_astore (pc := 45) C dX9_antenna_45 (by decide) [(5, .ref (ad 26 j_1)), (4, .ref (ad 26 j_1)), (0, .ref (ad 0 0)), (1, .int a1), (2, .int a2), (3, .int a3)] rfl ?_
          refine k_aload (pc := 47) C dX9_antenna_47 0 rfl ?_
          refine k_iload_n (pc := 49) C dX9_antenna_49 4 rfl rfl ?_
          refine k_iload_n (pc := 50) C dX9_antenna_50 5 rfl rfl ?_
          refine k_afterI (pc := 51) C (wp_X4_changeAntenna j_1 a2 a3 S_4) hw (fun post hw => by
              rcases g_6 with h | h
              · exact rn_V C (ct_X4_changeAntenna l D cA ad j_1 a2 a3 S_4 post hw) (cwV 2 C.2.2.2.2.1 gX9_antenna_X4_changeAntenna rfl rfl rfl (by decide +kernel) ⟨Nat.le_of_ble_eq_true rfl, Nat.le_of_ble_eq_true rfl⟩) (mm_26 h_7) (celM_1 h) rfl rfl rfl rfl (Nat.le_of_ble_eq_true rfl) dX9_antenna_51
              · exact rn_U C (ct_X4_changeAntenna l D cA ad j_1 a2 a3 S_4 post hw) (va_cwU 2 C.2.2.2.2.1 gX9_antenna_X4_changeAntenna_u75X8 rfl rfl rfl rfl (by decide +kernel) ⟨Nat.le_of_ble_eq_true rfl, Nat.le_of_ble_eq_true rfl⟩) (mm_26 h_7) (celM_2 h) rfl rfl rfl rfl (Nat.le_of_ble_eq_true rfl) dX9_antenna_51) (fun r_8 S_8 hw => ?_)
          exact hret _ _ _ _ dX9_antenna_54 hw
        · have hw := hw.2 g_6
          refine k_if_eq (pc := 37) C 55 dX9_antenna_37 (by decide) (fun _ => ?_) (fun q => absurd q (by decide))
          refine k_sipush (v := (-1003)) (pc := 55) C dX9_antenna_55 (by decide) ?_
          exact hret _ _ _ _ dX9_antenna_58 hw
      · have hw := hw.2 q_5
        refine k_sipush (v := (-1001)) (pc := 28) C dX9_antenna_28 (by decide) ?_
        exact hret _ _ _ _ dX9_antenna_31 hw
def wp_X9_cleared (a1 : Int32) (a2 : Int32) (a3 : Int32) (S : Sg) (Q : Int64 → Sg → Prop) (X : String → Sg → Prop) : Prop :=
  wp_X9_markAt a1 S (fun o_1 S_1 => (o_1 = none → X "java/lang/IllegalArgumentException" S_1) ∧ (∀ j_1 : Nat, o_1 = some j_1 → wp_X9_isEpoch a2 S_1 (fun r_2 S_2 => ((r_2 = 0 → X "java/lang/IllegalArgumentException" S_2) ∧ (¬ r_2 = 0 → wp_X9_isSide a3 S_2 (fun r_4 S_4 => ((¬ r_4 = 0 → (j_1 < nM S_4 ∧ wp_X3_isCleared j_1 a2 S_4 (fun r_6 S_6 => ((¬ r_6 = 0 → (j_1 < nM S_6 ∧ wpv_clearedValue j_1 a2 a3 S_6 (fun r_9 S_9 => Q r_9 S_9))) ∧ (r_6 = 0 → X "java/lang/IllegalStateException" S_6))))) ∧ (r_4 = 0 → X "java/lang/IllegalArgumentException" S_4))))))))
set_option maxHeartbeats 4000000 in
set_option maxRecDepth 100000 in
theorem ct_X9_cleared (l : Launch) (hst : l.stackTraces = false) (D : va_G) (cA : Nat → ClassId) (ad : Nat → Nat → Nat) (a1 : Int32) (a2 : Int32) (a3 : Int32) (S : Sg) (Q : Int64 → Sg → Prop) (X : String → Sg → Prop) (hw : wp_X9_cleared a1 a2 a3 S Q X) : CtX l yX9_cleared wsX9_cleared (mkX 6 90) D cA ad [.ref (ad 0 0), .int a1, .int a2, .int a3] S (fun B A => va_Ql Q B A) X := by
  refine ctx_of (cc := cX9_cleared) (nL := 5) (ret := some .long) (by decide) rfl (Nat.le_of_ble_eq_true rfl) ?_
  intro p e s m args below meth c A C hr hk hE htab
  unfold wp_X9_cleared at hw
  have C : Cx p s m args c cX9_cleared 5 wsX9_cleared RX9 D cA A := C
  have cl97 : Cond.classLink RX9 97 "java/lang/IllegalArgumentException" ∈ wsX9_cleared := by decide +kernel
  have iniIllegalArgumentException : Cond.initialized "java/lang/IllegalArgumentException" ∈ wsX9_cleared := by decide +kernel
  have cl107 : Cond.classLink RX9 107 "java/lang/IllegalStateException" ∈ wsX9_cleared := by decide +kernel
  have iniIllegalStateException : Cond.initialized "java/lang/IllegalStateException" ∈ wsX9_cleared := by decide +kernel
  have hatIllegalArgumentException : ∀ w ∈ (vx_atS RX9 101 "java/lang/IllegalArgumentException" ["java/lang/RuntimeException", "java/lang/Exception"]).filter goodWord, w ∈ wsX9_cleared := by decide +kernel
  have hatnIllegalArgumentException : ∀ w ∈ (vx_atS RX9 101 "java/lang/IllegalArgumentException" ["java/lang/RuntimeException", "java/lang/Exception"]).filter (fun w => !goodWord w), w ∈ [Cond.castable "java/lang/IllegalArgumentException" "java/lang/IllegalArgumentException", Cond.declares (Bundle.initS "java/lang/RuntimeException"), Cond.declares (Bundle.initS "java/lang/Exception"), Cond.declares (Bundle.initS Bundle.tN)] := by decide +kernel
  have hatIllegalStateException : ∀ w ∈ (vx_atS RX9 111 "java/lang/IllegalStateException" ["java/lang/RuntimeException", "java/lang/Exception"]).filter goodWord, w ∈ wsX9_cleared := by decide +kernel
  have hatnIllegalStateException : ∀ w ∈ (vx_atS RX9 111 "java/lang/IllegalStateException" ["java/lang/RuntimeException", "java/lang/Exception"]).filter (fun w => !goodWord w), w ∈ [Cond.castable "java/lang/IllegalStateException" "java/lang/IllegalStateException", Cond.declares (Bundle.initS "java/lang/RuntimeException"), Cond.declares (Bundle.initS "java/lang/Exception"), Cond.declares (Bundle.initS Bundle.tN)] := by decide +kernel
  have hgIllegalArgumentException_97 : ∀ w ∈ Cond.classLink RX9 97 "java/lang/IllegalArgumentException" :: Cond.initialized "java/lang/IllegalArgumentException" :: vx_atS RX9 101 "java/lang/IllegalArgumentException" ["java/lang/RuntimeException", "java/lang/Exception"], vx_ot w = true := by decide +kernel
  have hgIllegalStateException_107 : ∀ w ∈ Cond.classLink RX9 107 "java/lang/IllegalStateException" :: Cond.initialized "java/lang/IllegalStateException" :: vx_atS RX9 111 "java/lang/IllegalStateException" ["java/lang/RuntimeException", "java/lang/Exception"], vx_ot w = true := by decide +kernel
  change KK p l e (mkX 6 90) s m args below meth c 5 D cA ad A (vx_MQ below (va_Ql Q (fun S' t => va_P D vwCl (lW cA ad S') t.heap ∧ va_D A (lW cA ad S')) A) (xcX D cA ad A X) args s 1 6 A) 0 [(0, .ref (ad 0 0)), (1, .int a1), (2, .int a2), (3, .int a3)] [] S
  refine k_aload_n (pc := 0) C dX9_cleared_0 0 rfl rfl ?_
  refine k_iload_n (pc := 1) C dX9_cleared_1 1 rfl rfl ?_
  refine k_afterQ (pc := 2) C 26 (wp_X9_markAt a1 S) hw (fun post hw => by
      exact rn_V C (ct_X9_markAt l D cA ad a1 S post hw) (cwV 1 C.2.2.2.2.1 gX9_cleared_X9_markAt rfl rfl rfl (by decide +kernel) ⟨Nat.le_of_ble_eq_true rfl, Nat.le_of_ble_eq_true rfl⟩) hm_0 (cel_0 cA ad S 0) rfl rfl rfl rfl (Nat.le_of_ble_eq_true rfl) dX9_cleared_2) (fun S_1 hw => ?_) (fun j_1 S_1 hw => ?_)
  · have hw := hw.1 rfl
    refine k_astoreN (pc := 5) C dX9_cleared_5 (by decide) [(4, .null), (0, .ref (ad 0 0)), (1, .int a1), (2, .int a2), (3, .int a3)] rfl ?_
    refine k_aloadN (pc := 7) C dX9_cleared_7 0 rfl ?_
    refine k_ifnullN (pc := 9) C 26 dX9_cleared_9 (by decide) ?_
    exact k_throwS (pc := 26) C hst "java/lang/IllegalArgumentException" "no such mark, epoch or side" hE htab hk (by decide +kernel) (by decide +kernel) cl97 iniIllegalArgumentException (by decide +kernel) hatIllegalArgumentException hatnIllegalArgumentException hE.2.2.1 hgIllegalArgumentException_97 dX9_cleared_26 dX9_cleared_29 dX9_cleared_30 dX9_cleared_32 dX9_cleared_35 ⟨Nat.le_of_ble_eq_true rfl, Nat.le_of_ble_eq_true rfl, Nat.le_of_ble_eq_true rfl, Nat.le_of_ble_eq_true rfl⟩ hw
  · have hw := hw.2 j_1 rfl
    refine k_astore (pc := 5) C dX9_cleared_5 (by decide) [(4, .ref (ad 26 j_1)), (0, .ref (ad 0 0)), (1, .int a1), (2, .int a2), (3, .int a3)] rfl ?_
    refine k_aload (pc := 7) C dX9_cleared_7 0 rfl ?_
    refine k_ifnull (pc := 9) C dX9_cleared_9 ?_
    refine k_iload_n (pc := 12) C dX9_cleared_12 3 rfl rfl ?_
    refine k_afterI (pc := 13) C (wp_X9_isEpoch a2 S_1) hw (fun post hw => by
        exact rn_S C (ct_X9_isEpoch l D cA ad a2 S_1 post hw) (va_cwS 1 C.2.2.2.2.1 gX9_cleared_X9_isEpoch rfl rfl rfl (by decide +kernel) ⟨Nat.le_of_ble_eq_true rfl, Nat.le_of_ble_eq_true rfl⟩) rfl rfl (Nat.le_of_ble_eq_true rfl) dX9_cleared_13) (fun r_2 S_2 hw => ?_)
    refine k_if_eq (pc := 16) C 26 dX9_cleared_16 (by decide) (fun q_3 => ?_) (fun q_3 => ?_)
    · have hw := hw.1 q_3
      exact k_throwS (pc := 26) C hst "java/lang/IllegalArgumentException" "no such mark, epoch or side" hE htab hk (by decide +kernel) (by decide +kernel) cl97 iniIllegalArgumentException (by decide +kernel) hatIllegalArgumentException hatnIllegalArgumentException hE.2.2.1 hgIllegalArgumentException_97 dX9_cleared_26 dX9_cleared_29 dX9_cleared_30 dX9_cleared_32 dX9_cleared_35 ⟨Nat.le_of_ble_eq_true rfl, Nat.le_of_ble_eq_true rfl, Nat.le_of_ble_eq_true rfl, Nat.le_of_ble_eq_true rfl⟩ hw
    · have hw := hw.2 q_3
      refine k_iload_n (pc := 19) C dX9_cleared_19 4 rfl rfl ?_
      refine k_afterI (pc := 20) C (wp_X9_isSide a3 S_2) hw (fun post hw => by
          exact rn_S C (ct_X9_isSide l D cA ad a3 S_2 post hw) (va_cwS 1 C.2.2.2.2.1 gX9_cleared_X9_isSide rfl rfl rfl (by decide +kernel) ⟨Nat.le_of_ble_eq_true rfl, Nat.le_of_ble_eq_true rfl⟩) rfl rfl (Nat.le_of_ble_eq_true rfl) dX9_cleared_20) (fun r_4 S_4 hw => ?_)
      refine k_if_ne (pc := 23) C 36 dX9_cleared_23 (by decide) (fun q_5 => ?_) (fun q_5 => ?_)
      · have hw := hw.1 q_5
        refine k_aload (pc := 36) C dX9_cleared_36 0 rfl ?_
        refine k_iload_n (pc := 38) C dX9_cleared_38 3 rfl rfl ?_
        obtain ⟨h_7, hw⟩ := hw
        refine k_afterI (pc := 39) C (wp_X3_isCleared j_1 a2 S_4) hw (fun post hw => by
            rcases kd4 S_4 j_1 with h | h | h | h
            · exact rn_V C (ct_X3_isCleared l D cA ad j_1 a2 S_4 post hw) (cwV 1 C.2.2.2.2.1 gX9_cleared_X3_isCleared rfl rfl rfl (by decide +kernel) ⟨Nat.le_of_ble_eq_true rfl, Nat.le_of_ble_eq_true rfl⟩) (mm_26 h_7) (celM_0 h) rfl rfl rfl rfl (Nat.le_of_ble_eq_true rfl) dX9_cleared_39
            · exact rn_U C (ct_X3_isCleared l D cA ad j_1 a2 S_4 post hw) (va_cwU 1 C.2.2.2.2.1 gX9_cleared_X3_isCleared_u104X4 rfl rfl rfl rfl (by decide +kernel) ⟨Nat.le_of_ble_eq_true rfl, Nat.le_of_ble_eq_true rfl⟩) (mm_26 h_7) (celM_1 h) rfl rfl rfl rfl (Nat.le_of_ble_eq_true rfl) dX9_cleared_39
            · exact rn_U C (ct_X3_isCleared l D cA ad j_1 a2 S_4 post hw) (va_cwU 1 C.2.2.2.2.1 gX9_cleared_X3_isCleared_u104X8 rfl rfl rfl rfl (by decide +kernel) ⟨Nat.le_of_ble_eq_true rfl, Nat.le_of_ble_eq_true rfl⟩) (mm_26 h_7) (celM_2 h) rfl rfl rfl rfl (Nat.le_of_ble_eq_true rfl) dX9_cleared_39
            · exact rn_U C (ct_X3_isCleared l D cA ad j_1 a2 S_4 post hw) (va_cwU 1 C.2.2.2.2.1 gX9_cleared_X3_isCleared_u104X1 rfl rfl rfl rfl (by decide +kernel) ⟨Nat.le_of_ble_eq_true rfl, Nat.le_of_ble_eq_true rfl⟩) (mm_26 h_7) (celM_3 h) rfl rfl rfl rfl (Nat.le_of_ble_eq_true rfl) dX9_cleared_39) (fun r_6 S_6 hw => ?_)
        refine k_if_ne (pc := 42) C 55 dX9_cleared_42 (by decide) (fun q_8 => ?_) (fun q_8 => ?_)
        · have hw := hw.1 q_8
          refine k_aload (pc := 55) C dX9_cleared_55 0 rfl ?_
          refine k_iload_n (pc := 57) C dX9_cleared_57 3 rfl rfl ?_
          refine k_iload_n (pc := 58) C dX9_cleared_58 4 rfl rfl ?_
          obtain ⟨h_10, hw⟩ := hw
          refine k_afterL (pc := 59) C (wpv_clearedValue j_1 a2 a3 S_6) hw (fun post hw => by
              rcases kd4 S_6 j_1 with h | h | h | h
              · exact rn_V C (ct_X3_clearedValue l D cA ad j_1 a2 a3 S_6 post (hw.1 h)) (cwV 2 C.2.2.2.2.1 gX9_cleared_X3_clearedValue rfl rfl rfl (by decide +kernel) ⟨Nat.le_of_ble_eq_true rfl, Nat.le_of_ble_eq_true rfl⟩) (mm_26 h_10) (celM_0 h) rfl rfl rfl rfl (Nat.le_of_ble_eq_true rfl) dX9_cleared_59
              · exact rn_U C (ct_X4_clearedValue l D cA ad j_1 a2 a3 S_6 post (hw.2.1 (by omega))) (va_cwO 2 C.2.2.2.2.1 gX9_cleared_X4_clearedValue_u112X4 rfl rfl rfl (b0 := cX3_clearedValue) (m0 := 6) (r0 := (some .long)) (by decide +kernel) (by decide +kernel) ⟨Nat.le_of_ble_eq_true rfl, Nat.le_of_ble_eq_true rfl⟩) (mm_26 h_10) (celM_1 h) rfl rfl rfl rfl (Nat.le_of_ble_eq_true rfl) dX9_cleared_59
              · exact rn_U C (ct_X4_clearedValue l D cA ad j_1 a2 a3 S_6 post (hw.2.1 (by omega))) (va_cwO 2 C.2.2.2.2.1 gX9_cleared_X4_clearedValue_u112X8 rfl rfl rfl (b0 := cX3_clearedValue) (m0 := 6) (r0 := (some .long)) (by decide +kernel) (by decide +kernel) ⟨Nat.le_of_ble_eq_true rfl, Nat.le_of_ble_eq_true rfl⟩) (mm_26 h_10) (celM_2 h) rfl rfl rfl rfl (Nat.le_of_ble_eq_true rfl) dX9_cleared_59
              · exact rn_U C (ct_X1_clearedValue l D cA ad j_1 a2 a3 S_6 post (hw.2.2 h)) (va_cwO 2 C.2.2.2.2.1 gX9_cleared_X1_clearedValue_u112X1 rfl rfl rfl (b0 := cX3_clearedValue) (m0 := 6) (r0 := (some .long)) (by decide +kernel) (by decide +kernel) ⟨Nat.le_of_ble_eq_true rfl, Nat.le_of_ble_eq_true rfl⟩) (mm_26 h_10) (celM_3 h) rfl rfl rfl rfl (Nat.le_of_ble_eq_true rfl) dX9_cleared_59) (fun r_9 S_9 hw => ?_)
          exact k_lretX C hr hk dX9_cleared_62 hw
        · have hw := hw.2 q_8
          exact k_throwS (pc := 45) C hst "java/lang/IllegalStateException" "no cleared reading" hE htab hk (by decide +kernel) (by decide +kernel) cl107 iniIllegalStateException (by decide +kernel) hatIllegalStateException hatnIllegalStateException hE.2.2.2.1 hgIllegalStateException_107 dX9_cleared_45 dX9_cleared_48 dX9_cleared_49 dX9_cleared_51 dX9_cleared_54 ⟨Nat.le_of_ble_eq_true rfl, Nat.le_of_ble_eq_true rfl, Nat.le_of_ble_eq_true rfl, Nat.le_of_ble_eq_true rfl⟩ hw
      · have hw := hw.2 q_5
        exact k_throwS (pc := 26) C hst "java/lang/IllegalArgumentException" "no such mark, epoch or side" hE htab hk (by decide +kernel) (by decide +kernel) cl97 iniIllegalArgumentException (by decide +kernel) hatIllegalArgumentException hatnIllegalArgumentException hE.2.2.1 hgIllegalArgumentException_97 dX9_cleared_26 dX9_cleared_29 dX9_cleared_30 dX9_cleared_32 dX9_cleared_35 ⟨Nat.le_of_ble_eq_true rfl, Nat.le_of_ble_eq_true rfl, Nat.le_of_ble_eq_true rfl, Nat.le_of_ble_eq_true rfl⟩ hw
def wp_X9_rate (a1 : Int32) (a2 : Int32) (a3 : Int32) (S : Sg) (Q : Int64 → Sg → Prop) (X : String → Sg → Prop) : Prop :=
  wp_X9_markAt a1 S (fun o_1 S_1 => (o_1 = none → X "java/lang/IllegalArgumentException" S_1) ∧ (∀ j_1 : Nat, o_1 = some j_1 → wp_X9_isSide a2 S_1 (fun r_2 S_2 => ((¬ r_2 = 0 → wp_X5_gather j_1 a2 S_2 (fun S_4 => wp_X5_size S_4 (fun r_5 S_5 => ((2 ≤ r_5 → wp_X5_rateAbove S_5 (fun r_7 S_7 => wp_X5_rateBelow S_7 (fun r_8 S_8 => wp_X9_lowestTerms r_7 r_8 a3 S_8 (fun r_9 S_9 => Q r_9 S_9)))) ∧ (¬ 2 ≤ r_5 → X "java/lang/IllegalStateException" S_5))))) ∧ (r_2 = 0 → X "java/lang/IllegalArgumentException" S_2)))))
set_option maxHeartbeats 4000000 in
set_option maxRecDepth 100000 in
theorem ct_X9_rate (l : Launch) (hst : l.stackTraces = false) (D : va_G) (cA : Nat → ClassId) (ad : Nat → Nat → Nat) (a1 : Int32) (a2 : Int32) (a3 : Int32) (S : Sg) (Q : Int64 → Sg → Prop) (X : String → Sg → Prop) (hw : wp_X9_rate a1 a2 a3 S Q X) : CtX l yX9_rate wsX9_rate (mkX 6 93) D cA ad [.ref (ad 0 0), .int a1, .int a2, .int a3] S (fun B A => va_Ql Q B A) X := by
  refine ctx_of (cc := cX9_rate) (nL := 5) (ret := some .long) (by decide) rfl (Nat.le_of_ble_eq_true rfl) ?_
  intro p e s m args below meth c A C hr hk hE htab
  unfold wp_X9_rate at hw
  have C : Cx p s m args c cX9_rate 5 wsX9_rate RX9 D cA A := C
  have hin9 : ∀ w ∈ u_ws RX9 TX9 8, w ∈ wsX9_rate := fun w h => List.mem_cons_of_mem _ (List.mem_append_left _ (List.mem_append_left _ (List.mem_append_left _ (List.mem_append_left _ (List.mem_append_left _ (List.mem_append_left _ (List.mem_append_left _ (List.mem_append_right _ h))))))))
  have cl97 : Cond.classLink RX9 97 "java/lang/IllegalArgumentException" ∈ wsX9_rate := by decide +kernel
  have iniIllegalArgumentException : Cond.initialized "java/lang/IllegalArgumentException" ∈ wsX9_rate := by decide +kernel
  have f18 : Cond.fieldLink RX9 18 "CreepBoard" "series" "LCreepBoard$Series;" ∈ wsX9_rate := by decide +kernel
  have cl107 : Cond.classLink RX9 107 "java/lang/IllegalStateException" ∈ wsX9_rate := by decide +kernel
  have iniIllegalStateException : Cond.initialized "java/lang/IllegalStateException" ∈ wsX9_rate := by decide +kernel
  have hatIllegalArgumentException : ∀ w ∈ (vx_atS RX9 101 "java/lang/IllegalArgumentException" ["java/lang/RuntimeException", "java/lang/Exception"]).filter goodWord, w ∈ wsX9_rate := by decide +kernel
  have hatnIllegalArgumentException : ∀ w ∈ (vx_atS RX9 101 "java/lang/IllegalArgumentException" ["java/lang/RuntimeException", "java/lang/Exception"]).filter (fun w => !goodWord w), w ∈ [Cond.castable "java/lang/IllegalArgumentException" "java/lang/IllegalArgumentException", Cond.declares (Bundle.initS "java/lang/RuntimeException"), Cond.declares (Bundle.initS "java/lang/Exception"), Cond.declares (Bundle.initS Bundle.tN)] := by decide +kernel
  have hatIllegalStateException : ∀ w ∈ (vx_atS RX9 111 "java/lang/IllegalStateException" ["java/lang/RuntimeException", "java/lang/Exception"]).filter goodWord, w ∈ wsX9_rate := by decide +kernel
  have hatnIllegalStateException : ∀ w ∈ (vx_atS RX9 111 "java/lang/IllegalStateException" ["java/lang/RuntimeException", "java/lang/Exception"]).filter (fun w => !goodWord w), w ∈ [Cond.castable "java/lang/IllegalStateException" "java/lang/IllegalStateException", Cond.declares (Bundle.initS "java/lang/RuntimeException"), Cond.declares (Bundle.initS "java/lang/Exception"), Cond.declares (Bundle.initS Bundle.tN)] := by decide +kernel
  have hgIllegalArgumentException_97 : ∀ w ∈ Cond.classLink RX9 97 "java/lang/IllegalArgumentException" :: Cond.initialized "java/lang/IllegalArgumentException" :: vx_atS RX9 101 "java/lang/IllegalArgumentException" ["java/lang/RuntimeException", "java/lang/Exception"], vx_ot w = true := by decide +kernel
  have hgIllegalStateException_107 : ∀ w ∈ Cond.classLink RX9 107 "java/lang/IllegalStateException" :: Cond.initialized "java/lang/IllegalStateException" :: vx_atS RX9 111 "java/lang/IllegalStateException" ["java/lang/RuntimeException", "java/lang/Exception"], vx_ot w = true := by decide +kernel
  change KK p l e (mkX 6 93) s m args below meth c 5 D cA ad A (vx_MQ below (va_Ql Q (fun S' t => va_P D vwCl (lW cA ad S') t.heap ∧ va_D A (lW cA ad S')) A) (xcX D cA ad A X) args s 1 6 A) 0 [(0, .ref (ad 0 0)), (1, .int a1), (2, .int a2), (3, .int a3)] [] S
  refine k_aload_n (pc := 0) C dX9_rate_0 0 rfl rfl ?_
  refine k_iload_n (pc := 1) C dX9_rate_1 1 rfl rfl ?_
  refine k_afterQ (pc := 2) C 26 (wp_X9_markAt a1 S) hw (fun post hw => by
      exact rn_V C (ct_X9_markAt l D cA ad a1 S post hw) (cwV 1 C.2.2.2.2.1 gX9_rate_X9_markAt rfl rfl rfl (by decide +kernel) ⟨Nat.le_of_ble_eq_true rfl, Nat.le_of_ble_eq_true rfl⟩) hm_0 (cel_0 cA ad S 0) rfl rfl rfl rfl (Nat.le_of_ble_eq_true rfl) dX9_rate_2) (fun S_1 hw => ?_) (fun j_1 S_1 hw => ?_)
  · have hw := hw.1 rfl
    refine k_astoreN (pc := 5) C dX9_rate_5 (by decide) [(4, .null), (0, .ref (ad 0 0)), (1, .int a1), (2, .int a2), (3, .int a3)] rfl ?_
    refine k_aloadN (pc := 7) C dX9_rate_7 0 rfl ?_
    refine k_ifnullN (pc := 9) C 19 dX9_rate_9 (by decide) ?_
    exact k_throwS (pc := 19) C hst "java/lang/IllegalArgumentException" "no such mark or side" hE htab hk (by decide +kernel) (by decide +kernel) cl97 iniIllegalArgumentException (by decide +kernel) hatIllegalArgumentException hatnIllegalArgumentException hE.2.2.1 hgIllegalArgumentException_97 dX9_rate_19 dX9_rate_22 dX9_rate_23 dX9_rate_25 dX9_rate_28 ⟨Nat.le_of_ble_eq_true rfl, Nat.le_of_ble_eq_true rfl, Nat.le_of_ble_eq_true rfl, Nat.le_of_ble_eq_true rfl⟩ hw
  · have hw := hw.2 j_1 rfl
    refine k_astore (pc := 5) C dX9_rate_5 (by decide) [(4, .ref (ad 26 j_1)), (0, .ref (ad 0 0)), (1, .int a1), (2, .int a2), (3, .int a3)] rfl ?_
    refine k_aload (pc := 7) C dX9_rate_7 0 rfl ?_
    refine k_ifnull (pc := 9) C dX9_rate_9 ?_
    refine k_iload_n (pc := 12) C dX9_rate_12 3 rfl rfl ?_
    refine k_afterI (pc := 13) C (wp_X9_isSide a2 S_1) hw (fun post hw => by
        exact rn_S C (ct_X9_isSide l D cA ad a2 S_1 post hw) (va_cwS 1 C.2.2.2.2.1 gX9_rate_X9_isSide rfl rfl rfl (by decide +kernel) ⟨Nat.le_of_ble_eq_true rfl, Nat.le_of_ble_eq_true rfl⟩) rfl rfl (Nat.le_of_ble_eq_true rfl) dX9_rate_13) (fun r_2 S_2 hw => ?_)
    refine k_if_ne (pc := 16) C 29 dX9_rate_16 (by decide) (fun q_3 => ?_) (fun q_3 => ?_)
    · have hw := hw.1 q_3
      refine k_aload_n (pc := 29) C dX9_rate_29 1 rfl rfl ?_
      refine k_get (j := 1) (pc := 30) C hin9 hm_0 (cel_0 cA ad S_2 0) rfl (by decide) f18 (fun _ h => h) rfl dX9_rate_30 ?_
      refine k_aload (pc := 33) C dX9_rate_33 0 rfl ?_
      refine k_iload_n (pc := 35) C dX9_rate_35 3 rfl rfl ?_
      refine k_afterV (pc := 36) C (wp_X5_gather j_1 a2 S_2) hw (fun post hw => by
          exact rn_V C (ct_X5_gather l D cA ad j_1 a2 S_2 post hw) (cwV 2 C.2.2.2.2.1 gX9_rate_X5_gather rfl rfl rfl (by decide +kernel) ⟨Nat.le_of_ble_eq_true rfl, Nat.le_of_ble_eq_true rfl⟩) hm_3 (cel_3 cA ad S_2 0) rfl rfl rfl rfl (Nat.le_of_ble_eq_true rfl) dX9_rate_36) (fun S_4 hw => ?_)
      refine k_aload_n (pc := 39) C dX9_rate_39 1 rfl rfl ?_
      refine k_get (j := 1) (pc := 40) C hin9 hm_0 (cel_0 cA ad S_4 0) rfl (by decide) f18 (fun _ h => h) rfl dX9_rate_40 ?_
      refine k_afterI (pc := 43) C (wp_X5_size S_4) hw (fun post hw => by
          exact rn_V C (ct_X5_size l D cA ad S_4 post hw) (cwV 0 C.2.2.2.2.1 gX9_rate_X5_size rfl rfl rfl (by decide +kernel) ⟨Nat.le_of_ble_eq_true rfl, Nat.le_of_ble_eq_true rfl⟩) hm_3 (cel_3 cA ad S_4 0) rfl rfl rfl rfl (Nat.le_of_ble_eq_true rfl) dX9_rate_43) (fun r_5 S_5 hw => ?_)
      refine k_iconst (v := 2) (pc := 46) C dX9_rate_46 (by decide) ?_
      refine k_icmp_ge (pc := 47) C 60 dX9_rate_47 (by decide) (fun q_6 => ?_) (fun q_6 => ?_)
      · have hw := hw.1 q_6
        refine k_aload_n (pc := 60) C dX9_rate_60 1 rfl rfl ?_
        refine k_get (j := 1) (pc := 61) C hin9 hm_0 (cel_0 cA ad S_5 0) rfl (by decide) f18 (fun _ h => h) rfl dX9_rate_61 ?_
        refine k_afterL (pc := 64) C (wp_X5_rateAbove S_5) hw (fun post hw => by
            exact rn_V C (ct_X5_rateAbove l D cA ad S_5 post hw) (cwV 0 C.2.2.2.2.1 gX9_rate_X5_rateAbove rfl rfl rfl (by decide +kernel) ⟨Nat.le_of_ble_eq_true rfl, Nat.le_of_ble_eq_true rfl⟩) hm_3 (cel_3 cA ad S_5 0) rfl rfl rfl rfl (Nat.le_of_ble_eq_true rfl) dX9_rate_64) (fun r_7 S_7 hw => ?_)
        refine k_aload_n (pc := 67) C dX9_rate_67 1 rfl rfl ?_
        refine k_get (j := 1) (pc := 68) C hin9 hm_0 (cel_0 cA ad S_7 0) rfl (by decide) f18 (fun _ h => h) rfl dX9_rate_68 ?_
        refine k_afterL (pc := 71) C (wp_X5_rateBelow S_7) hw (fun post hw => by
            exact rn_V C (ct_X5_rateBelow l D cA ad S_7 post hw) (cwV 0 C.2.2.2.2.1 gX9_rate_X5_rateBelow rfl rfl rfl (by decide +kernel) ⟨Nat.le_of_ble_eq_true rfl, Nat.le_of_ble_eq_true rfl⟩) hm_3 (cel_3 cA ad S_7 0) rfl rfl rfl rfl (Nat.le_of_ble_eq_true rfl) dX9_rate_71) (fun r_8 S_8 hw => ?_)
        refine k_iload_n (pc := 74) C dX9_rate_74 4 rfl rfl ?_
        refine k_afterL (pc := 75) C (wp_X9_lowestTerms r_7 r_8 a3 S_8) hw (fun post hw => by
            exact rn_S C (ct_X9_lowestTerms l D cA ad r_7 r_8 a3 S_8 post hw) (va_cwS 3 C.2.2.2.2.1 gX9_rate_X9_lowestTerms rfl rfl rfl (by decide +kernel) ⟨Nat.le_of_ble_eq_true rfl, Nat.le_of_ble_eq_true rfl⟩) rfl rfl (Nat.le_of_ble_eq_true rfl) dX9_rate_75) (fun r_9 S_9 hw => ?_)
        exact k_lretX C hr hk dX9_rate_78 hw
      · have hw := hw.2 q_6
        exact k_throwS (pc := 50) C hst "java/lang/IllegalStateException" "fewer than 2 cleared readings" hE htab hk (by decide +kernel) (by decide +kernel) cl107 iniIllegalStateException (by decide +kernel) hatIllegalStateException hatnIllegalStateException hE.2.2.2.1 hgIllegalStateException_107 dX9_rate_50 dX9_rate_53 dX9_rate_54 dX9_rate_56 dX9_rate_59 ⟨Nat.le_of_ble_eq_true rfl, Nat.le_of_ble_eq_true rfl, Nat.le_of_ble_eq_true rfl, Nat.le_of_ble_eq_true rfl⟩ hw
    · have hw := hw.2 q_3
      exact k_throwS (pc := 19) C hst "java/lang/IllegalArgumentException" "no such mark or side" hE htab hk (by decide +kernel) (by decide +kernel) cl97 iniIllegalArgumentException (by decide +kernel) hatIllegalArgumentException hatnIllegalArgumentException hE.2.2.1 hgIllegalArgumentException_97 dX9_rate_19 dX9_rate_22 dX9_rate_23 dX9_rate_25 dX9_rate_28 ⟨Nat.le_of_ble_eq_true rfl, Nat.le_of_ble_eq_true rfl, Nat.le_of_ble_eq_true rfl, Nat.le_of_ble_eq_true rfl⟩ hw
def wp_X9_common (a1 : Int32) (a2 : Int32) (S : Sg) (Q : Int64 → Sg → Prop) (X : String → Sg → Prop) : Prop :=
  wp_X9_isEpoch a1 S (fun r_1 S_1 => ((r_1 = 0 → X "java/lang/IllegalArgumentException" S_1) ∧ (¬ r_1 = 0 → wp_X9_isSide a2 S_1 (fun r_3 S_3 => ((¬ r_3 = 0 → (∃ (I_5 : Int64 → Int32 → Int32 → Sg → Prop) (μ_5 : Int64 → Int32 → Int32 → Sg → Nat), I_5 0 0 0 S_3 ∧ ∀ (v3_5 : Int64) (v5_5 : Int32) (v6_5 : Int32) (S_5 : Sg), I_5 v3_5 v5_5 v6_5 S_5 → (((gI S_5 0 0 6) ≤ v6_5 → ((¬ v5_5 = 0 → ((¬ (Int32.toInt64 v5_5) = 0) ∧ Q (v3_5 / (Int32.toInt64 v5_5)) S_5)) ∧ (v5_5 = 0 → X "java/lang/IllegalStateException" S_5))) ∧ (¬ (gI S_5 0 0 6) ≤ v6_5 → wp_X9_markAt v6_5 S_5 (fun o_9 S_9 => (o_9 = none → (∀ x6_10 : Int32, x6_10 = v6_5 + 1 → (I_5 v3_5 v5_5 x6_10 S_9 ∧ μ_5 v3_5 v5_5 x6_10 S_9 < μ_5 v3_5 v5_5 v6_5 S_5))) ∧ (∀ j_9 : Nat, o_9 = some j_9 → (j_9 < nM S_9 ∧ wp_X3_isCleared j_9 a1 S_9 (fun r_11 S_11 => ((r_11 = 0 → (∀ x6_14 : Int32, x6_14 = v6_5 + 1 → (I_5 v3_5 v5_5 x6_14 S_11 ∧ μ_5 v3_5 v5_5 x6_14 S_11 < μ_5 v3_5 v5_5 v6_5 S_5))) ∧ (¬ r_11 = 0 → (j_9 < nM S_11 ∧ wpv_clearedValue j_9 a1 a2 S_11 (fun r_15 S_15 => (j_9 < nM S_15 ∧ wp_X3_firstCleared j_9 a1 S_15 (fun r_17 S_17 => (j_9 < nM S_17 ∧ wpv_clearedValue j_9 r_17 a2 S_17 (fun r_19 S_19 => (∀ x3_21 : Int64, x3_21 = (v3_5 + (r_15 - r_19)) → (∀ x5_22 : Int32, x5_22 = v5_5 + 1 → (∀ x6_23 : Int32, x6_23 = v6_5 + 1 → (I_5 x3_21 x5_22 x6_23 S_19 ∧ μ_5 x3_21 x5_22 x6_23 S_19 < μ_5 v3_5 v5_5 v6_5 S_5)))))))))))))))))))) ∧ (r_3 = 0 → X "java/lang/IllegalArgumentException" S_3))))))
set_option maxHeartbeats 4000000 in
set_option maxRecDepth 100000 in
theorem ct_X9_common (l : Launch) (hst : l.stackTraces = false) (D : va_G) (cA : Nat → ClassId) (ad : Nat → Nat → Nat) (a1 : Int32) (a2 : Int32) (S : Sg) (Q : Int64 → Sg → Prop) (X : String → Sg → Prop) (hw : wp_X9_common a1 a2 S Q X) : CtX l yX9_common wsX9_common (mkX 6 90) D cA ad [.ref (ad 0 0), .int a1, .int a2] S (fun B A => va_Ql Q B A) X := by
  refine ctx_of (cc := cX9_common) (nL := 8) (ret := some .long) (by decide) rfl (Nat.le_of_ble_eq_true rfl) ?_
  intro p e s m args below meth c A C hr hk hE htab
  unfold wp_X9_common at hw
  have C : Cx p s m args c cX9_common 8 wsX9_common RX9 D cA A := C
  have hin9 : ∀ w ∈ u_ws RX9 TX9 8, w ∈ wsX9_common := fun w h => List.mem_cons_of_mem _ (List.mem_append_left _ (List.mem_append_left _ (List.mem_append_left _ (List.mem_append_left _ (List.mem_append_left _ (List.mem_append_left _ (List.mem_append_right _ h)))))))
  have cl97 : Cond.classLink RX9 97 "java/lang/IllegalArgumentException" ∈ wsX9_common := by decide +kernel
  have iniIllegalArgumentException : Cond.initialized "java/lang/IllegalArgumentException" ∈ wsX9_common := by decide +kernel
  have f54 : Cond.fieldLink RX9 54 "CreepBoard" "markCount" "I" ∈ wsX9_common := by decide +kernel
  have cl107 : Cond.classLink RX9 107 "java/lang/IllegalStateException" ∈ wsX9_common := by decide +kernel
  have iniIllegalStateException : Cond.initialized "java/lang/IllegalStateException" ∈ wsX9_common := by decide +kernel
  have hatIllegalArgumentException : ∀ w ∈ (vx_atS RX9 101 "java/lang/IllegalArgumentException" ["java/lang/RuntimeException", "java/lang/Exception"]).filter goodWord, w ∈ wsX9_common := by decide +kernel
  have hatnIllegalArgumentException : ∀ w ∈ (vx_atS RX9 101 "java/lang/IllegalArgumentException" ["java/lang/RuntimeException", "java/lang/Exception"]).filter (fun w => !goodWord w), w ∈ [Cond.castable "java/lang/IllegalArgumentException" "java/lang/IllegalArgumentException", Cond.declares (Bundle.initS "java/lang/RuntimeException"), Cond.declares (Bundle.initS "java/lang/Exception"), Cond.declares (Bundle.initS Bundle.tN)] := by decide +kernel
  have hatIllegalStateException : ∀ w ∈ (vx_atS RX9 111 "java/lang/IllegalStateException" ["java/lang/RuntimeException", "java/lang/Exception"]).filter goodWord, w ∈ wsX9_common := by decide +kernel
  have hatnIllegalStateException : ∀ w ∈ (vx_atS RX9 111 "java/lang/IllegalStateException" ["java/lang/RuntimeException", "java/lang/Exception"]).filter (fun w => !goodWord w), w ∈ [Cond.castable "java/lang/IllegalStateException" "java/lang/IllegalStateException", Cond.declares (Bundle.initS "java/lang/RuntimeException"), Cond.declares (Bundle.initS "java/lang/Exception"), Cond.declares (Bundle.initS Bundle.tN)] := by decide +kernel
  have hgIllegalArgumentException_97 : ∀ w ∈ Cond.classLink RX9 97 "java/lang/IllegalArgumentException" :: Cond.initialized "java/lang/IllegalArgumentException" :: vx_atS RX9 101 "java/lang/IllegalArgumentException" ["java/lang/RuntimeException", "java/lang/Exception"], vx_ot w = true := by decide +kernel
  have hgIllegalStateException_107 : ∀ w ∈ Cond.classLink RX9 107 "java/lang/IllegalStateException" :: Cond.initialized "java/lang/IllegalStateException" :: vx_atS RX9 111 "java/lang/IllegalStateException" ["java/lang/RuntimeException", "java/lang/Exception"], vx_ot w = true := by decide +kernel
  change KK p l e (mkX 6 90) s m args below meth c 8 D cA ad A (vx_MQ below (va_Ql Q (fun S' t => va_P D vwCl (lW cA ad S') t.heap ∧ va_D A (lW cA ad S')) A) (xcX D cA ad A X) args s 1 6 A) 0 [(0, .ref (ad 0 0)), (1, .int a1), (2, .int a2)] [] S
  refine k_iload_n (pc := 0) C dX9_common_0 1 rfl rfl ?_
  refine k_afterI (pc := 1) C (wp_X9_isEpoch a1 S) hw (fun post hw => by
      exact rn_S C (ct_X9_isEpoch l D cA ad a1 S post hw) (va_cwS 1 C.2.2.2.2.1 gX9_common_X9_isEpoch rfl rfl rfl (by decide +kernel) ⟨Nat.le_of_ble_eq_true rfl, Nat.le_of_ble_eq_true rfl⟩) rfl rfl (Nat.le_of_ble_eq_true rfl) dX9_common_1) (fun r_1 S_1 hw => ?_)
  refine k_if_eq (pc := 4) C 14 dX9_common_4 (by decide) (fun q_2 => ?_) (fun q_2 => ?_)
  · have hw := hw.1 q_2
    exact k_throwS (pc := 14) C hst "java/lang/IllegalArgumentException" "no such epoch or side" hE htab hk (by decide +kernel) (by decide +kernel) cl97 iniIllegalArgumentException (by decide +kernel) hatIllegalArgumentException hatnIllegalArgumentException hE.2.2.1 hgIllegalArgumentException_97 dX9_common_14 dX9_common_17 dX9_common_18 dX9_common_20 dX9_common_23 ⟨Nat.le_of_ble_eq_true rfl, Nat.le_of_ble_eq_true rfl, Nat.le_of_ble_eq_true rfl, Nat.le_of_ble_eq_true rfl⟩ hw
  · have hw := hw.2 q_2
    refine k_iload_n (pc := 7) C dX9_common_7 2 rfl rfl ?_
    refine k_afterI (pc := 8) C (wp_X9_isSide a2 S_1) hw (fun post hw => by
        exact rn_S C (ct_X9_isSide l D cA ad a2 S_1 post hw) (va_cwS 1 C.2.2.2.2.1 gX9_common_X9_isSide rfl rfl rfl (by decide +kernel) ⟨Nat.le_of_ble_eq_true rfl, Nat.le_of_ble_eq_true rfl⟩) rfl rfl (Nat.le_of_ble_eq_true rfl) dX9_common_8) (fun r_3 S_3 hw => ?_)
    refine k_if_ne (pc := 11) C 24 dX9_common_11 (by decide) (fun q_4 => ?_) (fun q_4 => ?_)
    · have hw := hw.1 q_4
      refine k_lconst (v := 0) (pc := 24) C dX9_common_24 (by decide) ?_
      refine k_lstore_n (pc := 25) C dX9_common_25 rfl (by decide) [(3, .long 0), (0, .ref (ad 0 0)), (1, .int a1), (2, .int a2)] rfl ?_
      refine k_iconst (v := 0) (pc := 26) C dX9_common_26 (by decide) ?_
      refine k_istore (pc := 27) C dX9_common_27 (by decide) [(5, .int 0), (3, .long 0), (0, .ref (ad 0 0)), (1, .int a1), (2, .int a2)] rfl ?_
      refine k_iconst (v := 0) (pc := 29) C dX9_common_29 (by decide) ?_
      refine k_istore (pc := 30) C dX9_common_30 (by decide) [(6, .int 0), (5, .int 0), (3, .long 0), (0, .ref (ad 0 0)), (1, .int a1), (2, .int a2)] rfl ?_
      refine k_sub [3, 4, 5, 2, 1, 0] [(0, .ref (ad 0 0)), (1, .int a1), (2, .int a2), (3, .long 0), (5, .int 0), (6, .int 0)] rfl ?_
      obtain ⟨I_5, μ_5, hi_5, hw⟩ := hw
      have L_5 : ∀ (n : Nat) (v3_5 : Int64) (v5_5 : Int32) (v6_5 : Int32) (S_5 : Sg), μ_5 v3_5 v5_5 v6_5 S_5 < n → I_5 v3_5 v5_5 v6_5 S_5 → KK p l e (mkX 6 90) s m args below meth c 8 D cA ad A (vx_MQ below (va_Ql Q (fun S' t => va_P D vwCl (lW cA ad S') t.heap ∧ va_D A (lW cA ad S')) A) (xcX D cA ad A X) args s 1 6 A) 32 [(0, .ref (ad 0 0)), (1, .int a1), (2, .int a2), (3, .long v3_5), (5, .int v5_5), (6, .int v6_5)] [] S_5 := by
        intro n
        induction n with
        | zero => intro v3_5 v5_5 v6_5 S_5 h; exact absurd h (Nat.not_lt_zero _)
        | succ n ih_5 =>
          intro v3_5 v5_5 v6_5 S_5 hn_5 hi_5
          have hw := hw v3_5 v5_5 v6_5 S_5 hi_5
          refine k_iload (pc := 32) C dX9_common_32 5 rfl ?_
          refine k_aload_n (pc := 34) C dX9_common_34 0 rfl rfl ?_
          refine k_get (j := 6) (pc := 35) C hin9 hm_0 (cel_0 cA ad S_5 0) rfl (by decide) f54 (fun _ h => h) rfl dX9_common_35 ?_
          refine k_icmp_ge (pc := 38) C 95 dX9_common_38 (by decide) (fun q_6 => ?_) (fun q_6 => ?_)
          · have hw := hw.1 q_6
            refine k_iload (pc := 95) C dX9_common_95 4 rfl ?_
            refine k_if_ne (pc := 97) C 110 dX9_common_97 (by decide) (fun q_7 => ?_) (fun q_7 => ?_)
            · have hw := hw.1 q_7
              refine k_lload_n (pc := 110) C dX9_common_110 3 rfl rfl ?_
              refine k_iload (pc := 111) C dX9_common_111 4 rfl ?_
              refine k_i2l (pc := 113) C dX9_common_113 ?_
              obtain ⟨h_8, hw⟩ := hw
              refine k_ldiv (pc := 114) C dX9_common_114 h_8 ?_
              exact k_lretX C hr hk dX9_common_115 hw
            · have hw := hw.2 q_7
              exact k_throwS (pc := 100) C hst "java/lang/IllegalStateException" "no mark has a cleared reading there" hE htab hk (by decide +kernel) (by decide +kernel) cl107 iniIllegalStateException (by decide +kernel) hatIllegalStateException hatnIllegalStateException hE.2.2.2.1 hgIllegalStateException_107 dX9_common_100 dX9_common_103 dX9_common_104 dX9_common_106 dX9_common_109 ⟨Nat.le_of_ble_eq_true rfl, Nat.le_of_ble_eq_true rfl, Nat.le_of_ble_eq_true rfl, Nat.le_of_ble_eq_true rfl⟩ hw
          · have hw := hw.2 q_6
            refine k_aload_n (pc := 41) C dX9_common_41 0 rfl rfl ?_
            refine k_iload (pc := 42) C dX9_common_42 5 rfl ?_
            refine k_afterQ (pc := 44) C 26 (wp_X9_markAt v6_5 S_5) hw (fun post hw => by
                exact rn_V C (ct_X9_markAt l D cA ad v6_5 S_5 post hw) (cwV 1 C.2.2.2.2.1 gX9_common_X9_markAt rfl rfl rfl (by decide +kernel) ⟨Nat.le_of_ble_eq_true rfl, Nat.le_of_ble_eq_true rfl⟩) hm_0 (cel_0 cA ad S_5 0) rfl rfl rfl rfl (Nat.le_of_ble_eq_true rfl) dX9_common_44) (fun S_9 hw => ?_) (fun j_9 S_9 hw => ?_)
            · have hw := hw.1 rfl
              refine k_astoreN (pc := 47) C dX9_common_47 (by decide) [(7, .null), (0, .ref (ad 0 0)), (1, .int a1), (2, .int a2), (3, .long v3_5), (5, .int v5_5), (6, .int v6_5)] rfl ?_
              refine k_aloadN (pc := 49) C dX9_common_49 0 rfl ?_
              refine k_ifnullN (pc := 51) C 89 dX9_common_51 (by decide) ?_
              obtain ⟨x6_10, ex6_10⟩ : ∃ y : Int32, y = v6_5 + 1 := ⟨_, rfl⟩
              have hw := hw x6_10 ex6_10
              refine k_iinc (v := x6_10) (j := 6) (pc := 89) C dX9_common_89 rfl (by rw [ex6_10]; rfl) (by decide) [(6, .int x6_10), (7, .null), (0, .ref (ad 0 0)), (1, .int a1), (2, .int a2), (3, .long v3_5), (5, .int v5_5)] rfl ?_
              refine k_goto (pc := 92) C 32 dX9_common_92 (by decide) ?_
              refine k_sub [2, 3, 4, 5, 6, 0] [(0, .ref (ad 0 0)), (1, .int a1), (2, .int a2), (3, .long v3_5), (5, .int v5_5), (6, .int x6_10)] rfl ?_
              exact ih_5 v3_5 v5_5 x6_10 S_9 (Nat.lt_of_lt_of_le hw.2 (Nat.le_of_lt_succ hn_5)) hw.1
            · have hw := hw.2 j_9 rfl
              refine k_astore (pc := 47) C dX9_common_47 (by decide) [(7, .ref (ad 26 j_9)), (0, .ref (ad 0 0)), (1, .int a1), (2, .int a2), (3, .long v3_5), (5, .int v5_5), (6, .int v6_5)] rfl ?_
              refine k_aload (pc := 49) C dX9_common_49 0 rfl ?_
              refine k_ifnull (pc := 51) C dX9_common_51 ?_
              refine k_aload (pc := 54) C dX9_common_54 0 rfl ?_
              refine k_iload_n (pc := 56) C dX9_common_56 2 rfl rfl ?_
              obtain ⟨h_12, hw⟩ := hw
              refine k_afterI (pc := 57) C (wp_X3_isCleared j_9 a1 S_9) hw (fun post hw => by
                  rcases kd4 S_9 j_9 with h | h | h | h
                  · exact rn_V C (ct_X3_isCleared l D cA ad j_9 a1 S_9 post hw) (cwV 1 C.2.2.2.2.1 gX9_common_X3_isCleared rfl rfl rfl (by decide +kernel) ⟨Nat.le_of_ble_eq_true rfl, Nat.le_of_ble_eq_true rfl⟩) (mm_26 h_12) (celM_0 h) rfl rfl rfl rfl (Nat.le_of_ble_eq_true rfl) dX9_common_57
                  · exact rn_U C (ct_X3_isCleared l D cA ad j_9 a1 S_9 post hw) (va_cwU 1 C.2.2.2.2.1 gX9_common_X3_isCleared_u104X4 rfl rfl rfl rfl (by decide +kernel) ⟨Nat.le_of_ble_eq_true rfl, Nat.le_of_ble_eq_true rfl⟩) (mm_26 h_12) (celM_1 h) rfl rfl rfl rfl (Nat.le_of_ble_eq_true rfl) dX9_common_57
                  · exact rn_U C (ct_X3_isCleared l D cA ad j_9 a1 S_9 post hw) (va_cwU 1 C.2.2.2.2.1 gX9_common_X3_isCleared_u104X8 rfl rfl rfl rfl (by decide +kernel) ⟨Nat.le_of_ble_eq_true rfl, Nat.le_of_ble_eq_true rfl⟩) (mm_26 h_12) (celM_2 h) rfl rfl rfl rfl (Nat.le_of_ble_eq_true rfl) dX9_common_57
                  · exact rn_U C (ct_X3_isCleared l D cA ad j_9 a1 S_9 post hw) (va_cwU 1 C.2.2.2.2.1 gX9_common_X3_isCleared_u104X1 rfl rfl rfl rfl (by decide +kernel) ⟨Nat.le_of_ble_eq_true rfl, Nat.le_of_ble_eq_true rfl⟩) (mm_26 h_12) (celM_3 h) rfl rfl rfl rfl (Nat.le_of_ble_eq_true rfl) dX9_common_57) (fun r_11 S_11 hw => ?_)
              refine k_if_eq (pc := 60) C 89 dX9_common_60 (by decide) (fun q_13 => ?_) (fun q_13 => ?_)
              · have hw := hw.1 q_13
                obtain ⟨x6_14, ex6_14⟩ : ∃ y : Int32, y = v6_5 + 1 := ⟨_, rfl⟩
                have hw := hw x6_14 ex6_14
                refine k_iinc (v := x6_14) (j := 6) (pc := 89) C dX9_common_89 rfl (by rw [ex6_14]; rfl) (by decide) [(6, .int x6_14), (7, .ref (ad 26 j_9)), (0, .ref (ad 0 0)), (1, .int a1), (2, .int a2), (3, .long v3_5), (5, .int v5_5)] rfl ?_
                refine k_goto (pc := 92) C 32 dX9_common_92 (by decide) ?_
                refine k_sub [2, 3, 4, 5, 6, 0] [(0, .ref (ad 0 0)), (1, .int a1), (2, .int a2), (3, .long v3_5), (5, .int v5_5), (6, .int x6_14)] rfl ?_
                exact ih_5 v3_5 v5_5 x6_14 S_11 (Nat.lt_of_lt_of_le hw.2 (Nat.le_of_lt_succ hn_5)) hw.1
              · have hw := hw.2 q_13
                refine k_lload_n (pc := 63) C dX9_common_63 4 rfl rfl ?_
                refine k_aload (pc := 64) C dX9_common_64 0 rfl ?_
                refine k_iload_n (pc := 66) C dX9_common_66 2 rfl rfl ?_
                refine k_iload_n (pc := 67) C dX9_common_67 3 rfl rfl ?_
                obtain ⟨h_16, hw⟩ := hw
                refine k_afterL (pc := 68) C (wpv_clearedValue j_9 a1 a2 S_11) hw (fun post hw => by
                    rcases kd4 S_11 j_9 with h | h | h | h
                    · exact rn_V C (ct_X3_clearedValue l D cA ad j_9 a1 a2 S_11 post (hw.1 h)) (cwV 2 C.2.2.2.2.1 gX9_common_X3_clearedValue rfl rfl rfl (by decide +kernel) ⟨Nat.le_of_ble_eq_true rfl, Nat.le_of_ble_eq_true rfl⟩) (mm_26 h_16) (celM_0 h) rfl rfl rfl rfl (Nat.le_of_ble_eq_true rfl) dX9_common_68
                    · exact rn_U C (ct_X4_clearedValue l D cA ad j_9 a1 a2 S_11 post (hw.2.1 (by omega))) (va_cwO 2 C.2.2.2.2.1 gX9_common_X4_clearedValue_u112X4 rfl rfl rfl (b0 := cX3_clearedValue) (m0 := 6) (r0 := (some .long)) (by decide +kernel) (by decide +kernel) ⟨Nat.le_of_ble_eq_true rfl, Nat.le_of_ble_eq_true rfl⟩) (mm_26 h_16) (celM_1 h) rfl rfl rfl rfl (Nat.le_of_ble_eq_true rfl) dX9_common_68
                    · exact rn_U C (ct_X4_clearedValue l D cA ad j_9 a1 a2 S_11 post (hw.2.1 (by omega))) (va_cwO 2 C.2.2.2.2.1 gX9_common_X4_clearedValue_u112X8 rfl rfl rfl (b0 := cX3_clearedValue) (m0 := 6) (r0 := (some .long)) (by decide +kernel) (by decide +kernel) ⟨Nat.le_of_ble_eq_true rfl, Nat.le_of_ble_eq_true rfl⟩) (mm_26 h_16) (celM_2 h) rfl rfl rfl rfl (Nat.le_of_ble_eq_true rfl) dX9_common_68
                    · exact rn_U C (ct_X1_clearedValue l D cA ad j_9 a1 a2 S_11 post (hw.2.2 h)) (va_cwO 2 C.2.2.2.2.1 gX9_common_X1_clearedValue_u112X1 rfl rfl rfl (b0 := cX3_clearedValue) (m0 := 6) (r0 := (some .long)) (by decide +kernel) (by decide +kernel) ⟨Nat.le_of_ble_eq_true rfl, Nat.le_of_ble_eq_true rfl⟩) (mm_26 h_16) (celM_3 h) rfl rfl rfl rfl (Nat.le_of_ble_eq_true rfl) dX9_common_68) (fun r_15 S_15 hw => ?_)
                refine k_aload (pc := 71) C dX9_common_71 0 rfl ?_
                refine k_aload (pc := 73) C dX9_common_73 0 rfl ?_
                refine k_iload_n (pc := 75) C dX9_common_75 2 rfl rfl ?_
                obtain ⟨h_18, hw⟩ := hw
                refine k_afterI (pc := 76) C (wp_X3_firstCleared j_9 a1 S_15) hw (fun post hw => by
                    rcases kd4 S_15 j_9 with h | h | h | h
                    · exact rn_V C (ct_X3_firstCleared l D cA ad j_9 a1 S_15 post hw) (cwV 1 C.2.2.2.2.1 gX9_common_X3_firstCleared rfl rfl rfl (by decide +kernel) ⟨Nat.le_of_ble_eq_true rfl, Nat.le_of_ble_eq_true rfl⟩) (mm_26 h_18) (celM_0 h) rfl rfl rfl rfl (Nat.le_of_ble_eq_true rfl) dX9_common_76
                    · exact rn_U C (ct_X3_firstCleared l D cA ad j_9 a1 S_15 post hw) (va_cwU 1 C.2.2.2.2.1 gX9_common_X3_firstCleared_u143X4 rfl rfl rfl rfl (by decide +kernel) ⟨Nat.le_of_ble_eq_true rfl, Nat.le_of_ble_eq_true rfl⟩) (mm_26 h_18) (celM_1 h) rfl rfl rfl rfl (Nat.le_of_ble_eq_true rfl) dX9_common_76
                    · exact rn_U C (ct_X3_firstCleared l D cA ad j_9 a1 S_15 post hw) (va_cwU 1 C.2.2.2.2.1 gX9_common_X3_firstCleared_u143X8 rfl rfl rfl rfl (by decide +kernel) ⟨Nat.le_of_ble_eq_true rfl, Nat.le_of_ble_eq_true rfl⟩) (mm_26 h_18) (celM_2 h) rfl rfl rfl rfl (Nat.le_of_ble_eq_true rfl) dX9_common_76
                    · exact rn_U C (ct_X3_firstCleared l D cA ad j_9 a1 S_15 post hw) (va_cwU 1 C.2.2.2.2.1 gX9_common_X3_firstCleared_u143X1 rfl rfl rfl rfl (by decide +kernel) ⟨Nat.le_of_ble_eq_true rfl, Nat.le_of_ble_eq_true rfl⟩) (mm_26 h_18) (celM_3 h) rfl rfl rfl rfl (Nat.le_of_ble_eq_true rfl) dX9_common_76) (fun r_17 S_17 hw => ?_)
                refine k_iload_n (pc := 79) C dX9_common_79 3 rfl rfl ?_
                obtain ⟨h_20, hw⟩ := hw
                refine k_afterL (pc := 80) C (wpv_clearedValue j_9 r_17 a2 S_17) hw (fun post hw => by
                    rcases kd4 S_17 j_9 with h | h | h | h
                    · exact rn_V C (ct_X3_clearedValue l D cA ad j_9 r_17 a2 S_17 post (hw.1 h)) (cwV 2 C.2.2.2.2.1 gX9_common_X3_clearedValue rfl rfl rfl (by decide +kernel) ⟨Nat.le_of_ble_eq_true rfl, Nat.le_of_ble_eq_true rfl⟩) (mm_26 h_20) (celM_0 h) rfl rfl rfl rfl (Nat.le_of_ble_eq_true rfl) dX9_common_80
                    · exact rn_U C (ct_X4_clearedValue l D cA ad j_9 r_17 a2 S_17 post (hw.2.1 (by omega))) (va_cwO 2 C.2.2.2.2.1 gX9_common_X4_clearedValue_u112X4 rfl rfl rfl (b0 := cX3_clearedValue) (m0 := 6) (r0 := (some .long)) (by decide +kernel) (by decide +kernel) ⟨Nat.le_of_ble_eq_true rfl, Nat.le_of_ble_eq_true rfl⟩) (mm_26 h_20) (celM_1 h) rfl rfl rfl rfl (Nat.le_of_ble_eq_true rfl) dX9_common_80
                    · exact rn_U C (ct_X4_clearedValue l D cA ad j_9 r_17 a2 S_17 post (hw.2.1 (by omega))) (va_cwO 2 C.2.2.2.2.1 gX9_common_X4_clearedValue_u112X8 rfl rfl rfl (b0 := cX3_clearedValue) (m0 := 6) (r0 := (some .long)) (by decide +kernel) (by decide +kernel) ⟨Nat.le_of_ble_eq_true rfl, Nat.le_of_ble_eq_true rfl⟩) (mm_26 h_20) (celM_2 h) rfl rfl rfl rfl (Nat.le_of_ble_eq_true rfl) dX9_common_80
                    · exact rn_U C (ct_X1_clearedValue l D cA ad j_9 r_17 a2 S_17 post (hw.2.2 h)) (va_cwO 2 C.2.2.2.2.1 gX9_common_X1_clearedValue_u112X1 rfl rfl rfl (b0 := cX3_clearedValue) (m0 := 6) (r0 := (some .long)) (by decide +kernel) (by decide +kernel) ⟨Nat.le_of_ble_eq_true rfl, Nat.le_of_ble_eq_true rfl⟩) (mm_26 h_20) (celM_3 h) rfl rfl rfl rfl (Nat.le_of_ble_eq_true rfl) dX9_common_80) (fun r_19 S_19 hw => ?_)
                refine k_lsub (pc := 83) C dX9_common_83 ?_
                refine k_ladd (pc := 84) C dX9_common_84 ?_
                refine k_topl (fun x3_21 ex3_21 => ?_)
                have hw := hw x3_21 ex3_21
                refine k_lstore_n (pc := 85) C dX9_common_85 rfl (by decide) [(3, .long x3_21), (7, .ref (ad 26 j_9)), (0, .ref (ad 0 0)), (1, .int a1), (2, .int a2), (5, .int v5_5), (6, .int v6_5)] rfl ?_
                obtain ⟨x5_22, ex5_22⟩ : ∃ y : Int32, y = v5_5 + 1 := ⟨_, rfl⟩
                have hw := hw x5_22 ex5_22
                refine k_iinc (v := x5_22) (j := 5) (pc := 86) C dX9_common_86 rfl (by rw [ex5_22]; rfl) (by decide) [(5, .int x5_22), (3, .long x3_21), (7, .ref (ad 26 j_9)), (0, .ref (ad 0 0)), (1, .int a1), (2, .int a2), (6, .int v6_5)] rfl ?_
                obtain ⟨x6_23, ex6_23⟩ : ∃ y : Int32, y = v6_5 + 1 := ⟨_, rfl⟩
                have hw := hw x6_23 ex6_23
                refine k_iinc (v := x6_23) (j := 6) (pc := 89) C dX9_common_89 rfl (by rw [ex6_23]; rfl) (by decide) [(6, .int x6_23), (5, .int x5_22), (3, .long x3_21), (7, .ref (ad 26 j_9)), (0, .ref (ad 0 0)), (1, .int a1), (2, .int a2)] rfl ?_
                refine k_goto (pc := 92) C 32 dX9_common_92 (by decide) ?_
                refine k_sub [4, 5, 6, 2, 1, 0] [(0, .ref (ad 0 0)), (1, .int a1), (2, .int a2), (3, .long x3_21), (5, .int x5_22), (6, .int x6_23)] rfl ?_
                exact ih_5 x3_21 x5_22 x6_23 S_19 (Nat.lt_of_lt_of_le hw.2 (Nat.le_of_lt_succ hn_5)) hw.1
      exact L_5 (μ_5 0 0 0 S_3 + 1) 0 0 0 S_3 (Nat.lt_succ_self _) hi_5
    · have hw := hw.2 q_4
      exact k_throwS (pc := 14) C hst "java/lang/IllegalArgumentException" "no such epoch or side" hE htab hk (by decide +kernel) (by decide +kernel) cl97 iniIllegalArgumentException (by decide +kernel) hatIllegalArgumentException hatnIllegalArgumentException hE.2.2.1 hgIllegalArgumentException_97 dX9_common_14 dX9_common_17 dX9_common_18 dX9_common_20 dX9_common_23 ⟨Nat.le_of_ble_eq_true rfl, Nat.le_of_ble_eq_true rfl, Nat.le_of_ble_eq_true rfl, Nat.le_of_ble_eq_true rfl⟩ hw
def wp_X9_moves (a1 : Int32) (a2 : Int32) (S : Sg) (Q : Int64 → Sg → Prop) (X : String → Sg → Prop) : Prop :=
  wp_X9_markAt a1 S (fun o_1 S_1 => (o_1 = none → X "java/lang/IllegalArgumentException" S_1) ∧ (∀ j_1 : Nat, o_1 = some j_1 → wp_X9_isSide a2 S_1 (fun r_2 S_2 => ((¬ r_2 = 0 → (j_1 < nM S_2 ∧ wp_X3_speed j_1 a2 S_2 (fun r_4 S_4 => Q (Int32.toInt64 r_4) S_4))) ∧ (r_2 = 0 → X "java/lang/IllegalArgumentException" S_2)))))
set_option maxHeartbeats 4000000 in
set_option maxRecDepth 100000 in
theorem ct_X9_moves (l : Launch) (hst : l.stackTraces = false) (D : va_G) (cA : Nat → ClassId) (ad : Nat → Nat → Nat) (a1 : Int32) (a2 : Int32) (S : Sg) (Q : Int64 → Sg → Prop) (X : String → Sg → Prop) (hw : wp_X9_moves a1 a2 S Q X) : CtX l yX9_moves wsX9_moves (mkX 6 90) D cA ad [.ref (ad 0 0), .int a1, .int a2] S (fun B A => va_Ql Q B A) X := by
  refine ctx_of (cc := cX9_moves) (nL := 4) (ret := some .long) (by decide) rfl (Nat.le_of_ble_eq_true rfl) ?_
  intro p e s m args below meth c A C hr hk hE htab
  unfold wp_X9_moves at hw
  have C : Cx p s m args c cX9_moves 4 wsX9_moves RX9 D cA A := C
  have cl97 : Cond.classLink RX9 97 "java/lang/IllegalArgumentException" ∈ wsX9_moves := by decide +kernel
  have iniIllegalArgumentException : Cond.initialized "java/lang/IllegalArgumentException" ∈ wsX9_moves := by decide +kernel
  have hatIllegalArgumentException : ∀ w ∈ (vx_atS RX9 101 "java/lang/IllegalArgumentException" ["java/lang/RuntimeException", "java/lang/Exception"]).filter goodWord, w ∈ wsX9_moves := by decide +kernel
  have hatnIllegalArgumentException : ∀ w ∈ (vx_atS RX9 101 "java/lang/IllegalArgumentException" ["java/lang/RuntimeException", "java/lang/Exception"]).filter (fun w => !goodWord w), w ∈ [Cond.castable "java/lang/IllegalArgumentException" "java/lang/IllegalArgumentException", Cond.declares (Bundle.initS "java/lang/RuntimeException"), Cond.declares (Bundle.initS "java/lang/Exception"), Cond.declares (Bundle.initS Bundle.tN)] := by decide +kernel
  have hgIllegalArgumentException_97 : ∀ w ∈ Cond.classLink RX9 97 "java/lang/IllegalArgumentException" :: Cond.initialized "java/lang/IllegalArgumentException" :: vx_atS RX9 101 "java/lang/IllegalArgumentException" ["java/lang/RuntimeException", "java/lang/Exception"], vx_ot w = true := by decide +kernel
  change KK p l e (mkX 6 90) s m args below meth c 4 D cA ad A (vx_MQ below (va_Ql Q (fun S' t => va_P D vwCl (lW cA ad S') t.heap ∧ va_D A (lW cA ad S')) A) (xcX D cA ad A X) args s 1 6 A) 0 [(0, .ref (ad 0 0)), (1, .int a1), (2, .int a2)] [] S
  refine k_aload_n (pc := 0) C dX9_moves_0 0 rfl rfl ?_
  refine k_iload_n (pc := 1) C dX9_moves_1 1 rfl rfl ?_
  refine k_afterQ (pc := 2) C 26 (wp_X9_markAt a1 S) hw (fun post hw => by
      exact rn_V C (ct_X9_markAt l D cA ad a1 S post hw) (cwV 1 C.2.2.2.2.1 gX9_moves_X9_markAt rfl rfl rfl (by decide +kernel) ⟨Nat.le_of_ble_eq_true rfl, Nat.le_of_ble_eq_true rfl⟩) hm_0 (cel_0 cA ad S 0) rfl rfl rfl rfl (Nat.le_of_ble_eq_true rfl) dX9_moves_2) (fun S_1 hw => ?_) (fun j_1 S_1 hw => ?_)
  · have hw := hw.1 rfl
    refine k_astore_nN (pc := 5) C dX9_moves_5 rfl (by decide) [(3, .null), (0, .ref (ad 0 0)), (1, .int a1), (2, .int a2)] rfl ?_
    refine k_aload_nN (pc := 6) C dX9_moves_6 0 rfl rfl ?_
    refine k_ifnullN (pc := 7) C 17 dX9_moves_7 (by decide) ?_
    exact k_throwS (pc := 17) C hst "java/lang/IllegalArgumentException" "no such mark or side" hE htab hk (by decide +kernel) (by decide +kernel) cl97 iniIllegalArgumentException (by decide +kernel) hatIllegalArgumentException hatnIllegalArgumentException hE.2.2.1 hgIllegalArgumentException_97 dX9_moves_17 dX9_moves_20 dX9_moves_21 dX9_moves_23 dX9_moves_26 ⟨Nat.le_of_ble_eq_true rfl, Nat.le_of_ble_eq_true rfl, Nat.le_of_ble_eq_true rfl, Nat.le_of_ble_eq_true rfl⟩ hw
  · have hw := hw.2 j_1 rfl
    refine k_astore_n (pc := 5) C dX9_moves_5 rfl (by decide) [(3, .ref (ad 26 j_1)), (0, .ref (ad 0 0)), (1, .int a1), (2, .int a2)] rfl ?_
    refine k_aload_n (pc := 6) C dX9_moves_6 0 rfl rfl ?_
    refine k_ifnull (pc := 7) C dX9_moves_7 ?_
    refine k_iload_n (pc := 10) C dX9_moves_10 3 rfl rfl ?_
    refine k_afterI (pc := 11) C (wp_X9_isSide a2 S_1) hw (fun post hw => by
        exact rn_S C (ct_X9_isSide l D cA ad a2 S_1 post hw) (va_cwS 1 C.2.2.2.2.1 gX9_moves_X9_isSide rfl rfl rfl (by decide +kernel) ⟨Nat.le_of_ble_eq_true rfl, Nat.le_of_ble_eq_true rfl⟩) rfl rfl (Nat.le_of_ble_eq_true rfl) dX9_moves_11) (fun r_2 S_2 hw => ?_)
    refine k_if_ne (pc := 14) C 27 dX9_moves_14 (by decide) (fun q_3 => ?_) (fun q_3 => ?_)
    · have hw := hw.1 q_3
      refine k_aload_n (pc := 27) C dX9_moves_27 0 rfl rfl ?_
      refine k_iload_n (pc := 28) C dX9_moves_28 3 rfl rfl ?_
      obtain ⟨h_5, hw⟩ := hw
      refine k_afterI (pc := 29) C (wp_X3_speed j_1 a2 S_2) hw (fun post hw => by
          rcases kd4 S_2 j_1 with h | h | h | h
          · exact rn_V C (ct_X3_speed l D cA ad j_1 a2 S_2 post hw) (cwV 1 C.2.2.2.2.1 gX9_moves_X3_speed rfl rfl rfl (by decide +kernel) ⟨Nat.le_of_ble_eq_true rfl, Nat.le_of_ble_eq_true rfl⟩) (mm_26 h_5) (celM_0 h) rfl rfl rfl rfl (Nat.le_of_ble_eq_true rfl) dX9_moves_29
          · exact rn_U C (ct_X3_speed l D cA ad j_1 a2 S_2 post hw) (va_cwU 1 C.2.2.2.2.1 gX9_moves_X3_speed_u149X4 rfl rfl rfl rfl (by decide +kernel) ⟨Nat.le_of_ble_eq_true rfl, Nat.le_of_ble_eq_true rfl⟩) (mm_26 h_5) (celM_1 h) rfl rfl rfl rfl (Nat.le_of_ble_eq_true rfl) dX9_moves_29
          · exact rn_U C (ct_X3_speed l D cA ad j_1 a2 S_2 post hw) (va_cwU 1 C.2.2.2.2.1 gX9_moves_X3_speed_u149X8 rfl rfl rfl rfl (by decide +kernel) ⟨Nat.le_of_ble_eq_true rfl, Nat.le_of_ble_eq_true rfl⟩) (mm_26 h_5) (celM_2 h) rfl rfl rfl rfl (Nat.le_of_ble_eq_true rfl) dX9_moves_29
          · exact rn_U C (ct_X3_speed l D cA ad j_1 a2 S_2 post hw) (va_cwU 1 C.2.2.2.2.1 gX9_moves_X3_speed_u149X1 rfl rfl rfl rfl (by decide +kernel) ⟨Nat.le_of_ble_eq_true rfl, Nat.le_of_ble_eq_true rfl⟩) (mm_26 h_5) (celM_3 h) rfl rfl rfl rfl (Nat.le_of_ble_eq_true rfl) dX9_moves_29) (fun r_4 S_4 hw => ?_)
      refine k_i2l (pc := 32) C dX9_moves_32 ?_
      exact k_lretX C hr hk dX9_moves_33 hw
    · have hw := hw.2 q_3
      exact k_throwS (pc := 17) C hst "java/lang/IllegalArgumentException" "no such mark or side" hE htab hk (by decide +kernel) (by decide +kernel) cl97 iniIllegalArgumentException (by decide +kernel) hatIllegalArgumentException hatnIllegalArgumentException hE.2.2.1 hgIllegalArgumentException_97 dX9_moves_17 dX9_moves_20 dX9_moves_21 dX9_moves_23 dX9_moves_26 ⟨Nat.le_of_ble_eq_true rfl, Nat.le_of_ble_eq_true rfl, Nat.le_of_ble_eq_true rfl, Nat.le_of_ble_eq_true rfl⟩ hw
def wp_X9_strain (a1 : Int32) (a2 : Int32) (a3 : Int32) (a4 : Int32) (a5 : Int32) (S : Sg) (Q : Int64 → Sg → Prop) (X : String → Sg → Prop) : Prop :=
  wp_X9_markAt a1 S (fun o_1 S_1 => (o_1 = none → wp_X9_markAt a2 S_1 (fun o_2 S_2 => (o_2 = none → wp_X9_markAt a3 S_2 (fun o_3 S_3 => (o_3 = none → X "java/lang/IllegalArgumentException" S_3) ∧ (∀ j_3 : Nat, o_3 = some j_3 → X "java/lang/IllegalArgumentException" S_3))) ∧ (∀ j_2 : Nat, o_2 = some j_2 → wp_X9_markAt a3 S_2 (fun o_4 S_4 => (o_4 = none → X "java/lang/IllegalArgumentException" S_4) ∧ (∀ j_4 : Nat, o_4 = some j_4 → X "java/lang/IllegalArgumentException" S_4))))) ∧ (∀ j_1 : Nat, o_1 = some j_1 → wp_X9_markAt a2 S_1 (fun o_5 S_5 => (o_5 = none → wp_X9_markAt a3 S_5 (fun o_6 S_6 => (o_6 = none → X "java/lang/IllegalArgumentException" S_6) ∧ (∀ j_6 : Nat, o_6 = some j_6 → X "java/lang/IllegalArgumentException" S_6))) ∧ (∀ j_5 : Nat, o_5 = some j_5 → wp_X9_markAt a3 S_5 (fun o_7 S_7 => (o_7 = none → X "java/lang/IllegalArgumentException" S_7) ∧ (∀ j_7 : Nat, o_7 = some j_7 → ((a4 < 0 → X "java/lang/IllegalArgumentException" S_7) ∧ (¬ a4 < 0 → ((a4 < 4 → wp_X9_areaTwice j_1 j_5 j_7 S_7 (fun r_10 S_10 => ((¬ r_10 = 0 → wp_X9_strainAbove j_1 j_5 j_7 a4 S_10 (fun r_12 S_12 => wp_X9_lowestTerms r_12 r_10 a5 S_12 (fun r_13 S_13 => Q r_13 S_13))) ∧ (r_10 = 0 → X "java/lang/IllegalStateException" S_10)))) ∧ (¬ a4 < 4 → X "java/lang/IllegalArgumentException" S_7))))))))))
set_option maxHeartbeats 4000000 in
set_option maxRecDepth 100000 in
theorem ct_X9_strain (l : Launch) (hst : l.stackTraces = false) (D : va_G) (cA : Nat → ClassId) (ad : Nat → Nat → Nat) (a1 : Int32) (a2 : Int32) (a3 : Int32) (a4 : Int32) (a5 : Int32) (S : Sg) (Q : Int64 → Sg → Prop) (X : String → Sg → Prop) (hw : wp_X9_strain a1 a2 a3 a4 a5 S Q X) : CtX l yX9_strain wsX9_strain (mkX 6 90) D cA ad [.ref (ad 0 0), .int a1, .int a2, .int a3, .int a4, .int a5] S (fun B A => va_Ql Q B A) X := by
  refine ctx_of (cc := cX9_strain) (nL := 11) (ret := some .long) (by decide) rfl (Nat.le_of_ble_eq_true rfl) ?_
  intro p e s m args below meth c A C hr hk hE htab
  unfold wp_X9_strain at hw
  have C : Cx p s m args c cX9_strain 11 wsX9_strain RX9 D cA A := C
  have cl97 : Cond.classLink RX9 97 "java/lang/IllegalArgumentException" ∈ wsX9_strain := by decide +kernel
  have iniIllegalArgumentException : Cond.initialized "java/lang/IllegalArgumentException" ∈ wsX9_strain := by decide +kernel
  have cl107 : Cond.classLink RX9 107 "java/lang/IllegalStateException" ∈ wsX9_strain := by decide +kernel
  have iniIllegalStateException : Cond.initialized "java/lang/IllegalStateException" ∈ wsX9_strain := by decide +kernel
  have hatIllegalArgumentException : ∀ w ∈ (vx_atS RX9 101 "java/lang/IllegalArgumentException" ["java/lang/RuntimeException", "java/lang/Exception"]).filter goodWord, w ∈ wsX9_strain := by decide +kernel
  have hatnIllegalArgumentException : ∀ w ∈ (vx_atS RX9 101 "java/lang/IllegalArgumentException" ["java/lang/RuntimeException", "java/lang/Exception"]).filter (fun w => !goodWord w), w ∈ [Cond.castable "java/lang/IllegalArgumentException" "java/lang/IllegalArgumentException", Cond.declares (Bundle.initS "java/lang/RuntimeException"), Cond.declares (Bundle.initS "java/lang/Exception"), Cond.declares (Bundle.initS Bundle.tN)] := by decide +kernel
  have hatIllegalStateException : ∀ w ∈ (vx_atS RX9 111 "java/lang/IllegalStateException" ["java/lang/RuntimeException", "java/lang/Exception"]).filter goodWord, w ∈ wsX9_strain := by decide +kernel
  have hatnIllegalStateException : ∀ w ∈ (vx_atS RX9 111 "java/lang/IllegalStateException" ["java/lang/RuntimeException", "java/lang/Exception"]).filter (fun w => !goodWord w), w ∈ [Cond.castable "java/lang/IllegalStateException" "java/lang/IllegalStateException", Cond.declares (Bundle.initS "java/lang/RuntimeException"), Cond.declares (Bundle.initS "java/lang/Exception"), Cond.declares (Bundle.initS Bundle.tN)] := by decide +kernel
  have hgIllegalArgumentException_97 : ∀ w ∈ Cond.classLink RX9 97 "java/lang/IllegalArgumentException" :: Cond.initialized "java/lang/IllegalArgumentException" :: vx_atS RX9 101 "java/lang/IllegalArgumentException" ["java/lang/RuntimeException", "java/lang/Exception"], vx_ot w = true := by decide +kernel
  have hgIllegalStateException_107 : ∀ w ∈ Cond.classLink RX9 107 "java/lang/IllegalStateException" :: Cond.initialized "java/lang/IllegalStateException" :: vx_atS RX9 111 "java/lang/IllegalStateException" ["java/lang/RuntimeException", "java/lang/Exception"], vx_ot w = true := by decide +kernel
  change KK p l e (mkX 6 90) s m args below meth c 11 D cA ad A (vx_MQ below (va_Ql Q (fun S' t => va_P D vwCl (lW cA ad S') t.heap ∧ va_D A (lW cA ad S')) A) (xcX D cA ad A X) args s 1 6 A) 0 [(0, .ref (ad 0 0)), (1, .int a1), (2, .int a2), (3, .int a3), (4, .int a4), (5, .int a5)] [] S
  refine k_aload_n (pc := 0) C dX9_strain_0 0 rfl rfl ?_
  refine k_iload_n (pc := 1) C dX9_strain_1 1 rfl rfl ?_
  refine k_afterQ (pc := 2) C 26 (wp_X9_markAt a1 S) hw (fun post hw => by
      exact rn_V C (ct_X9_markAt l D cA ad a1 S post hw) (cwV 1 C.2.2.2.2.1 gX9_strain_X9_markAt rfl rfl rfl (by decide +kernel) ⟨Nat.le_of_ble_eq_true rfl, Nat.le_of_ble_eq_true rfl⟩) hm_0 (cel_0 cA ad S 0) rfl rfl rfl rfl (Nat.le_of_ble_eq_true rfl) dX9_strain_2) (fun S_1 hw => ?_) (fun j_1 S_1 hw => ?_)
  · have hw := hw.1 rfl
    refine k_astoreN (pc := 5) C dX9_strain_5 (by decide) [(6, .null), (0, .ref (ad 0 0)), (1, .int a1), (2, .int a2), (3, .int a3), (4, .int a4), (5, .int a5)] rfl ?_
    refine k_aload_n (pc := 7) C dX9_strain_7 1 rfl rfl ?_
    refine k_iload_n (pc := 8) C dX9_strain_8 3 rfl rfl ?_
    refine k_afterQ (pc := 9) C 26 (wp_X9_markAt a2 S_1) hw (fun post hw => by
        exact rn_V C (ct_X9_markAt l D cA ad a2 S_1 post hw) (cwV 1 C.2.2.2.2.1 gX9_strain_X9_markAt rfl rfl rfl (by decide +kernel) ⟨Nat.le_of_ble_eq_true rfl, Nat.le_of_ble_eq_true rfl⟩) hm_0 (cel_0 cA ad S_1 0) rfl rfl rfl rfl (Nat.le_of_ble_eq_true rfl) dX9_strain_9) (fun S_2 hw => ?_) (fun j_2 S_2 hw => ?_)
    · have hw := hw.1 rfl
      refine k_astoreN (pc := 12) C dX9_strain_12 (by decide) [(7, .null), (6, .null), (0, .ref (ad 0 0)), (1, .int a1), (2, .int a2), (3, .int a3), (4, .int a4), (5, .int a5)] rfl ?_
      refine k_aload_n (pc := 14) C dX9_strain_14 2 rfl rfl ?_
      refine k_iload_n (pc := 15) C dX9_strain_15 5 rfl rfl ?_
      refine k_afterQ (pc := 16) C 26 (wp_X9_markAt a3 S_2) hw (fun post hw => by
          exact rn_V C (ct_X9_markAt l D cA ad a3 S_2 post hw) (cwV 1 C.2.2.2.2.1 gX9_strain_X9_markAt rfl rfl rfl (by decide +kernel) ⟨Nat.le_of_ble_eq_true rfl, Nat.le_of_ble_eq_true rfl⟩) hm_0 (cel_0 cA ad S_2 0) rfl rfl rfl rfl (Nat.le_of_ble_eq_true rfl) dX9_strain_16) (fun S_3 hw => ?_) (fun j_3 S_3 hw => ?_)
      · have hw := hw.1 rfl
        refine k_astoreN (pc := 19) C dX9_strain_19 (by decide) [(8, .null), (7, .null), (6, .null), (0, .ref (ad 0 0)), (1, .int a1), (2, .int a2), (3, .int a3), (4, .int a4), (5, .int a5)] rfl ?_
        refine k_aloadN (pc := 21) C dX9_strain_21 2 rfl ?_
        refine k_ifnullN (pc := 23) C 47 dX9_strain_23 (by decide) ?_
        exact k_throwS (pc := 47) C hst "java/lang/IllegalArgumentException" "no such mark or part" hE htab hk (by decide +kernel) (by decide +kernel) cl97 iniIllegalArgumentException (by decide +kernel) hatIllegalArgumentException hatnIllegalArgumentException hE.2.2.1 hgIllegalArgumentException_97 dX9_strain_47 dX9_strain_50 dX9_strain_51 dX9_strain_53 dX9_strain_56 ⟨Nat.le_of_ble_eq_true rfl, Nat.le_of_ble_eq_true rfl, Nat.le_of_ble_eq_true rfl, Nat.le_of_ble_eq_true rfl⟩ hw
      · have hw := hw.2 j_3 rfl
        refine k_astore (pc := 19) C dX9_strain_19 (by decide) [(8, .ref (ad 26 j_3)), (7, .null), (6, .null), (0, .ref (ad 0 0)), (1, .int a1), (2, .int a2), (3, .int a3), (4, .int a4), (5, .int a5)] rfl ?_
        refine k_aloadN (pc := 21) C dX9_strain_21 2 rfl ?_
        refine k_ifnullN (pc := 23) C 47 dX9_strain_23 (by decide) ?_
        exact k_throwS (pc := 47) C hst "java/lang/IllegalArgumentException" "no such mark or part" hE htab hk (by decide +kernel) (by decide +kernel) cl97 iniIllegalArgumentException (by decide +kernel) hatIllegalArgumentException hatnIllegalArgumentException hE.2.2.1 hgIllegalArgumentException_97 dX9_strain_47 dX9_strain_50 dX9_strain_51 dX9_strain_53 dX9_strain_56 ⟨Nat.le_of_ble_eq_true rfl, Nat.le_of_ble_eq_true rfl, Nat.le_of_ble_eq_true rfl, Nat.le_of_ble_eq_true rfl⟩ hw
    · have hw := hw.2 j_2 rfl
      refine k_astore (pc := 12) C dX9_strain_12 (by decide) [(7, .ref (ad 26 j_2)), (6, .null), (0, .ref (ad 0 0)), (1, .int a1), (2, .int a2), (3, .int a3), (4, .int a4), (5, .int a5)] rfl ?_
      refine k_aload_n (pc := 14) C dX9_strain_14 2 rfl rfl ?_
      refine k_iload_n (pc := 15) C dX9_strain_15 5 rfl rfl ?_
      refine k_afterQ (pc := 16) C 26 (wp_X9_markAt a3 S_2) hw (fun post hw => by
          exact rn_V C (ct_X9_markAt l D cA ad a3 S_2 post hw) (cwV 1 C.2.2.2.2.1 gX9_strain_X9_markAt rfl rfl rfl (by decide +kernel) ⟨Nat.le_of_ble_eq_true rfl, Nat.le_of_ble_eq_true rfl⟩) hm_0 (cel_0 cA ad S_2 0) rfl rfl rfl rfl (Nat.le_of_ble_eq_true rfl) dX9_strain_16) (fun S_4 hw => ?_) (fun j_4 S_4 hw => ?_)
      · have hw := hw.1 rfl
        refine k_astoreN (pc := 19) C dX9_strain_19 (by decide) [(8, .null), (7, .ref (ad 26 j_2)), (6, .null), (0, .ref (ad 0 0)), (1, .int a1), (2, .int a2), (3, .int a3), (4, .int a4), (5, .int a5)] rfl ?_
        refine k_aloadN (pc := 21) C dX9_strain_21 2 rfl ?_
        refine k_ifnullN (pc := 23) C 47 dX9_strain_23 (by decide) ?_
        exact k_throwS (pc := 47) C hst "java/lang/IllegalArgumentException" "no such mark or part" hE htab hk (by decide +kernel) (by decide +kernel) cl97 iniIllegalArgumentException (by decide +kernel) hatIllegalArgumentException hatnIllegalArgumentException hE.2.2.1 hgIllegalArgumentException_97 dX9_strain_47 dX9_strain_50 dX9_strain_51 dX9_strain_53 dX9_strain_56 ⟨Nat.le_of_ble_eq_true rfl, Nat.le_of_ble_eq_true rfl, Nat.le_of_ble_eq_true rfl, Nat.le_of_ble_eq_true rfl⟩ hw
      · have hw := hw.2 j_4 rfl
        refine k_astore (pc := 19) C dX9_strain_19 (by decide) [(8, .ref (ad 26 j_4)), (7, .ref (ad 26 j_2)), (6, .null), (0, .ref (ad 0 0)), (1, .int a1), (2, .int a2), (3, .int a3), (4, .int a4), (5, .int a5)] rfl ?_
        refine k_aloadN (pc := 21) C dX9_strain_21 2 rfl ?_
        refine k_ifnullN (pc := 23) C 47 dX9_strain_23 (by decide) ?_
        exact k_throwS (pc := 47) C hst "java/lang/IllegalArgumentException" "no such mark or part" hE htab hk (by decide +kernel) (by decide +kernel) cl97 iniIllegalArgumentException (by decide +kernel) hatIllegalArgumentException hatnIllegalArgumentException hE.2.2.1 hgIllegalArgumentException_97 dX9_strain_47 dX9_strain_50 dX9_strain_51 dX9_strain_53 dX9_strain_56 ⟨Nat.le_of_ble_eq_true rfl, Nat.le_of_ble_eq_true rfl, Nat.le_of_ble_eq_true rfl, Nat.le_of_ble_eq_true rfl⟩ hw
  · have hw := hw.2 j_1 rfl
    refine k_astore (pc := 5) C dX9_strain_5 (by decide) [(6, .ref (ad 26 j_1)), (0, .ref (ad 0 0)), (1, .int a1), (2, .int a2), (3, .int a3), (4, .int a4), (5, .int a5)] rfl ?_
    refine k_aload_n (pc := 7) C dX9_strain_7 1 rfl rfl ?_
    refine k_iload_n (pc := 8) C dX9_strain_8 3 rfl rfl ?_
    refine k_afterQ (pc := 9) C 26 (wp_X9_markAt a2 S_1) hw (fun post hw => by
        exact rn_V C (ct_X9_markAt l D cA ad a2 S_1 post hw) (cwV 1 C.2.2.2.2.1 gX9_strain_X9_markAt rfl rfl rfl (by decide +kernel) ⟨Nat.le_of_ble_eq_true rfl, Nat.le_of_ble_eq_true rfl⟩) hm_0 (cel_0 cA ad S_1 0) rfl rfl rfl rfl (Nat.le_of_ble_eq_true rfl) dX9_strain_9) (fun S_5 hw => ?_) (fun j_5 S_5 hw => ?_)
    · have hw := hw.1 rfl
      refine k_astoreN (pc := 12) C dX9_strain_12 (by decide) [(7, .null), (6, .ref (ad 26 j_1)), (0, .ref (ad 0 0)), (1, .int a1), (2, .int a2), (3, .int a3), (4, .int a4), (5, .int a5)] rfl ?_
      refine k_aload_n (pc := 14) C dX9_strain_14 2 rfl rfl ?_
      refine k_iload_n (pc := 15) C dX9_strain_15 5 rfl rfl ?_
      refine k_afterQ (pc := 16) C 26 (wp_X9_markAt a3 S_5) hw (fun post hw => by
          exact rn_V C (ct_X9_markAt l D cA ad a3 S_5 post hw) (cwV 1 C.2.2.2.2.1 gX9_strain_X9_markAt rfl rfl rfl (by decide +kernel) ⟨Nat.le_of_ble_eq_true rfl, Nat.le_of_ble_eq_true rfl⟩) hm_0 (cel_0 cA ad S_5 0) rfl rfl rfl rfl (Nat.le_of_ble_eq_true rfl) dX9_strain_16) (fun S_6 hw => ?_) (fun j_6 S_6 hw => ?_)
      · have hw := hw.1 rfl
        refine k_astoreN (pc := 19) C dX9_strain_19 (by decide) [(8, .null), (7, .null), (6, .ref (ad 26 j_1)), (0, .ref (ad 0 0)), (1, .int a1), (2, .int a2), (3, .int a3), (4, .int a4), (5, .int a5)] rfl ?_
        refine k_aload (pc := 21) C dX9_strain_21 2 rfl ?_
        refine k_ifnull (pc := 23) C dX9_strain_23 ?_
        refine k_aloadN (pc := 26) C dX9_strain_26 1 rfl ?_
        refine k_ifnullN (pc := 28) C 47 dX9_strain_28 (by decide) ?_
        exact k_throwS (pc := 47) C hst "java/lang/IllegalArgumentException" "no such mark or part" hE htab hk (by decide +kernel) (by decide +kernel) cl97 iniIllegalArgumentException (by decide +kernel) hatIllegalArgumentException hatnIllegalArgumentException hE.2.2.1 hgIllegalArgumentException_97 dX9_strain_47 dX9_strain_50 dX9_strain_51 dX9_strain_53 dX9_strain_56 ⟨Nat.le_of_ble_eq_true rfl, Nat.le_of_ble_eq_true rfl, Nat.le_of_ble_eq_true rfl, Nat.le_of_ble_eq_true rfl⟩ hw
      · have hw := hw.2 j_6 rfl
        refine k_astore (pc := 19) C dX9_strain_19 (by decide) [(8, .ref (ad 26 j_6)), (7, .null), (6, .ref (ad 26 j_1)), (0, .ref (ad 0 0)), (1, .int a1), (2, .int a2), (3, .int a3), (4, .int a4), (5, .int a5)] rfl ?_
        refine k_aload (pc := 21) C dX9_strain_21 2 rfl ?_
        refine k_ifnull (pc := 23) C dX9_strain_23 ?_
        refine k_aloadN (pc := 26) C dX9_strain_26 1 rfl ?_
        refine k_ifnullN (pc := 28) C 47 dX9_strain_28 (by decide) ?_
        exact k_throwS (pc := 47) C hst "java/lang/IllegalArgumentException" "no such mark or part" hE htab hk (by decide +kernel) (by decide +kernel) cl97 iniIllegalArgumentException (by decide +kernel) hatIllegalArgumentException hatnIllegalArgumentException hE.2.2.1 hgIllegalArgumentException_97 dX9_strain_47 dX9_strain_50 dX9_strain_51 dX9_strain_53 dX9_strain_56 ⟨Nat.le_of_ble_eq_true rfl, Nat.le_of_ble_eq_true rfl, Nat.le_of_ble_eq_true rfl, Nat.le_of_ble_eq_true rfl⟩ hw
    · have hw := hw.2 j_5 rfl
      refine k_astore (pc := 12) C dX9_strain_12 (by decide) [(7, .ref (ad 26 j_5)), (6, .ref (ad 26 j_1)), (0, .ref (ad 0 0)), (1, .int a1), (2, .int a2), (3, .int a3), (4, .int a4), (5, .int a5)] rfl ?_
      refine k_aload_n (pc := 14) C dX9_strain_14 2 rfl rfl ?_
      refine k_iload_n (pc := 15) C dX9_strain_15 5 rfl rfl ?_
      refine k_afterQ (pc := 16) C 26 (wp_X9_markAt a3 S_5) hw (fun post hw => by
          exact rn_V C (ct_X9_markAt l D cA ad a3 S_5 post hw) (cwV 1 C.2.2.2.2.1 gX9_strain_X9_markAt rfl rfl rfl (by decide +kernel) ⟨Nat.le_of_ble_eq_true rfl, Nat.le_of_ble_eq_true rfl⟩) hm_0 (cel_0 cA ad S_5 0) rfl rfl rfl rfl (Nat.le_of_ble_eq_true rfl) dX9_strain_16) (fun S_7 hw => ?_) (fun j_7 S_7 hw => ?_)
      · have hw := hw.1 rfl
        refine k_astoreN (pc := 19) C dX9_strain_19 (by decide) [(8, .null), (7, .ref (ad 26 j_5)), (6, .ref (ad 26 j_1)), (0, .ref (ad 0 0)), (1, .int a1), (2, .int a2), (3, .int a3), (4, .int a4), (5, .int a5)] rfl ?_
        refine k_aload (pc := 21) C dX9_strain_21 2 rfl ?_
        refine k_ifnull (pc := 23) C dX9_strain_23 ?_
        refine k_aload (pc := 26) C dX9_strain_26 1 rfl ?_
        refine k_ifnull (pc := 28) C dX9_strain_28 ?_
        refine k_aloadN (pc := 31) C dX9_strain_31 0 rfl ?_
        refine k_ifnullN (pc := 33) C 47 dX9_strain_33 (by decide) ?_
        exact k_throwS (pc := 47) C hst "java/lang/IllegalArgumentException" "no such mark or part" hE htab hk (by decide +kernel) (by decide +kernel) cl97 iniIllegalArgumentException (by decide +kernel) hatIllegalArgumentException hatnIllegalArgumentException hE.2.2.1 hgIllegalArgumentException_97 dX9_strain_47 dX9_strain_50 dX9_strain_51 dX9_strain_53 dX9_strain_56 ⟨Nat.le_of_ble_eq_true rfl, Nat.le_of_ble_eq_true rfl, Nat.le_of_ble_eq_true rfl, Nat.le_of_ble_eq_true rfl⟩ hw
      · have hw := hw.2 j_7 rfl
        refine k_astore (pc := 19) C dX9_strain_19 (by decide) [(8, .ref (ad 26 j_7)), (7, .ref (ad 26 j_5)), (6, .ref (ad 26 j_1)), (0, .ref (ad 0 0)), (1, .int a1), (2, .int a2), (3, .int a3), (4, .int a4), (5, .int a5)] rfl ?_
        refine k_aload (pc := 21) C dX9_strain_21 2 rfl ?_
        refine k_ifnull (pc := 23) C dX9_strain_23 ?_
        refine k_aload (pc := 26) C dX9_strain_26 1 rfl ?_
        refine k_ifnull (pc := 28) C dX9_strain_28 ?_
        refine k_aload (pc := 31) C dX9_strain_31 0 rfl ?_
        refine k_ifnull (pc := 33) C dX9_strain_33 ?_
        refine k_iload (pc := 36) C dX9_strain_36 7 rfl ?_
        refine k_if_lt (pc := 38) C 47 dX9_strain_38 (by decide) (fun q_8 => ?_) (fun q_8 => ?_)
        · have hw := hw.1 q_8
          exact k_throwS (pc := 47) C hst "java/lang/IllegalArgumentException" "no such mark or part" hE htab hk (by decide +kernel) (by decide +kernel) cl97 iniIllegalArgumentException (by decide +kernel) hatIllegalArgumentException hatnIllegalArgumentException hE.2.2.1 hgIllegalArgumentException_97 dX9_strain_47 dX9_strain_50 dX9_strain_51 dX9_strain_53 dX9_strain_56 ⟨Nat.le_of_ble_eq_true rfl, Nat.le_of_ble_eq_true rfl, Nat.le_of_ble_eq_true rfl, Nat.le_of_ble_eq_true rfl⟩ hw
        · have hw := hw.2 q_8
          refine k_iload (pc := 41) C dX9_strain_41 7 rfl ?_
          refine k_iconst (v := 4) (pc := 43) C dX9_strain_43 (by decide) ?_
          refine k_icmp_lt (pc := 44) C 57 dX9_strain_44 (by decide) (fun q_9 => ?_) (fun q_9 => ?_)
          · have hw := hw.1 q_9
            refine k_aload (pc := 57) C dX9_strain_57 2 rfl ?_
            refine k_aload (pc := 59) C dX9_strain_59 1 rfl ?_
            refine k_aload (pc := 61) C dX9_strain_61 0 rfl ?_
            refine k_afterL (pc := 63) C (wp_X9_areaTwice j_1 j_5 j_7 S_7) hw (fun post hw => by
                exact rn_S C (ct_X9_areaTwice l D cA ad j_1 j_5 j_7 S_7 post hw) (va_cwS 3 C.2.2.2.2.1 gX9_strain_X9_areaTwice rfl rfl rfl (by decide +kernel) ⟨Nat.le_of_ble_eq_true rfl, Nat.le_of_ble_eq_true rfl⟩) rfl rfl (Nat.le_of_ble_eq_true rfl) dX9_strain_63) (fun r_10 S_10 hw => ?_)
            refine k_lstore (pc := 66) C dX9_strain_66 (by decide) [(9, .long r_10), (8, .ref (ad 26 j_7)), (7, .ref (ad 26 j_5)), (6, .ref (ad 26 j_1)), (0, .ref (ad 0 0)), (1, .int a1), (2, .int a2), (3, .int a3), (4, .int a4), (5, .int a5)] rfl ?_
            refine k_lload (pc := 68) C dX9_strain_68 0 rfl ?_
            refine k_lconst (v := 0) (pc := 70) C dX9_strain_70 (by decide) ?_
            refine k_lif_ne (pc := 71) C 85 dX9_strain_71 dX9_strain_72 (by decide) (fun q_11 => ?_) (fun q_11 => ?_)
            · have hw := hw.1 q_11
              refine k_aload (pc := 85) C dX9_strain_85 3 rfl ?_
              refine k_aload (pc := 87) C dX9_strain_87 2 rfl ?_
              refine k_aload (pc := 89) C dX9_strain_89 1 rfl ?_
              refine k_iload (pc := 91) C dX9_strain_91 8 rfl ?_
              refine k_afterL (pc := 93) C (wp_X9_strainAbove j_1 j_5 j_7 a4 S_10) hw (fun post hw => by
                  exact rn_S C (ct_X9_strainAbove l D cA ad j_1 j_5 j_7 a4 S_10 post hw) (va_cwS 4 C.2.2.2.2.1 gX9_strain_X9_strainAbove rfl rfl rfl (by decide +kernel) ⟨Nat.le_of_ble_eq_true rfl, Nat.le_of_ble_eq_true rfl⟩) rfl rfl (Nat.le_of_ble_eq_true rfl) dX9_strain_93) (fun r_12 S_12 hw => ?_)
              refine k_lload (pc := 96) C dX9_strain_96 0 rfl ?_
              refine k_iload (pc := 98) C dX9_strain_98 9 rfl ?_
              refine k_afterL (pc := 100) C (wp_X9_lowestTerms r_12 r_10 a5 S_12) hw (fun post hw => by
                  exact rn_S C (ct_X9_lowestTerms l D cA ad r_12 r_10 a5 S_12 post hw) (va_cwS 3 C.2.2.2.2.1 gX9_strain_X9_lowestTerms rfl rfl rfl (by decide +kernel) ⟨Nat.le_of_ble_eq_true rfl, Nat.le_of_ble_eq_true rfl⟩) rfl rfl (Nat.le_of_ble_eq_true rfl) dX9_strain_100) (fun r_13 S_13 hw => ?_)
              exact k_lretX C hr hk dX9_strain_103 hw
            · have hw := hw.2 q_11
              exact k_throwS (pc := 75) C hst "java/lang/IllegalStateException" "the marks are in a line" hE htab hk (by decide +kernel) (by decide +kernel) cl107 iniIllegalStateException (by decide +kernel) hatIllegalStateException hatnIllegalStateException hE.2.2.2.1 hgIllegalStateException_107 dX9_strain_75 dX9_strain_78 dX9_strain_79 dX9_strain_81 dX9_strain_84 ⟨Nat.le_of_ble_eq_true rfl, Nat.le_of_ble_eq_true rfl, Nat.le_of_ble_eq_true rfl, Nat.le_of_ble_eq_true rfl⟩ hw
          · have hw := hw.2 q_9
            exact k_throwS (pc := 47) C hst "java/lang/IllegalArgumentException" "no such mark or part" hE htab hk (by decide +kernel) (by decide +kernel) cl97 iniIllegalArgumentException (by decide +kernel) hatIllegalArgumentException hatnIllegalArgumentException hE.2.2.1 hgIllegalArgumentException_97 dX9_strain_47 dX9_strain_50 dX9_strain_51 dX9_strain_53 dX9_strain_56 ⟨Nat.le_of_ble_eq_true rfl, Nat.le_of_ble_eq_true rfl, Nat.le_of_ble_eq_true rfl, Nat.le_of_ble_eq_true rfl⟩ hw
def wp_X9_height (a1 : Int32) (S : Sg) (Q : Int64 → Sg → Prop) (X : String → Sg → Prop) : Prop :=
  wp_X9_markAt a1 S (fun o_1 S_1 => (o_1 = none → X "java/lang/IllegalArgumentException" S_1) ∧ (∀ j_1 : Nat, o_1 = some j_1 → wp_X2_leadsTo a1 S_1 (fun r_2 S_2 => ((¬ r_2 = 0 → wp_X2_heightOf a1 S_2 (fun r_4 S_4 => Q r_4 S_4)) ∧ (r_2 = 0 → X "java/lang/IllegalStateException" S_2)))))
set_option maxHeartbeats 4000000 in
set_option maxRecDepth 100000 in
theorem ct_X9_height (l : Launch) (hst : l.stackTraces = false) (D : va_G) (cA : Nat → ClassId) (ad : Nat → Nat → Nat) (a1 : Int32) (S : Sg) (Q : Int64 → Sg → Prop) (X : String → Sg → Prop) (hw : wp_X9_height a1 S Q X) : CtX l yX9_height wsX9_height (mkX 20 561) D cA ad [.ref (ad 0 0), .int a1] S (fun B A => va_Ql Q B A) X := by
  refine ctx_of (cc := cX9_height) (nL := 2) (ret := some .long) (by decide) rfl (Nat.le_of_ble_eq_true rfl) ?_
  intro p e s m args below meth c A C hr hk hE htab
  unfold wp_X9_height at hw
  have C : Cx p s m args c cX9_height 2 wsX9_height RX9 D cA A := C
  have hin9 : ∀ w ∈ u_ws RX9 TX9 8, w ∈ wsX9_height := fun w h => List.mem_cons_of_mem _ (List.mem_append_left _ (List.mem_append_left _ (List.mem_append_left _ (List.mem_append_right _ h))))
  have cl97 : Cond.classLink RX9 97 "java/lang/IllegalArgumentException" ∈ wsX9_height := by decide +kernel
  have iniIllegalArgumentException : Cond.initialized "java/lang/IllegalArgumentException" ∈ wsX9_height := by decide +kernel
  have f39 : Cond.fieldLink RX9 39 "CreepBoard" "levels" "LCreepBoard$Levels;" ∈ wsX9_height := by decide +kernel
  have cl107 : Cond.classLink RX9 107 "java/lang/IllegalStateException" ∈ wsX9_height := by decide +kernel
  have iniIllegalStateException : Cond.initialized "java/lang/IllegalStateException" ∈ wsX9_height := by decide +kernel
  have hatIllegalArgumentException : ∀ w ∈ (vx_atS RX9 101 "java/lang/IllegalArgumentException" ["java/lang/RuntimeException", "java/lang/Exception"]).filter goodWord, w ∈ wsX9_height := by decide +kernel
  have hatnIllegalArgumentException : ∀ w ∈ (vx_atS RX9 101 "java/lang/IllegalArgumentException" ["java/lang/RuntimeException", "java/lang/Exception"]).filter (fun w => !goodWord w), w ∈ [Cond.castable "java/lang/IllegalArgumentException" "java/lang/IllegalArgumentException", Cond.declares (Bundle.initS "java/lang/RuntimeException"), Cond.declares (Bundle.initS "java/lang/Exception"), Cond.declares (Bundle.initS Bundle.tN)] := by decide +kernel
  have hatIllegalStateException : ∀ w ∈ (vx_atS RX9 111 "java/lang/IllegalStateException" ["java/lang/RuntimeException", "java/lang/Exception"]).filter goodWord, w ∈ wsX9_height := by decide +kernel
  have hatnIllegalStateException : ∀ w ∈ (vx_atS RX9 111 "java/lang/IllegalStateException" ["java/lang/RuntimeException", "java/lang/Exception"]).filter (fun w => !goodWord w), w ∈ [Cond.castable "java/lang/IllegalStateException" "java/lang/IllegalStateException", Cond.declares (Bundle.initS "java/lang/RuntimeException"), Cond.declares (Bundle.initS "java/lang/Exception"), Cond.declares (Bundle.initS Bundle.tN)] := by decide +kernel
  have hgIllegalArgumentException_97 : ∀ w ∈ Cond.classLink RX9 97 "java/lang/IllegalArgumentException" :: Cond.initialized "java/lang/IllegalArgumentException" :: vx_atS RX9 101 "java/lang/IllegalArgumentException" ["java/lang/RuntimeException", "java/lang/Exception"], vx_ot w = true := by decide +kernel
  have hgIllegalStateException_107 : ∀ w ∈ Cond.classLink RX9 107 "java/lang/IllegalStateException" :: Cond.initialized "java/lang/IllegalStateException" :: vx_atS RX9 111 "java/lang/IllegalStateException" ["java/lang/RuntimeException", "java/lang/Exception"], vx_ot w = true := by decide +kernel
  change KK p l e (mkX 20 561) s m args below meth c 2 D cA ad A (vx_MQ below (va_Ql Q (fun S' t => va_P D vwCl (lW cA ad S') t.heap ∧ va_D A (lW cA ad S')) A) (xcX D cA ad A X) args s 1 6 A) 0 [(0, .ref (ad 0 0)), (1, .int a1)] [] S
  refine k_aload_n (pc := 0) C dX9_height_0 0 rfl rfl ?_
  refine k_iload_n (pc := 1) C dX9_height_1 1 rfl rfl ?_
  refine k_afterQ (pc := 2) C 26 (wp_X9_markAt a1 S) hw (fun post hw => by
      exact rn_V C (ct_X9_markAt l D cA ad a1 S post hw) (cwV 1 C.2.2.2.2.1 gX9_height_X9_markAt rfl rfl rfl (by decide +kernel) ⟨Nat.le_of_ble_eq_true rfl, Nat.le_of_ble_eq_true rfl⟩) hm_0 (cel_0 cA ad S 0) rfl rfl rfl rfl (Nat.le_of_ble_eq_true rfl) dX9_height_2) (fun S_1 hw => ?_) (fun j_1 S_1 hw => ?_)
  · have hw := hw.1 rfl
    refine k_ifnonnullN (pc := 5) C dX9_height_5 ?_
    exact k_throwS (pc := 8) C hst "java/lang/IllegalArgumentException" "no such mark" hE htab hk (by decide +kernel) (by decide +kernel) cl97 iniIllegalArgumentException (by decide +kernel) hatIllegalArgumentException hatnIllegalArgumentException hE.2.2.1 hgIllegalArgumentException_97 dX9_height_8 dX9_height_11 dX9_height_12 dX9_height_14 dX9_height_17 ⟨Nat.le_of_ble_eq_true rfl, Nat.le_of_ble_eq_true rfl, Nat.le_of_ble_eq_true rfl, Nat.le_of_ble_eq_true rfl⟩ hw
  · have hw := hw.2 j_1 rfl
    refine k_ifnonnull (pc := 5) C 18 dX9_height_5 (by decide) ?_
    refine k_aload_n (pc := 18) C dX9_height_18 0 rfl rfl ?_
    refine k_get (j := 4) (pc := 19) C hin9 hm_0 (cel_0 cA ad S_1 0) rfl (by decide) f39 (fun _ h => h) rfl dX9_height_19 ?_
    refine k_iload_n (pc := 22) C dX9_height_22 1 rfl rfl ?_
    refine k_afterI (pc := 23) C (wp_X2_leadsTo a1 S_1) hw (fun post hw => by
        exact rn_V C (ct_X2_leadsTo l D cA ad a1 S_1 post hw) (cwV 1 C.2.2.2.2.1 gX9_height_X2_leadsTo rfl rfl rfl (by decide +kernel) ⟨Nat.le_of_ble_eq_true rfl, Nat.le_of_ble_eq_true rfl⟩) hm_14 (cel_14 cA ad S_1 0) rfl rfl rfl rfl (Nat.le_of_ble_eq_true rfl) dX9_height_23) (fun r_2 S_2 hw => ?_)
    refine k_if_ne (pc := 26) C 39 dX9_height_26 (by decide) (fun q_3 => ?_) (fun q_3 => ?_)
    · have hw := hw.1 q_3
      refine k_aload_n (pc := 39) C dX9_height_39 0 rfl rfl ?_
      refine k_get (j := 4) (pc := 40) C hin9 hm_0 (cel_0 cA ad S_2 0) rfl (by decide) f39 (fun _ h => h) rfl dX9_height_40 ?_
      refine k_iload_n (pc := 43) C dX9_height_43 1 rfl rfl ?_
      refine k_afterL (pc := 44) C (wp_X2_heightOf a1 S_2) hw (fun post hw => by
          exact rn_V C (ct_X2_heightOf l D cA ad a1 S_2 post hw) (cwV 1 C.2.2.2.2.1 gX9_height_X2_heightOf rfl rfl rfl (by decide +kernel) ⟨Nat.le_of_ble_eq_true rfl, Nat.le_of_ble_eq_true rfl⟩) hm_14 (cel_14 cA ad S_2 0) rfl rfl rfl rfl (Nat.le_of_ble_eq_true rfl) dX9_height_44) (fun r_4 S_4 hw => ?_)
      exact k_lretX C hr hk dX9_height_47 hw
    · have hw := hw.2 q_3
      exact k_throwS (pc := 29) C hst "java/lang/IllegalStateException" "no lines lead there" hE htab hk (by decide +kernel) (by decide +kernel) cl107 iniIllegalStateException (by decide +kernel) hatIllegalStateException hatnIllegalStateException hE.2.2.2.1 hgIllegalStateException_107 dX9_height_29 dX9_height_32 dX9_height_33 dX9_height_35 dX9_height_38 ⟨Nat.le_of_ble_eq_true rfl, Nat.le_of_ble_eq_true rfl, Nat.le_of_ble_eq_true rfl, Nat.le_of_ble_eq_true rfl⟩ hw
def wp_X9_element (a1 : Int32) (a2 : Int32) (S : Sg) (Q : Int64 → Sg → Prop) (X : String → Sg → Prop) : Prop :=
  wp_X9_shelfAt a1 S (fun o_1 S_1 => (o_1 = none → X "java/lang/IllegalArgumentException" S_1) ∧ (∀ j_1 : Nat, o_1 = some j_1 → (j_1 < 8 ∧ wp_X6_holdsRow j_1 S_1 (fun r_2 S_2 => ((r_2 = 0 → X "java/lang/IllegalStateException" S_2) ∧ (¬ r_2 = 0 → ((a2 < 0 → X "java/lang/IllegalStateException" S_2) ∧ (¬ a2 < 0 → wp_X6_size j_1 S_2 (fun r_6 S_6 => ((a2 < r_6 → wp_X6_valueAt j_1 a2 S_6 (fun r_8 S_8 => Q r_8 S_8)) ∧ (¬ a2 < r_6 → X "java/lang/IllegalStateException" S_6)))))))))))
set_option maxHeartbeats 4000000 in
set_option maxRecDepth 100000 in
theorem ct_X9_element (l : Launch) (hst : l.stackTraces = false) (D : va_G) (cA : Nat → ClassId) (ad : Nat → Nat → Nat) (a1 : Int32) (a2 : Int32) (S : Sg) (Q : Int64 → Sg → Prop) (X : String → Sg → Prop) (hw : wp_X9_element a1 a2 S Q X) : CtX l yX9_element wsX9_element (mkX 6 90) D cA ad [.ref (ad 0 0), .int a1, .int a2] S (fun B A => va_Ql Q B A) X := by
  refine ctx_of (cc := cX9_element) (nL := 4) (ret := some .long) (by decide) rfl (Nat.le_of_ble_eq_true rfl) ?_
  intro p e s m args below meth c A C hr hk hE htab
  unfold wp_X9_element at hw
  have C : Cx p s m args c cX9_element 4 wsX9_element RX9 D cA A := C
  have cl97 : Cond.classLink RX9 97 "java/lang/IllegalArgumentException" ∈ wsX9_element := by decide +kernel
  have iniIllegalArgumentException : Cond.initialized "java/lang/IllegalArgumentException" ∈ wsX9_element := by decide +kernel
  have cl107 : Cond.classLink RX9 107 "java/lang/IllegalStateException" ∈ wsX9_element := by decide +kernel
  have iniIllegalStateException : Cond.initialized "java/lang/IllegalStateException" ∈ wsX9_element := by decide +kernel
  have hatIllegalArgumentException : ∀ w ∈ (vx_atS RX9 101 "java/lang/IllegalArgumentException" ["java/lang/RuntimeException", "java/lang/Exception"]).filter goodWord, w ∈ wsX9_element := by decide +kernel
  have hatnIllegalArgumentException : ∀ w ∈ (vx_atS RX9 101 "java/lang/IllegalArgumentException" ["java/lang/RuntimeException", "java/lang/Exception"]).filter (fun w => !goodWord w), w ∈ [Cond.castable "java/lang/IllegalArgumentException" "java/lang/IllegalArgumentException", Cond.declares (Bundle.initS "java/lang/RuntimeException"), Cond.declares (Bundle.initS "java/lang/Exception"), Cond.declares (Bundle.initS Bundle.tN)] := by decide +kernel
  have hatIllegalStateException : ∀ w ∈ (vx_atS RX9 111 "java/lang/IllegalStateException" ["java/lang/RuntimeException", "java/lang/Exception"]).filter goodWord, w ∈ wsX9_element := by decide +kernel
  have hatnIllegalStateException : ∀ w ∈ (vx_atS RX9 111 "java/lang/IllegalStateException" ["java/lang/RuntimeException", "java/lang/Exception"]).filter (fun w => !goodWord w), w ∈ [Cond.castable "java/lang/IllegalStateException" "java/lang/IllegalStateException", Cond.declares (Bundle.initS "java/lang/RuntimeException"), Cond.declares (Bundle.initS "java/lang/Exception"), Cond.declares (Bundle.initS Bundle.tN)] := by decide +kernel
  have hgIllegalArgumentException_97 : ∀ w ∈ Cond.classLink RX9 97 "java/lang/IllegalArgumentException" :: Cond.initialized "java/lang/IllegalArgumentException" :: vx_atS RX9 101 "java/lang/IllegalArgumentException" ["java/lang/RuntimeException", "java/lang/Exception"], vx_ot w = true := by decide +kernel
  have hgIllegalStateException_107 : ∀ w ∈ Cond.classLink RX9 107 "java/lang/IllegalStateException" :: Cond.initialized "java/lang/IllegalStateException" :: vx_atS RX9 111 "java/lang/IllegalStateException" ["java/lang/RuntimeException", "java/lang/Exception"], vx_ot w = true := by decide +kernel
  change KK p l e (mkX 6 90) s m args below meth c 4 D cA ad A (vx_MQ below (va_Ql Q (fun S' t => va_P D vwCl (lW cA ad S') t.heap ∧ va_D A (lW cA ad S')) A) (xcX D cA ad A X) args s 1 6 A) 0 [(0, .ref (ad 0 0)), (1, .int a1), (2, .int a2)] [] S
  refine k_aload_n (pc := 0) C dX9_element_0 0 rfl rfl ?_
  refine k_iload_n (pc := 1) C dX9_element_1 1 rfl rfl ?_
  refine k_afterQ (pc := 2) C 24 (wp_X9_shelfAt a1 S) hw (fun post hw => by
      exact rn_V C (ct_X9_shelfAt l D cA ad a1 S post hw) (cwV 1 C.2.2.2.2.1 gX9_element_X9_shelfAt rfl rfl rfl (by decide +kernel) ⟨Nat.le_of_ble_eq_true rfl, Nat.le_of_ble_eq_true rfl⟩) hm_0 (cel_0 cA ad S 0) rfl rfl rfl rfl (Nat.le_of_ble_eq_true rfl) dX9_element_2) (fun S_1 hw => ?_) (fun j_1 S_1 hw => ?_)
  · have hw := hw.1 rfl
    refine k_astore_nN (pc := 5) C dX9_element_5 rfl (by decide) [(3, .null), (0, .ref (ad 0 0)), (1, .int a1), (2, .int a2)] rfl ?_
    refine k_aload_nN (pc := 6) C dX9_element_6 0 rfl rfl ?_
    refine k_ifnonnullN (pc := 7) C dX9_element_7 ?_
    exact k_throwSW (pc := 10) C hst "java/lang/IllegalArgumentException" "no such shelf" hE htab hk (by decide +kernel) (by decide +kernel) cl97 iniIllegalArgumentException (by decide +kernel) hatIllegalArgumentException hatnIllegalArgumentException hE.2.2.1 hgIllegalArgumentException_97 dX9_element_10 dX9_element_13 dX9_element_14 dX9_element_17 dX9_element_20 ⟨Nat.le_of_ble_eq_true rfl, Nat.le_of_ble_eq_true rfl, Nat.le_of_ble_eq_true rfl, Nat.le_of_ble_eq_true rfl⟩ hw
  · have hw := hw.2 j_1 rfl
    refine k_astore_n (pc := 5) C dX9_element_5 rfl (by decide) [(3, .ref (ad 24 j_1)), (0, .ref (ad 0 0)), (1, .int a1), (2, .int a2)] rfl ?_
    refine k_aload_n (pc := 6) C dX9_element_6 0 rfl rfl ?_
    refine k_ifnonnull (pc := 7) C 21 dX9_element_7 (by decide) ?_
    refine k_aload_n (pc := 21) C dX9_element_21 0 rfl rfl ?_
    obtain ⟨h_3, hw⟩ := hw
    refine k_afterI (pc := 22) C (wp_X6_holdsRow j_1 S_1) hw (fun post hw => by
        exact rn_V C (ct_X6_holdsRow l D cA ad j_1 S_1 post hw) (cwV 0 C.2.2.2.2.1 gX9_element_X6_holdsRow rfl rfl rfl (by decide +kernel) ⟨Nat.le_of_ble_eq_true rfl, Nat.le_of_ble_eq_true rfl⟩) (ids_shelf h_3 (Or.inl rfl)) (cel_24 cA ad S_1 j_1) rfl rfl rfl rfl (Nat.le_of_ble_eq_true rfl) dX9_element_22) (fun r_2 S_2 hw => ?_)
    refine k_if_eq (pc := 25) C 40 dX9_element_25 (by decide) (fun q_4 => ?_) (fun q_4 => ?_)
    · have hw := hw.1 q_4
      exact k_throwSW (pc := 40) C hst "java/lang/IllegalStateException" "no row, or no such place in it" hE htab hk (by decide +kernel) (by decide +kernel) cl107 iniIllegalStateException (by decide +kernel) hatIllegalStateException hatnIllegalStateException hE.2.2.2.1 hgIllegalStateException_107 dX9_element_40 dX9_element_43 dX9_element_44 dX9_element_47 dX9_element_50 ⟨Nat.le_of_ble_eq_true rfl, Nat.le_of_ble_eq_true rfl, Nat.le_of_ble_eq_true rfl, Nat.le_of_ble_eq_true rfl⟩ hw
    · have hw := hw.2 q_4
      refine k_iload_n (pc := 28) C dX9_element_28 3 rfl rfl ?_
      refine k_if_lt (pc := 29) C 40 dX9_element_29 (by decide) (fun q_5 => ?_) (fun q_5 => ?_)
      · have hw := hw.1 q_5
        exact k_throwSW (pc := 40) C hst "java/lang/IllegalStateException" "no row, or no such place in it" hE htab hk (by decide +kernel) (by decide +kernel) cl107 iniIllegalStateException (by decide +kernel) hatIllegalStateException hatnIllegalStateException hE.2.2.2.1 hgIllegalStateException_107 dX9_element_40 dX9_element_43 dX9_element_44 dX9_element_47 dX9_element_50 ⟨Nat.le_of_ble_eq_true rfl, Nat.le_of_ble_eq_true rfl, Nat.le_of_ble_eq_true rfl, Nat.le_of_ble_eq_true rfl⟩ hw
      · have hw := hw.2 q_5
        refine k_iload_n (pc := 32) C dX9_element_32 3 rfl rfl ?_
        refine k_aload_n (pc := 33) C dX9_element_33 0 rfl rfl ?_
        refine k_afterI (pc := 34) C (wp_X6_size j_1 S_2) hw (fun post hw => by
            exact rn_V C (ct_X6_size l D cA ad j_1 S_2 post hw) (cwV 0 C.2.2.2.2.1 gX9_element_X6_size rfl rfl rfl (by decide +kernel) ⟨Nat.le_of_ble_eq_true rfl, Nat.le_of_ble_eq_true rfl⟩) (ids_shelf h_3 (Or.inl rfl)) (cel_24 cA ad S_2 j_1) rfl rfl rfl rfl (Nat.le_of_ble_eq_true rfl) dX9_element_34) (fun r_6 S_6 hw => ?_)
        refine k_icmp_lt (pc := 37) C 51 dX9_element_37 (by decide) (fun q_7 => ?_) (fun q_7 => ?_)
        · have hw := hw.1 q_7
          refine k_aload_n (pc := 51) C dX9_element_51 0 rfl rfl ?_
          refine k_iload_n (pc := 52) C dX9_element_52 3 rfl rfl ?_
          refine k_afterL (pc := 53) C (wp_X6_valueAt j_1 a2 S_6) hw (fun post hw => by
              exact rn_V C (ct_X6_valueAt l D cA ad j_1 a2 S_6 post hw) (cwV 1 C.2.2.2.2.1 gX9_element_X6_valueAt rfl rfl rfl (by decide +kernel) ⟨Nat.le_of_ble_eq_true rfl, Nat.le_of_ble_eq_true rfl⟩) (ids_shelf h_3 (Or.inl rfl)) (cel_24 cA ad S_6 j_1) rfl rfl rfl rfl (Nat.le_of_ble_eq_true rfl) dX9_element_53) (fun r_8 S_8 hw => ?_)
          exact k_lretX C hr hk dX9_element_56 hw
        · have hw := hw.2 q_7
          exact k_throwSW (pc := 40) C hst "java/lang/IllegalStateException" "no row, or no such place in it" hE htab hk (by decide +kernel) (by decide +kernel) cl107 iniIllegalStateException (by decide +kernel) hatIllegalStateException hatnIllegalStateException hE.2.2.2.1 hgIllegalStateException_107 dX9_element_40 dX9_element_43 dX9_element_44 dX9_element_47 dX9_element_50 ⟨Nat.le_of_ble_eq_true rfl, Nat.le_of_ble_eq_true rfl, Nat.le_of_ble_eq_true rfl, Nat.le_of_ble_eq_true rfl⟩ hw
