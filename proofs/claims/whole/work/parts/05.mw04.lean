def wp_X10_make (a1 : Int32) (a2 : Int32) (a3 : Int32) (S : Sg) (Q : Int32 → Sg → Prop) : Prop :=
  wp_X10_isShelf a1 S (fun r_1 S_1 => ((r_1 = 0 → Q (-1) S_1) ∧ (¬ r_1 = 0 → wp_X10_in a2 3 4 S_1 (fun r_3 S_3 => ((r_3 = 0 → Q (-1) S_3) ∧ (¬ r_3 = 0 → ((a3 ≤ 60 → ((0 ≤ a3 → (vp_in a1 8 ∧ ∀ S_8 : Sg, S_8 = uA S_3 64 0 (Int32.toNatClampNeg a1) a2 → (vp_in a1 8 ∧ ∀ S_10 : Sg, S_10 = uA S_8 66 0 (Int32.toNatClampNeg a1) a3 → wp_X10_wipe a1 S_10 (fun S_11 => Q 0 S_11)))) ∧ (¬ 0 ≤ a3 → Q (-14) S_3))) ∧ (¬ a3 ≤ 60 → Q (-1) S_3))))))))
set_option maxHeartbeats 4000000 in
set_option maxRecDepth 100000 in
theorem ct_X10_make (l : Launch) (D : va_G) (cA : Nat → ClassId) (ad : Nat → Nat → Nat) (a1 : Int32) (a2 : Int32) (a3 : Int32) (S : Sg) (Q : Int32 → Sg → Prop) (hw : wp_X10_make a1 a2 a3 S Q) : CtI l yX10_make wsX10_make (mkR 2 44) D cA ad [.ref (ad 40 0), .int a1, .int a2, .int a3] S Q := by
  refine ct_ofI (cc := cX10_make) (nL := 4) (by decide) rfl (Nat.le_of_ble_eq_true rfl) ?_
  intro p e s m args below meth c A Q C hret
  unfold wp_X10_make at hw
  have C : Cx p s m args c cX10_make 4 wsX10_make RX10 D cA A := C
  have hin : ∀ w ∈ u_ws RX10 TX10 33, w ∈ wsX10_make := fun w h => List.mem_cons_of_mem _ (List.mem_append_right _ h)
  have f97 : Cond.fieldLink RX10 97 "CreepBoardModel" "held" "[I" ∈ wsX10_make := by decide +kernel
  have f103 : Cond.fieldLink RX10 103 "CreepBoardModel" "size" "[I" ∈ wsX10_make := by decide +kernel
  change KK p l e (mkR 2 44) s m args below meth c 4 D cA ad A Q 0 [(0, .ref (ad 40 0)), (1, .int a1), (2, .int a2), (3, .int a3)] [] S
  refine k_aload_n (pc := 0) C dX10_make_0 0 rfl rfl ?_
  refine k_iload_n (pc := 1) C dX10_make_1 1 rfl rfl ?_
  refine k_callVi (pc := 2) C (ct_X10_isShelf l D cA ad a1 S _ hw) (cwV 1 C.2.2.2.2.1 gX10_make_X10_isShelf rfl rfl rfl (by decide +kernel) ⟨Nat.le_of_ble_eq_true rfl, Nat.le_of_ble_eq_true rfl⟩) hm_40 (cel_40 cA ad S 0) rfl rfl rfl rfl (Nat.le_of_ble_eq_true rfl) dX10_make_2 (fun r_1 S_1 hw => ?_)
  refine k_if_eq (pc := 5) C 24 dX10_make_5 (by decide) (fun q_2 => ?_) (fun q_2 => ?_)
  · have hw := hw.1 q_2
    refine k_iconst (v := (-1)) (pc := 24) C dX10_make_24 (by decide) ?_
    exact hret _ _ _ _ dX10_make_25 hw
  · have hw := hw.2 q_2
    refine k_aload_n (pc := 8) C dX10_make_8 0 rfl rfl ?_
    refine k_iload_n (pc := 9) C dX10_make_9 2 rfl rfl ?_
    refine k_iconst (v := 3) (pc := 10) C dX10_make_10 (by decide) ?_
    refine k_iconst (v := 4) (pc := 11) C dX10_make_11 (by decide) ?_
    refine k_callVi (pc := 12) C (ct_X10_in l D cA ad a2 3 4 S_1 _ hw) (cwV 3 C.2.2.2.2.1 gX10_make_X10_in rfl rfl rfl (by decide +kernel) ⟨Nat.le_of_ble_eq_true rfl, Nat.le_of_ble_eq_true rfl⟩) hm_40 (cel_40 cA ad S_1 0) rfl rfl rfl rfl (Nat.le_of_ble_eq_true rfl) dX10_make_12 (fun r_3 S_3 hw => ?_)
    refine k_if_eq (pc := 15) C 24 dX10_make_15 (by decide) (fun q_4 => ?_) (fun q_4 => ?_)
    · have hw := hw.1 q_4
      refine k_iconst (v := (-1)) (pc := 24) C dX10_make_24 (by decide) ?_
      exact hret _ _ _ _ dX10_make_25 hw
    · have hw := hw.2 q_4
      refine k_iload_n (pc := 18) C dX10_make_18 3 rfl rfl ?_
      refine k_bipush (v := 60) (pc := 19) C dX10_make_19 (by decide) ?_
      refine k_icmp_le (pc := 21) C 26 dX10_make_21 (by decide) (fun q_5 => ?_) (fun q_5 => ?_)
      · have hw := hw.1 q_5
        refine k_iload_n (pc := 26) C dX10_make_26 3 rfl rfl ?_
        refine k_if_ge (pc := 27) C 33 dX10_make_27 (by decide) (fun q_6 => ?_) (fun q_6 => ?_)
        · have hw := hw.1 q_6
          refine k_aload_n (pc := 33) C dX10_make_33 0 rfl rfl ?_
          refine k_get (j := 28) (pc := 34) C hin hm_40 (cel_40 cA ad S_3 0) rfl (by decide) f97 (fun _ h => h) rfl dX10_make_34 ?_
          refine k_iload_n (pc := 37) C dX10_make_37 1 rfl rfl ?_
          refine k_iload_n (pc := 38) C dX10_make_38 2 rfl rfl ?_
          obtain ⟨h_7, hw⟩ := hw
          refine k_iast (pc := 39) C hm_64 (fun S => cel_64 cA ad S 0) h_7 dX10_make_39 ?_
          refine k_nameS (fun S_8 eS_8 => ?_)
          have hw := hw S_8 eS_8
          refine k_aload_n (pc := 40) C dX10_make_40 0 rfl rfl ?_
          refine k_get (j := 30) (pc := 41) C hin hm_40 (cel_40 cA ad S_8 0) rfl (by decide) f103 (fun _ h => h) rfl dX10_make_41 ?_
          refine k_iload_n (pc := 44) C dX10_make_44 1 rfl rfl ?_
          refine k_iload_n (pc := 45) C dX10_make_45 3 rfl rfl ?_
          obtain ⟨h_9, hw⟩ := hw
          refine k_iast (pc := 46) C hm_66 (fun S => cel_66 cA ad S 0) h_9 dX10_make_46 ?_
          refine k_nameS (fun S_10 eS_10 => ?_)
          have hw := hw S_10 eS_10
          refine k_aload_n (pc := 47) C dX10_make_47 0 rfl rfl ?_
          refine k_iload_n (pc := 48) C dX10_make_48 1 rfl rfl ?_
          refine k_callVv (pc := 49) C (ct_X10_wipe l D cA ad a1 S_10 _ hw) (cwV 1 C.2.2.2.2.1 gX10_make_X10_wipe rfl rfl rfl (by decide +kernel) ⟨Nat.le_of_ble_eq_true rfl, Nat.le_of_ble_eq_true rfl⟩) hm_40 (cel_40 cA ad S_10 0) rfl rfl rfl rfl (Nat.le_of_ble_eq_true rfl) dX10_make_49 (fun S_11 hw => ?_)
          refine k_iconst (v := 0) (pc := 52) C dX10_make_52 (by decide) ?_
          exact hret _ _ _ _ dX10_make_53 hw
        · have hw := hw.2 q_6
          refine k_bipush (v := (-14)) (pc := 30) C dX10_make_30 (by decide) ?_
          exact hret _ _ _ _ dX10_make_32 hw
      · have hw := hw.2 q_5
        refine k_iconst (v := (-1)) (pc := 24) C dX10_make_24 (by decide) ?_
        exact hret _ _ _ _ dX10_make_25 hw
def wp_X10_element (a1 : Int32) (a2 : Int32) (S : Sg) (Q : Int64 → Sg → Prop) : Prop :=
  wp_X10_isShelf a1 S (fun r_1 S_1 => (∃ J_2 : Int32 → Sg → Prop, (∀ (t0_2 : Int32) (S_2 : Sg), J_2 t0_2 S_2 → (∀ S_3 : Sg, S_3 = uI S_2 40 0 0 t0_2 → (((gI S_3 40 0 0) ≤ 0 → (vp_in ((60 * a1) + a2) 480 ∧ Q (gL S_3 67 0 (Int32.toNatClampNeg ((60 * a1) + a2))) S_3)) ∧ (¬ (gI S_3 40 0 0) ≤ 0 → Q 0 S_3)))) ∧ ((¬ r_1 = 0 → (vp_in a1 8 ∧ (∃ J_8 : Sg → Prop, (∀ (S_8 : Sg), J_8 S_8 → J_2 2 S_8) ∧ (((gA S_1 64 0 (Int32.toNatClampNeg a1)) < 3 → J_8 S_1) ∧ (¬ (gA S_1 64 0 (Int32.toNatClampNeg a1)) < 3 → (vp_in a1 8 ∧ wp_X10_in a2 0 ((gA S_1 66 0 (Int32.toNatClampNeg a1)) - 1) S_1 (fun r_11 S_11 => ((¬ r_11 = 0 → J_2 0 S_11) ∧ (r_11 = 0 → J_8 S_11))))))))) ∧ (r_1 = 0 → J_2 1 S_1))))
set_option maxHeartbeats 4000000 in
set_option maxRecDepth 100000 in
theorem ct_X10_element (l : Launch) (D : va_G) (cA : Nat → ClassId) (ad : Nat → Nat → Nat) (a1 : Int32) (a2 : Int32) (S : Sg) (Q : Int64 → Sg → Prop) (hw : wp_X10_element a1 a2 S Q) : CtL l yX10_element wsX10_element (mkR 2 44) D cA ad [.ref (ad 40 0), .int a1, .int a2] S Q := by
  refine ct_ofL (cc := cX10_element) (nL := 3) (by decide) rfl (Nat.le_of_ble_eq_true rfl) ?_
  intro p e s m args below meth c A Q C hret
  unfold wp_X10_element at hw
  have C : Cx p s m args c cX10_element 3 wsX10_element RX10 D cA A := C
  have hin : ∀ w ∈ u_ws RX10 TX10 33, w ∈ wsX10_element := fun w h => List.mem_cons_of_mem _ (List.mem_append_right _ h)
  have f7 : Cond.fieldLink RX10 7 "CreepBoardModel" "thrown" "I" ∈ wsX10_element := by decide +kernel
  have f106 : Cond.fieldLink RX10 106 "CreepBoardModel" "item" "[J" ∈ wsX10_element := by decide +kernel
  have f97 : Cond.fieldLink RX10 97 "CreepBoardModel" "held" "[I" ∈ wsX10_element := by decide +kernel
  have f103 : Cond.fieldLink RX10 103 "CreepBoardModel" "size" "[I" ∈ wsX10_element := by decide +kernel
  change KK p l e (mkR 2 44) s m args below meth c 3 D cA ad A Q 0 [(0, .ref (ad 40 0)), (1, .int a1), (2, .int a2)] [] S
  refine k_aload_n (pc := 0) C dX10_element_0 0 rfl rfl ?_
  refine k_aload_n (pc := 1) C dX10_element_1 0 rfl rfl ?_
  refine k_iload_n (pc := 2) C dX10_element_2 1 rfl rfl ?_
  refine k_callVi (pc := 3) C (ct_X10_isShelf l D cA ad a1 S _ hw) (cwV 1 C.2.2.2.2.1 gX10_element_X10_isShelf rfl rfl rfl (by decide +kernel) ⟨Nat.le_of_ble_eq_true rfl, Nat.le_of_ble_eq_true rfl⟩) hm_40 (cel_40 cA ad S 0) rfl rfl rfl rfl (Nat.le_of_ble_eq_true rfl) dX10_element_3 (fun r_1 S_1 hw => ?_)
  obtain ⟨J_2, hj_2, hw⟩ := hw
  have j_2 : ∀ (t0_2 : Int32) (S_2 : Sg), J_2 t0_2 S_2 → KK p l e (mkR 2 44) s m args below meth c 3 D cA ad A Q 45 [(0, .ref (ad 40 0)), (1, .int a1), (2, .int a2)] [.int t0_2, .ref (ad 40 0)] S_2 := by
    intro t0_2 S_2 hw
    have hw := hj_2 t0_2 S_2 hw
    refine k_put (S' := uI S_2 40 0 0 t0_2) (j := 0) (ty := .int) (pc := 45) C hin tyX10 tyX10_ok nmX10 hm_40 (cel_40 cA ad S_2 0) rfl (by decide) f7 (fun _ h => h) rfl (by decide +kernel) rfl rfl (Nat.le_of_ble_eq_true rfl) rfl rfl (fun a b h => cel_uI h) dX10_element_45 ?_
    refine k_nameS (fun S_3 eS_3 => ?_)
    have hw := hw S_3 eS_3
    refine k_aload_n (pc := 48) C dX10_element_48 0 rfl rfl ?_
    refine k_get (j := 0) (pc := 49) C hin hm_40 (cel_40 cA ad S_3 0) rfl (by decide) f7 (fun _ h => h) rfl dX10_element_49 ?_
    refine k_if_le (pc := 52) C 59 dX10_element_52 (by decide) (fun q_4 => ?_) (fun q_4 => ?_)
    · have hw := hw.1 q_4
      refine k_aload_n (pc := 59) C dX10_element_59 0 rfl rfl ?_
      refine k_get (j := 31) (pc := 60) C hin hm_40 (cel_40 cA ad S_3 0) rfl (by decide) f106 (fun _ h => h) rfl dX10_element_60 ?_
      refine k_bipush (v := 60) (pc := 63) C dX10_element_63 (by decide) ?_
      refine k_iload_n (pc := 65) C dX10_element_65 1 rfl rfl ?_
      refine k_imul (pc := 66) C dX10_element_66 ?_
      refine k_iload_n (pc := 67) C dX10_element_67 2 rfl rfl ?_
      refine k_iadd (pc := 68) C dX10_element_68 ?_
      obtain ⟨h_5, hw⟩ := hw
      refine k_lald (pc := 69) C hm_67 (cel_67 cA ad S_3 0) h_5 dX10_element_69 ?_
      exact hret _ _ _ _ dX10_element_70 hw
    · have hw := hw.2 q_4
      refine k_lconst (v := 0) (pc := 55) C dX10_element_55 (by decide) ?_
      refine k_goto (pc := 56) C 70 dX10_element_56 (by decide) ?_
      exact hret _ _ _ _ dX10_element_70 hw
  refine k_if_ne (pc := 6) C 13 dX10_element_6 (by decide) (fun q_6 => ?_) (fun q_6 => ?_)
  · have hw := hw.1 q_6
    refine k_aload_n (pc := 13) C dX10_element_13 0 rfl rfl ?_
    refine k_get (j := 28) (pc := 14) C hin hm_40 (cel_40 cA ad S_1 0) rfl (by decide) f97 (fun _ h => h) rfl dX10_element_14 ?_
    refine k_iload_n (pc := 17) C dX10_element_17 1 rfl rfl ?_
    obtain ⟨h_7, hw⟩ := hw
    refine k_iald (pc := 18) C hm_64 (cel_64 cA ad S_1 0) h_7 dX10_element_18 ?_
    refine k_iconst (v := 3) (pc := 19) C dX10_element_19 (by decide) ?_
    obtain ⟨J_8, hj_8, hw⟩ := hw
    have j_8 : ∀ (S_8 : Sg), J_8 S_8 → KK p l e (mkR 2 44) s m args below meth c 3 D cA ad A Q 40 [(0, .ref (ad 40 0)), (1, .int a1), (2, .int a2)] [.ref (ad 40 0)] S_8 := by
      intro S_8 hw
      have hw := hj_8 S_8 hw
      refine k_iconst (v := 2) (pc := 40) C dX10_element_40 (by decide) ?_
      refine k_goto (pc := 41) C 45 dX10_element_41 (by decide) ?_
      refine k_sub [0, 1, 2] [(0, .ref (ad 40 0)), (1, .int a1), (2, .int a2)] rfl ?_
      exact j_2 2 S_8 hw
    refine k_icmp_lt (pc := 20) C 40 dX10_element_20 (by decide) (fun q_9 => ?_) (fun q_9 => ?_)
    · have hw := hw.1 q_9
      refine k_sub [0, 1, 2] [(0, .ref (ad 40 0)), (1, .int a1), (2, .int a2)] rfl ?_
      exact j_8 S_1 hw
    · have hw := hw.2 q_9
      refine k_aload_n (pc := 23) C dX10_element_23 0 rfl rfl ?_
      refine k_iload_n (pc := 24) C dX10_element_24 2 rfl rfl ?_
      refine k_iconst (v := 0) (pc := 25) C dX10_element_25 (by decide) ?_
      refine k_aload_n (pc := 26) C dX10_element_26 0 rfl rfl ?_
      refine k_get (j := 30) (pc := 27) C hin hm_40 (cel_40 cA ad S_1 0) rfl (by decide) f103 (fun _ h => h) rfl dX10_element_27 ?_
      refine k_iload_n (pc := 30) C dX10_element_30 1 rfl rfl ?_
      obtain ⟨h_10, hw⟩ := hw
      refine k_iald (pc := 31) C hm_66 (cel_66 cA ad S_1 0) h_10 dX10_element_31 ?_
      refine k_iconst (v := 1) (pc := 32) C dX10_element_32 (by decide) ?_
      refine k_isub (pc := 33) C dX10_element_33 ?_
      refine k_callVi (pc := 34) C (ct_X10_in l D cA ad a2 0 ((gA S_1 66 0 (Int32.toNatClampNeg a1)) - 1) S_1 _ hw) (cwV 3 C.2.2.2.2.1 gX10_element_X10_in rfl rfl rfl (by decide +kernel) ⟨Nat.le_of_ble_eq_true rfl, Nat.le_of_ble_eq_true rfl⟩) hm_40 (cel_40 cA ad S_1 0) rfl rfl rfl rfl (Nat.le_of_ble_eq_true rfl) dX10_element_34 (fun r_11 S_11 hw => ?_)
      refine k_if_ne (pc := 37) C 44 dX10_element_37 (by decide) (fun q_12 => ?_) (fun q_12 => ?_)
      · have hw := hw.1 q_12
        refine k_iconst (v := 0) (pc := 44) C dX10_element_44 (by decide) ?_
        refine k_sub [0, 1, 2] [(0, .ref (ad 40 0)), (1, .int a1), (2, .int a2)] rfl ?_
        exact j_2 0 S_11 hw
      · have hw := hw.2 q_12
        refine k_sub [0, 1, 2] [(0, .ref (ad 40 0)), (1, .int a1), (2, .int a2)] rfl ?_
        exact j_8 S_11 hw
  · have hw := hw.2 q_6
    refine k_iconst (v := 1) (pc := 9) C dX10_element_9 (by decide) ?_
    refine k_goto (pc := 10) C 45 dX10_element_10 (by decide) ?_
    refine k_sub [0, 1, 2] [(0, .ref (ad 40 0)), (1, .int a1), (2, .int a2)] rfl ?_
    exact j_2 1 S_1 hw
def wp_X10_copy (a1 : Int32) (a2 : Int32) (a3 : Int32) (a4 : Int32) (a5 : Int32) (S : Sg) (Q : Int32 → Sg → Prop) : Prop :=
  wp_X10_isShelf a1 S (fun r_1 S_1 => ((r_1 = 0 → Q (-1) S_1) ∧ (¬ r_1 = 0 → wp_X10_isShelf a3 S_1 (fun r_3 S_3 => ((¬ r_3 = 0 → (vp_in a1 8 ∧ (((gA S_3 64 0 (Int32.toNatClampNeg a1)) = 0 → Q (-11) S_3) ∧ (¬ (gA S_3 64 0 (Int32.toNatClampNeg a1)) = 0 → (vp_in a3 8 ∧ ((¬ (gA S_3 64 0 (Int32.toNatClampNeg a3)) = 0 → (vp_in a1 8 ∧ (((gA S_3 64 0 (Int32.toNatClampNeg a1)) < 3 → Q (-12) S_3) ∧ (¬ (gA S_3 64 0 (Int32.toNatClampNeg a1)) < 3 → (vp_in a1 8 ∧ (vp_in a3 8 ∧ (((gA S_3 64 0 (Int32.toNatClampNeg a1)) = (gA S_3 64 0 (Int32.toNatClampNeg a3)) → ((a5 < 0 → Q (-13) S_3) ∧ (¬ a5 < 0 → ((a2 < 0 → Q (-13) S_3) ∧ (¬ a2 < 0 → ((a4 < 0 → Q (-13) S_3) ∧ (¬ a4 < 0 → (vp_in a1 8 ∧ ((((gA S_3 66 0 (Int32.toNatClampNeg a1)) - a5) < a2 → Q (-13) S_3) ∧ (¬ ((gA S_3 66 0 (Int32.toNatClampNeg a1)) - a5) < a2 → (vp_in a3 8 ∧ ((a4 ≤ ((gA S_3 66 0 (Int32.toNatClampNeg a3)) - a5) → (∃ (I_21 : Int32 → Sg → Prop) (μ_21 : Int32 → Sg → Nat), I_21 0 S_3 ∧ ∀ (v6_21 : Int32) (S_21 : Sg), I_21 v6_21 S_21 → ((a5 ≤ v6_21 → (∃ (I_23 : Int32 → Sg → Prop) (μ_23 : Int32 → Sg → Nat), I_23 0 S_21 ∧ ∀ (v6_23 : Int32) (S_23 : Sg), I_23 v6_23 S_23 → ((a5 ≤ v6_23 → Q a5 S_23) ∧ (¬ a5 ≤ v6_23 → (vp_in v6_23 60 ∧ (vp_in (((60 * a3) + a4) + v6_23) 480 ∧ ∀ S_27 : Sg, S_27 = uL S_23 67 0 (Int32.toNatClampNeg (((60 * a3) + a4) + v6_23)) (gL S_23 68 0 (Int32.toNatClampNeg v6_23)) → (∀ x6_28 : Int32, x6_28 = v6_23 + 1 → (I_23 x6_28 S_27 ∧ μ_23 x6_28 S_27 < μ_23 v6_23 S_23)))))))) ∧ (¬ a5 ≤ v6_21 → (vp_in (((60 * a1) + a2) + v6_21) 480 ∧ (vp_in v6_21 60 ∧ ∀ S_31 : Sg, S_31 = uL S_21 68 0 (Int32.toNatClampNeg v6_21) (gL S_21 67 0 (Int32.toNatClampNeg (((60 * a1) + a2) + v6_21))) → (∀ x6_32 : Int32, x6_32 = v6_21 + 1 → (I_21 x6_32 S_31 ∧ μ_21 x6_32 S_31 < μ_21 v6_21 S_21)))))))) ∧ (¬ a4 ≤ ((gA S_3 66 0 (Int32.toNatClampNeg a3)) - a5) → Q (-13) S_3))))))))))))) ∧ (¬ (gA S_3 64 0 (Int32.toNatClampNeg a1)) = (gA S_3 64 0 (Int32.toNatClampNeg a3)) → Q (-12) S_3)))))))) ∧ ((gA S_3 64 0 (Int32.toNatClampNeg a3)) = 0 → Q (-11) S_3))))))) ∧ (r_3 = 0 → Q (-1) S_3))))))
set_option maxHeartbeats 4000000 in
set_option maxRecDepth 100000 in
theorem ct_X10_copy (l : Launch) (D : va_G) (cA : Nat → ClassId) (ad : Nat → Nat → Nat) (a1 : Int32) (a2 : Int32) (a3 : Int32) (a4 : Int32) (a5 : Int32) (S : Sg) (Q : Int32 → Sg → Prop) (hw : wp_X10_copy a1 a2 a3 a4 a5 S Q) : CtI l yX10_copy wsX10_copy (mkR 2 44) D cA ad [.ref (ad 40 0), .int a1, .int a2, .int a3, .int a4, .int a5] S Q := by
  refine ct_ofI (cc := cX10_copy) (nL := 7) (by decide) rfl (Nat.le_of_ble_eq_true rfl) ?_
  intro p e s m args below meth c A Q C hret
  unfold wp_X10_copy at hw
  have C : Cx p s m args c cX10_copy 7 wsX10_copy RX10 D cA A := C
  have hin : ∀ w ∈ u_ws RX10 TX10 33, w ∈ wsX10_copy := fun w h => List.mem_cons_of_mem _ (List.mem_append_right _ h)
  have f97 : Cond.fieldLink RX10 97 "CreepBoardModel" "held" "[I" ∈ wsX10_copy := by decide +kernel
  have f103 : Cond.fieldLink RX10 103 "CreepBoardModel" "size" "[I" ∈ wsX10_copy := by decide +kernel
  have f106 : Cond.fieldLink RX10 106 "CreepBoardModel" "item" "[J" ∈ wsX10_copy := by decide +kernel
  have f109 : Cond.fieldLink RX10 109 "CreepBoardModel" "aside" "[J" ∈ wsX10_copy := by decide +kernel
  change KK p l e (mkR 2 44) s m args below meth c 7 D cA ad A Q 0 [(0, .ref (ad 40 0)), (1, .int a1), (2, .int a2), (3, .int a3), (4, .int a4), (5, .int a5)] [] S
  refine k_aload_n (pc := 0) C dX10_copy_0 0 rfl rfl ?_
  refine k_iload_n (pc := 1) C dX10_copy_1 1 rfl rfl ?_
  refine k_callVi (pc := 2) C (ct_X10_isShelf l D cA ad a1 S _ hw) (cwV 1 C.2.2.2.2.1 gX10_copy_X10_isShelf rfl rfl rfl (by decide +kernel) ⟨Nat.le_of_ble_eq_true rfl, Nat.le_of_ble_eq_true rfl⟩) hm_40 (cel_40 cA ad S 0) rfl rfl rfl rfl (Nat.le_of_ble_eq_true rfl) dX10_copy_2 (fun r_1 S_1 hw => ?_)
  refine k_if_eq (pc := 5) C 16 dX10_copy_5 (by decide) (fun q_2 => ?_) (fun q_2 => ?_)
  · have hw := hw.1 q_2
    refine k_iconst (v := (-1)) (pc := 16) C dX10_copy_16 (by decide) ?_
    exact hret _ _ _ _ dX10_copy_17 hw
  · have hw := hw.2 q_2
    refine k_aload_n (pc := 8) C dX10_copy_8 0 rfl rfl ?_
    refine k_iload_n (pc := 9) C dX10_copy_9 3 rfl rfl ?_
    refine k_callVi (pc := 10) C (ct_X10_isShelf l D cA ad a3 S_1 _ hw) (cwV 1 C.2.2.2.2.1 gX10_copy_X10_isShelf rfl rfl rfl (by decide +kernel) ⟨Nat.le_of_ble_eq_true rfl, Nat.le_of_ble_eq_true rfl⟩) hm_40 (cel_40 cA ad S_1 0) rfl rfl rfl rfl (Nat.le_of_ble_eq_true rfl) dX10_copy_10 (fun r_3 S_3 hw => ?_)
    refine k_if_ne (pc := 13) C 18 dX10_copy_13 (by decide) (fun q_4 => ?_) (fun q_4 => ?_)
    · have hw := hw.1 q_4
      refine k_aload_n (pc := 18) C dX10_copy_18 0 rfl rfl ?_
      refine k_get (j := 28) (pc := 19) C hin hm_40 (cel_40 cA ad S_3 0) rfl (by decide) f97 (fun _ h => h) rfl dX10_copy_19 ?_
      refine k_iload_n (pc := 22) C dX10_copy_22 1 rfl rfl ?_
      obtain ⟨h_5, hw⟩ := hw
      refine k_iald (pc := 23) C hm_64 (cel_64 cA ad S_3 0) h_5 dX10_copy_23 ?_
      refine k_if_eq (pc := 24) C 36 dX10_copy_24 (by decide) (fun q_6 => ?_) (fun q_6 => ?_)
      · have hw := hw.1 q_6
        refine k_bipush (v := (-11)) (pc := 36) C dX10_copy_36 (by decide) ?_
        exact hret _ _ _ _ dX10_copy_38 hw
      · have hw := hw.2 q_6
        refine k_aload_n (pc := 27) C dX10_copy_27 0 rfl rfl ?_
        refine k_get (j := 28) (pc := 28) C hin hm_40 (cel_40 cA ad S_3 0) rfl (by decide) f97 (fun _ h => h) rfl dX10_copy_28 ?_
        refine k_iload_n (pc := 31) C dX10_copy_31 3 rfl rfl ?_
        obtain ⟨h_7, hw⟩ := hw
        refine k_iald (pc := 32) C hm_64 (cel_64 cA ad S_3 0) h_7 dX10_copy_32 ?_
        refine k_if_ne (pc := 33) C 39 dX10_copy_33 (by decide) (fun q_8 => ?_) (fun q_8 => ?_)
        · have hw := hw.1 q_8
          refine k_aload_n (pc := 39) C dX10_copy_39 0 rfl rfl ?_
          refine k_get (j := 28) (pc := 40) C hin hm_40 (cel_40 cA ad S_3 0) rfl (by decide) f97 (fun _ h => h) rfl dX10_copy_40 ?_
          refine k_iload_n (pc := 43) C dX10_copy_43 1 rfl rfl ?_
          obtain ⟨h_9, hw⟩ := hw
          refine k_iald (pc := 44) C hm_64 (cel_64 cA ad S_3 0) h_9 dX10_copy_44 ?_
          refine k_iconst (v := 3) (pc := 45) C dX10_copy_45 (by decide) ?_
          refine k_icmp_lt (pc := 46) C 64 dX10_copy_46 (by decide) (fun q_10 => ?_) (fun q_10 => ?_)
          · have hw := hw.1 q_10
            refine k_bipush (v := (-12)) (pc := 64) C dX10_copy_64 (by decide) ?_
            exact hret _ _ _ _ dX10_copy_66 hw
          · have hw := hw.2 q_10
            refine k_aload_n (pc := 49) C dX10_copy_49 0 rfl rfl ?_
            refine k_get (j := 28) (pc := 50) C hin hm_40 (cel_40 cA ad S_3 0) rfl (by decide) f97 (fun _ h => h) rfl dX10_copy_50 ?_
            refine k_iload_n (pc := 53) C dX10_copy_53 1 rfl rfl ?_
            obtain ⟨h_11, hw⟩ := hw
            refine k_iald (pc := 54) C hm_64 (cel_64 cA ad S_3 0) h_11 dX10_copy_54 ?_
            refine k_aload_n (pc := 55) C dX10_copy_55 0 rfl rfl ?_
            refine k_get (j := 28) (pc := 56) C hin hm_40 (cel_40 cA ad S_3 0) rfl (by decide) f97 (fun _ h => h) rfl dX10_copy_56 ?_
            refine k_iload_n (pc := 59) C dX10_copy_59 3 rfl rfl ?_
            obtain ⟨h_12, hw⟩ := hw
            refine k_iald (pc := 60) C hm_64 (cel_64 cA ad S_3 0) h_12 dX10_copy_60 ?_
            refine k_icmp_eq (pc := 61) C 67 dX10_copy_61 (by decide) (fun q_13 => ?_) (fun q_13 => ?_)
            · have hw := hw.1 q_13
              refine k_iload (pc := 67) C dX10_copy_67 5 rfl ?_
              refine k_if_lt (pc := 69) C 108 dX10_copy_69 (by decide) (fun q_14 => ?_) (fun q_14 => ?_)
              · have hw := hw.1 q_14
                refine k_bipush (v := (-13)) (pc := 108) C dX10_copy_108 (by decide) ?_
                exact hret _ _ _ _ dX10_copy_110 hw
              · have hw := hw.2 q_14
                refine k_iload_n (pc := 72) C dX10_copy_72 2 rfl rfl ?_
                refine k_if_lt (pc := 73) C 108 dX10_copy_73 (by decide) (fun q_15 => ?_) (fun q_15 => ?_)
                · have hw := hw.1 q_15
                  refine k_bipush (v := (-13)) (pc := 108) C dX10_copy_108 (by decide) ?_
                  exact hret _ _ _ _ dX10_copy_110 hw
                · have hw := hw.2 q_15
                  refine k_iload (pc := 76) C dX10_copy_76 4 rfl ?_
                  refine k_if_lt (pc := 78) C 108 dX10_copy_78 (by decide) (fun q_16 => ?_) (fun q_16 => ?_)
                  · have hw := hw.1 q_16
                    refine k_bipush (v := (-13)) (pc := 108) C dX10_copy_108 (by decide) ?_
                    exact hret _ _ _ _ dX10_copy_110 hw
                  · have hw := hw.2 q_16
                    refine k_iload_n (pc := 81) C dX10_copy_81 2 rfl rfl ?_
                    refine k_aload_n (pc := 82) C dX10_copy_82 0 rfl rfl ?_
                    refine k_get (j := 30) (pc := 83) C hin hm_40 (cel_40 cA ad S_3 0) rfl (by decide) f103 (fun _ h => h) rfl dX10_copy_83 ?_
                    refine k_iload_n (pc := 86) C dX10_copy_86 1 rfl rfl ?_
                    obtain ⟨h_17, hw⟩ := hw
                    refine k_iald (pc := 87) C hm_66 (cel_66 cA ad S_3 0) h_17 dX10_copy_87 ?_
                    refine k_iload (pc := 88) C dX10_copy_88 5 rfl ?_
                    refine k_isub (pc := 90) C dX10_copy_90 ?_
                    refine k_icmp_gt (pc := 91) C 108 dX10_copy_91 (by decide) (fun q_18 => ?_) (fun q_18 => ?_)
                    · have hw := hw.1 q_18
                      refine k_bipush (v := (-13)) (pc := 108) C dX10_copy_108 (by decide) ?_
                      exact hret _ _ _ _ dX10_copy_110 hw
                    · have hw := hw.2 q_18
                      refine k_iload (pc := 94) C dX10_copy_94 4 rfl ?_
                      refine k_aload_n (pc := 96) C dX10_copy_96 0 rfl rfl ?_
                      refine k_get (j := 30) (pc := 97) C hin hm_40 (cel_40 cA ad S_3 0) rfl (by decide) f103 (fun _ h => h) rfl dX10_copy_97 ?_
                      refine k_iload_n (pc := 100) C dX10_copy_100 3 rfl rfl ?_
                      obtain ⟨h_19, hw⟩ := hw
                      refine k_iald (pc := 101) C hm_66 (cel_66 cA ad S_3 0) h_19 dX10_copy_101 ?_
                      refine k_iload (pc := 102) C dX10_copy_102 5 rfl ?_
                      refine k_isub (pc := 104) C dX10_copy_104 ?_
                      refine k_icmp_le (pc := 105) C 111 dX10_copy_105 (by decide) (fun q_20 => ?_) (fun q_20 => ?_)
                      · have hw := hw.1 q_20
                        refine k_iconst (v := 0) (pc := 111) C dX10_copy_111 (by decide) ?_
                        refine k_istore (pc := 112) C dX10_copy_112 (by decide) [(6, .int 0), (0, .ref (ad 40 0)), (1, .int a1), (2, .int a2), (3, .int a3), (4, .int a4), (5, .int a5)] rfl ?_
                        refine k_sub [1, 2, 3, 4, 5, 6, 0] [(0, .ref (ad 40 0)), (1, .int a1), (2, .int a2), (3, .int a3), (4, .int a4), (5, .int a5), (6, .int 0)] rfl ?_
                        obtain ⟨I_21, μ_21, hi_21, hw⟩ := hw
                        have L_21 : ∀ (n : Nat) (v6_21 : Int32) (S_21 : Sg), μ_21 v6_21 S_21 < n → I_21 v6_21 S_21 → KK p l e (mkR 2 44) s m args below meth c 7 D cA ad A Q 114 [(0, .ref (ad 40 0)), (1, .int a1), (2, .int a2), (3, .int a3), (4, .int a4), (5, .int a5), (6, .int v6_21)] [] S_21 := by
                          intro n
                          induction n with
                          | zero => intro v6_21 S_21 h; exact absurd h (Nat.not_lt_zero _)
                          | succ n ih_21 =>
                            intro v6_21 S_21 hn_21 hi_21
                            have hw := hw v6_21 S_21 hi_21
                            refine k_iload (pc := 114) C dX10_copy_114 6 rfl ?_
                            refine k_iload (pc := 116) C dX10_copy_116 5 rfl ?_
                            refine k_icmp_ge (pc := 118) C 148 dX10_copy_118 (by decide) (fun q_22 => ?_) (fun q_22 => ?_)
                            · have hw := hw.1 q_22
                              refine k_iconst (v := 0) (pc := 148) C dX10_copy_148 (by decide) ?_
                              refine k_istore (pc := 149) C dX10_copy_149 (by decide) [(6, .int 0), (0, .ref (ad 40 0)), (1, .int a1), (2, .int a2), (3, .int a3), (4, .int a4), (5, .int a5)] rfl ?_
                              refine k_sub [1, 4, 5, 6, 0] [(0, .ref (ad 40 0)), (3, .int a3), (4, .int a4), (5, .int a5), (6, .int 0)] rfl ?_
                              obtain ⟨I_23, μ_23, hi_23, hw⟩ := hw
                              have L_23 : ∀ (n : Nat) (v6_23 : Int32) (S_23 : Sg), μ_23 v6_23 S_23 < n → I_23 v6_23 S_23 → KK p l e (mkR 2 44) s m args below meth c 7 D cA ad A Q 151 [(0, .ref (ad 40 0)), (3, .int a3), (4, .int a4), (5, .int a5), (6, .int v6_23)] [] S_23 := by
                                intro n
                                induction n with
                                | zero => intro v6_23 S_23 h; exact absurd h (Nat.not_lt_zero _)
                                | succ n ih_23 =>
                                  intro v6_23 S_23 hn_23 hi_23
                                  have hw := hw v6_23 S_23 hi_23
                                  refine k_iload (pc := 151) C dX10_copy_151 4 rfl ?_
                                  refine k_iload (pc := 153) C dX10_copy_153 3 rfl ?_
                                  refine k_icmp_ge (pc := 155) C 186 dX10_copy_155 (by decide) (fun q_24 => ?_) (fun q_24 => ?_)
                                  · have hw := hw.1 q_24
                                    refine k_iload (pc := 186) C dX10_copy_186 3 rfl ?_
                                    exact hret _ _ _ _ dX10_copy_188 hw
                                  · have hw := hw.2 q_24
                                    refine k_aload_n (pc := 158) C dX10_copy_158 0 rfl rfl ?_
                                    refine k_get (j := 31) (pc := 159) C hin hm_40 (cel_40 cA ad S_23 0) rfl (by decide) f106 (fun _ h => h) rfl dX10_copy_159 ?_
                                    refine k_bipush (v := 60) (pc := 162) C dX10_copy_162 (by decide) ?_
                                    refine k_iload_n (pc := 164) C dX10_copy_164 1 rfl rfl ?_
                                    refine k_imul (pc := 165) C dX10_copy_165 ?_
                                    refine k_iload (pc := 166) C dX10_copy_166 2 rfl ?_
                                    refine k_iadd (pc := 168) C dX10_copy_168 ?_
                                    refine k_iload (pc := 169) C dX10_copy_169 4 rfl ?_
                                    refine k_iadd (pc := 171) C dX10_copy_171 ?_
                                    refine k_aload_n (pc := 172) C dX10_copy_172 0 rfl rfl ?_
                                    refine k_get (j := 32) (pc := 173) C hin hm_40 (cel_40 cA ad S_23 0) rfl (by decide) f109 (fun _ h => h) rfl dX10_copy_173 ?_
                                    refine k_iload (pc := 176) C dX10_copy_176 4 rfl ?_
                                    obtain ⟨h_25, hw⟩ := hw
                                    refine k_lald (pc := 178) C hm_68 (cel_68 cA ad S_23 0) h_25 dX10_copy_178 ?_
                                    obtain ⟨h_26, hw⟩ := hw
                                    refine k_last (pc := 179) C hm_67 (fun S => cel_67 cA ad S 0) h_26 dX10_copy_179 ?_
                                    refine k_nameS (fun S_27 eS_27 => ?_)
                                    have hw := hw S_27 eS_27
                                    obtain ⟨x6_28, ex6_28⟩ : ∃ y : Int32, y = v6_23 + 1 := ⟨_, rfl⟩
                                    have hw := hw x6_28 ex6_28
                                    refine k_iinc (v := x6_28) (j := 4) (pc := 180) C dX10_copy_180 rfl (by rw [ex6_28]; rfl) (by decide) [(6, .int x6_28), (0, .ref (ad 40 0)), (3, .int a3), (4, .int a4), (5, .int a5)] rfl ?_
                                    refine k_goto (pc := 183) C 151 dX10_copy_183 (by decide) ?_
                                    refine k_sub [1, 2, 3, 4, 0] [(0, .ref (ad 40 0)), (3, .int a3), (4, .int a4), (5, .int a5), (6, .int x6_28)] rfl ?_
                                    exact ih_23 x6_28 S_27 (Nat.lt_of_lt_of_le hw.2 (Nat.le_of_lt_succ hn_23)) hw.1
                              exact L_23 (μ_23 0 S_21 + 1) 0 S_21 (Nat.lt_succ_self _) hi_23
                            · have hw := hw.2 q_22
                              refine k_aload_n (pc := 121) C dX10_copy_121 0 rfl rfl ?_
                              refine k_get (j := 32) (pc := 122) C hin hm_40 (cel_40 cA ad S_21 0) rfl (by decide) f109 (fun _ h => h) rfl dX10_copy_122 ?_
                              refine k_iload (pc := 125) C dX10_copy_125 6 rfl ?_
                              refine k_aload_n (pc := 127) C dX10_copy_127 0 rfl rfl ?_
                              refine k_get (j := 31) (pc := 128) C hin hm_40 (cel_40 cA ad S_21 0) rfl (by decide) f106 (fun _ h => h) rfl dX10_copy_128 ?_
                              refine k_bipush (v := 60) (pc := 131) C dX10_copy_131 (by decide) ?_
                              refine k_iload_n (pc := 133) C dX10_copy_133 1 rfl rfl ?_
                              refine k_imul (pc := 134) C dX10_copy_134 ?_
                              refine k_iload_n (pc := 135) C dX10_copy_135 2 rfl rfl ?_
                              refine k_iadd (pc := 136) C dX10_copy_136 ?_
                              refine k_iload (pc := 137) C dX10_copy_137 6 rfl ?_
                              refine k_iadd (pc := 139) C dX10_copy_139 ?_
                              obtain ⟨h_29, hw⟩ := hw
                              refine k_lald (pc := 140) C hm_67 (cel_67 cA ad S_21 0) h_29 dX10_copy_140 ?_
                              obtain ⟨h_30, hw⟩ := hw
                              refine k_last (pc := 141) C hm_68 (fun S => cel_68 cA ad S 0) h_30 dX10_copy_141 ?_
                              refine k_nameS (fun S_31 eS_31 => ?_)
                              have hw := hw S_31 eS_31
                              obtain ⟨x6_32, ex6_32⟩ : ∃ y : Int32, y = v6_21 + 1 := ⟨_, rfl⟩
                              have hw := hw x6_32 ex6_32
                              refine k_iinc (v := x6_32) (j := 6) (pc := 142) C dX10_copy_142 rfl (by rw [ex6_32]; rfl) (by decide) [(6, .int x6_32), (0, .ref (ad 40 0)), (1, .int a1), (2, .int a2), (3, .int a3), (4, .int a4), (5, .int a5)] rfl ?_
                              refine k_goto (pc := 145) C 114 dX10_copy_145 (by decide) ?_
                              refine k_sub [1, 2, 3, 4, 5, 6, 0] [(0, .ref (ad 40 0)), (1, .int a1), (2, .int a2), (3, .int a3), (4, .int a4), (5, .int a5), (6, .int x6_32)] rfl ?_
                              exact ih_21 x6_32 S_31 (Nat.lt_of_lt_of_le hw.2 (Nat.le_of_lt_succ hn_21)) hw.1
                        exact L_21 (μ_21 0 S_3 + 1) 0 S_3 (Nat.lt_succ_self _) hi_21
                      · have hw := hw.2 q_20
                        refine k_bipush (v := (-13)) (pc := 108) C dX10_copy_108 (by decide) ?_
                        exact hret _ _ _ _ dX10_copy_110 hw
            · have hw := hw.2 q_13
              refine k_bipush (v := (-12)) (pc := 64) C dX10_copy_64 (by decide) ?_
              exact hret _ _ _ _ dX10_copy_66 hw
        · have hw := hw.2 q_8
          refine k_bipush (v := (-11)) (pc := 36) C dX10_copy_36 (by decide) ?_
          exact hret _ _ _ _ dX10_copy_38 hw
    · have hw := hw.2 q_4
      refine k_iconst (v := (-1)) (pc := 16) C dX10_copy_16 (by decide) ?_
      exact hret _ _ _ _ dX10_copy_17 hw
def wp_X10_weight (a1 : Int32) (S : Sg) (Q : Int32 → Sg → Prop) : Prop :=
  wp_X10_isShelf a1 S (fun r_1 S_1 => ((¬ r_1 = 0 → (vp_in a1 8 ∧ ((¬ (gA S_1 64 0 (Int32.toNatClampNeg a1)) = 0 → (vp_in a1 8 ∧ (((gA S_1 64 0 (Int32.toNatClampNeg a1)) = 1 → (vp_in a1 8 ∧ (∀ x2_8 : Int32, x2_8 = (gA S_1 65 0 (Int32.toNatClampNeg a1)) → wp_X10_readingsOf x2_8 S_1 (fun r_9 S_9 => wp_X10_hasAntenna x2_8 S_9 (fun r_10 S_10 => (∃ J_11 : Int32 → Sg → Prop, (∀ (t0_11 : Int32) (S_11 : Sg), J_11 t0_11 S_11 → (vp_in x2_8 10 ∧ (∃ J_13 : Int32 → Sg → Prop, (∀ (t0_13 : Int32) (S_13 : Sg), J_13 t0_13 S_13 → (∀ x3_14 : Int32, x3_14 = (((10 + r_9) + t0_11) + t0_13) → (vp_in x2_8 10 ∧ ((¬ (gA S_13 41 0 (Int32.toNatClampNeg x2_8)) = 2 → Q x3_14 S_13) ∧ ((gA S_13 41 0 (Int32.toNatClampNeg x2_8)) = 2 → Q (2 * x3_14) S_13))))) ∧ ((¬ (gA S_11 41 0 (Int32.toNatClampNeg x2_8)) = 3 → J_13 0 S_11) ∧ ((gA S_11 41 0 (Int32.toNatClampNeg x2_8)) = 3 → J_13 7 S_11))))) ∧ ((r_10 = 0 → J_11 0 S_10) ∧ (¬ r_10 = 0 → (vp_in x2_8 10 ∧ J_11 ((gA S_10 44 0 (Int32.toNatClampNeg x2_8)) + 100) S_10))))))))) ∧ (¬ (gA S_1 64 0 (Int32.toNatClampNeg a1)) = 1 → Q (-1012) S_1)))) ∧ ((gA S_1 64 0 (Int32.toNatClampNeg a1)) = 0 → Q (-1011) S_1)))) ∧ (r_1 = 0 → Q (-1001) S_1)))
set_option maxHeartbeats 4000000 in
set_option maxRecDepth 100000 in
theorem ct_X10_weight (l : Launch) (D : va_G) (cA : Nat → ClassId) (ad : Nat → Nat → Nat) (a1 : Int32) (S : Sg) (Q : Int32 → Sg → Prop) (hw : wp_X10_weight a1 S Q) : CtI l yX10_weight wsX10_weight (mkR 2 45) D cA ad [.ref (ad 40 0), .int a1] S Q := by
  refine ct_ofI (cc := cX10_weight) (nL := 4) (by decide) rfl (Nat.le_of_ble_eq_true rfl) ?_
  intro p e s m args below meth c A Q C hret
  unfold wp_X10_weight at hw
  have C : Cx p s m args c cX10_weight 4 wsX10_weight RX10 D cA A := C
  have hin : ∀ w ∈ u_ws RX10 TX10 33, w ∈ wsX10_weight := fun w h => List.mem_cons_of_mem _ (List.mem_append_right _ h)
  have f97 : Cond.fieldLink RX10 97 "CreepBoardModel" "held" "[I" ∈ wsX10_weight := by decide +kernel
  have f100 : Cond.fieldLink RX10 100 "CreepBoardModel" "heldMark" "[I" ∈ wsX10_weight := by decide +kernel
  have f16 : Cond.fieldLink RX10 16 "CreepBoardModel" "kind" "[I" ∈ wsX10_weight := by decide +kernel
  have f26 : Cond.fieldLink RX10 26 "CreepBoardModel" "offset" "[I" ∈ wsX10_weight := by decide +kernel
  change KK p l e (mkR 2 45) s m args below meth c 4 D cA ad A Q 0 [(0, .ref (ad 40 0)), (1, .int a1)] [] S
  refine k_aload_n (pc := 0) C dX10_weight_0 0 rfl rfl ?_
  refine k_iload_n (pc := 1) C dX10_weight_1 1 rfl rfl ?_
  refine k_callVi (pc := 2) C (ct_X10_isShelf l D cA ad a1 S _ hw) (cwV 1 C.2.2.2.2.1 gX10_weight_X10_isShelf rfl rfl rfl (by decide +kernel) ⟨Nat.le_of_ble_eq_true rfl, Nat.le_of_ble_eq_true rfl⟩) hm_40 (cel_40 cA ad S 0) rfl rfl rfl rfl (Nat.le_of_ble_eq_true rfl) dX10_weight_2 (fun r_1 S_1 hw => ?_)
  refine k_if_ne (pc := 5) C 12 dX10_weight_5 (by decide) (fun q_2 => ?_) (fun q_2 => ?_)
  · have hw := hw.1 q_2
    refine k_aload_n (pc := 12) C dX10_weight_12 0 rfl rfl ?_
    refine k_get (j := 28) (pc := 13) C hin hm_40 (cel_40 cA ad S_1 0) rfl (by decide) f97 (fun _ h => h) rfl dX10_weight_13 ?_
    refine k_iload_n (pc := 16) C dX10_weight_16 1 rfl rfl ?_
    obtain ⟨h_3, hw⟩ := hw
    refine k_iald (pc := 17) C hm_64 (cel_64 cA ad S_1 0) h_3 dX10_weight_17 ?_
    refine k_if_ne (pc := 18) C 25 dX10_weight_18 (by decide) (fun q_4 => ?_) (fun q_4 => ?_)
    · have hw := hw.1 q_4
      refine k_aload_n (pc := 25) C dX10_weight_25 0 rfl rfl ?_
      refine k_get (j := 28) (pc := 26) C hin hm_40 (cel_40 cA ad S_1 0) rfl (by decide) f97 (fun _ h => h) rfl dX10_weight_26 ?_
      refine k_iload_n (pc := 29) C dX10_weight_29 1 rfl rfl ?_
      obtain ⟨h_5, hw⟩ := hw
      refine k_iald (pc := 30) C hm_64 (cel_64 cA ad S_1 0) h_5 dX10_weight_30 ?_
      refine k_iconst (v := 1) (pc := 31) C dX10_weight_31 (by decide) ?_
      refine k_icmp_eq (pc := 32) C 39 dX10_weight_32 (by decide) (fun q_6 => ?_) (fun q_6 => ?_)
      · have hw := hw.1 q_6
        refine k_aload_n (pc := 39) C dX10_weight_39 0 rfl rfl ?_
        refine k_get (j := 29) (pc := 40) C hin hm_40 (cel_40 cA ad S_1 0) rfl (by decide) f100 (fun _ h => h) rfl dX10_weight_40 ?_
        refine k_iload_n (pc := 43) C dX10_weight_43 1 rfl rfl ?_
        obtain ⟨h_7, hw⟩ := hw
        refine k_iald (pc := 44) C hm_65 (cel_65 cA ad S_1 0) h_7 dX10_weight_44 ?_
        refine k_topi (fun x2_8 ex2_8 => ?_)
        have hw := hw x2_8 ex2_8
        refine k_istore_n (pc := 45) C dX10_weight_45 rfl (by decide) [(2, .int x2_8), (0, .ref (ad 40 0)), (1, .int a1)] rfl ?_
        refine k_bipush (v := 10) (pc := 46) C dX10_weight_46 (by decide) ?_
        refine k_aload_n (pc := 48) C dX10_weight_48 1 rfl rfl ?_
        refine k_iload_n (pc := 49) C dX10_weight_49 0 rfl rfl ?_
        refine k_callVi (pc := 50) C (ct_X10_readingsOf l D cA ad x2_8 S_1 _ hw) (cwV 1 C.2.2.2.2.1 gX10_weight_X10_readingsOf rfl rfl rfl (by decide +kernel) ⟨Nat.le_of_ble_eq_true rfl, Nat.le_of_ble_eq_true rfl⟩) hm_40 (cel_40 cA ad S_1 0) rfl rfl rfl rfl (Nat.le_of_ble_eq_true rfl) dX10_weight_50 (fun r_9 S_9 hw => ?_)
        refine k_iadd (pc := 53) C dX10_weight_53 ?_
        refine k_aload_n (pc := 54) C dX10_weight_54 1 rfl rfl ?_
        refine k_iload_n (pc := 55) C dX10_weight_55 0 rfl rfl ?_
        refine k_callVi (pc := 56) C (ct_X10_hasAntenna l D cA ad x2_8 S_9 _ hw) (cwV 1 C.2.2.2.2.1 gX10_weight_X10_hasAntenna rfl rfl rfl (by decide +kernel) ⟨Nat.le_of_ble_eq_true rfl, Nat.le_of_ble_eq_true rfl⟩) hm_40 (cel_40 cA ad S_9 0) rfl rfl rfl rfl (Nat.le_of_ble_eq_true rfl) dX10_weight_56 (fun r_10 S_10 hw => ?_)
        obtain ⟨J_11, hj_11, hw⟩ := hw
        have j_11 : ∀ (t0_11 : Int32) (S_11 : Sg), J_11 t0_11 S_11 → KK p l e (mkR 2 45) s m args below meth c 4 D cA ad A Q 75 [(0, .ref (ad 40 0)), (2, .int x2_8)] [.int t0_11, .int (10 + r_9)] S_11 := by
          intro t0_11 S_11 hw
          have hw := hj_11 t0_11 S_11 hw
          refine k_iadd (pc := 75) C dX10_weight_75 ?_
          refine k_aload_n (pc := 76) C dX10_weight_76 0 rfl rfl ?_
          refine k_get (j := 2) (pc := 77) C hin hm_40 (cel_40 cA ad S_11 0) rfl (by decide) f16 (fun _ h => h) rfl dX10_weight_77 ?_
          refine k_iload_n (pc := 80) C dX10_weight_80 1 rfl rfl ?_
          obtain ⟨h_12, hw⟩ := hw
          refine k_iald (pc := 81) C hm_41 (cel_41 cA ad S_11 0) h_12 dX10_weight_81 ?_
          refine k_iconst (v := 3) (pc := 82) C dX10_weight_82 (by decide) ?_
          obtain ⟨J_13, hj_13, hw⟩ := hw
          have j_13 : ∀ (t0_13 : Int32) (S_13 : Sg), J_13 t0_13 S_13 → KK p l e (mkR 2 45) s m args below meth c 4 D cA ad A Q 92 [(0, .ref (ad 40 0)), (2, .int x2_8)] [.int t0_13, .int ((10 + r_9) + t0_11)] S_13 := by
            intro t0_13 S_13 hw
            have hw := hj_13 t0_13 S_13 hw
            refine k_iadd (pc := 92) C dX10_weight_92 ?_
            refine k_topi (fun x3_14 ex3_14 => ?_)
            have hw := hw x3_14 ex3_14
            refine k_istore_n (pc := 93) C dX10_weight_93 rfl (by decide) [(3, .int x3_14), (0, .ref (ad 40 0)), (2, .int x2_8)] rfl ?_
            refine k_aload_n (pc := 94) C dX10_weight_94 1 rfl rfl ?_
            refine k_get (j := 2) (pc := 95) C hin hm_40 (cel_40 cA ad S_13 0) rfl (by decide) f16 (fun _ h => h) rfl dX10_weight_95 ?_
            refine k_iload_n (pc := 98) C dX10_weight_98 2 rfl rfl ?_
            obtain ⟨h_15, hw⟩ := hw
            refine k_iald (pc := 99) C hm_41 (cel_41 cA ad S_13 0) h_15 dX10_weight_99 ?_
            refine k_iconst (v := 2) (pc := 100) C dX10_weight_100 (by decide) ?_
            refine k_icmp_ne (pc := 101) C 110 dX10_weight_101 (by decide) (fun q_16 => ?_) (fun q_16 => ?_)
            · have hw := hw.1 q_16
              refine k_iload_n (pc := 110) C dX10_weight_110 0 rfl rfl ?_
              exact hret _ _ _ _ dX10_weight_111 hw
            · have hw := hw.2 q_16
              refine k_iconst (v := 2) (pc := 104) C dX10_weight_104 (by decide) ?_
              refine k_iload_n (pc := 105) C dX10_weight_105 0 rfl rfl ?_
              refine k_imul (pc := 106) C dX10_weight_106 ?_
              refine k_goto (pc := 107) C 111 dX10_weight_107 (by decide) ?_
              exact hret _ _ _ _ dX10_weight_111 hw
          refine k_icmp_ne (pc := 83) C 91 dX10_weight_83 (by decide) (fun q_17 => ?_) (fun q_17 => ?_)
          · have hw := hw.1 q_17
            refine k_iconst (v := 0) (pc := 91) C dX10_weight_91 (by decide) ?_
            refine k_sub [0, 1] [(0, .ref (ad 40 0)), (2, .int x2_8)] rfl ?_
            exact j_13 0 S_11 hw
          · have hw := hw.2 q_17
            refine k_bipush (v := 7) (pc := 86) C dX10_weight_86 (by decide) ?_
            refine k_goto (pc := 88) C 92 dX10_weight_88 (by decide) ?_
            refine k_sub [0, 1] [(0, .ref (ad 40 0)), (2, .int x2_8)] rfl ?_
            exact j_13 7 S_11 hw
        refine k_if_eq (pc := 59) C 74 dX10_weight_59 (by decide) (fun q_18 => ?_) (fun q_18 => ?_)
        · have hw := hw.1 q_18
          refine k_iconst (v := 0) (pc := 74) C dX10_weight_74 (by decide) ?_
          refine k_sub [1, 0] [(0, .ref (ad 40 0)), (2, .int x2_8)] rfl ?_
          exact j_11 0 S_10 hw
        · have hw := hw.2 q_18
          refine k_aload_n (pc := 62) C dX10_weight_62 1 rfl rfl ?_
          refine k_get (j := 5) (pc := 63) C hin hm_40 (cel_40 cA ad S_10 0) rfl (by decide) f26 (fun _ h => h) rfl dX10_weight_63 ?_
          refine k_iload_n (pc := 66) C dX10_weight_66 0 rfl rfl ?_
          obtain ⟨h_19, hw⟩ := hw
          refine k_iald (pc := 67) C hm_44 (cel_44 cA ad S_10 0) h_19 dX10_weight_67 ?_
          refine k_bipush (v := 100) (pc := 68) C dX10_weight_68 (by decide) ?_
          refine k_iadd (pc := 70) C dX10_weight_70 ?_
          refine k_goto (pc := 71) C 75 dX10_weight_71 (by decide) ?_
          refine k_sub [1, 0] [(0, .ref (ad 40 0)), (2, .int x2_8)] rfl ?_
          exact j_11 ((gA S_10 44 0 (Int32.toNatClampNeg x2_8)) + 100) S_10 hw
      · have hw := hw.2 q_6
        refine k_sipush (v := (-1012)) (pc := 35) C dX10_weight_35 (by decide) ?_
        exact hret _ _ _ _ dX10_weight_38 hw
    · have hw := hw.2 q_4
      refine k_sipush (v := (-1011)) (pc := 21) C dX10_weight_21 (by decide) ?_
      exact hret _ _ _ _ dX10_weight_24 hw
  · have hw := hw.2 q_2
    refine k_sipush (v := (-1001)) (pc := 8) C dX10_weight_8 (by decide) ?_
    exact hret _ _ _ _ dX10_weight_11 hw
def wp_X10_toss (a1 : Int32) (S : Sg) (Q : Int32 → Sg → Prop) : Prop :=
  wp_X10_isShelf a1 S (fun r_1 S_1 => ((¬ r_1 = 0 → (vp_in a1 8 ∧ ((¬ (gA S_1 64 0 (Int32.toNatClampNeg a1)) = 0 → (vp_in a1 8 ∧ (((gA S_1 64 0 (Int32.toNatClampNeg a1)) = 1 → (vp_in a1 8 ∧ wp_X10_hasAntenna (gA S_1 65 0 (Int32.toNatClampNeg a1)) S_1 (fun r_8 S_8 => ((r_8 = 0 → Q (-15) S_8) ∧ (¬ r_8 = 0 → (vp_in a1 8 ∧ Q (gA S_8 65 0 (Int32.toNatClampNeg a1)) S_8)))))) ∧ (¬ (gA S_1 64 0 (Int32.toNatClampNeg a1)) = 1 → Q (-12) S_1)))) ∧ ((gA S_1 64 0 (Int32.toNatClampNeg a1)) = 0 → Q (-11) S_1)))) ∧ (r_1 = 0 → Q (-1) S_1)))
set_option maxHeartbeats 4000000 in
set_option maxRecDepth 100000 in
theorem ct_X10_toss (l : Launch) (D : va_G) (cA : Nat → ClassId) (ad : Nat → Nat → Nat) (a1 : Int32) (S : Sg) (Q : Int32 → Sg → Prop) (hw : wp_X10_toss a1 S Q) : CtI l yX10_toss wsX10_toss (mkR 2 44) D cA ad [.ref (ad 40 0), .int a1] S Q := by
  refine ct_ofI (cc := cX10_toss) (nL := 2) (by decide) rfl (Nat.le_of_ble_eq_true rfl) ?_
  intro p e s m args below meth c A Q C hret
  unfold wp_X10_toss at hw
  have C : Cx p s m args c cX10_toss 2 wsX10_toss RX10 D cA A := C
  have hin : ∀ w ∈ u_ws RX10 TX10 33, w ∈ wsX10_toss := fun w h => List.mem_cons_of_mem _ (List.mem_append_right _ h)
  have f97 : Cond.fieldLink RX10 97 "CreepBoardModel" "held" "[I" ∈ wsX10_toss := by decide +kernel
  have f100 : Cond.fieldLink RX10 100 "CreepBoardModel" "heldMark" "[I" ∈ wsX10_toss := by decide +kernel
  change KK p l e (mkR 2 44) s m args below meth c 2 D cA ad A Q 0 [(0, .ref (ad 40 0)), (1, .int a1)] [] S
  refine k_aload_n (pc := 0) C dX10_toss_0 0 rfl rfl ?_
  refine k_iload_n (pc := 1) C dX10_toss_1 1 rfl rfl ?_
  refine k_callVi (pc := 2) C (ct_X10_isShelf l D cA ad a1 S _ hw) (cwV 1 C.2.2.2.2.1 gX10_toss_X10_isShelf rfl rfl rfl (by decide +kernel) ⟨Nat.le_of_ble_eq_true rfl, Nat.le_of_ble_eq_true rfl⟩) hm_40 (cel_40 cA ad S 0) rfl rfl rfl rfl (Nat.le_of_ble_eq_true rfl) dX10_toss_2 (fun r_1 S_1 hw => ?_)
  refine k_if_ne (pc := 5) C 10 dX10_toss_5 (by decide) (fun q_2 => ?_) (fun q_2 => ?_)
  · have hw := hw.1 q_2
    refine k_aload_n (pc := 10) C dX10_toss_10 0 rfl rfl ?_
    refine k_get (j := 28) (pc := 11) C hin hm_40 (cel_40 cA ad S_1 0) rfl (by decide) f97 (fun _ h => h) rfl dX10_toss_11 ?_
    refine k_iload_n (pc := 14) C dX10_toss_14 1 rfl rfl ?_
    obtain ⟨h_3, hw⟩ := hw
    refine k_iald (pc := 15) C hm_64 (cel_64 cA ad S_1 0) h_3 dX10_toss_15 ?_
    refine k_if_ne (pc := 16) C 22 dX10_toss_16 (by decide) (fun q_4 => ?_) (fun q_4 => ?_)
    · have hw := hw.1 q_4
      refine k_aload_n (pc := 22) C dX10_toss_22 0 rfl rfl ?_
      refine k_get (j := 28) (pc := 23) C hin hm_40 (cel_40 cA ad S_1 0) rfl (by decide) f97 (fun _ h => h) rfl dX10_toss_23 ?_
      refine k_iload_n (pc := 26) C dX10_toss_26 1 rfl rfl ?_
      obtain ⟨h_5, hw⟩ := hw
      refine k_iald (pc := 27) C hm_64 (cel_64 cA ad S_1 0) h_5 dX10_toss_27 ?_
      refine k_iconst (v := 1) (pc := 28) C dX10_toss_28 (by decide) ?_
      refine k_icmp_eq (pc := 29) C 35 dX10_toss_29 (by decide) (fun q_6 => ?_) (fun q_6 => ?_)
      · have hw := hw.1 q_6
        refine k_aload_n (pc := 35) C dX10_toss_35 0 rfl rfl ?_
        refine k_aload_n (pc := 36) C dX10_toss_36 0 rfl rfl ?_
        refine k_get (j := 29) (pc := 37) C hin hm_40 (cel_40 cA ad S_1 0) rfl (by decide) f100 (fun _ h => h) rfl dX10_toss_37 ?_
        refine k_iload_n (pc := 40) C dX10_toss_40 1 rfl rfl ?_
        obtain ⟨h_7, hw⟩ := hw
        refine k_iald (pc := 41) C hm_65 (cel_65 cA ad S_1 0) h_7 dX10_toss_41 ?_
        refine k_callVi (pc := 42) C (ct_X10_hasAntenna l D cA ad (gA S_1 65 0 (Int32.toNatClampNeg a1)) S_1 _ hw) (cwV 1 C.2.2.2.2.1 gX10_toss_X10_hasAntenna rfl rfl rfl (by decide +kernel) ⟨Nat.le_of_ble_eq_true rfl, Nat.le_of_ble_eq_true rfl⟩) hm_40 (cel_40 cA ad S_1 0) rfl rfl rfl rfl (Nat.le_of_ble_eq_true rfl) dX10_toss_42 (fun r_8 S_8 hw => ?_)
        refine k_if_eq (pc := 45) C 57 dX10_toss_45 (by decide) (fun q_9 => ?_) (fun q_9 => ?_)
        · have hw := hw.1 q_9
          refine k_bipush (v := (-15)) (pc := 57) C dX10_toss_57 (by decide) ?_
          exact hret _ _ _ _ dX10_toss_59 hw
        · have hw := hw.2 q_9
          refine k_aload_n (pc := 48) C dX10_toss_48 0 rfl rfl ?_
          refine k_get (j := 29) (pc := 49) C hin hm_40 (cel_40 cA ad S_8 0) rfl (by decide) f100 (fun _ h => h) rfl dX10_toss_49 ?_
          refine k_iload_n (pc := 52) C dX10_toss_52 1 rfl rfl ?_
          obtain ⟨h_10, hw⟩ := hw
          refine k_iald (pc := 53) C hm_65 (cel_65 cA ad S_8 0) h_10 dX10_toss_53 ?_
          refine k_goto (pc := 54) C 59 dX10_toss_54 (by decide) ?_
          exact hret _ _ _ _ dX10_toss_59 hw
      · have hw := hw.2 q_6
        refine k_bipush (v := (-12)) (pc := 32) C dX10_toss_32 (by decide) ?_
        exact hret _ _ _ _ dX10_toss_34 hw
    · have hw := hw.2 q_4
      refine k_bipush (v := (-11)) (pc := 19) C dX10_toss_19 (by decide) ?_
      exact hret _ _ _ _ dX10_toss_21 hw
  · have hw := hw.2 q_2
    refine k_iconst (v := (-1)) (pc := 8) C dX10_toss_8 (by decide) ?_
    exact hret _ _ _ _ dX10_toss_9 hw
