def wp_X9_keep (a1 : Int32) (a2 : Int32) (a3 : Int32) (S : Sg) (Q : Int32 → Sg → Prop) : Prop :=
  wp_X9_shelfAt a1 S (fun o_1 S_1 => (o_1 = none → Q (-1) S_1) ∧ (∀ j_1 : Nat, o_1 = some j_1 → ((¬ a2 = 0 → wp_X9_markAt a3 S_1 (fun o_3 S_3 => (o_3 = none → Q (-1) S_3) ∧ (∀ j_3 : Nat, o_3 = some j_3 → ((a2 = 1 → (j_1 < 8 ∧ wp_X6_holdMark j_1 j_3 S_3 (fun S_4 => Q 0 S_4))) ∧ ((a2 = 2 → Q (-1) S_3) ∧ ((a2 = 3 → wp_X5_gather j_3 0 S_3 (fun S_6 => (j_1 < 8 ∧ wp_X6_holdSeries j_1 a2 S_6 (fun S_7 => Q 0 S_7)))) ∧ ((a2 = 4 → wp_X5_gather j_3 0 S_3 (fun S_9 => (j_1 < 8 ∧ wp_X6_holdSeries j_1 a2 S_9 (fun S_10 => Q 0 S_10)))) ∧ ((Q (-1) S_3))))))))) ∧ (a2 = 0 → (j_1 < 8 ∧ wp_X6_clear j_1 S_1 (fun S_12 => Q 0 S_12))))))
set_option maxHeartbeats 4000000 in
set_option maxRecDepth 100000 in
theorem ct_X9_keep (l : Launch) (D : va_G) (cA : Nat → ClassId) (ad : Nat → Nat → Nat) (a1 : Int32) (a2 : Int32) (a3 : Int32) (S : Sg) (Q : Int32 → Sg → Prop) (hw : wp_X9_keep a1 a2 a3 S Q) : CtI l yX9_keep wsX9_keep (mkR 4 93) D cA ad [.ref (ad 0 0), .int a1, .int a2, .int a3] S Q := by
  refine ct_ofI (cc := cX9_keep) (nL := 6) (by decide) rfl (Nat.le_of_ble_eq_true rfl) ?_
  intro p e s m args below meth c A Q C hret
  unfold wp_X9_keep at hw
  have C : Cx p s m args c cX9_keep 6 wsX9_keep RX9 D cA A := C
  have hin9 : ∀ w ∈ u_ws RX9 TX9 8, w ∈ wsX9_keep := fun w h => List.mem_cons_of_mem _ (List.mem_append_left _ (List.mem_append_left _ (List.mem_append_left _ (List.mem_append_left _ (List.mem_append_left _ (List.mem_append_left _ (List.mem_append_right _ h)))))))
  have f18 : Cond.fieldLink RX9 18 "CreepBoard" "series" "LCreepBoard$Series;" ∈ wsX9_keep := by decide +kernel
  change KK p l e (mkR 4 93) s m args below meth c 6 D cA ad A Q 0 [(0, .ref (ad 0 0)), (1, .int a1), (2, .int a2), (3, .int a3)] [] S
  refine k_aload_n (pc := 0) C dX9_keep_0 0 rfl rfl ?_
  refine k_iload_n (pc := 1) C dX9_keep_1 1 rfl rfl ?_
  refine k_afterQ (pc := 2) C 24 (wp_X9_shelfAt a1 S) hw (fun post hw => by
      exact rn_V C (ct_X9_shelfAt l D cA ad a1 S post hw) (cwV 1 C.2.2.2.2.1 gX9_keep_X9_shelfAt rfl rfl rfl (by decide +kernel) ⟨Nat.le_of_ble_eq_true rfl, Nat.le_of_ble_eq_true rfl⟩) hm_0 (cel_0 cA ad S 0) rfl rfl rfl rfl (Nat.le_of_ble_eq_true rfl) dX9_keep_2) (fun S_1 hw => ?_) (fun j_1 S_1 hw => ?_)
  · have hw := hw.1 rfl
    refine k_astoreN (pc := 5) C dX9_keep_5 (by decide) [(4, .null), (0, .ref (ad 0 0)), (1, .int a1), (2, .int a2), (3, .int a3)] rfl ?_
    refine k_aloadN (pc := 7) C dX9_keep_7 0 rfl ?_
    refine k_ifnonnullN (pc := 9) C dX9_keep_9 ?_
    refine k_iconst (v := (-1)) (pc := 12) C dX9_keep_12 (by decide) ?_
    exact hret _ _ _ _ dX9_keep_13 hw
  · have hw := hw.2 j_1 rfl
    refine k_astore (pc := 5) C dX9_keep_5 (by decide) [(4, .ref (ad 24 j_1)), (0, .ref (ad 0 0)), (1, .int a1), (2, .int a2), (3, .int a3)] rfl ?_
    refine k_aload (pc := 7) C dX9_keep_7 0 rfl ?_
    refine k_ifnonnull (pc := 9) C 14 dX9_keep_9 (by decide) ?_
    refine k_iload_n (pc := 14) C dX9_keep_14 3 rfl rfl ?_
    refine k_if_ne (pc := 15) C 25 dX9_keep_15 (by decide) (fun q_2 => ?_) (fun q_2 => ?_)
    · have hw := hw.1 q_2
      refine k_aload_n (pc := 25) C dX9_keep_25 1 rfl rfl ?_
      refine k_iload_n (pc := 26) C dX9_keep_26 4 rfl rfl ?_
      refine k_afterQ (pc := 27) C 26 (wp_X9_markAt a3 S_1) hw (fun post hw => by
          exact rn_V C (ct_X9_markAt l D cA ad a3 S_1 post hw) (cwV 1 C.2.2.2.2.1 gX9_keep_X9_markAt rfl rfl rfl (by decide +kernel) ⟨Nat.le_of_ble_eq_true rfl, Nat.le_of_ble_eq_true rfl⟩) hm_0 (cel_0 cA ad S_1 0) rfl rfl rfl rfl (Nat.le_of_ble_eq_true rfl) dX9_keep_27) (fun S_3 hw => ?_) (fun j_3 S_3 hw => ?_)
      · have hw := hw.1 rfl
        refine k_astoreN (pc := 30) C dX9_keep_30 (by decide) [(5, .null), (4, .ref (ad 24 j_1)), (0, .ref (ad 0 0)), (1, .int a1), (2, .int a2), (3, .int a3)] rfl ?_
        refine k_aloadN (pc := 32) C dX9_keep_32 0 rfl ?_
        refine k_ifnonnullN (pc := 34) C dX9_keep_34 ?_
        refine k_iconst (v := (-1)) (pc := 37) C dX9_keep_37 (by decide) ?_
        exact hret _ _ _ _ dX9_keep_38 hw
      · have hw := hw.2 j_3 rfl
        refine k_astore (pc := 30) C dX9_keep_30 (by decide) [(5, .ref (ad 26 j_3)), (4, .ref (ad 24 j_1)), (0, .ref (ad 0 0)), (1, .int a1), (2, .int a2), (3, .int a3)] rfl ?_
        refine k_aload (pc := 32) C dX9_keep_32 0 rfl ?_
        refine k_ifnonnull (pc := 34) C 39 dX9_keep_34 (by decide) ?_
        refine k_iload_n (pc := 39) C dX9_keep_39 4 rfl rfl ?_
        by_cases q_40_1 : a2 = 1
        · have hw := hw.1 q_40_1
          refine k_tblIn (off := 32) (pc := 40) C 72 dX9_keep_40 q_40_1 (by decide) (by decide) (by decide) (by decide) ?_
          refine k_aload (pc := 72) C dX9_keep_72 1 rfl ?_
          refine k_aload (pc := 74) C dX9_keep_74 0 rfl ?_
          obtain ⟨h_5, hw⟩ := hw
          refine k_afterV (pc := 76) C (wp_X6_holdMark j_1 j_3 S_3) hw (fun post hw => by
              exact rn_V C (ct_X6_holdMark l D cA ad j_1 j_3 S_3 post hw) (cwV 1 C.2.2.2.2.1 gX9_keep_X6_holdMark rfl rfl rfl (by decide +kernel) ⟨Nat.le_of_ble_eq_true rfl, Nat.le_of_ble_eq_true rfl⟩) (ids_shelf h_5 (Or.inl rfl)) (cel_24 cA ad S_3 j_1) rfl rfl rfl rfl (Nat.le_of_ble_eq_true rfl) dX9_keep_76) (fun S_4 hw => ?_)
          refine k_iconst (v := 0) (pc := 79) C dX9_keep_79 (by decide) ?_
          exact hret _ _ _ _ dX9_keep_80 hw
        replace hw := hw.2
        by_cases q_40_2 : a2 = 2
        · have hw := hw.1 q_40_2
          refine k_tblIn (off := 63) (pc := 40) C 103 dX9_keep_40 q_40_2 (by decide) (by decide) (by decide) (by decide) ?_
          refine k_iconst (v := (-1)) (pc := 103) C dX9_keep_103 (by decide) ?_
          exact hret _ _ _ _ dX9_keep_104 hw
        replace hw := hw.2
        by_cases q_40_3 : a2 = 3
        · have hw := hw.1 q_40_3
          refine k_tblIn (off := 41) (pc := 40) C 81 dX9_keep_40 q_40_3 (by decide) (by decide) (by decide) (by decide) ?_
          refine k_aload_n (pc := 81) C dX9_keep_81 2 rfl rfl ?_
          refine k_get (j := 1) (pc := 82) C hin9 hm_0 (cel_0 cA ad S_3 0) rfl (by decide) f18 (fun _ h => h) rfl dX9_keep_82 ?_
          refine k_aload (pc := 85) C dX9_keep_85 0 rfl ?_
          refine k_iconst (v := 0) (pc := 87) C dX9_keep_87 (by decide) ?_
          refine k_afterV (pc := 88) C (wp_X5_gather j_3 0 S_3) hw (fun post hw => by
              exact rn_V C (ct_X5_gather l D cA ad j_3 0 S_3 post hw) (cwV 2 C.2.2.2.2.1 gX9_keep_X5_gather rfl rfl rfl (by decide +kernel) ⟨Nat.le_of_ble_eq_true rfl, Nat.le_of_ble_eq_true rfl⟩) hm_3 (cel_3 cA ad S_3 0) rfl rfl rfl rfl (Nat.le_of_ble_eq_true rfl) dX9_keep_88) (fun S_6 hw => ?_)
          refine k_aload (pc := 91) C dX9_keep_91 1 rfl ?_
          refine k_aload_n (pc := 93) C dX9_keep_93 2 rfl rfl ?_
          refine k_get (j := 1) (pc := 94) C hin9 hm_0 (cel_0 cA ad S_6 0) rfl (by decide) f18 (fun _ h => h) rfl dX9_keep_94 ?_
          refine k_iload_n (pc := 97) C dX9_keep_97 4 rfl rfl ?_
          obtain ⟨h_8, hw⟩ := hw
          refine k_afterV (pc := 98) C (wp_X6_holdSeries j_1 a2 S_6) hw (fun post hw => by
              exact rn_V C (ct_X6_holdSeries l D cA ad j_1 a2 S_6 post hw) (cwV 2 C.2.2.2.2.1 gX9_keep_X6_holdSeries rfl rfl rfl (by decide +kernel) ⟨Nat.le_of_ble_eq_true rfl, Nat.le_of_ble_eq_true rfl⟩) (ids_shelf h_8 (Or.inl rfl)) (cel_24 cA ad S_6 j_1) rfl rfl rfl rfl (Nat.le_of_ble_eq_true rfl) dX9_keep_98) (fun S_7 hw => ?_)
          refine k_iconst (v := 0) (pc := 101) C dX9_keep_101 (by decide) ?_
          exact hret _ _ _ _ dX9_keep_102 hw
        replace hw := hw.2
        by_cases q_40_4 : a2 = 4
        · have hw := hw.1 q_40_4
          refine k_tblIn (off := 41) (pc := 40) C 81 dX9_keep_40 q_40_4 (by decide) (by decide) (by decide) (by decide) ?_
          refine k_aload_n (pc := 81) C dX9_keep_81 2 rfl rfl ?_
          refine k_get (j := 1) (pc := 82) C hin9 hm_0 (cel_0 cA ad S_3 0) rfl (by decide) f18 (fun _ h => h) rfl dX9_keep_82 ?_
          refine k_aload (pc := 85) C dX9_keep_85 0 rfl ?_
          refine k_iconst (v := 0) (pc := 87) C dX9_keep_87 (by decide) ?_
          refine k_afterV (pc := 88) C (wp_X5_gather j_3 0 S_3) hw (fun post hw => by
              exact rn_V C (ct_X5_gather l D cA ad j_3 0 S_3 post hw) (cwV 2 C.2.2.2.2.1 gX9_keep_X5_gather rfl rfl rfl (by decide +kernel) ⟨Nat.le_of_ble_eq_true rfl, Nat.le_of_ble_eq_true rfl⟩) hm_3 (cel_3 cA ad S_3 0) rfl rfl rfl rfl (Nat.le_of_ble_eq_true rfl) dX9_keep_88) (fun S_9 hw => ?_)
          refine k_aload (pc := 91) C dX9_keep_91 1 rfl ?_
          refine k_aload_n (pc := 93) C dX9_keep_93 2 rfl rfl ?_
          refine k_get (j := 1) (pc := 94) C hin9 hm_0 (cel_0 cA ad S_9 0) rfl (by decide) f18 (fun _ h => h) rfl dX9_keep_94 ?_
          refine k_iload_n (pc := 97) C dX9_keep_97 4 rfl rfl ?_
          obtain ⟨h_11, hw⟩ := hw
          refine k_afterV (pc := 98) C (wp_X6_holdSeries j_1 a2 S_9) hw (fun post hw => by
              exact rn_V C (ct_X6_holdSeries l D cA ad j_1 a2 S_9 post hw) (cwV 2 C.2.2.2.2.1 gX9_keep_X6_holdSeries rfl rfl rfl (by decide +kernel) ⟨Nat.le_of_ble_eq_true rfl, Nat.le_of_ble_eq_true rfl⟩) (ids_shelf h_11 (Or.inl rfl)) (cel_24 cA ad S_9 j_1) rfl rfl rfl rfl (Nat.le_of_ble_eq_true rfl) dX9_keep_98) (fun S_10 hw => ?_)
          refine k_iconst (v := 0) (pc := 101) C dX9_keep_101 (by decide) ?_
          exact hret _ _ _ _ dX9_keep_102 hw
        replace hw := hw.2
        have z_40_1 := lv_neT q_40_1 (a := 1) (by decide)
        have z_40_2 := lv_neT q_40_2 (a := 2) (by decide)
        have z_40_3 := lv_neT q_40_3 (a := 3) (by decide)
        have z_40_4 := lv_neT q_40_4 (a := 4) (by decide)
        refine k_tblOut (pc := 40) C 103 dX9_keep_40 (by omega) (by decide) ?_
        refine k_iconst (v := (-1)) (pc := 103) C dX9_keep_103 (by decide) ?_
        exact hret _ _ _ _ dX9_keep_104 hw
    · have hw := hw.2 q_2
      refine k_aload (pc := 18) C dX9_keep_18 0 rfl ?_
      obtain ⟨h_13, hw⟩ := hw
      refine k_afterV (pc := 20) C (wp_X6_clear j_1 S_1) hw (fun post hw => by
          exact rn_V C (ct_X6_clear l D cA ad j_1 S_1 post hw) (cwV 0 C.2.2.2.2.1 gX9_keep_X6_clear rfl rfl rfl (by decide +kernel) ⟨Nat.le_of_ble_eq_true rfl, Nat.le_of_ble_eq_true rfl⟩) (ids_shelf h_13 (Or.inl rfl)) (cel_24 cA ad S_1 j_1) rfl rfl rfl rfl (Nat.le_of_ble_eq_true rfl) dX9_keep_20) (fun S_12 hw => ?_)
      refine k_iconst (v := 0) (pc := 23) C dX9_keep_23 (by decide) ?_
      exact hret _ _ _ _ dX9_keep_24 hw
def wp_X9_make (a1 : Int32) (a2 : Int32) (a3 : Int32) (S : Sg) (Q : Int32 → Sg → Prop) : Prop :=
  wp_X9_shelfAt a1 S (fun o_1 S_1 => (o_1 = none → Q (-1) S_1) ∧ (∀ j_1 : Nat, o_1 = some j_1 → (∃ J_2 : Sg → Prop, (∀ (S_2 : Sg), J_2 S_2 → ((a3 ≤ 60 → ((0 ≤ a3 → (j_1 < 8 ∧ wp_X6_holdNoughts j_1 a2 a3 S_2 (fun S_5 => Q 0 S_5))) ∧ (¬ 0 ≤ a3 → Q (-14) S_2))) ∧ (¬ a3 ≤ 60 → Q (-1) S_2))) ∧ ((a2 = 3 → J_2 S_1) ∧ (¬ a2 = 3 → ((¬ a2 = 4 → Q (-1) S_1) ∧ (a2 = 4 → J_2 S_1)))))))
set_option maxHeartbeats 4000000 in
set_option maxRecDepth 100000 in
theorem ct_X9_make (l : Launch) (D : va_G) (cA : Nat → ClassId) (ad : Nat → Nat → Nat) (a1 : Int32) (a2 : Int32) (a3 : Int32) (S : Sg) (Q : Int32 → Sg → Prop) (hw : wp_X9_make a1 a2 a3 S Q) : CtI l yX9_make wsX9_make (mkR 2 43) D cA ad [.ref (ad 0 0), .int a1, .int a2, .int a3] S Q := by
  refine ct_ofI (cc := cX9_make) (nL := 5) (by decide) rfl (Nat.le_of_ble_eq_true rfl) ?_
  intro p e s m args below meth c A Q C hret
  unfold wp_X9_make at hw
  have C : Cx p s m args c cX9_make 5 wsX9_make RX9 D cA A := C
  change KK p l e (mkR 2 43) s m args below meth c 5 D cA ad A Q 0 [(0, .ref (ad 0 0)), (1, .int a1), (2, .int a2), (3, .int a3)] [] S
  refine k_aload_n (pc := 0) C dX9_make_0 0 rfl rfl ?_
  refine k_iload_n (pc := 1) C dX9_make_1 1 rfl rfl ?_
  refine k_afterQ (pc := 2) C 24 (wp_X9_shelfAt a1 S) hw (fun post hw => by
      exact rn_V C (ct_X9_shelfAt l D cA ad a1 S post hw) (cwV 1 C.2.2.2.2.1 gX9_make_X9_shelfAt rfl rfl rfl (by decide +kernel) ⟨Nat.le_of_ble_eq_true rfl, Nat.le_of_ble_eq_true rfl⟩) hm_0 (cel_0 cA ad S 0) rfl rfl rfl rfl (Nat.le_of_ble_eq_true rfl) dX9_make_2) (fun S_1 hw => ?_) (fun j_1 S_1 hw => ?_)
  · have hw := hw.1 rfl
    refine k_astoreN (pc := 5) C dX9_make_5 (by decide) [(4, .null), (0, .ref (ad 0 0)), (1, .int a1), (2, .int a2), (3, .int a3)] rfl ?_
    refine k_aloadN (pc := 7) C dX9_make_7 0 rfl ?_
    refine k_ifnullN (pc := 9) C 28 dX9_make_9 (by decide) ?_
    refine k_iconst (v := (-1)) (pc := 28) C dX9_make_28 (by decide) ?_
    exact hret _ _ _ _ dX9_make_29 hw
  · have hw := hw.2 j_1 rfl
    refine k_astore (pc := 5) C dX9_make_5 (by decide) [(4, .ref (ad 24 j_1)), (0, .ref (ad 0 0)), (1, .int a1), (2, .int a2), (3, .int a3)] rfl ?_
    refine k_aload (pc := 7) C dX9_make_7 0 rfl ?_
    refine k_ifnull (pc := 9) C dX9_make_9 ?_
    refine k_iload_n (pc := 12) C dX9_make_12 3 rfl rfl ?_
    refine k_iconst (v := 3) (pc := 13) C dX9_make_13 (by decide) ?_
    obtain ⟨J_2, hj_2, hw⟩ := hw
    have j_2 : ∀ (S_2 : Sg), J_2 S_2 → KK p l e (mkR 2 43) s m args below meth c 5 D cA ad A Q 22 [(2, .int a2), (3, .int a3), (4, .ref (ad 24 j_1))] [] S_2 := by
      intro S_2 hw
      have hw := hj_2 S_2 hw
      refine k_iload_n (pc := 22) C dX9_make_22 1 rfl rfl ?_
      refine k_bipush (v := 60) (pc := 23) C dX9_make_23 (by decide) ?_
      refine k_icmp_le (pc := 25) C 30 dX9_make_25 (by decide) (fun q_3 => ?_) (fun q_3 => ?_)
      · have hw := hw.1 q_3
        refine k_iload_n (pc := 30) C dX9_make_30 1 rfl rfl ?_
        refine k_if_ge (pc := 31) C 37 dX9_make_31 (by decide) (fun q_4 => ?_) (fun q_4 => ?_)
        · have hw := hw.1 q_4
          refine k_aload (pc := 37) C dX9_make_37 2 rfl ?_
          refine k_iload_n (pc := 39) C dX9_make_39 0 rfl rfl ?_
          refine k_iload_n (pc := 40) C dX9_make_40 1 rfl rfl ?_
          obtain ⟨h_6, hw⟩ := hw
          refine k_afterV (pc := 41) C (wp_X6_holdNoughts j_1 a2 a3 S_2) hw (fun post hw => by
              exact rn_V C (ct_X6_holdNoughts l D cA ad j_1 a2 a3 S_2 post hw) (cwV 2 C.2.2.2.2.1 gX9_make_X6_holdNoughts rfl rfl rfl (by decide +kernel) ⟨Nat.le_of_ble_eq_true rfl, Nat.le_of_ble_eq_true rfl⟩) (ids_shelf h_6 (Or.inl rfl)) (cel_24 cA ad S_2 j_1) rfl rfl rfl rfl (Nat.le_of_ble_eq_true rfl) dX9_make_41) (fun S_5 hw => ?_)
          refine k_iconst (v := 0) (pc := 44) C dX9_make_44 (by decide) ?_
          exact hret _ _ _ _ dX9_make_45 hw
        · have hw := hw.2 q_4
          refine k_bipush (v := (-14)) (pc := 34) C dX9_make_34 (by decide) ?_
          exact hret _ _ _ _ dX9_make_36 hw
      · have hw := hw.2 q_3
        refine k_iconst (v := (-1)) (pc := 28) C dX9_make_28 (by decide) ?_
        exact hret _ _ _ _ dX9_make_29 hw
    refine k_icmp_eq (pc := 14) C 22 dX9_make_14 (by decide) (fun q_7 => ?_) (fun q_7 => ?_)
    · have hw := hw.1 q_7
      refine k_sub [3, 4, 0] [(2, .int a2), (3, .int a3), (4, .ref (ad 24 j_1))] rfl ?_
      exact j_2 S_1 hw
    · have hw := hw.2 q_7
      refine k_iload_n (pc := 17) C dX9_make_17 3 rfl rfl ?_
      refine k_iconst (v := 4) (pc := 18) C dX9_make_18 (by decide) ?_
      refine k_icmp_ne (pc := 19) C 28 dX9_make_19 (by decide) (fun q_8 => ?_) (fun q_8 => ?_)
      · have hw := hw.1 q_8
        refine k_iconst (v := (-1)) (pc := 28) C dX9_make_28 (by decide) ?_
        exact hret _ _ _ _ dX9_make_29 hw
      · have hw := hw.2 q_8
        refine k_sub [3, 4, 0] [(2, .int a2), (3, .int a3), (4, .ref (ad 24 j_1))] rfl ?_
        exact j_2 S_1 hw
def wp_X9_copy (a1 : Int32) (a2 : Int32) (a3 : Int32) (a4 : Int32) (a5 : Int32) (S : Sg) (Q : Int32 → Sg → Prop) : Prop :=
  wp_X9_shelfAt a1 S (fun o_1 S_1 => (o_1 = none → wp_X9_shelfAt a3 S_1 (fun o_2 S_2 => (o_2 = none → Q (-1) S_2) ∧ (∀ j_2 : Nat, o_2 = some j_2 → Q (-1) S_2))) ∧ (∀ j_1 : Nat, o_1 = some j_1 → wp_X9_shelfAt a3 S_1 (fun o_3 S_3 => (o_3 = none → Q (-1) S_3) ∧ (∀ j_3 : Nat, o_3 = some j_3 → (j_1 < 8 ∧ wp_X6_holds j_1 S_3 (fun r_4 S_4 => ((r_4 = 0 → Q (-11) S_4) ∧ (¬ r_4 = 0 → (j_3 < 8 ∧ wp_X6_holds j_3 S_4 (fun r_7 S_7 => ((¬ r_7 = 0 → wp_X6_holdsRow j_1 S_7 (fun r_10 S_10 => ((r_10 = 0 → Q (-12) S_10) ∧ (¬ r_10 = 0 → wp_X6_holds j_1 S_10 (fun r_12 S_12 => wp_X6_holds j_3 S_12 (fun r_13 S_13 => ((r_12 = r_13 → wp_X6_hasPlaces j_1 a2 a5 S_13 (fun r_15 S_15 => ((r_15 = 0 → Q (-13) S_15) ∧ (¬ r_15 = 0 → wp_X6_hasPlaces j_3 a4 a5 S_15 (fun r_17 S_17 => ((¬ r_17 = 0 → wp_X6_copyPlaces j_1 a2 j_3 a4 a5 S_17 (fun S_19 => Q a5 S_19)) ∧ (r_17 = 0 → Q (-13) S_17))))))) ∧ (¬ r_12 = r_13 → Q (-12) S_13)))))))) ∧ (r_7 = 0 → Q (-11) S_7))))))))))))
set_option maxHeartbeats 4000000 in
set_option maxRecDepth 100000 in
theorem ct_X9_copy (l : Launch) (D : va_G) (cA : Nat → ClassId) (ad : Nat → Nat → Nat) (a1 : Int32) (a2 : Int32) (a3 : Int32) (a4 : Int32) (a5 : Int32) (S : Sg) (Q : Int32 → Sg → Prop) (hw : wp_X9_copy a1 a2 a3 a4 a5 S Q) : CtI l yX9_copy wsX9_copy (mkR 2 84) D cA ad [.ref (ad 0 0), .int a1, .int a2, .int a3, .int a4, .int a5] S Q := by
  refine ct_ofI (cc := cX9_copy) (nL := 8) (by decide) rfl (Nat.le_of_ble_eq_true rfl) ?_
  intro p e s m args below meth c A Q C hret
  unfold wp_X9_copy at hw
  have C : Cx p s m args c cX9_copy 8 wsX9_copy RX9 D cA A := C
  change KK p l e (mkR 2 84) s m args below meth c 8 D cA ad A Q 0 [(0, .ref (ad 0 0)), (1, .int a1), (2, .int a2), (3, .int a3), (4, .int a4), (5, .int a5)] [] S
  refine k_aload_n (pc := 0) C dX9_copy_0 0 rfl rfl ?_
  refine k_iload_n (pc := 1) C dX9_copy_1 1 rfl rfl ?_
  refine k_afterQ (pc := 2) C 24 (wp_X9_shelfAt a1 S) hw (fun post hw => by
      exact rn_V C (ct_X9_shelfAt l D cA ad a1 S post hw) (cwV 1 C.2.2.2.2.1 gX9_copy_X9_shelfAt rfl rfl rfl (by decide +kernel) ⟨Nat.le_of_ble_eq_true rfl, Nat.le_of_ble_eq_true rfl⟩) hm_0 (cel_0 cA ad S 0) rfl rfl rfl rfl (Nat.le_of_ble_eq_true rfl) dX9_copy_2) (fun S_1 hw => ?_) (fun j_1 S_1 hw => ?_)
  · have hw := hw.1 rfl
    refine k_astoreN (pc := 5) C dX9_copy_5 (by decide) [(6, .null), (0, .ref (ad 0 0)), (1, .int a1), (2, .int a2), (3, .int a3), (4, .int a4), (5, .int a5)] rfl ?_
    refine k_aload_n (pc := 7) C dX9_copy_7 1 rfl rfl ?_
    refine k_iload_n (pc := 8) C dX9_copy_8 4 rfl rfl ?_
    refine k_afterQ (pc := 9) C 24 (wp_X9_shelfAt a3 S_1) hw (fun post hw => by
        exact rn_V C (ct_X9_shelfAt l D cA ad a3 S_1 post hw) (cwV 1 C.2.2.2.2.1 gX9_copy_X9_shelfAt rfl rfl rfl (by decide +kernel) ⟨Nat.le_of_ble_eq_true rfl, Nat.le_of_ble_eq_true rfl⟩) hm_0 (cel_0 cA ad S_1 0) rfl rfl rfl rfl (Nat.le_of_ble_eq_true rfl) dX9_copy_9) (fun S_2 hw => ?_) (fun j_2 S_2 hw => ?_)
    · have hw := hw.1 rfl
      refine k_astoreN (pc := 12) C dX9_copy_12 (by decide) [(7, .null), (6, .null), (0, .ref (ad 0 0)), (1, .int a1), (2, .int a2), (3, .int a3), (4, .int a4), (5, .int a5)] rfl ?_
      refine k_aloadN (pc := 14) C dX9_copy_14 1 rfl ?_
      refine k_ifnullN (pc := 16) C 24 dX9_copy_16 (by decide) ?_
      refine k_iconst (v := (-1)) (pc := 24) C dX9_copy_24 (by decide) ?_
      exact hret _ _ _ _ dX9_copy_25 hw
    · have hw := hw.2 j_2 rfl
      refine k_astore (pc := 12) C dX9_copy_12 (by decide) [(7, .ref (ad 24 j_2)), (6, .null), (0, .ref (ad 0 0)), (1, .int a1), (2, .int a2), (3, .int a3), (4, .int a4), (5, .int a5)] rfl ?_
      refine k_aloadN (pc := 14) C dX9_copy_14 1 rfl ?_
      refine k_ifnullN (pc := 16) C 24 dX9_copy_16 (by decide) ?_
      refine k_iconst (v := (-1)) (pc := 24) C dX9_copy_24 (by decide) ?_
      exact hret _ _ _ _ dX9_copy_25 hw
  · have hw := hw.2 j_1 rfl
    refine k_astore (pc := 5) C dX9_copy_5 (by decide) [(6, .ref (ad 24 j_1)), (0, .ref (ad 0 0)), (1, .int a1), (2, .int a2), (3, .int a3), (4, .int a4), (5, .int a5)] rfl ?_
    refine k_aload_n (pc := 7) C dX9_copy_7 1 rfl rfl ?_
    refine k_iload_n (pc := 8) C dX9_copy_8 4 rfl rfl ?_
    refine k_afterQ (pc := 9) C 24 (wp_X9_shelfAt a3 S_1) hw (fun post hw => by
        exact rn_V C (ct_X9_shelfAt l D cA ad a3 S_1 post hw) (cwV 1 C.2.2.2.2.1 gX9_copy_X9_shelfAt rfl rfl rfl (by decide +kernel) ⟨Nat.le_of_ble_eq_true rfl, Nat.le_of_ble_eq_true rfl⟩) hm_0 (cel_0 cA ad S_1 0) rfl rfl rfl rfl (Nat.le_of_ble_eq_true rfl) dX9_copy_9) (fun S_3 hw => ?_) (fun j_3 S_3 hw => ?_)
    · have hw := hw.1 rfl
      refine k_astoreN (pc := 12) C dX9_copy_12 (by decide) [(7, .null), (6, .ref (ad 24 j_1)), (0, .ref (ad 0 0)), (1, .int a1), (2, .int a2), (3, .int a3), (4, .int a4), (5, .int a5)] rfl ?_
      refine k_aload (pc := 14) C dX9_copy_14 1 rfl ?_
      refine k_ifnull (pc := 16) C dX9_copy_16 ?_
      refine k_aloadN (pc := 19) C dX9_copy_19 0 rfl ?_
      refine k_ifnonnullN (pc := 21) C dX9_copy_21 ?_
      refine k_iconst (v := (-1)) (pc := 24) C dX9_copy_24 (by decide) ?_
      exact hret _ _ _ _ dX9_copy_25 hw
    · have hw := hw.2 j_3 rfl
      refine k_astore (pc := 12) C dX9_copy_12 (by decide) [(7, .ref (ad 24 j_3)), (6, .ref (ad 24 j_1)), (0, .ref (ad 0 0)), (1, .int a1), (2, .int a2), (3, .int a3), (4, .int a4), (5, .int a5)] rfl ?_
      refine k_aload (pc := 14) C dX9_copy_14 1 rfl ?_
      refine k_ifnull (pc := 16) C dX9_copy_16 ?_
      refine k_aload (pc := 19) C dX9_copy_19 0 rfl ?_
      refine k_ifnonnull (pc := 21) C 26 dX9_copy_21 (by decide) ?_
      refine k_aload (pc := 26) C dX9_copy_26 1 rfl ?_
      obtain ⟨h_5, hw⟩ := hw
      refine k_afterI (pc := 28) C (wp_X6_holds j_1 S_3) hw (fun post hw => by
          exact rn_V C (ct_X6_holds l D cA ad j_1 S_3 post hw) (cwV 0 C.2.2.2.2.1 gX9_copy_X6_holds rfl rfl rfl (by decide +kernel) ⟨Nat.le_of_ble_eq_true rfl, Nat.le_of_ble_eq_true rfl⟩) (ids_shelf h_5 (Or.inl rfl)) (cel_24 cA ad S_3 j_1) rfl rfl rfl rfl (Nat.le_of_ble_eq_true rfl) dX9_copy_28) (fun r_4 S_4 hw => ?_)
      refine k_if_eq (pc := 31) C 42 dX9_copy_31 (by decide) (fun q_6 => ?_) (fun q_6 => ?_)
      · have hw := hw.1 q_6
        refine k_bipush (v := (-11)) (pc := 42) C dX9_copy_42 (by decide) ?_
        exact hret _ _ _ _ dX9_copy_44 hw
      · have hw := hw.2 q_6
        refine k_aload (pc := 34) C dX9_copy_34 0 rfl ?_
        obtain ⟨h_8, hw⟩ := hw
        refine k_afterI (pc := 36) C (wp_X6_holds j_3 S_4) hw (fun post hw => by
            exact rn_V C (ct_X6_holds l D cA ad j_3 S_4 post hw) (cwV 0 C.2.2.2.2.1 gX9_copy_X6_holds rfl rfl rfl (by decide +kernel) ⟨Nat.le_of_ble_eq_true rfl, Nat.le_of_ble_eq_true rfl⟩) (ids_shelf h_8 (Or.inl rfl)) (cel_24 cA ad S_4 j_3) rfl rfl rfl rfl (Nat.le_of_ble_eq_true rfl) dX9_copy_36) (fun r_7 S_7 hw => ?_)
        refine k_if_ne (pc := 39) C 45 dX9_copy_39 (by decide) (fun q_9 => ?_) (fun q_9 => ?_)
        · have hw := hw.1 q_9
          refine k_aload (pc := 45) C dX9_copy_45 1 rfl ?_
          refine k_afterI (pc := 47) C (wp_X6_holdsRow j_1 S_7) hw (fun post hw => by
              exact rn_V C (ct_X6_holdsRow l D cA ad j_1 S_7 post hw) (cwV 0 C.2.2.2.2.1 gX9_copy_X6_holdsRow rfl rfl rfl (by decide +kernel) ⟨Nat.le_of_ble_eq_true rfl, Nat.le_of_ble_eq_true rfl⟩) (ids_shelf h_5 (Or.inl rfl)) (cel_24 cA ad S_7 j_1) rfl rfl rfl rfl (Nat.le_of_ble_eq_true rfl) dX9_copy_47) (fun r_10 S_10 hw => ?_)
          refine k_if_eq (pc := 50) C 66 dX9_copy_50 (by decide) (fun q_11 => ?_) (fun q_11 => ?_)
          · have hw := hw.1 q_11
            refine k_bipush (v := (-12)) (pc := 66) C dX9_copy_66 (by decide) ?_
            exact hret _ _ _ _ dX9_copy_68 hw
          · have hw := hw.2 q_11
            refine k_aload (pc := 53) C dX9_copy_53 1 rfl ?_
            refine k_afterI (pc := 55) C (wp_X6_holds j_1 S_10) hw (fun post hw => by
                exact rn_V C (ct_X6_holds l D cA ad j_1 S_10 post hw) (cwV 0 C.2.2.2.2.1 gX9_copy_X6_holds rfl rfl rfl (by decide +kernel) ⟨Nat.le_of_ble_eq_true rfl, Nat.le_of_ble_eq_true rfl⟩) (ids_shelf h_5 (Or.inl rfl)) (cel_24 cA ad S_10 j_1) rfl rfl rfl rfl (Nat.le_of_ble_eq_true rfl) dX9_copy_55) (fun r_12 S_12 hw => ?_)
            refine k_aload (pc := 58) C dX9_copy_58 0 rfl ?_
            refine k_afterI (pc := 60) C (wp_X6_holds j_3 S_12) hw (fun post hw => by
                exact rn_V C (ct_X6_holds l D cA ad j_3 S_12 post hw) (cwV 0 C.2.2.2.2.1 gX9_copy_X6_holds rfl rfl rfl (by decide +kernel) ⟨Nat.le_of_ble_eq_true rfl, Nat.le_of_ble_eq_true rfl⟩) (ids_shelf h_8 (Or.inl rfl)) (cel_24 cA ad S_12 j_3) rfl rfl rfl rfl (Nat.le_of_ble_eq_true rfl) dX9_copy_60) (fun r_13 S_13 hw => ?_)
            refine k_icmp_eq (pc := 63) C 69 dX9_copy_63 (by decide) (fun q_14 => ?_) (fun q_14 => ?_)
            · have hw := hw.1 q_14
              refine k_aload (pc := 69) C dX9_copy_69 1 rfl ?_
              refine k_iload_n (pc := 71) C dX9_copy_71 4 rfl rfl ?_
              refine k_iload (pc := 72) C dX9_copy_72 7 rfl ?_
              refine k_afterI (pc := 74) C (wp_X6_hasPlaces j_1 a2 a5 S_13) hw (fun post hw => by
                  exact rn_V C (ct_X6_hasPlaces l D cA ad j_1 a2 a5 S_13 post hw) (cwV 2 C.2.2.2.2.1 gX9_copy_X6_hasPlaces rfl rfl rfl (by decide +kernel) ⟨Nat.le_of_ble_eq_true rfl, Nat.le_of_ble_eq_true rfl⟩) (ids_shelf h_5 (Or.inl rfl)) (cel_24 cA ad S_13 j_1) rfl rfl rfl rfl (Nat.le_of_ble_eq_true rfl) dX9_copy_74) (fun r_15 S_15 hw => ?_)
              refine k_if_eq (pc := 77) C 92 dX9_copy_77 (by decide) (fun q_16 => ?_) (fun q_16 => ?_)
              · have hw := hw.1 q_16
                refine k_bipush (v := (-13)) (pc := 92) C dX9_copy_92 (by decide) ?_
                exact hret _ _ _ _ dX9_copy_94 hw
              · have hw := hw.2 q_16
                refine k_aload (pc := 80) C dX9_copy_80 0 rfl ?_
                refine k_iload (pc := 82) C dX9_copy_82 6 rfl ?_
                refine k_iload (pc := 84) C dX9_copy_84 7 rfl ?_
                refine k_afterI (pc := 86) C (wp_X6_hasPlaces j_3 a4 a5 S_15) hw (fun post hw => by
                    exact rn_V C (ct_X6_hasPlaces l D cA ad j_3 a4 a5 S_15 post hw) (cwV 2 C.2.2.2.2.1 gX9_copy_X6_hasPlaces rfl rfl rfl (by decide +kernel) ⟨Nat.le_of_ble_eq_true rfl, Nat.le_of_ble_eq_true rfl⟩) (ids_shelf h_8 (Or.inl rfl)) (cel_24 cA ad S_15 j_3) rfl rfl rfl rfl (Nat.le_of_ble_eq_true rfl) dX9_copy_86) (fun r_17 S_17 hw => ?_)
                refine k_if_ne (pc := 89) C 95 dX9_copy_89 (by decide) (fun q_18 => ?_) (fun q_18 => ?_)
                · have hw := hw.1 q_18
                  refine k_aload (pc := 95) C dX9_copy_95 1 rfl ?_
                  refine k_iload_n (pc := 97) C dX9_copy_97 4 rfl rfl ?_
                  refine k_aload (pc := 98) C dX9_copy_98 0 rfl ?_
                  refine k_iload (pc := 100) C dX9_copy_100 6 rfl ?_
                  refine k_iload (pc := 102) C dX9_copy_102 7 rfl ?_
                  refine k_afterV (pc := 104) C (wp_X6_copyPlaces j_1 a2 j_3 a4 a5 S_17) hw (fun post hw => by
                      exact rn_V C (ct_X6_copyPlaces l D cA ad j_1 a2 j_3 a4 a5 S_17 post hw) (cwV 4 C.2.2.2.2.1 gX9_copy_X6_copyPlaces rfl rfl rfl (by decide +kernel) ⟨Nat.le_of_ble_eq_true rfl, Nat.le_of_ble_eq_true rfl⟩) (ids_shelf h_5 (Or.inl rfl)) (cel_24 cA ad S_17 j_1) rfl rfl rfl rfl (Nat.le_of_ble_eq_true rfl) dX9_copy_104) (fun S_19 hw => ?_)
                  refine k_iload (pc := 107) C dX9_copy_107 7 rfl ?_
                  exact hret _ _ _ _ dX9_copy_109 hw
                · have hw := hw.2 q_18
                  refine k_bipush (v := (-13)) (pc := 92) C dX9_copy_92 (by decide) ?_
                  exact hret _ _ _ _ dX9_copy_94 hw
            · have hw := hw.2 q_14
              refine k_bipush (v := (-12)) (pc := 66) C dX9_copy_66 (by decide) ?_
              exact hret _ _ _ _ dX9_copy_68 hw
        · have hw := hw.2 q_9
          refine k_bipush (v := (-11)) (pc := 42) C dX9_copy_42 (by decide) ?_
          exact hret _ _ _ _ dX9_copy_44 hw
def wp_X9_weight (a1 : Int32) (S : Sg) (Q : Int32 → Sg → Prop) : Prop :=
  wp_X9_refusalOfMarkOn a1 S (fun r_1 S_1 => ((r_1 = 0 → wp_X9_markOn a1 S_1 (fun o_3 S_3 => (o_3 = none → Q (-1012) S_3) ∧ (∀ j_3 : Nat, o_3 = some j_3 → (j_3 < nM S_3 ∧ wpv_heft j_3 S_3 (fun r_4 S_4 => Q r_4 S_4))))) ∧ (¬ r_1 = 0 → Q ((-1000) + r_1) S_1)))
set_option maxHeartbeats 4000000 in
set_option maxRecDepth 100000 in
theorem ct_X9_weight (l : Launch) (D : va_G) (cA : Nat → ClassId) (ad : Nat → Nat → Nat) (a1 : Int32) (S : Sg) (Q : Int32 → Sg → Prop) (hw : wp_X9_weight a1 S Q) : CtI l yX9_weight wsX9_weight (mkR 3 60) D cA ad [.ref (ad 0 0), .int a1] S Q := by
  refine ct_ofI (cc := cX9_weight) (nL := 4) (by decide) rfl (Nat.le_of_ble_eq_true rfl) ?_
  intro p e s m args below meth c A Q C hret
  unfold wp_X9_weight at hw
  have C : Cx p s m args c cX9_weight 4 wsX9_weight RX9 D cA A := C
  change KK p l e (mkR 3 60) s m args below meth c 4 D cA ad A Q 0 [(0, .ref (ad 0 0)), (1, .int a1)] [] S
  refine k_aload_n (pc := 0) C dX9_weight_0 0 rfl rfl ?_
  refine k_iload_n (pc := 1) C dX9_weight_1 1 rfl rfl ?_
  refine k_afterI (pc := 2) C (wp_X9_refusalOfMarkOn a1 S) hw (fun post hw => by
      exact rn_V C (ct_X9_refusalOfMarkOn l D cA ad a1 S post hw) (cwV 1 C.2.2.2.2.1 gX9_weight_X9_refusalOfMarkOn rfl rfl rfl (by decide +kernel) ⟨Nat.le_of_ble_eq_true rfl, Nat.le_of_ble_eq_true rfl⟩) hm_0 (cel_0 cA ad S 0) rfl rfl rfl rfl (Nat.le_of_ble_eq_true rfl) dX9_weight_2) (fun r_1 S_1 hw => ?_)
  refine k_istore_n (pc := 5) C dX9_weight_5 rfl (by decide) [(2, .int r_1), (0, .ref (ad 0 0)), (1, .int a1)] rfl ?_
  refine k_iload_n (pc := 6) C dX9_weight_6 0 rfl rfl ?_
  refine k_if_eq (pc := 7) C 16 dX9_weight_7 (by decide) (fun q_2 => ?_) (fun q_2 => ?_)
  · have hw := hw.1 q_2
    refine k_aload_n (pc := 16) C dX9_weight_16 1 rfl rfl ?_
    refine k_iload_n (pc := 17) C dX9_weight_17 2 rfl rfl ?_
    refine k_afterQ (pc := 18) C 26 (wp_X9_markOn a1 S_1) hw (fun post hw => by
        exact rn_V C (ct_X9_markOn l D cA ad a1 S_1 post hw) (cwV 1 C.2.2.2.2.1 gX9_weight_X9_markOn rfl rfl rfl (by decide +kernel) ⟨Nat.le_of_ble_eq_true rfl, Nat.le_of_ble_eq_true rfl⟩) hm_0 (cel_0 cA ad S_1 0) rfl rfl rfl rfl (Nat.le_of_ble_eq_true rfl) dX9_weight_18) (fun S_3 hw => ?_) (fun j_3 S_3 hw => ?_)
    · have hw := hw.1 rfl
      refine k_astore_nN (pc := 21) C dX9_weight_21 rfl (by decide) [(3, .null), (2, .int r_1), (0, .ref (ad 0 0)), (1, .int a1)] rfl ?_
      refine k_aload_nN (pc := 22) C dX9_weight_22 0 rfl rfl ?_
      refine k_ifnonnullN (pc := 23) C dX9_weight_23 ?_
      refine k_sipush (v := (-1012)) (pc := 26) C dX9_weight_26 (by decide) ?_
      refine k_goto (pc := 29) C 36 dX9_weight_29 (by decide) ?_
      exact hret _ _ _ _ dX9_weight_36 hw
    · have hw := hw.2 j_3 rfl
      refine k_astore_n (pc := 21) C dX9_weight_21 rfl (by decide) [(3, .ref (ad 26 j_3)), (2, .int r_1), (0, .ref (ad 0 0)), (1, .int a1)] rfl ?_
      refine k_aload_n (pc := 22) C dX9_weight_22 0 rfl rfl ?_
      refine k_ifnonnull (pc := 23) C 32 dX9_weight_23 (by decide) ?_
      refine k_aload_n (pc := 32) C dX9_weight_32 0 rfl rfl ?_
      obtain ⟨h_5, hw⟩ := hw
      refine k_afterI (pc := 33) C (wpv_heft j_3 S_3) hw (fun post hw => by
          rcases kd4 S_3 j_3 with h | h | h | h
          · exact rn_V C (ct_X3_heft l D cA ad j_3 S_3 post (hw.1 h)) (cwV 0 C.2.2.2.2.1 gX9_weight_X3_heft rfl rfl rfl (by decide +kernel) ⟨Nat.le_of_ble_eq_true rfl, Nat.le_of_ble_eq_true rfl⟩) (mm_26 h_5) (celM_0 h) rfl rfl rfl rfl (Nat.le_of_ble_eq_true rfl) dX9_weight_33
          · exact rn_U C (ct_X4_heft l D cA ad j_3 S_3 post (hw.2.1 h)) (va_cwO 0 C.2.2.2.2.1 gX9_weight_X4_heft_u296X4 rfl rfl rfl (b0 := cX3_heft) (m0 := 1) (r0 := (some .int)) (by decide +kernel) (by decide +kernel) ⟨Nat.le_of_ble_eq_true rfl, Nat.le_of_ble_eq_true rfl⟩) (mm_26 h_5) (celM_1 h) rfl rfl rfl rfl (Nat.le_of_ble_eq_true rfl) dX9_weight_33
          · exact rn_U C (ct_X8_heft l D cA ad j_3 S_3 post (hw.2.2.1 h)) (va_cwO 0 C.2.2.2.2.1 gX9_weight_X8_heft_u296X8 rfl rfl rfl (b0 := cX3_heft) (m0 := 1) (r0 := (some .int)) (by decide +kernel) (by decide +kernel) ⟨Nat.le_of_ble_eq_true rfl, Nat.le_of_ble_eq_true rfl⟩) (mm_26 h_5) (celM_2 h) rfl rfl rfl rfl (Nat.le_of_ble_eq_true rfl) dX9_weight_33
          · exact rn_U C (ct_X1_heft l D cA ad j_3 S_3 post (hw.2.2.2 h)) (va_cwO 0 C.2.2.2.2.1 gX9_weight_X1_heft_u296X1 rfl rfl rfl (b0 := cX3_heft) (m0 := 1) (r0 := (some .int)) (by decide +kernel) (by decide +kernel) ⟨Nat.le_of_ble_eq_true rfl, Nat.le_of_ble_eq_true rfl⟩) (mm_26 h_5) (celM_3 h) rfl rfl rfl rfl (Nat.le_of_ble_eq_true rfl) dX9_weight_33) (fun r_4 S_4 hw => ?_)
      exact hret _ _ _ _ dX9_weight_36 hw
  · have hw := hw.2 q_2
    refine k_sipush (v := (-1000)) (pc := 10) C dX9_weight_10 (by decide) ?_
    refine k_iload_n (pc := 13) C dX9_weight_13 0 rfl rfl ?_
    refine k_iadd (pc := 14) C dX9_weight_14 ?_
    exact hret _ _ _ _ dX9_weight_15 hw
