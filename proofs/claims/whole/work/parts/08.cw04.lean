def wp_X9_keep (a1 : Int32) (a2 : Int32) (a3 : Int32) (S : Sg) (Q : Int32 → Sg → Prop) : Prop :=
  wp_X9_shelfAt a1 S (fun o_1 S_1 => (o_1 = none → Q (-1) S_1) ∧ (∀ j_1 : Nat, o_1 = some j_1 → ((¬ a2 = 0 → wp_X9_markAt a3 S_1 (fun o_3 S_3 => (o_3 = none → Q (-1) S_3) ∧ (∀ j_3 : Nat, o_3 = some j_3 → ((a2 = 1 → (j_1 < 8 ∧ wp_X6_holdMark j_1 j_3 S_3 (fun S_4 => Q 0 S_4))) ∧ ((a2 = 2 → Q (-1) S_3) ∧ ((a2 = 3 → wp_X5_gather j_3 0 S_3 (fun S_6 => (j_1 < 8 ∧ wp_X6_holdSeries j_1 a2 S_6 (fun S_7 => Q 0 S_7)))) ∧ ((a2 = 4 → wp_X5_gather j_3 0 S_3 (fun S_9 => (j_1 < 8 ∧ wp_X6_holdSeries j_1 a2 S_9 (fun S_10 => Q 0 S_10)))) ∧ (((¬ a2 = 1 ∧ ¬ a2 = 2 ∧ ¬ a2 = 3 ∧ ¬ a2 = 4) → Q (-1) S_3))))))))) ∧ (a2 = 0 → (j_1 < 8 ∧ wp_X6_clear j_1 S_1 (fun S_12 => Q 0 S_12))))))
set_option maxHeartbeats 4000000 in
set_option maxRecDepth 100000 in
theorem ct_X9_keep (l : Launch) (D : va_G) (cA : Nat → ClassId) (ad : Nat → Nat → Nat) (a1 : Int32) (a2 : Int32) (a3 : Int32) (S : Sg) (Q : Int32 → Sg → Prop) (hw : wp_X9_keep a1 a2 a3 S Q) : CtI l yX9_keep wsX9_keep (mkR 4 93) D cA ad [.ref (ad 0 0), .int a1, .int a2, .int a3] S Q := by
  refine ct_ofI (cc := cX9_keep) (nL := 6) (by decide) rfl (Nat.le_of_ble_eq_true rfl) ?_
  intro p e s m args below meth c A Q C hret
  unfold wp_X9_keep at hw
  have C : Cx p s m args c cX9_keep 6 wsX9_keep RX9 D cA A := C
  have hin9 : ∀ w ∈ u_ws RX9 TX9 8, w ∈ wsX9_keep := fun w h => List.mem_cons_of_mem _ (List.mem_append_left _ (List.mem_append_left _ (List.mem_append_left _ (List.mem_append_left _ (List.mem_append_left _ (List.mem_append_left _ (List.mem_append_right _ h)))))))
  have f18 : Cond.fieldLink RX9 18 "CreepBoard" "series" "LCreepBoard$Series;" ∈ wsX9_keep := by decide +kernel
  change KK p l e (mkR 4 93) s m args below meth c 6 D cA ad A Q 0 [(0, .ref (ad 0 0)), (1, .int a1), (2, .int a2), (3, .int a3)] [] S
  refine k_aload_n (pc := 0) C dX9_keep_0 0 rfl rfl ?_
  refine k_iload_n (pc := 1) C dX9_keep_1 1 rfl rfl ?_
  refine k_afterQ (pc := 2) C 24 (wp_X9_shelfAt a1 S) hw (fun post hw => by
      exact rn_V C (ct_X9_shelfAt l D cA ad a1 S post hw) (cwV 1 C.2.2.2.2.1 gX9_keep_X9_shelfAt rfl rfl rfl (by decide +kernel) ⟨Nat.le_of_ble_eq_true rfl, Nat.le_of_ble_eq_true rfl⟩) hm_0 (cel_0 cA ad S 0) rfl rfl rfl rfl (Nat.le_of_ble_eq_true rfl) dX9_keep_2) (fun S_1 hw => ?_) (fun j_1 S_1 hw => ?_)
  · have hw := hw.1 rfl
    refine k_astoreN (pc := 5) C dX9_keep_5 (by decide) [(4, .null), (0, .ref (ad 0 0)), (1, .int a1), (2, .int a2), (3, .int a3)] rfl ?_
    refine k_aloadN (pc := 7) C dX9_keep_7 0 rfl ?_
    refine k_ifnonnullN (pc := 9) C dX9_keep_9 ?_
    refine k_iconst (v := (-1)) (pc := 12) C dX9_keep_12 (by decide) ?_
    exact hret _ _ _ _ dX9_keep_13 hw
  · have hw := hw.2 j_1 rfl
    refine k_astore (pc := 5) C dX9_keep_5 (by decide) [(4, .ref (ad 24 j_1)), (0, .ref (ad 0 0)), (1, .int a1), (2, .int a2), (3, .int a3)] rfl ?_
    refine k_aload (pc := 7) C dX9_keep_7 0 rfl ?_
    refine k_ifnonnull (pc := 9) C 14 dX9_keep_9 (by decide) ?_
    refine k_iload_n (pc := 14) C dX9_keep_14 3 rfl rfl ?_
    refine k_if_ne (pc := 15) C 25 dX9_keep_15 (by decide) (fun q_2 => ?_) (fun q_2 => ?_)
    · have hw := hw.1 q_2
      refine k_aload_n (pc := 25) C dX9_keep_25 1 rfl rfl ?_
      refine k_iload_n (pc := 26) C dX9_keep_26 4 rfl rfl ?_
      refine k_afterQ (pc := 27) C 26 (wp_X9_markAt a3 S_1) hw (fun post hw => by
          exact rn_V C (ct_X9_markAt l D cA ad a3 S_1 post hw) (cwV 1 C.2.2.2.2.1 gX9_keep_X9_markAt rfl rfl rfl (by decide +kernel) ⟨Nat.le_of_ble_eq_true rfl, Nat.le_of_ble_eq_true rfl⟩) hm_0 (cel_0 cA ad S_1 0) rfl rfl rfl rfl (Nat.le_of_ble_eq_true rfl) dX9_keep_27) (fun S_3 hw => ?_) (fun j_3 S_3 hw => ?_)
      · have hw := hw.1 rfl
        refine k_astoreN (pc := 30) C dX9_keep_30 (by decide) [(5, .null), (4, .ref (ad 24 j_1)), (0, .ref (ad 0 0)), (1, .int a1), (2, .int a2), (3, .int a3)] rfl ?_
        refine k_aloadN (pc := 32) C dX9_keep_32 0 rfl ?_
        refine k_ifnonnullN (pc := 34) C dX9_keep_34 ?_
        refine k_iconst (v := (-1)) (pc := 37) C dX9_keep_37 (by decide) ?_
        exact hret _ _ _ _ dX9_keep_38 hw
      · have hw := hw.2 j_3 rfl
        refine k_astore (pc := 30) C dX9_keep_30 (by decide) [(5, .ref (ad 26 j_3)), (4, .ref (ad 24 j_1)), (0, .ref (ad 0 0)), (1, .int a1), (2, .int a2), (3, .int a3)] rfl ?_
        refine k_aload (pc := 32) C dX9_keep_32 0 rfl ?_
        refine k_ifnonnull (pc := 34) C 39 dX9_keep_34 (by decide) ?_
        refine k_iload_n (pc := 39) C dX9_keep_39 4 rfl rfl ?_
        by_cases q_40_1 : a2 = 1
        · have hw := hw.1 q_40_1
          refine k_tblIn (off := 32) (pc := 40) C 72 dX9_keep_40 q_40_1 (by decide) (by decide) (by decide) (by decide) ?_
          refine k_aload (pc := 72) C dX9_keep_72 1 rfl ?_
          refine k_aload (pc := 74) C dX9_keep_74 0 rfl ?_
          obtain ⟨h_5, hw⟩ := hw
          refine k_afterV (pc := 76) C (wp_X6_holdMark j_1 j_3 S_3) hw (fun post hw => by
              exact rn_V C (ct_X6_holdMark l D cA ad j_1 j_3 S_3 post hw) (cwV 1 C.2.2.2.2.1 gX9_keep_X6_holdMark rfl rfl rfl (by decide +kernel) ⟨Nat.le_of_ble_eq_true rfl, Nat.le_of_ble_eq_true rfl⟩) (ids_shelf h_5 (Or.inl rfl)) (cel_24 cA ad S_3 j_1) rfl rfl rfl rfl (Nat.le_of_ble_eq_true rfl) dX9_keep_76) (fun S_4 hw => ?_)
          refine k_iconst (v := 0) (pc := 79) C dX9_keep_79 (by decide) ?_
          exact hret _ _ _ _ dX9_keep_80 hw
        replace hw := hw.2
        by_cases q_40_2 : a2 = 2
        · have hw := hw.1 q_40_2
          refine k_tblIn (off := 63) (pc := 40) C 103 dX9_keep_40 q_40_2 (by decide) (by decide) (by decide) (by decide) ?_
          refine k_iconst (v := (-1)) (pc := 103) C dX9_keep_103 (by decide) ?_
          exact hret _ _ _ _ dX9_keep_104 hw
        replace hw := hw.2
        by_cases q_40_3 : a2 = 3
        · have hw := hw.1 q_40_3
          refine k_tblIn (off := 41) (pc := 40) C 81 dX9_keep_40 q_40_3 (by decide) (by decide) (by decide) (by decide) ?_
          refine k_aload_n (pc := 81) C dX9_keep_81 2 rfl rfl ?_
          refine k_get (j := 1) (pc := 82) C hin9 hm_0 (cel_0 cA ad S_3 0) rfl (by decide) f18 (fun _ h => h) rfl dX9_keep_82 ?_
          refine k_aload (pc := 85) C dX9_keep_85 0 rfl ?_
          refine k_iconst (v := 0) (pc := 87) C dX9_keep_87 (by decide) ?_
          refine k_afterV (pc := 88) C (wp_X5_gather j_3 0 S_3) hw (fun post hw => by
              exact rn_V C (ct_X5_gather l D cA ad j_3 0 S_3 post hw) (cwV 2 C.2.2.2.2.1 gX9_keep_X5_gather rfl rfl rfl (by decide +kernel) ⟨Nat.le_of_ble_eq_true rfl, Nat.le_of_ble_eq_true rfl⟩) hm_3 (cel_3 cA ad S_3 0) rfl rfl rfl rfl (Nat.le_of_ble_eq_true rfl) dX9_keep_88) (fun S_6 hw => ?_)
          refine k_aload (pc := 91) C dX9_keep_91 1 rfl ?_
          refine k_aload_n (pc := 93) C dX9_keep_93 2 rfl rfl ?_
          refine k_get (j := 1) (pc := 94) C hin9 hm_0 (cel_0 cA ad S_6 0) rfl (by decide) f18 (fun _ h => h) rfl dX9_keep_94 ?_
          refine k_iload_n (pc := 97) C dX9_keep_97 4 rfl rfl ?_
          obtain ⟨h_8, hw⟩ := hw
          refine k_afterV (pc := 98) C (wp_X6_holdSeries j_1 a2 S_6) hw (fun post hw => by
              exact rn_V C (ct_X6_holdSeries l D cA ad j_1 a2 S_6 post hw) (cwV 2 C.2.2.2.2.1 gX9_keep_X6_holdSeries rfl rfl rfl (by decide +kernel) ⟨Nat.le_of_ble_eq_true rfl, Nat.le_of_ble_eq_true rfl⟩) (ids_shelf h_8 (Or.inl rfl)) (cel_24 cA ad S_6 j_1) rfl rfl rfl rfl (Nat.le_of_ble_eq_true rfl) dX9_keep_98) (fun S_7 hw => ?_)
          refine k_iconst (v := 0) (pc := 101) C dX9_keep_101 (by decide) ?_
          exact hret _ _ _ _ dX9_keep_102 hw
        replace hw := hw.2
        by_cases q_40_4 : a2 = 4
        · have hw := hw.1 q_40_4
          refine k_tblIn (off := 41) (pc := 40) C 81 dX9_keep_40 q_40_4 (by decide) (by decide) (by decide) (by decide) ?_
          refine k_aload_n (pc := 81) C dX9_keep_81 2 rfl rfl ?_
          refine k_get (j := 1) (pc := 82) C hin9 hm_0 (cel_0 cA ad S_3 0) rfl (by decide) f18 (fun _ h => h) rfl dX9_keep_82 ?_
          refine k_aload (pc := 85) C dX9_keep_85 0 rfl ?_
          refine k_iconst (v := 0) (pc := 87) C dX9_keep_87 (by decide) ?_
          refine k_afterV (pc := 88) C (wp_X5_gather j_3 0 S_3) hw (fun post hw => by
              exact rn_V C (ct_X5_gather l D cA ad j_3 0 S_3 post hw) (cwV 2 C.2.2.2.2.1 gX9_keep_X5_gather rfl rfl rfl (by decide +kernel) ⟨Nat.le_of_ble_eq_true rfl, Nat.le_of_ble_eq_true rfl⟩) hm_3 (cel_3 cA ad S_3 0) rfl rfl rfl rfl (Nat.le_of_ble_eq_true rfl) dX9_keep_88) (fun S_9 hw => ?_)
          refine k_aload (pc := 91) C dX9_keep_91 1 rfl ?_
          refine k_aload_n (pc := 93) C dX9_keep_93 2 rfl rfl ?_
          refine k_get (j := 1) (pc := 94) C hin9 hm_0 (cel_0 cA ad S_9 0) rfl (by decide) f18 (fun _ h => h) rfl dX9_keep_94 ?_
          refine k_iload_n (pc := 97) C dX9_keep_97 4 rfl rfl ?_
          obtain ⟨h_11, hw⟩ := hw
          refine k_afterV (pc := 98) C (wp_X6_holdSeries j_1 a2 S_9) hw (fun post hw => by
              exact rn_V C (ct_X6_holdSeries l D cA ad j_1 a2 S_9 post hw) (cwV 2 C.2.2.2.2.1 gX9_keep_X6_holdSeries rfl rfl rfl (by decide +kernel) ⟨Nat.le_of_ble_eq_true rfl, Nat.le_of_ble_eq_true rfl⟩) (ids_shelf h_11 (Or.inl rfl)) (cel_24 cA ad S_9 j_1) rfl rfl rfl rfl (Nat.le_of_ble_eq_true rfl) dX9_keep_98) (fun S_10 hw => ?_)
          refine k_iconst (v := 0) (pc := 101) C dX9_keep_101 (by decide) ?_
          exact hret _ _ _ _ dX9_keep_102 hw
        replace hw := hw.2
        have z_40_1 := lv_neT q_40_1 (a := 1) (by decide)
        have z_40_2 := lv_neT q_40_2 (a := 2) (by decide)
        have z_40_3 := lv_neT q_40_3 (a := 3) (by decide)
        have z_40_4 := lv_neT q_40_4 (a := 4) (by decide)
        refine k_tblOut (pc := 40) C 103 dX9_keep_40 (by omega) (by decide) ?_
        have hw := hw ⟨q_40_1, q_40_2, q_40_3, q_40_4⟩
        refine k_iconst (v := (-1)) (pc := 103) C dX9_keep_103 (by decide) ?_
        exact hret _ _ _ _ dX9_keep_104 hw
    · have hw := hw.2 q_2
      refine k_aload (pc := 18) C dX9_keep_18 0 rfl ?_
      obtain ⟨h_13, hw⟩ := hw
      refine k_afterV (pc := 20) C (wp_X6_clear j_1 S_1) hw (fun post hw => by
          exact rn_V C (ct_X6_clear l D cA ad j_1 S_1 post hw) (cwV 0 C.2.2.2.2.1 gX9_keep_X6_clear rfl rfl rfl (by decide +kernel) ⟨Nat.le_of_ble_eq_true rfl, Nat.le_of_ble_eq_true rfl⟩) (ids_shelf h_13 (Or.inl rfl)) (cel_24 cA ad S_1 j_1) rfl rfl rfl rfl (Nat.le_of_ble_eq_true rfl) dX9_keep_20) (fun S_12 hw => ?_)
      refine k_iconst (v := 0) (pc := 23) C dX9_keep_23 (by decide) ?_
      exact hret _ _ _ _ dX9_keep_24 hw
def wp_X9_make (a1 : Int32) (a2 : Int32) (a3 : Int32) (S : Sg) (Q : Int32 → Sg → Prop) : Prop :=
  wp_X9_shelfAt a1 S (fun o_1 S_1 => (o_1 = none → Q (-1) S_1) ∧ (∀ j_1 : Nat, o_1 = some j_1 → (∃ J_2 : Sg → Prop, (∀ (S_2 : Sg), J_2 S_2 → ((a3 ≤ 60 → ((0 ≤ a3 → (j_1 < 8 ∧ wp_X6_holdNoughts j_1 a2 a3 S_2 (fun S_5 => Q 0 S_5))) ∧ (¬ 0 ≤ a3 → Q (-14) S_2))) ∧ (¬ a3 ≤ 60 → Q (-1) S_2))) ∧ ((a2 = 3 → J_2 S_1) ∧ (¬ a2 = 3 → ((¬ a2 = 4 → Q (-1) S_1) ∧ (a2 = 4 → J_2 S_1)))))))
set_option maxHeartbeats 4000000 in
set_option maxRecDepth 100000 in
theorem ct_X9_make (l : Launch) (D : va_G) (cA : Nat → ClassId) (ad : Nat → Nat → Nat) (a1 : Int32) (a2 : Int32) (a3 : Int32) (S : Sg) (Q : Int32 → Sg → Prop) (hw : wp_X9_make a1 a2 a3 S Q) : CtI l yX9_make wsX9_make (mkR 2 43) D cA ad [.ref (ad 0 0), .int a1, .int a2, .int a3] S Q := by
  refine ct_ofI (cc := cX9_make) (nL := 5) (by decide) rfl (Nat.le_of_ble_eq_true rfl) ?_
  intro p e s m args below meth c A Q C hret
  unfold wp_X9_make at hw
  have C : Cx p s m args c cX9_make 5 wsX9_make RX9 D cA A := C
  change KK p l e (mkR 2 43) s m args below meth c 5 D cA ad A Q 0 [(0, .ref (ad 0 0)), (1, .int a1), (2, .int a2), (3, .int a3)] [] S
  refine k_aload_n (pc := 0) C dX9_make_0 0 rfl rfl ?_
  refine k_iload_n (pc := 1) C dX9_make_1 1 rfl rfl ?_
  refine k_afterQ (pc := 2) C 24 (wp_X9_shelfAt a1 S) hw (fun post hw => by
      exact rn_V C (ct_X9_shelfAt l D cA ad a1 S post hw) (cwV 1 C.2.2.2.2.1 gX9_make_X9_shelfAt rfl rfl rfl (by decide +kernel) ⟨Nat.le_of_ble_eq_true rfl, Nat.le_of_ble_eq_true rfl⟩) hm_0 (cel_0 cA ad S 0) rfl rfl rfl rfl (Nat.le_of_ble_eq_true rfl) dX9_make_2) (fun S_1 hw => ?_) (fun j_1 S_1 hw => ?_)
  · have hw := hw.1 rfl
    refine k_astoreN (pc := 5) C dX9_make_5 (by decide) [(4, .null), (0, .ref (ad 0 0)), (1, .int a1), (2, .int a2), (3, .int a3)] rfl ?_
    refine k_aloadN (pc := 7) C dX9_make_7 0 rfl ?_
    refine k_ifnullN (pc := 9) C 28 dX9_make_9 (by decide) ?_
    refine k_iconst (v := (-1)) (pc := 28) C dX9_make_28 (by decide) ?_
    exact hret _ _ _ _ dX9_make_29 hw
  · have hw := hw.2 j_1 rfl
    refine k_astore (pc := 5) C dX9_make_5 (by decide) [(4, .ref (ad 24 j_1)), (0, .ref (ad 0 0)), (1, .int a1), (2, .int a2), (3, .int a3)] rfl ?_
    refine k_aload (pc := 7) C dX9_make_7 0 rfl ?_
    refine k_ifnull (pc := 9) C dX9_make_9 ?_
    refine k_iload_n (pc := 12) C dX9_make_12 3 rfl rfl ?_
    refine k_iconst (v := 3) (pc := 13) C dX9_make_13 (by decide) ?_
    obtain ⟨J_2, hj_2, hw⟩ := hw
    have j_2 : ∀ (S_2 : Sg), J_2 S_2 → KK p l e (mkR 2 43) s m args below meth c 5 D cA ad A Q 22 [(2, .int a2), (3, .int a3), (4, .ref (ad 24 j_1))] [] S_2 := by
      intro S_2 hw
      have hw := hj_2 S_2 hw
      refine k_iload_n (pc := 22) C dX9_make_22 1 rfl rfl ?_
      refine k_bipush (v := 60) (pc := 23) C dX9_make_23 (by decide) ?_
      refine k_icmp_le (pc := 25) C 30 dX9_make_25 (by decide) (fun q_3 => ?_) (fun q_3 => ?_)
      · have hw := hw.1 q_3
        refine k_iload_n (pc := 30) C dX9_make_30 1 rfl rfl ?_
        refine k_if_ge (pc := 31) C 37 dX9_make_31 (by decide) (fun q_4 => ?_) (fun q_4 => ?_)
        · have hw := hw.1 q_4
          refine k_aload (pc := 37) C dX9_make_37 2 rfl ?_
          refine k_iload_n (pc := 39) C dX9_make_39 0 rfl rfl ?_
          refine k_iload_n (pc := 40) C dX9_make_40 1 rfl rfl ?_
          obtain ⟨h_6, hw⟩ := hw
          refine k_afterV (pc := 41) C (wp_X6_holdNoughts j_1 a2 a3 S_2) hw (fun post hw => by
              exact rn_V C (ct_X6_holdNoughts l D cA ad j_1 a2 a3 S_2 post hw) (cwV 2 C.2.2.2.2.1 gX9_make_X6_holdNoughts rfl rfl rfl (by decide +kernel) ⟨Nat.le_of_ble_eq_true rfl, Nat.le_of_ble_eq_true rfl⟩) (ids_shelf h_6 (Or.inl rfl)) (cel_24 cA ad S_2 j_1) rfl rfl rfl rfl (Nat.le_of_ble_eq_true rfl) dX9_make_41) (fun S_5 hw => ?_)
          refine k_iconst (v := 0) (pc := 44) C dX9_make_44 (by decide) ?_
          exact hret _ _ _ _ dX9_make_45 hw
        · have hw := hw.2 q_4
          refine k_bipush (v := (-14)) (pc := 34) C dX9_make_34 (by decide) ?_
          exact hret _ _ _ _ dX9_make_36 hw
      · have hw := hw.2 q_3
        refine k_iconst (v := (-1)) (pc := 28) C dX9_make_28 (by decide) ?_
        exact hret _ _ _ _ dX9_make_29 hw
    refine k_icmp_eq (pc := 14) C 22 dX9_make_14 (by decide) (fun q_7 => ?_) (fun q_7 => ?_)
    · have hw := hw.1 q_7
      refine k_sub [3, 4, 0] [(2, .int a2), (3, .int a3), (4, .ref (ad 24 j_1))] rfl ?_
      exact j_2 S_1 hw
    · have hw := hw.2 q_7
      refine k_iload_n (pc := 17) C dX9_make_17 3 rfl rfl ?_
      refine k_iconst (v := 4) (pc := 18) C dX9_make_18 (by decide) ?_
      refine k_icmp_ne (pc := 19) C 28 dX9_make_19 (by decide) (fun q_8 => ?_) (fun q_8 => ?_)
      · have hw := hw.1 q_8
        refine k_iconst (v := (-1)) (pc := 28) C dX9_make_28 (by decide) ?_
        exact hret _ _ _ _ dX9_make_29 hw
      · have hw := hw.2 q_8
        refine k_sub [3, 4, 0] [(2, .int a2), (3, .int a3), (4, .ref (ad 24 j_1))] rfl ?_
        exact j_2 S_1 hw
def wp_X9_copy (a1 : Int32) (a2 : Int32) (a3 : Int32) (a4 : Int32) (a5 : Int32) (S : Sg) (Q : Int32 → Sg → Prop) : Prop :=
  wp_X9_shelfAt a1 S (fun o_1 S_1 => (o_1 = none → wp_X9_shelfAt a3 S_1 (fun o_2 S_2 => (o_2 = none → Q (-1) S_2) ∧ (∀ j_2 : Nat, o_2 = some j_2 → Q (-1) S_2))) ∧ (∀ j_1 : Nat, o_1 = some j_1 → wp_X9_shelfAt a3 S_1 (fun o_3 S_3 => (o_3 = none → Q (-1) S_3) ∧ (∀ j_3 : Nat, o_3 = some j_3 → (j_1 < 8 ∧ wp_X6_holds j_1 S_3 (fun r_4 S_4 => ((r_4 = 0 → Q (-11) S_4) ∧ (¬ r_4 = 0 → (j_3 < 8 ∧ wp_X6_holds j_3 S_4 (fun r_7 S_7 => ((¬ r_7 = 0 → wp_X6_holdsRow j_1 S_7 (fun r_10 S_10 => ((r_10 = 0 → Q (-12) S_10) ∧ (¬ r_10 = 0 → wp_X6_holds j_1 S_10 (fun r_12 S_12 => wp_X6_holds j_3 S_12 (fun r_13 S_13 => ((r_12 = r_13 → wp_X6_hasPlaces j_1 a2 a5 S_13 (fun r_15 S_15 => ((r_15 = 0 → Q (-13) S_15) ∧ (¬ r_15 = 0 → wp_X6_hasPlaces j_3 a4 a5 S_15 (fun r_17 S_17 => ((¬ r_17 = 0 → wp_X6_copyPlaces j_1 a2 j_3 a4 a5 S_17 (fun S_19 => Q a5 S_19)) ∧ (r_17 = 0 → Q (-13) S_17))))))) ∧ (¬ r_12 = r_13 → Q (-12) S_13)))))))) ∧ (r_7 = 0 → Q (-11) S_7))))))))))))
set_option maxHeartbeats 4000000 in
set_option maxRecDepth 100000 in
theorem ct_X9_copy (l : Launch) (D : va_G) (cA : Nat → ClassId) (ad : Nat → Nat → Nat) (a1 : Int32) (a2 : Int32) (a3 : Int32) (a4 : Int32) (a5 : Int32) (S : Sg) (Q : Int32 → Sg → Prop) (hw : wp_X9_copy a1 a2 a3 a4 a5 S Q) : CtI l yX9_copy wsX9_copy (mkR 2 84) D cA ad [.ref (ad 0 0), .int a1, .int a2, .int a3, .int a4, .int a5] S Q := by
  refine ct_ofI (cc := cX9_copy) (nL := 8) (by decide) rfl (Nat.le_of_ble_eq_true rfl) ?_
  intro p e s m args below meth c A Q C hret
  unfold wp_X9_copy at hw
  have C : Cx p s m args c cX9_copy 8 wsX9_copy RX9 D cA A := C
  change KK p l e (mkR 2 84) s m args below meth c 8 D cA ad A Q 0 [(0, .ref (ad 0 0)), (1, .int a1), (2, .int a2), (3, .int a3), (4, .int a4), (5, .int a5)] [] S
  refine k_aload_n (pc := 0) C dX9_copy_0 0 rfl rfl ?_
  refine k_iload_n (pc := 1) C dX9_copy_1 1 rfl rfl ?_
  refine k_afterQ (pc := 2) C 24 (wp_X9_shelfAt a1 S) hw (fun post hw => by
      exact rn_V C (ct_X9_shelfAt l D cA ad a1 S post hw) (cwV 1 C.2.2.2.2.1 gX9_copy_X9_shelfAt rfl rfl rfl (by decide +kernel) ⟨Nat.le_of_ble_eq_true rfl, Nat.le_of_ble_eq_true rfl⟩) hm_0 (cel_0 cA ad S 0) rfl rfl rfl rfl (Nat.le_of_ble_eq_true rfl) dX9_copy_2) (fun S_1 hw => ?_) (fun j_1 S_1 hw => ?_)
  · have hw := hw.1 rfl
    refine k_astoreN (pc := 5) C dX9_copy_5 (by decide) [(6, .null), (0, .ref (ad 0 0)), (1, .int a1), (2, .int a2), (3, .int a3), (4, .int a4), (5, .int a5)] rfl ?_
    refine k_aload_n (pc := 7) C dX9_copy_7 1 rfl rfl ?_
    refine k_iload_n (pc := 8) C dX9_copy_8 4 rfl rfl ?_
    refine k_afterQ (pc := 9) C 24 (wp_X9_shelfAt a3 S_1) hw (fun post hw => by
        exact rn_V C (ct_X9_shelfAt l D cA ad a3 S_1 post hw) (cwV 1 C.2.2.2.2.1 gX9_copy_X9_shelfAt rfl rfl rfl (by decide +kernel) ⟨Nat.le_of_ble_eq_true rfl, Nat.le_of_ble_eq_true rfl⟩) hm_0 (cel_0 cA ad S_1 0) rfl rfl rfl rfl (Nat.le_of_ble_eq_true rfl) dX9_copy_9) (fun S_2 hw => ?_) (fun j_2 S_2 hw => ?_)
    · have hw := hw.1 rfl
      refine k_astoreN (pc := 12) C dX9_copy_12 (by decide) [(7, .null), (6, .null), (0, .ref (ad 0 0)), (1, .int a1), (2, .int a2), (3, .int a3), (4, .int a4), (5, .int a5)] rfl ?_
      refine k_aloadN (pc := 14) C dX9_copy_14 1 rfl ?_
      refine k_ifnullN (pc := 16) C 24 dX9_copy_16 (by decide) ?_
      refine k_iconst (v := (-1)) (pc := 24) C dX9_copy_24 (by decide) ?_
      exact hret _ _ _ _ dX9_copy_25 hw
    · have hw := hw.2 j_2 rfl
      refine k_astore (pc := 12) C dX9_copy_12 (by decide) [(7, .ref (ad 24 j_2)), (6, .null), (0, .ref (ad 0 0)), (1, .int a1), (2, .int a2), (3, .int a3), (4, .int a4), (5, .int a5)] rfl ?_
      refine k_aloadN (pc := 14) C dX9_copy_14 1 rfl ?_
      refine k_ifnullN (pc := 16) C 24 dX9_copy_16 (by decide) ?_
      refine k_iconst (v := (-1)) (pc := 24) C dX9_copy_24 (by decide) ?_
      exact hret _ _ _ _ dX9_copy_25 hw
  · have hw := hw.2 j_1 rfl
    refine k_astore (pc := 5) C dX9_copy_5 (by decide) [(6, .ref (ad 24 j_1)), (0, .ref (ad 0 0)), (1, .int a1), (2, .int a2), (3, .int a3), (4, .int a4), (5, .int a5)] rfl ?_
    refine k_aload_n (pc := 7) C dX9_copy_7 1 rfl rfl ?_
    refine k_iload_n (pc := 8) C dX9_copy_8 4 rfl rfl ?_
    refine k_afterQ (pc := 9) C 24 (wp_X9_shelfAt a3 S_1) hw (fun post hw => by
        exact rn_V C (ct_X9_shelfAt l D cA ad a3 S_1 post hw) (cwV 1 C.2.2.2.2.1 gX9_copy_X9_shelfAt rfl rfl rfl (by decide +kernel) ⟨Nat.le_of_ble_eq_true rfl, Nat.le_of_ble_eq_true rfl⟩) hm_0 (cel_0 cA ad S_1 0) rfl rfl rfl rfl (Nat.le_of_ble_eq_true rfl) dX9_copy_9) (fun S_3 hw => ?_) (fun j_3 S_3 hw => ?_)
    · have hw := hw.1 rfl
      refine k_astoreN (pc := 12) C dX9_copy_12 (by decide) [(7, .null), (6, .ref (ad 24 j_1)), (0, .ref (ad 0 0)), (1, .int a1), (2, .int a2), (3, .int a3), (4, .int a4), (5, .int a5)] rfl ?_
      refine k_aload (pc := 14) C dX9_copy_14 1 rfl ?_
      refine k_ifnull (pc := 16) C dX9_copy_16 ?_
      refine k_aloadN (pc := 19) C dX9_copy_19 0 rfl ?_
      refine k_ifnonnullN (pc := 21) C dX9_copy_21 ?_
      refine k_iconst (v := (-1)) (pc := 24) C dX9_copy_24 (by decide) ?_
      exact hret _ _ _ _ dX9_copy_25 hw
    · have hw := hw.2 j_3 rfl
      refine k_astore (pc := 12) C dX9_copy_12 (by decide) [(7, .ref (ad 24 j_3)), (6, .ref (ad 24 j_1)), (0, .ref (ad 0 0)), (1, .int a1), (2, .int a2), (3, .int a3), (4, .int a4), (5, .int a5)] rfl ?_
      refine k_aload (pc := 14) C dX9_copy_14 1 rfl ?_
      refine k_ifnull (pc := 16) C dX9_copy_16 ?_
      refine k_aload (pc := 19) C dX9_copy_19 0 rfl ?_
      refine k_ifnonnull (pc := 21) C 26 dX9_copy_21 (by decide) ?_
      refine k_aload (pc := 26) C dX9_copy_26 1 rfl ?_
      obtain ⟨h_5, hw⟩ := hw
      refine k_afterI (pc := 28) C (wp_X6_holds j_1 S_3) hw (fun post hw => by
          exact rn_V C (ct_X6_holds l D cA ad j_1 S_3 post hw) (cwV 0 C.2.2.2.2.1 gX9_copy_X6_holds rfl rfl rfl (by decide +kernel) ⟨Nat.le_of_ble_eq_true rfl, Nat.le_of_ble_eq_true rfl⟩) (ids_shelf h_5 (Or.inl rfl)) (cel_24 cA ad S_3 j_1) rfl rfl rfl rfl (Nat.le_of_ble_eq_true rfl) dX9_copy_28) (fun r_4 S_4 hw => ?_)
      refine k_if_eq (pc := 31) C 42 dX9_copy_31 (by decide) (fun q_6 => ?_) (fun q_6 => ?_)
      · have hw := hw.1 q_6
        refine k_bipush (v := (-11)) (pc := 42) C dX9_copy_42 (by decide) ?_
        exact hret _ _ _ _ dX9_copy_44 hw
      · have hw := hw.2 q_6
        refine k_aload (pc := 34) C dX9_copy_34 0 rfl ?_
        obtain ⟨h_8, hw⟩ := hw
        refine k_afterI (pc := 36) C (wp_X6_holds j_3 S_4) hw (fun post hw => by
            exact rn_V C (ct_X6_holds l D cA ad j_3 S_4 post hw) (cwV 0 C.2.2.2.2.1 gX9_copy_X6_holds rfl rfl rfl (by decide +kernel) ⟨Nat.le_of_ble_eq_true rfl, Nat.le_of_ble_eq_true rfl⟩) (ids_shelf h_8 (Or.inl rfl)) (cel_24 cA ad S_4 j_3) rfl rfl rfl rfl (Nat.le_of_ble_eq_true rfl) dX9_copy_36) (fun r_7 S_7 hw => ?_)
        refine k_if_ne (pc := 39) C 45 dX9_copy_39 (by decide) (fun q_9 => ?_) (fun q_9 => ?_)
        · have hw := hw.1 q_9
          refine k_aload (pc := 45) C dX9_copy_45 1 rfl ?_
          refine k_afterI (pc := 47) C (wp_X6_holdsRow j_1 S_7) hw (fun post hw => by
              exact rn_V C (ct_X6_holdsRow l D cA ad j_1 S_7 post hw) (cwV 0 C.2.2.2.2.1 gX9_copy_X6_holdsRow rfl rfl rfl (by decide +kernel) ⟨Nat.le_of_ble_eq_true rfl, Nat.le_of_ble_eq_true rfl⟩) (ids_shelf h_5 (Or.inl rfl)) (cel_24 cA ad S_7 j_1) rfl rfl rfl rfl (Nat.le_of_ble_eq_true rfl) dX9_copy_47) (fun r_10 S_10 hw => ?_)
          refine k_if_eq (pc := 50) C 66 dX9_copy_50 (by decide) (fun q_11 => ?_) (fun q_11 => ?_)
          · have hw := hw.1 q_11
            refine k_bipush (v := (-12)) (pc := 66) C dX9_copy_66 (by decide) ?_
            exact hret _ _ _ _ dX9_copy_68 hw
          · have hw := hw.2 q_11
            refine k_aload (pc := 53) C dX9_copy_53 1 rfl ?_
            refine k_afterI (pc := 55) C (wp_X6_holds j_1 S_10) hw (fun post hw => by
                exact rn_V C (ct_X6_holds l D cA ad j_1 S_10 post hw) (cwV 0 C.2.2.2.2.1 gX9_copy_X6_holds rfl rfl rfl (by decide +kernel) ⟨Nat.le_of_ble_eq_true rfl, Nat.le_of_ble_eq_true rfl⟩) (ids_shelf h_5 (Or.inl rfl)) (cel_24 cA ad S_10 j_1) rfl rfl rfl rfl (Nat.le_of_ble_eq_true rfl) dX9_copy_55) (fun r_12 S_12 hw => ?_)
            refine k_aload (pc := 58) C dX9_copy_58 0 rfl ?_
            refine k_afterI (pc := 60) C (wp_X6_holds j_3 S_12) hw (fun post hw => by
                exact rn_V C (ct_X6_holds l D cA ad j_3 S_12 post hw) (cwV 0 C.2.2.2.2.1 gX9_copy_X6_holds rfl rfl rfl (by decide +kernel) ⟨Nat.le_of_ble_eq_true rfl, Nat.le_of_ble_eq_true rfl⟩) (ids_shelf h_8 (Or.inl rfl)) (cel_24 cA ad S_12 j_3) rfl rfl rfl rfl (Nat.le_of_ble_eq_true rfl) dX9_copy_60) (fun r_13 S_13 hw => ?_)
            refine k_icmp_eq (pc := 63) C 69 dX9_copy_63 (by decide) (fun q_14 => ?_) (fun q_14 => ?_)
            · have hw := hw.1 q_14
              refine k_aload (pc := 69) C dX9_copy_69 1 rfl ?_
              refine k_iload_n (pc := 71) C dX9_copy_71 4 rfl rfl ?_
              refine k_iload (pc := 72) C dX9_copy_72 7 rfl ?_
              refine k_afterI (pc := 74) C (wp_X6_hasPlaces j_1 a2 a5 S_13) hw (fun post hw => by
                  exact rn_V C (ct_X6_hasPlaces l D cA ad j_1 a2 a5 S_13 post hw) (cwV 2 C.2.2.2.2.1 gX9_copy_X6_hasPlaces rfl rfl rfl (by decide +kernel) ⟨Nat.le_of_ble_eq_true rfl, Nat.le_of_ble_eq_true rfl⟩) (ids_shelf h_5 (Or.inl rfl)) (cel_24 cA ad S_13 j_1) rfl rfl rfl rfl (Nat.le_of_ble_eq_true rfl) dX9_copy_74) (fun r_15 S_15 hw => ?_)
              refine k_if_eq (pc := 77) C 92 dX9_copy_77 (by decide) (fun q_16 => ?_) (fun q_16 => ?_)
              · have hw := hw.1 q_16
                refine k_bipush (v := (-13)) (pc := 92) C dX9_copy_92 (by decide) ?_
                exact hret _ _ _ _ dX9_copy_94 hw
              · have hw := hw.2 q_16
                refine k_aload (pc := 80) C dX9_copy_80 0 rfl ?_
                refine k_iload (pc := 82) C dX9_copy_82 6 rfl ?_
                refine k_iload (pc := 84) C dX9_copy_84 7 rfl ?_
                refine k_afterI (pc := 86) C (wp_X6_hasPlaces j_3 a4 a5 S_15) hw (fun post hw => by
                    exact rn_V C (ct_X6_hasPlaces l D cA ad j_3 a4 a5 S_15 post hw) (cwV 2 C.2.2.2.2.1 gX9_copy_X6_hasPlaces rfl rfl rfl (by decide +kernel) ⟨Nat.le_of_ble_eq_true rfl, Nat.le_of_ble_eq_true rfl⟩) (ids_shelf h_8 (Or.inl rfl)) (cel_24 cA ad S_15 j_3) rfl rfl rfl rfl (Nat.le_of_ble_eq_true rfl) dX9_copy_86) (fun r_17 S_17 hw => ?_)
                refine k_if_ne (pc := 89) C 95 dX9_copy_89 (by decide) (fun q_18 => ?_) (fun q_18 => ?_)
                · have hw := hw.1 q_18
                  refine k_aload (pc := 95) C dX9_copy_95 1 rfl ?_
                  refine k_iload_n (pc := 97) C dX9_copy_97 4 rfl rfl ?_
                  refine k_aload (pc := 98) C dX9_copy_98 0 rfl ?_
                  refine k_iload (pc := 100) C dX9_copy_100 6 rfl ?_
                  refine k_iload (pc := 102) C dX9_copy_102 7 rfl ?_
                  refine k_afterV (pc := 104) C (wp_X6_copyPlaces j_1 a2 j_3 a4 a5 S_17) hw (fun post hw => by
                      exact rn_V C (ct_X6_copyPlaces l D cA ad j_1 a2 j_3 a4 a5 S_17 post hw) (cwV 4 C.2.2.2.2.1 gX9_copy_X6_copyPlaces rfl rfl rfl (by decide +kernel) ⟨Nat.le_of_ble_eq_true rfl, Nat.le_of_ble_eq_true rfl⟩) (ids_shelf h_5 (Or.inl rfl)) (cel_24 cA ad S_17 j_1) rfl rfl rfl rfl (Nat.le_of_ble_eq_true rfl) dX9_copy_104) (fun S_19 hw => ?_)
                  refine k_iload (pc := 107) C dX9_copy_107 7 rfl ?_
                  exact hret _ _ _ _ dX9_copy_109 hw
                · have hw := hw.2 q_18
                  refine k_bipush (v := (-13)) (pc := 92) C dX9_copy_92 (by decide) ?_
                  exact hret _ _ _ _ dX9_copy_94 hw
            · have hw := hw.2 q_14
              refine k_bipush (v := (-12)) (pc := 66) C dX9_copy_66 (by decide) ?_
              exact hret _ _ _ _ dX9_copy_68 hw
        · have hw := hw.2 q_9
          refine k_bipush (v := (-11)) (pc := 42) C dX9_copy_42 (by decide) ?_
          exact hret _ _ _ _ dX9_copy_44 hw
def wp_X9_weight (a1 : Int32) (S : Sg) (Q : Int32 → Sg → Prop) : Prop :=
  wp_X9_refusalOfMarkOn a1 S (fun r_1 S_1 => ((r_1 = 0 → wp_X9_markOn a1 S_1 (fun o_3 S_3 => (o_3 = none → Q (-1012) S_3) ∧ (∀ j_3 : Nat, o_3 = some j_3 → (j_3 < nM S_3 ∧ wpv_heft j_3 S_3 (fun r_4 S_4 => Q r_4 S_4))))) ∧ (¬ r_1 = 0 → Q ((-1000) + r_1) S_1)))
set_option maxHeartbeats 4000000 in
set_option maxRecDepth 100000 in
theorem ct_X9_weight (l : Launch) (D : va_G) (cA : Nat → ClassId) (ad : Nat → Nat → Nat) (a1 : Int32) (S : Sg) (Q : Int32 → Sg → Prop) (hw : wp_X9_weight a1 S Q) : CtI l yX9_weight wsX9_weight (mkR 3 60) D cA ad [.ref (ad 0 0), .int a1] S Q := by
  refine ct_ofI (cc := cX9_weight) (nL := 4) (by decide) rfl (Nat.le_of_ble_eq_true rfl) ?_
  intro p e s m args below meth c A Q C hret
  unfold wp_X9_weight at hw
  have C : Cx p s m args c cX9_weight 4 wsX9_weight RX9 D cA A := C
  change KK p l e (mkR 3 60) s m args below meth c 4 D cA ad A Q 0 [(0, .ref (ad 0 0)), (1, .int a1)] [] S
  refine k_aload_n (pc := 0) C dX9_weight_0 0 rfl rfl ?_
  refine k_iload_n (pc := 1) C dX9_weight_1 1 rfl rfl ?_
  refine k_afterI (pc := 2) C (wp_X9_refusalOfMarkOn a1 S) hw (fun post hw => by
      exact rn_V C (ct_X9_refusalOfMarkOn l D cA ad a1 S post hw) (cwV 1 C.2.2.2.2.1 gX9_weight_X9_refusalOfMarkOn rfl rfl rfl (by decide +kernel) ⟨Nat.le_of_ble_eq_true rfl, Nat.le_of_ble_eq_true rfl⟩) hm_0 (cel_0 cA ad S 0) rfl rfl rfl rfl (Nat.le_of_ble_eq_true rfl) dX9_weight_2) (fun r_1 S_1 hw => ?_)
  refine k_istore_n (pc := 5) C dX9_weight_5 rfl (by decide) [(2, .int r_1), (0, .ref (ad 0 0)), (1, .int a1)] rfl ?_
  refine k_iload_n (pc := 6) C dX9_weight_6 0 rfl rfl ?_
  refine k_if_eq (pc := 7) C 16 dX9_weight_7 (by decide) (fun q_2 => ?_) (fun q_2 => ?_)
  · have hw := hw.1 q_2
    refine k_aload_n (pc := 16) C dX9_weight_16 1 rfl rfl ?_
    refine k_iload_n (pc := 17) C dX9_weight_17 2 rfl rfl ?_
    refine k_afterQ (pc := 18) C 26 (wp_X9_markOn a1 S_1) hw (fun post hw => by
        exact rn_V C (ct_X9_markOn l D cA ad a1 S_1 post hw) (cwV 1 C.2.2.2.2.1 gX9_weight_X9_markOn rfl rfl rfl (by decide +kernel) ⟨Nat.le_of_ble_eq_true rfl, Nat.le_of_ble_eq_true rfl⟩) hm_0 (cel_0 cA ad S_1 0) rfl rfl rfl rfl (Nat.le_of_ble_eq_true rfl) dX9_weight_18) (fun S_3 hw => ?_) (fun j_3 S_3 hw => ?_)
    · have hw := hw.1 rfl
      refine k_astore_nN (pc := 21) C dX9_weight_21 rfl (by decide) [(3, .null), (2, .int r_1), (0, .ref (ad 0 0)), (1, .int a1)] rfl ?_
      refine k_aload_nN (pc := 22) C dX9_weight_22 0 rfl rfl ?_
      refine k_ifnonnullN (pc := 23) C dX9_weight_23 ?_
      refine k_sipush (v := (-1012)) (pc := 26) C dX9_weight_26 (by decide) ?_
      refine k_goto (pc := 29) C 36 dX9_weight_29 (by decide) ?_
      exact hret _ _ _ _ dX9_weight_36 hw
    · have hw := hw.2 j_3 rfl
      refine k_astore_n (pc := 21) C dX9_weight_21 rfl (by decide) [(3, .ref (ad 26 j_3)), (2, .int r_1), (0, .ref (ad 0 0)), (1, .int a1)] rfl ?_
      refine k_aload_n (pc := 22) C dX9_weight_22 0 rfl rfl ?_
      refine k_ifnonnull (pc := 23) C 32 dX9_weight_23 (by decide) ?_
      refine k_aload_n (pc := 32) C dX9_weight_32 0 rfl rfl ?_
      obtain ⟨h_5, hw⟩ := hw
      refine k_afterI (pc := 33) C (wpv_heft j_3 S_3) hw (fun post hw => by
          rcases kd4 S_3 j_3 with h | h | h | h
          · exact rn_V C (ct_X3_heft l D cA ad j_3 S_3 post (hw.1 h)) (cwV 0 C.2.2.2.2.1 gX9_weight_X3_heft rfl rfl rfl (by decide +kernel) ⟨Nat.le_of_ble_eq_true rfl, Nat.le_of_ble_eq_true rfl⟩) (mm_26 h_5) (celM_0 h) rfl rfl rfl rfl (Nat.le_of_ble_eq_true rfl) dX9_weight_33
          · exact rn_U C (ct_X4_heft l D cA ad j_3 S_3 post (hw.2.1 h)) (va_cwO 0 C.2.2.2.2.1 gX9_weight_X4_heft_u296X4 rfl rfl rfl (b0 := cX3_heft) (m0 := 1) (r0 := (some .int)) (by decide +kernel) (by decide +kernel) ⟨Nat.le_of_ble_eq_true rfl, Nat.le_of_ble_eq_true rfl⟩) (mm_26 h_5) (celM_1 h) rfl rfl rfl rfl (Nat.le_of_ble_eq_true rfl) dX9_weight_33
          · exact rn_U C (ct_X8_heft l D cA ad j_3 S_3 post (hw.2.2.1 h)) (va_cwO 0 C.2.2.2.2.1 gX9_weight_X8_heft_u296X8 rfl rfl rfl (b0 := cX3_heft) (m0 := 1) (r0 := (some .int)) (by decide +kernel) (by decide +kernel) ⟨Nat.le_of_ble_eq_true rfl, Nat.le_of_ble_eq_true rfl⟩) (mm_26 h_5) (celM_2 h) rfl rfl rfl rfl (Nat.le_of_ble_eq_true rfl) dX9_weight_33
          · exact rn_U C (ct_X1_heft l D cA ad j_3 S_3 post (hw.2.2.2 h)) (va_cwO 0 C.2.2.2.2.1 gX9_weight_X1_heft_u296X1 rfl rfl rfl (b0 := cX3_heft) (m0 := 1) (r0 := (some .int)) (by decide +kernel) (by decide +kernel) ⟨Nat.le_of_ble_eq_true rfl, Nat.le_of_ble_eq_true rfl⟩) (mm_26 h_5) (celM_3 h) rfl rfl rfl rfl (Nat.le_of_ble_eq_true rfl) dX9_weight_33) (fun r_4 S_4 hw => ?_)
      exact hret _ _ _ _ dX9_weight_36 hw
  · have hw := hw.2 q_2
    refine k_sipush (v := (-1000)) (pc := 10) C dX9_weight_10 (by decide) ?_
    refine k_iload_n (pc := 13) C dX9_weight_13 0 rfl rfl ?_
    refine k_iadd (pc := 14) C dX9_weight_14 ?_
    exact hret _ _ _ _ dX9_weight_15 hw
def wp_X2_judge : Nat → Int32 → Int32 → Int32 → Int32 → Sg → (Sg → Prop) → Prop
  | 0, _, _, _, _, _, _ => False
  | d + 1, a1, a2, a3, a4, S, Q => ((a4 < (gI S 14 0 9) → (∃ J_2 : Sg → Prop, (∀ (S_2 : Sg), J_2 S_2 → (∀ S_3 : Sg, S_3 = uI S_2 14 0 9 a4 → (∀ S_4 : Sg, S_4 = uI S_3 14 0 8 a3 → (vp_in a2 10 ∧ ((¬ (0 : Int32) < 0 ∧ ¬ (0 : Int32) < 0 ∧ ¬ (10 : Int32) < 0 ∧ Int32.toNatClampNeg 0 + Int32.toNatClampNeg 10 ≤ 10 ∧ Int32.toNatClampNeg 0 + Int32.toNatClampNeg 10 ≤ 10) ∧ (∀ S_6 : Sg, S_6 = uAr S_4 22 0 (va_cpy (gA S_4 19 (Int32.toNatClampNeg a2)) (gA S_4 22 0) (Int32.toNatClampNeg 0) (Int32.toNatClampNeg 0) (Int32.toNatClampNeg 10)) → (vp_in a2 10 ∧ ((¬ (0 : Int32) < 0 ∧ ¬ (0 : Int32) < 0 ∧ ¬ (10 : Int32) < 0 ∧ Int32.toNatClampNeg 0 + Int32.toNatClampNeg 10 ≤ 10 ∧ Int32.toNatClampNeg 0 + Int32.toNatClampNeg 10 ≤ 10) ∧ (∀ S_8 : Sg, S_8 = uAr S_6 23 0 (va_cpy (gA S_6 21 (Int32.toNatClampNeg a2)) (gA S_6 23 0) (Int32.toNatClampNeg 0) (Int32.toNatClampNeg 0) (Int32.toNatClampNeg 10)) → Q S_8))))))))) ∧ ((a1 < 0 → J_2 S) ∧ (¬ a1 < 0 → ((a1 < 14 → (vp_in a1 14 ∧ (∀ x5_12 : Int32, x5_12 = (gA S 15 0 (Int32.toNatClampNeg a1)) → (vp_in a1 14 ∧ (∀ x6_14 : Int32, x6_14 = (gA S 16 0 (Int32.toNatClampNeg a1)) → (vp_in a2 10 ∧ (vp_in x5_12 10 ∧ (vp_in a2 10 ∧ (vp_in x6_14 10 ∧ (∃ J_19 : Int32 → Sg → Prop, (∀ (t0_19 : Int32) (S_19 : Sg), J_19 t0_19 S_19 → (∃ J_20 : Sg → Prop, (∀ (S_20 : Sg), J_20 S_20 → (∃ J_21 : Sg → Prop, (∀ (S_21 : Sg), J_21 S_21 → wp_X2_judge d (a1 - 1) a2 (a3 ||| ((1 : Int32) <<< (a1 &&& 31))) (a4 + 1) S_21 (fun S_22 => Q S_22)) ∧ ((¬ t0_19 = 0 → J_21 S_20) ∧ (t0_19 = 0 → ((10 ≤ (a2 + 1) → J_21 S_20) ∧ (¬ 10 ≤ (a2 + 1) → wp_X2_join a2 a1 S_20 (fun S_25 => wp_X2_judge d (a1 - 1) (a2 + 1) a3 a4 S_25 (fun S_26 => J_21 S_26)))))))) ∧ ((t0_19 = 0 → J_20 S_19) ∧ (¬ t0_19 = 0 → (vp_in a2 10 ∧ (vp_in x6_14 10 ∧ (vp_in a2 10 ∧ (vp_in x5_12 10 ∧ (vp_in a1 14 ∧ ((¬ ((gA S_19 21 (Int32.toNatClampNeg a2) (Int32.toNatClampNeg x6_14)) - (gA S_19 21 (Int32.toNatClampNeg a2) (Int32.toNatClampNeg x5_12))) = (gA S_19 17 0 (Int32.toNatClampNeg a1)) → J_20 S_19) ∧ (((gA S_19 21 (Int32.toNatClampNeg a2) (Int32.toNatClampNeg x6_14)) - (gA S_19 21 (Int32.toNatClampNeg a2) (Int32.toNatClampNeg x5_12))) = (gA S_19 17 0 (Int32.toNatClampNeg a1)) → wp_X2_judge d (a1 - 1) a2 a3 a4 S_19 (fun S_34 => Q S_34)))))))))))) ∧ ((¬ (gA S 19 (Int32.toNatClampNeg a2) (Int32.toNatClampNeg x5_12)) = (gA S 19 (Int32.toNatClampNeg a2) (Int32.toNatClampNeg x6_14)) → J_19 0 S) ∧ ((gA S 19 (Int32.toNatClampNeg a2) (Int32.toNatClampNeg x5_12)) = (gA S 19 (Int32.toNatClampNeg a2) (Int32.toNatClampNeg x6_14)) → J_19 1 S)))))))))))) ∧ (¬ a1 < 14 → J_2 S)))))) ∧ (¬ a4 < (gI S 14 0 9) → Q S))
set_option maxHeartbeats 4000000 in
set_option maxRecDepth 100000 in
theorem ct_X2_judge (l : Launch) (D : va_G) (cA : Nat → ClassId) (ad : Nat → Nat → Nat) : ∀ (d : Nat) (a1 : Int32) (a2 : Int32) (a3 : Int32) (a4 : Int32) (S : Sg) (Q : Sg → Prop) (hw : wp_X2_judge d a1 a2 a3 a4 S Q), CtV l yX2_judge wsX2_judge (mkR (d + 1) (60 + 27 * d)) D cA ad [.ref (ad 14 0), .int a1, .int a2, .int a3, .int a4] S Q := by
  intro d
  induction d with
  | zero => intro a1 a2 a3 a4 S Q hw; exact absurd hw (by unfold wp_X2_judge; exact id)
  | succ d ih =>
    intro a1 a2 a3 a4 S Q hw
    refine ct_ofV (cc := cX2_judge) (nL := 8) (by decide) rfl (Nat.le_of_ble_eq_true rfl) ?_
    intro p e s m args below meth c A Q C hret
    unfold wp_X2_judge at hw
    have C : Cx p s m args c cX2_judge 8 wsX2_judge RX2 D cA A := C
    have hin2 : ∀ w ∈ u_ws RX2 TX2 11, w ∈ wsX2_judge := fun w h => List.mem_cons_of_mem _ (List.mem_append_right _ h)
    have f49 : Cond.fieldLink RX2 49 "CreepBoard$Levels" "bestCount" "I" ∈ wsX2_judge := by decide +kernel
    have f46 : Cond.fieldLink RX2 46 "CreepBoard$Levels" "bestWrong" "I" ∈ wsX2_judge := by decide +kernel
    have f23 : Cond.fieldLink RX2 23 "CreepBoard$Levels" "group" "[[I" ∈ wsX2_judge := by decide +kernel
    have f29 : Cond.fieldLink RX2 29 "CreepBoard$Levels" "bestGroup" "[I" ∈ wsX2_judge := by decide +kernel
    have ac0 : Cond.methodLink RX2 56 arraycopyName ∈ wsX2_judge := by decide +kernel
    have ac1 : Cond.native arraycopyName ∈ wsX2_judge := by decide +kernel
    have ac2 : Cond.static arraycopyName ∈ wsX2_judge := by decide +kernel
    have ac3 : Cond.initialized "java/lang/System" ∈ wsX2_judge := by decide +kernel
    have f26 : Cond.fieldLink RX2 26 "CreepBoard$Levels" "level" "[[I" ∈ wsX2_judge := by decide +kernel
    have f32 : Cond.fieldLink RX2 32 "CreepBoard$Levels" "bestLevel" "[I" ∈ wsX2_judge := by decide +kernel
    have f9 : Cond.fieldLink RX2 9 "CreepBoard$Levels" "from" "[I" ∈ wsX2_judge := by decide +kernel
    have f15 : Cond.fieldLink RX2 15 "CreepBoard$Levels" "to" "[I" ∈ wsX2_judge := by decide +kernel
    have f18 : Cond.fieldLink RX2 18 "CreepBoard$Levels" "rise" "[I" ∈ wsX2_judge := by decide +kernel
    change KK p l e (mkR (d + 1 + 1) (60 + 27 * (d + 1))) s m args below meth c 8 D cA ad A Q 0 [(0, .ref (ad 14 0)), (1, .int a1), (2, .int a2), (3, .int a3), (4, .int a4)] [] S
    refine k_iload (pc := 0) C dX2_judge_0 4 rfl ?_
    refine k_aload_n (pc := 2) C dX2_judge_2 0 rfl rfl ?_
    refine k_get (j := 9) (pc := 3) C hin2 hm_14 (cel_14 cA ad S 0) rfl (by decide) f49 (fun _ h => h) rfl dX2_judge_3 ?_
    refine k_icmp_lt (pc := 6) C 10 dX2_judge_6 (by decide) (fun q_1 => ?_) (fun q_1 => ?_)
    · have hw := hw.1 q_1
      refine k_iload_n (pc := 10) C dX2_judge_10 1 rfl rfl ?_
      obtain ⟨J_2, hj_2, hw⟩ := hw
      have j_2 : ∀ (S_2 : Sg), J_2 S_2 → KK p l e (mkR (d + 1 + 1) (60 + 27 * (d + 1))) s m args below meth c 8 D cA ad A Q 20 [(0, .ref (ad 14 0)), (2, .int a2), (3, .int a3), (4, .int a4)] [] S_2 := by
        intro S_2 hw
        have hw := hj_2 S_2 hw
        refine k_aload_n (pc := 20) C dX2_judge_20 0 rfl rfl ?_
        refine k_iload (pc := 21) C dX2_judge_21 3 rfl ?_
        refine k_put (S' := uI S_2 14 0 9 a4) (j := 9) (ty := .int) (pc := 23) C hin2 tyX2 tyX2_ok nmX2 hm_14 (cel_14 cA ad S_2 0) rfl (by decide) f49 (fun _ h => h) rfl (by decide +kernel) rfl rfl (Nat.le_of_ble_eq_true rfl) rfl rfl (fun a b h => cel_uI h) dX2_judge_23 ?_
        refine k_nameS (fun S_3 eS_3 => ?_)
        have hw := hw S_3 eS_3
        refine k_aload_n (pc := 26) C dX2_judge_26 0 rfl rfl ?_
        refine k_iload_n (pc := 27) C dX2_judge_27 2 rfl rfl ?_
        refine k_put (S' := uI S_3 14 0 8 a3) (j := 8) (ty := .int) (pc := 28) C hin2 tyX2 tyX2_ok nmX2 hm_14 (cel_14 cA ad S_3 0) rfl (by decide) f46 (fun _ h => h) rfl (by decide +kernel) rfl rfl (Nat.le_of_ble_eq_true rfl) rfl rfl (fun a b h => cel_uI h) dX2_judge_28 ?_
        refine k_nameS (fun S_4 eS_4 => ?_)
        have hw := hw S_4 eS_4
        refine k_aload_n (pc := 31) C dX2_judge_31 0 rfl rfl ?_
        refine k_get (j := 4) (pc := 32) C hin2 hm_14 (cel_14 cA ad S_4 0) rfl (by decide) f23 (fun _ h => h) rfl dX2_judge_32 ?_
        refine k_iload_n (pc := 35) C dX2_judge_35 1 rfl rfl ?_
        obtain ⟨h_5, hw⟩ := hw
        refine k_aldg (pc := 36) C hm_18 (cel_18 cA ad S_4 0) h_5 dX2_judge_36 ?_
        refine k_iconst (v := 0) (pc := 37) C dX2_judge_37 (by decide) ?_
        refine k_aload_n (pc := 38) C dX2_judge_38 0 rfl rfl ?_
        refine k_get (j := 6) (pc := 39) C hin2 hm_14 (cel_14 cA ad S_4 0) rfl (by decide) f29 (fun _ h => h) rfl dX2_judge_39 ?_
        refine k_iconst (v := 0) (pc := 42) C dX2_judge_42 (by decide) ?_
        refine k_bipush (v := 10) (pc := 43) C dX2_judge_43 (by decide) ?_
        obtain ⟨⟨y1_6, y2_6, y3_6, y4_6, y5_6⟩, hw⟩ := hw
        refine k_copyi (pc := 45) C ac0 ac1 ac2 ac3 (ids_row (vp_lt h_5) (Or.inl rfl)) (cel_19 cA ad S_4 (Int32.toNatClampNeg a2)) hm_22 (fun S => cel_22 cA ad S 0) y1_6 y2_6 y3_6 y4_6 y5_6 ⟨by show 1 ≤ d + 1 + 1; omega, Nat.le_trans (m := 60) (Nat.le_of_ble_eq_true rfl) (by show 60 ≤ 60 + 27 * (d + 1); omega)⟩ dX2_judge_45 ?_
        refine k_nameS (fun S_6 eS_6 => ?_)
        have hw := hw S_6 eS_6
        refine k_aload_n (pc := 48) C dX2_judge_48 0 rfl rfl ?_
        refine k_get (j := 5) (pc := 49) C hin2 hm_14 (cel_14 cA ad S_6 0) rfl (by decide) f26 (fun _ h => h) rfl dX2_judge_49 ?_
        refine k_iload_n (pc := 52) C dX2_judge_52 1 rfl rfl ?_
        obtain ⟨h_7, hw⟩ := hw
        refine k_aldg (pc := 53) C hm_20 (cel_20 cA ad S_6 0) h_7 dX2_judge_53 ?_
        refine k_iconst (v := 0) (pc := 54) C dX2_judge_54 (by decide) ?_
        refine k_aload_n (pc := 55) C dX2_judge_55 0 rfl rfl ?_
        refine k_get (j := 7) (pc := 56) C hin2 hm_14 (cel_14 cA ad S_6 0) rfl (by decide) f32 (fun _ h => h) rfl dX2_judge_56 ?_
        refine k_iconst (v := 0) (pc := 59) C dX2_judge_59 (by decide) ?_
        refine k_bipush (v := 10) (pc := 60) C dX2_judge_60 (by decide) ?_
        obtain ⟨⟨y1_8, y2_8, y3_8, y4_8, y5_8⟩, hw⟩ := hw
        refine k_copyi (pc := 62) C ac0 ac1 ac2 ac3 (ids_row (vp_lt h_7) (Or.inr rfl)) (cel_21 cA ad S_6 (Int32.toNatClampNeg a2)) hm_23 (fun S => cel_23 cA ad S 0) y1_8 y2_8 y3_8 y4_8 y5_8 ⟨by show 1 ≤ d + 1 + 1; omega, Nat.le_trans (m := 60) (Nat.le_of_ble_eq_true rfl) (by show 60 ≤ 60 + 27 * (d + 1); omega)⟩ dX2_judge_62 ?_
        refine k_nameS (fun S_8 eS_8 => ?_)
        have hw := hw S_8 eS_8
        exact hret _ _ _ dX2_judge_65 hw
      refine k_if_lt (pc := 11) C 20 dX2_judge_11 (by decide) (fun q_9 => ?_) (fun q_9 => ?_)
      · have hw := hw.1 q_9
        refine k_sub [0, 2, 3, 4] [(0, .ref (ad 14 0)), (2, .int a2), (3, .int a3), (4, .int a4)] rfl ?_
        exact j_2 S hw
      · have hw := hw.2 q_9
        refine k_iload_n (pc := 14) C dX2_judge_14 1 rfl rfl ?_
        refine k_bipush (v := 14) (pc := 15) C dX2_judge_15 (by decide) ?_
        refine k_icmp_lt (pc := 17) C 66 dX2_judge_17 (by decide) (fun q_10 => ?_) (fun q_10 => ?_)
        · have hw := hw.1 q_10
          refine k_aload_n (pc := 66) C dX2_judge_66 0 rfl rfl ?_
          refine k_get (j := 0) (pc := 67) C hin2 hm_14 (cel_14 cA ad S 0) rfl (by decide) f9 (fun _ h => h) rfl dX2_judge_67 ?_
          refine k_iload_n (pc := 70) C dX2_judge_70 1 rfl rfl ?_
          obtain ⟨h_11, hw⟩ := hw
          refine k_iald (pc := 71) C hm_15 (cel_15 cA ad S 0) h_11 dX2_judge_71 ?_
          refine k_topi (fun x5_12 ex5_12 => ?_)
          have hw := hw x5_12 ex5_12
          refine k_istore (pc := 72) C dX2_judge_72 (by decide) [(5, .int x5_12), (0, .ref (ad 14 0)), (1, .int a1), (2, .int a2), (3, .int a3), (4, .int a4)] rfl ?_
          refine k_aload_n (pc := 74) C dX2_judge_74 1 rfl rfl ?_
          refine k_get (j := 1) (pc := 75) C hin2 hm_14 (cel_14 cA ad S 0) rfl (by decide) f15 (fun _ h => h) rfl dX2_judge_75 ?_
          refine k_iload_n (pc := 78) C dX2_judge_78 2 rfl rfl ?_
          obtain ⟨h_13, hw⟩ := hw
          refine k_iald (pc := 79) C hm_16 (cel_16 cA ad S 0) h_13 dX2_judge_79 ?_
          refine k_topi (fun x6_14 ex6_14 => ?_)
          have hw := hw x6_14 ex6_14
          refine k_istore (pc := 80) C dX2_judge_80 (by decide) [(6, .int x6_14), (5, .int x5_12), (0, .ref (ad 14 0)), (1, .int a1), (2, .int a2), (3, .int a3), (4, .int a4)] rfl ?_
          refine k_aload_n (pc := 82) C dX2_judge_82 2 rfl rfl ?_
          refine k_get (j := 4) (pc := 83) C hin2 hm_14 (cel_14 cA ad S 0) rfl (by decide) f23 (fun _ h => h) rfl dX2_judge_83 ?_
          refine k_iload_n (pc := 86) C dX2_judge_86 4 rfl rfl ?_
          obtain ⟨h_15, hw⟩ := hw
          refine k_aldg (pc := 87) C hm_18 (cel_18 cA ad S 0) h_15 dX2_judge_87 ?_
          refine k_iload (pc := 88) C dX2_judge_88 1 rfl ?_
          obtain ⟨h_16, hw⟩ := hw
          refine k_iald (pc := 90) C (ids_row (vp_lt h_15) (Or.inl rfl)) (cel_19 cA ad S (Int32.toNatClampNeg a2)) h_16 dX2_judge_90 ?_
          refine k_aload_n (pc := 91) C dX2_judge_91 2 rfl rfl ?_
          refine k_get (j := 4) (pc := 92) C hin2 hm_14 (cel_14 cA ad S 0) rfl (by decide) f23 (fun _ h => h) rfl dX2_judge_92 ?_
          refine k_iload_n (pc := 95) C dX2_judge_95 4 rfl rfl ?_
          obtain ⟨h_17, hw⟩ := hw
          refine k_aldg (pc := 96) C hm_18 (cel_18 cA ad S 0) h_17 dX2_judge_96 ?_
          refine k_iload (pc := 97) C dX2_judge_97 0 rfl ?_
          obtain ⟨h_18, hw⟩ := hw
          refine k_iald (pc := 99) C (ids_row (vp_lt h_17) (Or.inl rfl)) (cel_19 cA ad S (Int32.toNatClampNeg a2)) h_18 dX2_judge_99 ?_
          obtain ⟨J_19, hj_19, hw⟩ := hw
          have j_19 : ∀ (t0_19 : Int32) (S_19 : Sg), J_19 t0_19 S_19 → KK p l e (mkR (d + 1 + 1) (60 + 27 * (d + 1))) s m args below meth c 8 D cA ad A Q 108 [(0, .ref (ad 14 0)), (1, .int a1), (2, .int a2), (3, .int a3), (4, .int a4), (5, .int x5_12), (6, .int x6_14)] [.int t0_19] S_19 := by
            intro t0_19 S_19 hw
            have hw := hj_19 t0_19 S_19 hw
            refine k_istore (pc := 108) C dX2_judge_108 (by decide) [(7, .int t0_19), (0, .ref (ad 14 0)), (1, .int a1), (2, .int a2), (3, .int a3), (4, .int a4), (5, .int x5_12), (6, .int x6_14)] rfl ?_
            refine k_iload (pc := 110) C dX2_judge_110 0 rfl ?_
            obtain ⟨J_20, hj_20, hw⟩ := hw
            have j_20 : ∀ (S_20 : Sg), J_20 S_20 → KK p l e (mkR (d + 1 + 1) (60 + 27 * (d + 1))) s m args below meth c 8 D cA ad A Q 155 [(0, .ref (ad 14 0)), (1, .int a1), (2, .int a2), (3, .int a3), (4, .int a4), (7, .int t0_19)] [] S_20 := by
              intro S_20 hw
              have hw := hj_20 S_20 hw
              refine k_iload (pc := 155) C dX2_judge_155 5 rfl ?_
              obtain ⟨J_21, hj_21, hw⟩ := hw
              have j_21 : ∀ (S_21 : Sg), J_21 S_21 → KK p l e (mkR (d + 1 + 1) (60 + 27 * (d + 1))) s m args below meth c 8 D cA ad A Q 187 [(0, .ref (ad 14 0)), (1, .int a1), (2, .int a2), (3, .int a3), (4, .int a4)] [] S_21 := by
                intro S_21 hw
                have hw := hj_21 S_21 hw
                refine k_aload_n (pc := 187) C dX2_judge_187 0 rfl rfl ?_
                refine k_iload_n (pc := 188) C dX2_judge_188 1 rfl rfl ?_
                refine k_iconst (v := 1) (pc := 189) C dX2_judge_189 (by decide) ?_
                refine k_isub (pc := 190) C dX2_judge_190 ?_
                refine k_iload_n (pc := 191) C dX2_judge_191 2 rfl rfl ?_
                refine k_iload_n (pc := 192) C dX2_judge_192 3 rfl rfl ?_
                refine k_iconst (v := 1) (pc := 193) C dX2_judge_193 (by decide) ?_
                refine k_iload_n (pc := 194) C dX2_judge_194 1 rfl rfl ?_
                refine k_ishl (pc := 195) C dX2_judge_195 ?_
                refine k_ior (pc := 196) C dX2_judge_196 ?_
                refine k_iload (pc := 197) C dX2_judge_197 4 rfl ?_
                refine k_iconst (v := 1) (pc := 199) C dX2_judge_199 (by decide) ?_
                refine k_iadd (pc := 200) C dX2_judge_200 ?_
                refine k_afterV (pc := 201) C (wp_X2_judge d (a1 - 1) a2 (a3 ||| ((1 : Int32) <<< (a1 &&& 31))) (a4 + 1) S_21) hw (fun post hw => by
                    exact rn_V C (ih (a1 - 1) a2 (a3 ||| ((1 : Int32) <<< (a1 &&& 31))) (a4 + 1) S_21 post hw) (cwV 4 C.2.2.2.2.1 gX2_judge_X2_judge rfl rfl rfl (by decide +kernel) ⟨by show d + 1 + 1 ≤ d + 1 + 1; omega, by show 8 + (8 + 11) + (60 + 27 * d) ≤ 60 + 27 * (d + 1); omega⟩) hm_14 (cel_14 cA ad S_21 0) rfl rfl rfl rfl (Nat.le_of_ble_eq_true rfl) dX2_judge_201) (fun S_22 hw => ?_)
                exact hret _ _ _ dX2_judge_204 hw
              refine k_if_ne (pc := 157) C 187 dX2_judge_157 (by decide) (fun q_23 => ?_) (fun q_23 => ?_)
              · have hw := hw.1 q_23
                refine k_sub [0, 1, 2, 3, 4] [(0, .ref (ad 14 0)), (1, .int a1), (2, .int a2), (3, .int a3), (4, .int a4)] rfl ?_
                exact j_21 S_20 hw
              · have hw := hw.2 q_23
                refine k_iload_n (pc := 160) C dX2_judge_160 2 rfl rfl ?_
                refine k_iconst (v := 1) (pc := 161) C dX2_judge_161 (by decide) ?_
                refine k_iadd (pc := 162) C dX2_judge_162 ?_
                refine k_bipush (v := 10) (pc := 163) C dX2_judge_163 (by decide) ?_
                refine k_icmp_ge (pc := 165) C 187 dX2_judge_165 (by decide) (fun q_24 => ?_) (fun q_24 => ?_)
                · have hw := hw.1 q_24
                  refine k_sub [0, 1, 2, 3, 4] [(0, .ref (ad 14 0)), (1, .int a1), (2, .int a2), (3, .int a3), (4, .int a4)] rfl ?_
                  exact j_21 S_20 hw
                · have hw := hw.2 q_24
                  refine k_aload_n (pc := 168) C dX2_judge_168 0 rfl rfl ?_
                  refine k_iload_n (pc := 169) C dX2_judge_169 2 rfl rfl ?_
                  refine k_iload_n (pc := 170) C dX2_judge_170 1 rfl rfl ?_
                  refine k_afterV (pc := 171) C (wp_X2_join a2 a1 S_20) hw (fun post hw => by
                      exact rn_V C (ct_X2_join l D cA ad a2 a1 S_20 post hw) (cwV 2 C.2.2.2.2.1 gX2_judge_X2_join rfl rfl rfl (by decide +kernel) ⟨by show 0 + 1 ≤ d + 1 + 1; omega, by show 8 + (10 + 11) + (0) ≤ 60 + 27 * (d + 1); omega⟩) hm_14 (cel_14 cA ad S_20 0) rfl rfl rfl rfl (Nat.le_of_ble_eq_true rfl) dX2_judge_171) (fun S_25 hw => ?_)
                  refine k_aload_n (pc := 174) C dX2_judge_174 0 rfl rfl ?_
                  refine k_iload_n (pc := 175) C dX2_judge_175 1 rfl rfl ?_
                  refine k_iconst (v := 1) (pc := 176) C dX2_judge_176 (by decide) ?_
                  refine k_isub (pc := 177) C dX2_judge_177 ?_
                  refine k_iload_n (pc := 178) C dX2_judge_178 2 rfl rfl ?_
                  refine k_iconst (v := 1) (pc := 179) C dX2_judge_179 (by decide) ?_
                  refine k_iadd (pc := 180) C dX2_judge_180 ?_
                  refine k_iload_n (pc := 181) C dX2_judge_181 3 rfl rfl ?_
                  refine k_iload (pc := 182) C dX2_judge_182 4 rfl ?_
                  refine k_afterV (pc := 184) C (wp_X2_judge d (a1 - 1) (a2 + 1) a3 a4 S_25) hw (fun post hw => by
                      exact rn_V C (ih (a1 - 1) (a2 + 1) a3 a4 S_25 post hw) (cwV 4 C.2.2.2.2.1 gX2_judge_X2_judge rfl rfl rfl (by decide +kernel) ⟨by show d + 1 + 1 ≤ d + 1 + 1; omega, by show 8 + (8 + 11) + (60 + 27 * d) ≤ 60 + 27 * (d + 1); omega⟩) hm_14 (cel_14 cA ad S_25 0) rfl rfl rfl rfl (Nat.le_of_ble_eq_true rfl) dX2_judge_184) (fun S_26 hw => ?_)
                  refine k_sub [0, 1, 2, 3, 4] [(0, .ref (ad 14 0)), (1, .int a1), (2, .int a2), (3, .int a3), (4, .int a4)] rfl ?_
                  exact j_21 S_26 hw
            refine k_if_eq (pc := 112) C 155 dX2_judge_112 (by decide) (fun q_27 => ?_) (fun q_27 => ?_)
            · have hw := hw.1 q_27
              refine k_sub [1, 2, 3, 4, 5, 0] [(0, .ref (ad 14 0)), (1, .int a1), (2, .int a2), (3, .int a3), (4, .int a4), (7, .int t0_19)] rfl ?_
              exact j_20 S_19 hw
            · have hw := hw.2 q_27
              refine k_aload_n (pc := 115) C dX2_judge_115 1 rfl rfl ?_
              refine k_get (j := 5) (pc := 116) C hin2 hm_14 (cel_14 cA ad S_19 0) rfl (by decide) f26 (fun _ h => h) rfl dX2_judge_116 ?_
              refine k_iload_n (pc := 119) C dX2_judge_119 3 rfl rfl ?_
              obtain ⟨h_28, hw⟩ := hw
              refine k_aldg (pc := 120) C hm_20 (cel_20 cA ad S_19 0) h_28 dX2_judge_120 ?_
              refine k_iload (pc := 121) C dX2_judge_121 7 rfl ?_
              obtain ⟨h_29, hw⟩ := hw
              refine k_iald (pc := 123) C (ids_row (vp_lt h_28) (Or.inr rfl)) (cel_21 cA ad S_19 (Int32.toNatClampNeg a2)) h_29 dX2_judge_123 ?_
              refine k_aload_n (pc := 124) C dX2_judge_124 1 rfl rfl ?_
              refine k_get (j := 5) (pc := 125) C hin2 hm_14 (cel_14 cA ad S_19 0) rfl (by decide) f26 (fun _ h => h) rfl dX2_judge_125 ?_
              refine k_iload_n (pc := 128) C dX2_judge_128 3 rfl rfl ?_
              obtain ⟨h_30, hw⟩ := hw
              refine k_aldg (pc := 129) C hm_20 (cel_20 cA ad S_19 0) h_30 dX2_judge_129 ?_
              refine k_iload (pc := 130) C dX2_judge_130 6 rfl ?_
              obtain ⟨h_31, hw⟩ := hw
              refine k_iald (pc := 132) C (ids_row (vp_lt h_30) (Or.inr rfl)) (cel_21 cA ad S_19 (Int32.toNatClampNeg a2)) h_31 dX2_judge_132 ?_
              refine k_isub (pc := 133) C dX2_judge_133 ?_
              refine k_aload_n (pc := 134) C dX2_judge_134 1 rfl rfl ?_
              refine k_get (j := 2) (pc := 135) C hin2 hm_14 (cel_14 cA ad S_19 0) rfl (by decide) f18 (fun _ h => h) rfl dX2_judge_135 ?_
              refine k_iload_n (pc := 138) C dX2_judge_138 2 rfl rfl ?_
              obtain ⟨h_32, hw⟩ := hw
              refine k_iald (pc := 139) C hm_17 (cel_17 cA ad S_19 0) h_32 dX2_judge_139 ?_
              refine k_icmp_ne (pc := 140) C 155 dX2_judge_140 (by decide) (fun q_33 => ?_) (fun q_33 => ?_)
              · have hw := hw.1 q_33
                refine k_sub [1, 2, 3, 4, 5, 0] [(0, .ref (ad 14 0)), (1, .int a1), (2, .int a2), (3, .int a3), (4, .int a4), (7, .int t0_19)] rfl ?_
                exact j_20 S_19 hw
              · have hw := hw.2 q_33
                refine k_aload_n (pc := 143) C dX2_judge_143 1 rfl rfl ?_
                refine k_iload_n (pc := 144) C dX2_judge_144 2 rfl rfl ?_
                refine k_iconst (v := 1) (pc := 145) C dX2_judge_145 (by decide) ?_
                refine k_isub (pc := 146) C dX2_judge_146 ?_
                refine k_iload_n (pc := 147) C dX2_judge_147 3 rfl rfl ?_
                refine k_iload_n (pc := 148) C dX2_judge_148 4 rfl rfl ?_
                refine k_iload (pc := 149) C dX2_judge_149 5 rfl ?_
                refine k_afterV (pc := 151) C (wp_X2_judge d (a1 - 1) a2 a3 a4 S_19) hw (fun post hw => by
                    exact rn_V C (ih (a1 - 1) a2 a3 a4 S_19 post hw) (cwV 4 C.2.2.2.2.1 gX2_judge_X2_judge rfl rfl rfl (by decide +kernel) ⟨by show d + 1 + 1 ≤ d + 1 + 1; omega, by show 8 + (8 + 11) + (60 + 27 * d) ≤ 60 + 27 * (d + 1); omega⟩) hm_14 (cel_14 cA ad S_19 0) rfl rfl rfl rfl (Nat.le_of_ble_eq_true rfl) dX2_judge_151) (fun S_34 hw => ?_)
                exact hret _ _ _ dX2_judge_154 hw
          refine k_icmp_ne (pc := 100) C 107 dX2_judge_100 (by decide) (fun q_35 => ?_) (fun q_35 => ?_)
          · have hw := hw.1 q_35
            refine k_iconst (v := 0) (pc := 107) C dX2_judge_107 (by decide) ?_
            refine k_sub [2, 3, 4, 5, 6, 1, 0] [(0, .ref (ad 14 0)), (1, .int a1), (2, .int a2), (3, .int a3), (4, .int a4), (5, .int x5_12), (6, .int x6_14)] rfl ?_
            exact j_19 0 S hw
          · have hw := hw.2 q_35
            refine k_iconst (v := 1) (pc := 103) C dX2_judge_103 (by decide) ?_
            refine k_goto (pc := 104) C 108 dX2_judge_104 (by decide) ?_
            refine k_sub [2, 3, 4, 5, 6, 1, 0] [(0, .ref (ad 14 0)), (1, .int a1), (2, .int a2), (3, .int a3), (4, .int a4), (5, .int x5_12), (6, .int x6_14)] rfl ?_
            exact j_19 1 S hw
        · have hw := hw.2 q_10
          refine k_sub [0, 2, 3, 4] [(0, .ref (ad 14 0)), (2, .int a2), (3, .int a3), (4, .int a4)] rfl ?_
          exact j_2 S hw
    · have hw := hw.2 q_1
      exact hret _ _ _ dX2_judge_9 hw
def wp_X2_find (S : Sg) (Q : Sg → Prop) : Prop :=
  (((gI S 14 0 10) = 0 → (∃ (I_2 : Int32 → Sg → Prop) (μ_2 : Int32 → Sg → Nat), I_2 0 S ∧ ∀ (v1_2 : Int32) (S_2 : Sg), I_2 v1_2 S_2 → ((10 ≤ v1_2 → (∀ S_4 : Sg, S_4 = uI S_2 14 0 9 15 → wp_X2_judge 16 ((gI S_4 14 0 3) - 1) 0 0 0 S_4 (fun S_5 => (∀ S_6 : Sg, S_6 = uI S_5 14 0 10 1 → Q S_6)))) ∧ (¬ 10 ≤ v1_2 → (vp_in 0 10 ∧ (vp_in v1_2 10 ∧ (∀ S_9 : Sg, S_9 = uA S_2 19 (Int32.toNatClampNeg 0) (Int32.toNatClampNeg v1_2) v1_2 → (vp_in 0 10 ∧ (vp_in v1_2 10 ∧ (∀ S_12 : Sg, S_12 = uA S_9 21 (Int32.toNatClampNeg 0) (Int32.toNatClampNeg v1_2) 0 → (∀ x1_13 : Int32, x1_13 = v1_2 + 1 → (I_2 x1_13 S_12 ∧ μ_2 x1_13 S_12 < μ_2 v1_2 S_2)))))))))))) ∧ (¬ (gI S 14 0 10) = 0 → Q S))
set_option maxHeartbeats 4000000 in
set_option maxRecDepth 100000 in
theorem ct_X2_find (l : Launch) (D : va_G) (cA : Nat → ClassId) (ad : Nat → Nat → Nat) (S : Sg) (Q : Sg → Prop) (hw : wp_X2_find  S Q) : CtV l yX2_find wsX2_find (mkR 18 519) D cA ad [.ref (ad 14 0)] S Q := by
  refine ct_ofV (cc := cX2_find) (nL := 2) (by decide) rfl (Nat.le_of_ble_eq_true rfl) ?_
  intro p e s m args below meth c A Q C hret
  unfold wp_X2_find at hw
  have C : Cx p s m args c cX2_find 2 wsX2_find RX2 D cA A := C
  have hin2 : ∀ w ∈ u_ws RX2 TX2 11, w ∈ wsX2_find := fun w h => List.mem_cons_of_mem _ (List.mem_append_right _ h)
  have f39 : Cond.fieldLink RX2 39 "CreepBoard$Levels" "known" "Z" ∈ wsX2_find := by decide +kernel
  have f49 : Cond.fieldLink RX2 49 "CreepBoard$Levels" "bestCount" "I" ∈ wsX2_find := by decide +kernel
  have f35 : Cond.fieldLink RX2 35 "CreepBoard$Levels" "lineCount" "I" ∈ wsX2_find := by decide +kernel
  have f23 : Cond.fieldLink RX2 23 "CreepBoard$Levels" "group" "[[I" ∈ wsX2_find := by decide +kernel
  have f26 : Cond.fieldLink RX2 26 "CreepBoard$Levels" "level" "[[I" ∈ wsX2_find := by decide +kernel
  change KK p l e (mkR 18 519) s m args below meth c 2 D cA ad A Q 0 [(0, .ref (ad 14 0))] [] S
  refine k_aload_n (pc := 0) C dX2_find_0 0 rfl rfl ?_
  refine k_get (j := 10) (pc := 1) C hin2 hm_14 (cel_14 cA ad S 0) rfl (by decide) f39 (fun _ h => h) rfl dX2_find_1 ?_
  refine k_if_eq (pc := 4) C 8 dX2_find_4 (by decide) (fun q_1 => ?_) (fun q_1 => ?_)
  · have hw := hw.1 q_1
    refine k_iconst (v := 0) (pc := 8) C dX2_find_8 (by decide) ?_
    refine k_istore_n (pc := 9) C dX2_find_9 rfl (by decide) [(1, .int 0), (0, .ref (ad 14 0))] rfl ?_
    refine k_sub [1, 0] [(0, .ref (ad 14 0)), (1, .int 0)] rfl ?_
    obtain ⟨I_2, μ_2, hi_2, hw⟩ := hw
    have L_2 : ∀ (n : Nat) (v1_2 : Int32) (S_2 : Sg), μ_2 v1_2 S_2 < n → I_2 v1_2 S_2 → KK p l e (mkR 18 519) s m args below meth c 2 D cA ad A Q 10 [(0, .ref (ad 14 0)), (1, .int v1_2)] [] S_2 := by
      intro n
      induction n with
      | zero => intro v1_2 S_2 h; exact absurd h (Nat.not_lt_zero _)
      | succ n ih_2 =>
        intro v1_2 S_2 hn_2 hi_2
        have hw := hw v1_2 S_2 hi_2
        refine k_iload_n (pc := 10) C dX2_find_10 1 rfl rfl ?_
        refine k_bipush (v := 10) (pc := 11) C dX2_find_11 (by decide) ?_
        refine k_icmp_ge (pc := 13) C 40 dX2_find_13 (by decide) (fun q_3 => ?_) (fun q_3 => ?_)
        · have hw := hw.1 q_3
          refine k_aload_n (pc := 40) C dX2_find_40 0 rfl rfl ?_
          refine k_bipush (v := 15) (pc := 41) C dX2_find_41 (by decide) ?_
          refine k_put (S' := uI S_2 14 0 9 15) (j := 9) (ty := .int) (pc := 43) C hin2 tyX2 tyX2_ok nmX2 hm_14 (cel_14 cA ad S_2 0) rfl (by decide) f49 (fun _ h => h) rfl (by decide +kernel) rfl rfl (Nat.le_of_ble_eq_true rfl) rfl rfl (fun a b h => cel_uI h) dX2_find_43 ?_
          refine k_nameS (fun S_4 eS_4 => ?_)
          have hw := hw S_4 eS_4
          refine k_aload_n (pc := 46) C dX2_find_46 0 rfl rfl ?_
          refine k_aload_n (pc := 47) C dX2_find_47 0 rfl rfl ?_
          refine k_get (j := 3) (pc := 48) C hin2 hm_14 (cel_14 cA ad S_4 0) rfl (by decide) f35 (fun _ h => h) rfl dX2_find_48 ?_
          refine k_iconst (v := 1) (pc := 51) C dX2_find_51 (by decide) ?_
          refine k_isub (pc := 52) C dX2_find_52 ?_
          refine k_iconst (v := 0) (pc := 53) C dX2_find_53 (by decide) ?_
          refine k_iconst (v := 0) (pc := 54) C dX2_find_54 (by decide) ?_
          refine k_iconst (v := 0) (pc := 55) C dX2_find_55 (by decide) ?_
          refine k_afterV (pc := 56) C (wp_X2_judge 16 ((gI S_4 14 0 3) - 1) 0 0 0 S_4) hw (fun post hw => by
              exact rn_V C (ct_X2_judge l D cA ad 16 ((gI S_4 14 0 3) - 1) 0 0 0 S_4 post hw) (cwV 4 C.2.2.2.2.1 gX2_find_X2_judge rfl rfl rfl (by decide +kernel) ⟨Nat.le_of_ble_eq_true rfl, Nat.le_of_ble_eq_true rfl⟩) hm_14 (cel_14 cA ad S_4 0) rfl rfl rfl rfl (Nat.le_of_ble_eq_true rfl) dX2_find_56) (fun S_5 hw => ?_)
          refine k_aload_n (pc := 59) C dX2_find_59 0 rfl rfl ?_
          refine k_iconst (v := 1) (pc := 60) C dX2_find_60 (by decide) ?_
          refine k_put (S' := uI S_5 14 0 10 1) (j := 10) (ty := .boolean) (pc := 61) C hin2 tyX2 tyX2_ok nmX2 hm_14 (cel_14 cA ad S_5 0) rfl (by decide) f39 (fun _ h => h) rfl (by decide +kernel) rfl rfl (Nat.le_of_ble_eq_true rfl) rfl rfl (fun a b h => cel_uI h) dX2_find_61 ?_
          refine k_nameS (fun S_6 eS_6 => ?_)
          have hw := hw S_6 eS_6
          exact hret _ _ _ dX2_find_64 hw
        · have hw := hw.2 q_3
          refine k_aload_n (pc := 16) C dX2_find_16 0 rfl rfl ?_
          refine k_get (j := 4) (pc := 17) C hin2 hm_14 (cel_14 cA ad S_2 0) rfl (by decide) f23 (fun _ h => h) rfl dX2_find_17 ?_
          refine k_iconst (v := 0) (pc := 20) C dX2_find_20 (by decide) ?_
          obtain ⟨h_7, hw⟩ := hw
          refine k_aldg (pc := 21) C hm_18 (cel_18 cA ad S_2 0) h_7 dX2_find_21 ?_
          refine k_iload_n (pc := 22) C dX2_find_22 1 rfl rfl ?_
          refine k_iload_n (pc := 23) C dX2_find_23 1 rfl rfl ?_
          obtain ⟨h_8, hw⟩ := hw
          refine k_iast (pc := 24) C (ids_row (vp_lt h_7) (Or.inl rfl)) (fun S => cel_19 cA ad S (Int32.toNatClampNeg 0)) h_8 dX2_find_24 ?_
          refine k_nameS (fun S_9 eS_9 => ?_)
          have hw := hw S_9 eS_9
          refine k_aload_n (pc := 25) C dX2_find_25 0 rfl rfl ?_
          refine k_get (j := 5) (pc := 26) C hin2 hm_14 (cel_14 cA ad S_9 0) rfl (by decide) f26 (fun _ h => h) rfl dX2_find_26 ?_
          refine k_iconst (v := 0) (pc := 29) C dX2_find_29 (by decide) ?_
          obtain ⟨h_10, hw⟩ := hw
          refine k_aldg (pc := 30) C hm_20 (cel_20 cA ad S_9 0) h_10 dX2_find_30 ?_
          refine k_iload_n (pc := 31) C dX2_find_31 1 rfl rfl ?_
          refine k_iconst (v := 0) (pc := 32) C dX2_find_32 (by decide) ?_
          obtain ⟨h_11, hw⟩ := hw
          refine k_iast (pc := 33) C (ids_row (vp_lt h_10) (Or.inr rfl)) (fun S => cel_21 cA ad S (Int32.toNatClampNeg 0)) h_11 dX2_find_33 ?_
          refine k_nameS (fun S_12 eS_12 => ?_)
          have hw := hw S_12 eS_12
          obtain ⟨x1_13, ex1_13⟩ : ∃ y : Int32, y = v1_2 + 1 := ⟨_, rfl⟩
          have hw := hw x1_13 ex1_13
          refine k_iinc (v := x1_13) (j := 1) (pc := 34) C dX2_find_34 rfl (by rw [ex1_13]; rfl) (by decide) [(1, .int x1_13), (0, .ref (ad 14 0))] rfl ?_
          refine k_goto (pc := 37) C 10 dX2_find_37 (by decide) ?_
          refine k_sub [1, 0] [(0, .ref (ad 14 0)), (1, .int x1_13)] rfl ?_
          exact ih_2 x1_13 S_12 (Nat.lt_of_lt_of_le hw.2 (Nat.le_of_lt_succ hn_2)) hw.1
    exact L_2 (μ_2 0 S + 1) 0 S (Nat.lt_succ_self _) hi_2
  · have hw := hw.2 q_1
    exact hret _ _ _ dX2_find_7 hw
def wp_X2_wrongLines (S : Sg) (Q : Int32 → Sg → Prop) : Prop :=
  wp_X2_find S (fun S_1 => Q (gI S_1 14 0 8) S_1)
set_option maxHeartbeats 4000000 in
set_option maxRecDepth 100000 in
theorem ct_X2_wrongLines (l : Launch) (D : va_G) (cA : Nat → ClassId) (ad : Nat → Nat → Nat) (S : Sg) (Q : Int32 → Sg → Prop) (hw : wp_X2_wrongLines  S Q) : CtI l yX2_wrongLines wsX2_wrongLines (mkR 19 540) D cA ad [.ref (ad 14 0)] S Q := by
  refine ct_ofI (cc := cX2_wrongLines) (nL := 1) (by decide) rfl (Nat.le_of_ble_eq_true rfl) ?_
  intro p e s m args below meth c A Q C hret
  unfold wp_X2_wrongLines at hw
  have C : Cx p s m args c cX2_wrongLines 1 wsX2_wrongLines RX2 D cA A := C
  have hin2 : ∀ w ∈ u_ws RX2 TX2 11, w ∈ wsX2_wrongLines := fun w h => List.mem_cons_of_mem _ (List.mem_append_right _ h)
  have f46 : Cond.fieldLink RX2 46 "CreepBoard$Levels" "bestWrong" "I" ∈ wsX2_wrongLines := by decide +kernel
  change KK p l e (mkR 19 540) s m args below meth c 1 D cA ad A Q 0 [(0, .ref (ad 14 0))] [] S
  refine k_aload_n (pc := 0) C dX2_wrongLines_0 0 rfl rfl ?_
  refine k_afterV (pc := 1) C (wp_X2_find S) hw (fun post hw => by
      exact rn_V C (ct_X2_find l D cA ad S post hw) (cwV 0 C.2.2.2.2.1 gX2_wrongLines_X2_find rfl rfl rfl (by decide +kernel) ⟨Nat.le_of_ble_eq_true rfl, Nat.le_of_ble_eq_true rfl⟩) hm_14 (cel_14 cA ad S 0) rfl rfl rfl rfl (Nat.le_of_ble_eq_true rfl) dX2_wrongLines_1) (fun S_1 hw => ?_)
  refine k_aload_n (pc := 4) C dX2_wrongLines_4 0 rfl rfl ?_
  refine k_get (j := 8) (pc := 5) C hin2 hm_14 (cel_14 cA ad S_1 0) rfl (by decide) f46 (fun _ h => h) rfl dX2_wrongLines_5 ?_
  exact hret _ _ _ _ dX2_wrongLines_8 hw
def wp_X2_leadsTo (a1 : Int32) (S : Sg) (Q : Int32 → Sg → Prop) : Prop :=
  wp_X2_find S (fun S_1 => (vp_in a1 10 ∧ (vp_in 0 10 ∧ ((¬ (gA S_1 22 0 (Int32.toNatClampNeg a1)) = (gA S_1 22 0 (Int32.toNatClampNeg 0)) → Q 0 S_1) ∧ ((gA S_1 22 0 (Int32.toNatClampNeg a1)) = (gA S_1 22 0 (Int32.toNatClampNeg 0)) → Q 1 S_1)))))
set_option maxHeartbeats 4000000 in
set_option maxRecDepth 100000 in
theorem ct_X2_leadsTo (l : Launch) (D : va_G) (cA : Nat → ClassId) (ad : Nat → Nat → Nat) (a1 : Int32) (S : Sg) (Q : Int32 → Sg → Prop) (hw : wp_X2_leadsTo a1 S Q) : CtI l yX2_leadsTo wsX2_leadsTo (mkR 19 540) D cA ad [.ref (ad 14 0), .int a1] S Q := by
  refine ct_ofZ (cc := cX2_leadsTo) (nL := 2) (by decide) rfl (Nat.le_of_ble_eq_true rfl) ?_
  intro p e s m args below meth c A Q C hret
  unfold wp_X2_leadsTo at hw
  have C : Cx p s m args c cX2_leadsTo 2 wsX2_leadsTo RX2 D cA A := C
  have hin2 : ∀ w ∈ u_ws RX2 TX2 11, w ∈ wsX2_leadsTo := fun w h => List.mem_cons_of_mem _ (List.mem_append_right _ h)
  have f29 : Cond.fieldLink RX2 29 "CreepBoard$Levels" "bestGroup" "[I" ∈ wsX2_leadsTo := by decide +kernel
  change KK p l e (mkR 19 540) s m args below meth c 2 D cA ad A Q 0 [(0, .ref (ad 14 0)), (1, .int a1)] [] S
  refine k_aload_n (pc := 0) C dX2_leadsTo_0 0 rfl rfl ?_
  refine k_afterV (pc := 1) C (wp_X2_find S) hw (fun post hw => by
      exact rn_V C (ct_X2_find l D cA ad S post hw) (cwV 0 C.2.2.2.2.1 gX2_leadsTo_X2_find rfl rfl rfl (by decide +kernel) ⟨Nat.le_of_ble_eq_true rfl, Nat.le_of_ble_eq_true rfl⟩) hm_14 (cel_14 cA ad S 0) rfl rfl rfl rfl (Nat.le_of_ble_eq_true rfl) dX2_leadsTo_1) (fun S_1 hw => ?_)
  refine k_aload_n (pc := 4) C dX2_leadsTo_4 0 rfl rfl ?_
  refine k_get (j := 6) (pc := 5) C hin2 hm_14 (cel_14 cA ad S_1 0) rfl (by decide) f29 (fun _ h => h) rfl dX2_leadsTo_5 ?_
  refine k_iload_n (pc := 8) C dX2_leadsTo_8 1 rfl rfl ?_
  obtain ⟨h_2, hw⟩ := hw
  refine k_iald (pc := 9) C hm_22 (cel_22 cA ad S_1 0) h_2 dX2_leadsTo_9 ?_
  refine k_aload_n (pc := 10) C dX2_leadsTo_10 0 rfl rfl ?_
  refine k_get (j := 6) (pc := 11) C hin2 hm_14 (cel_14 cA ad S_1 0) rfl (by decide) f29 (fun _ h => h) rfl dX2_leadsTo_11 ?_
  refine k_iconst (v := 0) (pc := 14) C dX2_leadsTo_14 (by decide) ?_
  obtain ⟨h_3, hw⟩ := hw
  refine k_iald (pc := 15) C hm_22 (cel_22 cA ad S_1 0) h_3 dX2_leadsTo_15 ?_
  refine k_icmp_ne (pc := 16) C 23 dX2_leadsTo_16 (by decide) (fun q_4 => ?_) (fun q_4 => ?_)
  · have hw := hw.1 q_4
    refine k_iconst (v := 0) (pc := 23) C dX2_leadsTo_23 (by decide) ?_
    exact hret _ _ _ _ dX2_leadsTo_24 rfl hw
  · have hw := hw.2 q_4
    refine k_iconst (v := 1) (pc := 19) C dX2_leadsTo_19 (by decide) ?_
    refine k_goto (pc := 20) C 24 dX2_leadsTo_20 (by decide) ?_
    exact hret _ _ _ _ dX2_leadsTo_24 rfl hw
def wp_X2_heightOf (a1 : Int32) (S : Sg) (Q : Int64 → Sg → Prop) : Prop :=
  wp_X2_find S (fun S_1 => (vp_in a1 10 ∧ (vp_in 0 10 ∧ Q ((Int32.toInt64 (gA S_1 23 0 (Int32.toNatClampNeg a1))) - (Int32.toInt64 (gA S_1 23 0 (Int32.toNatClampNeg 0)))) S_1)))
set_option maxHeartbeats 4000000 in
set_option maxRecDepth 100000 in
theorem ct_X2_heightOf (l : Launch) (D : va_G) (cA : Nat → ClassId) (ad : Nat → Nat → Nat) (a1 : Int32) (S : Sg) (Q : Int64 → Sg → Prop) (hw : wp_X2_heightOf a1 S Q) : CtL l yX2_heightOf wsX2_heightOf (mkR 19 540) D cA ad [.ref (ad 14 0), .int a1] S Q := by
  refine ct_ofL (cc := cX2_heightOf) (nL := 2) (by decide) rfl (Nat.le_of_ble_eq_true rfl) ?_
  intro p e s m args below meth c A Q C hret
  unfold wp_X2_heightOf at hw
  have C : Cx p s m args c cX2_heightOf 2 wsX2_heightOf RX2 D cA A := C
  have hin2 : ∀ w ∈ u_ws RX2 TX2 11, w ∈ wsX2_heightOf := fun w h => List.mem_cons_of_mem _ (List.mem_append_right _ h)
  have f32 : Cond.fieldLink RX2 32 "CreepBoard$Levels" "bestLevel" "[I" ∈ wsX2_heightOf := by decide +kernel
  change KK p l e (mkR 19 540) s m args below meth c 2 D cA ad A Q 0 [(0, .ref (ad 14 0)), (1, .int a1)] [] S
  refine k_aload_n (pc := 0) C dX2_heightOf_0 0 rfl rfl ?_
  refine k_afterV (pc := 1) C (wp_X2_find S) hw (fun post hw => by
      exact rn_V C (ct_X2_find l D cA ad S post hw) (cwV 0 C.2.2.2.2.1 gX2_heightOf_X2_find rfl rfl rfl (by decide +kernel) ⟨Nat.le_of_ble_eq_true rfl, Nat.le_of_ble_eq_true rfl⟩) hm_14 (cel_14 cA ad S 0) rfl rfl rfl rfl (Nat.le_of_ble_eq_true rfl) dX2_heightOf_1) (fun S_1 hw => ?_)
  refine k_aload_n (pc := 4) C dX2_heightOf_4 0 rfl rfl ?_
  refine k_get (j := 7) (pc := 5) C hin2 hm_14 (cel_14 cA ad S_1 0) rfl (by decide) f32 (fun _ h => h) rfl dX2_heightOf_5 ?_
  refine k_iload_n (pc := 8) C dX2_heightOf_8 1 rfl rfl ?_
  obtain ⟨h_2, hw⟩ := hw
  refine k_iald (pc := 9) C hm_23 (cel_23 cA ad S_1 0) h_2 dX2_heightOf_9 ?_
  refine k_i2l (pc := 10) C dX2_heightOf_10 ?_
  refine k_aload_n (pc := 11) C dX2_heightOf_11 0 rfl rfl ?_
  refine k_get (j := 7) (pc := 12) C hin2 hm_14 (cel_14 cA ad S_1 0) rfl (by decide) f32 (fun _ h => h) rfl dX2_heightOf_12 ?_
  refine k_iconst (v := 0) (pc := 15) C dX2_heightOf_15 (by decide) ?_
  obtain ⟨h_3, hw⟩ := hw
  refine k_iald (pc := 16) C hm_23 (cel_23 cA ad S_1 0) h_3 dX2_heightOf_16 ?_
  refine k_i2l (pc := 17) C dX2_heightOf_17 ?_
  refine k_lsub (pc := 18) C dX2_heightOf_18 ?_
  exact hret _ _ _ _ dX2_heightOf_19 hw
def wp_X9_wrong (a1 : Int32) (S : Sg) (Q : Int32 → Sg → Prop) : Prop :=
  ((a1 < 0 → Q (-1) S) ∧ (¬ a1 < 0 → ((a1 ≤ 1 → wp_X2_wrongLines S (fun r_3 S_3 => ((¬ a1 = 0 → Q r_3 S_3) ∧ (a1 = 0 → wp_J6_bitCount_0f7a4 r_3 S_3 (fun r_5 S_5 => Q r_5 S_5))))) ∧ (¬ a1 ≤ 1 → Q (-1) S))))
set_option maxHeartbeats 4000000 in
set_option maxRecDepth 100000 in
theorem ct_X9_wrong (l : Launch) (D : va_G) (cA : Nat → ClassId) (ad : Nat → Nat → Nat) (a1 : Int32) (S : Sg) (Q : Int32 → Sg → Prop) (hw : wp_X9_wrong a1 S Q) : CtI l yX9_wrong wsX9_wrong (mkR 20 560) D cA ad [.ref (ad 0 0), .int a1] S Q := by
  refine ct_ofI (cc := cX9_wrong) (nL := 3) (by decide) rfl (Nat.le_of_ble_eq_true rfl) ?_
  intro p e s m args below meth c A Q C hret
  unfold wp_X9_wrong at hw
  have C : Cx p s m args c cX9_wrong 3 wsX9_wrong RX9 D cA A := C
  have hin9 : ∀ w ∈ u_ws RX9 TX9 8, w ∈ wsX9_wrong := fun w h => List.mem_cons_of_mem _ (List.mem_append_left _ (List.mem_append_right _ h))
  have f39 : Cond.fieldLink RX9 39 "CreepBoard" "levels" "LCreepBoard$Levels;" ∈ wsX9_wrong := by decide +kernel
  change KK p l e (mkR 20 560) s m args below meth c 3 D cA ad A Q 0 [(0, .ref (ad 0 0)), (1, .int a1)] [] S
  refine k_iload_n (pc := 0) C dX9_wrong_0 1 rfl rfl ?_
  refine k_if_lt (pc := 1) C 9 dX9_wrong_1 (by decide) (fun q_1 => ?_) (fun q_1 => ?_)
  · have hw := hw.1 q_1
    refine k_iconst (v := (-1)) (pc := 9) C dX9_wrong_9 (by decide) ?_
    exact hret _ _ _ _ dX9_wrong_10 hw
  · have hw := hw.2 q_1
    refine k_iload_n (pc := 4) C dX9_wrong_4 1 rfl rfl ?_
    refine k_iconst (v := 1) (pc := 5) C dX9_wrong_5 (by decide) ?_
    refine k_icmp_le (pc := 6) C 11 dX9_wrong_6 (by decide) (fun q_2 => ?_) (fun q_2 => ?_)
    · have hw := hw.1 q_2
      refine k_aload_n (pc := 11) C dX9_wrong_11 0 rfl rfl ?_
      refine k_get (j := 4) (pc := 12) C hin9 hm_0 (cel_0 cA ad S 0) rfl (by decide) f39 (fun _ h => h) rfl dX9_wrong_12 ?_
      refine k_afterI (pc := 15) C (wp_X2_wrongLines S) hw (fun post hw => by
          exact rn_V C (ct_X2_wrongLines l D cA ad S post hw) (cwV 0 C.2.2.2.2.1 gX9_wrong_X2_wrongLines rfl rfl rfl (by decide +kernel) ⟨Nat.le_of_ble_eq_true rfl, Nat.le_of_ble_eq_true rfl⟩) hm_14 (cel_14 cA ad S 0) rfl rfl rfl rfl (Nat.le_of_ble_eq_true rfl) dX9_wrong_15) (fun r_3 S_3 hw => ?_)
      refine k_istore_n (pc := 18) C dX9_wrong_18 rfl (by decide) [(2, .int r_3), (0, .ref (ad 0 0)), (1, .int a1)] rfl ?_
      refine k_iload_n (pc := 19) C dX9_wrong_19 2 rfl rfl ?_
      refine k_if_ne (pc := 20) C 30 dX9_wrong_20 (by decide) (fun q_4 => ?_) (fun q_4 => ?_)
      · have hw := hw.1 q_4
        refine k_iload_n (pc := 30) C dX9_wrong_30 0 rfl rfl ?_
        exact hret _ _ _ _ dX9_wrong_31 hw
      · have hw := hw.2 q_4
        refine k_iload_n (pc := 23) C dX9_wrong_23 0 rfl rfl ?_
        refine k_afterI (pc := 24) C (wp_J6_bitCount_0f7a4 r_3 S_3) hw (fun post hw => by
            exact rn_S C (ct_J6_bitCount_0f7a4 l D cA ad r_3 S_3 post hw) (va_cwS 1 C.2.2.2.2.1 gX9_wrong_J6_bitCount_0f7a4 rfl rfl rfl (by decide +kernel) ⟨Nat.le_of_ble_eq_true rfl, Nat.le_of_ble_eq_true rfl⟩) rfl rfl (Nat.le_of_ble_eq_true rfl) dX9_wrong_24) (fun r_5 S_5 hw => ?_)
        refine k_goto (pc := 27) C 31 dX9_wrong_27 (by decide) ?_
        exact hret _ _ _ _ dX9_wrong_31 hw
    · have hw := hw.2 q_2
      refine k_iconst (v := (-1)) (pc := 9) C dX9_wrong_9 (by decide) ?_
      exact hret _ _ _ _ dX9_wrong_10 hw
