def wp_X0_tellFewest (a1 : Int32) (S : Sg) (Q : Sg → Prop) : Prop :=
  (∀ x2_1 : Int32, x2_1 = (a1 &&& (-a1)) → (∀ x3_2 : Int32, x3_2 = (a1 ^^^ x2_1) → wp_J6_bitCount_0f7a4 x3_2 S (fun r_3 S_3 => (∀ x4_4 : Int32, x4_4 = ((1 : Int32) <<< (r_3 &&& 31)) → (∃ (I_5 : Int32 → Int32 → Int32 → Sg → Prop) (μ_5 : Int32 → Int32 → Int32 → Sg → Nat), I_5 0 11 0 S_3 ∧ ∀ (v5_5 : Int32) (v6_5 : Int32) (v7_5 : Int32) (S_5 : Sg), I_5 v5_5 v6_5 v7_5 S_5 → ((x4_4 ≤ v7_5 → (vp_in a1 1024 ∧ (∀ S_8 : Sg, S_8 = uA S_5 8 0 (Int32.toNatClampNeg a1) v6_5 → Q S_8))) ∧ (¬ x4_4 ≤ v7_5 → (∀ x8_9 : Int32, x8_9 = (v5_5 ||| x2_1) → (vp_in x8_9 1024 ∧ (((gA S_5 7 0 (Int32.toNatClampNeg x8_9)) = 0 → (∀ x5_12 : Int32, x5_12 = ((v5_5 - x3_2) &&& x3_2) → (∀ x7_13 : Int32, x7_13 = v7_5 + 1 → (I_5 x5_12 v6_5 x7_13 S_5 ∧ μ_5 x5_12 v6_5 x7_13 S_5 < μ_5 v5_5 v6_5 v7_5 S_5)))) ∧ (¬ (gA S_5 7 0 (Int32.toNatClampNeg x8_9)) = 0 → (vp_in (a1 ^^^ x8_9) 1024 ∧ ((v6_5 ≤ ((gA S_5 8 0 (Int32.toNatClampNeg (a1 ^^^ x8_9))) + 1) → (∀ x5_16 : Int32, x5_16 = ((v5_5 - x3_2) &&& x3_2) → (∀ x7_17 : Int32, x7_17 = v7_5 + 1 → (I_5 x5_16 v6_5 x7_17 S_5 ∧ μ_5 x5_16 v6_5 x7_17 S_5 < μ_5 v5_5 v6_5 v7_5 S_5)))) ∧ (¬ v6_5 ≤ ((gA S_5 8 0 (Int32.toNatClampNeg (a1 ^^^ x8_9))) + 1) → (vp_in (a1 ^^^ x8_9) 1024 ∧ (∀ x6_19 : Int32, x6_19 = ((gA S_5 8 0 (Int32.toNatClampNeg (a1 ^^^ x8_9))) + 1) → (vp_in a1 1024 ∧ (∀ S_21 : Sg, S_21 = uA S_5 9 0 (Int32.toNatClampNeg a1) x8_9 → (∀ x5_22 : Int32, x5_22 = ((v5_5 - x3_2) &&& x3_2) → (∀ x7_23 : Int32, x7_23 = v7_5 + 1 → (I_5 x5_22 x6_19 x7_23 S_21 ∧ μ_5 x5_22 x6_19 x7_23 S_21 < μ_5 v5_5 v6_5 v7_5 S_5)))))))))))))))))))))
set_option maxHeartbeats 4000000 in
set_option maxRecDepth 100000 in
theorem ct_X0_tellFewest (l : Launch) (D : va_G) (cA : Nat → ClassId) (ad : Nat → Nat → Nat) (a1 : Int32) (S : Sg) (Q : Sg → Prop) (hw : wp_X0_tellFewest a1 S Q) : CtV l yX0_tellFewest wsX0_tellFewest (mkR 1 20) D cA ad [.ref (ad 6 0), .int a1] S Q := by
  refine ct_ofV (cc := cX0_tellFewest) (nL := 9) (by decide) rfl (Nat.le_of_ble_eq_true rfl) ?_
  intro p e s m args below meth c A Q C hret
  unfold wp_X0_tellFewest at hw
  have C : Cx p s m args c cX0_tellFewest 9 wsX0_tellFewest RX0 D cA A := C
  have hin0 : ∀ w ∈ u_ws RX0 TX0 6, w ∈ wsX0_tellFewest := fun w h => List.mem_cons_of_mem _ (List.mem_append_right _ h)
  have f15 : Cond.fieldLink RX0 15 "CreepBoard$BlockFinder" "fewest" "[I" ∈ wsX0_tellFewest := by decide +kernel
  have f9 : Cond.fieldLink RX0 9 "CreepBoard$BlockFinder" "turns" "[Z" ∈ wsX0_tellFewest := by decide +kernel
  have f19 : Cond.fieldLink RX0 19 "CreepBoard$BlockFinder" "leastBlock" "[I" ∈ wsX0_tellFewest := by decide +kernel
  change KK p l e (mkR 1 20) s m args below meth c 9 D cA ad A Q 0 [(0, .ref (ad 6 0)), (1, .int a1)] [] S
  refine k_iload_n (pc := 0) C dX0_tellFewest_0 1 rfl rfl ?_
  refine k_iload_n (pc := 1) C dX0_tellFewest_1 1 rfl rfl ?_
  refine k_ineg (pc := 2) C dX0_tellFewest_2 ?_
  refine k_iand (pc := 3) C dX0_tellFewest_3 ?_
  refine k_topi (fun x2_1 ex2_1 => ?_)
  have hw := hw x2_1 ex2_1
  refine k_istore_n (pc := 4) C dX0_tellFewest_4 rfl (by decide) [(2, .int x2_1), (0, .ref (ad 6 0)), (1, .int a1)] rfl ?_
  refine k_iload_n (pc := 5) C dX0_tellFewest_5 2 rfl rfl ?_
  refine k_iload_n (pc := 6) C dX0_tellFewest_6 0 rfl rfl ?_
  refine k_ixor (pc := 7) C dX0_tellFewest_7 ?_
  refine k_topi (fun x3_2 ex3_2 => ?_)
  have hw := hw x3_2 ex3_2
  refine k_istore_n (pc := 8) C dX0_tellFewest_8 rfl (by decide) [(3, .int x3_2), (2, .int x2_1), (0, .ref (ad 6 0)), (1, .int a1)] rfl ?_
  refine k_iconst (v := 1) (pc := 9) C dX0_tellFewest_9 (by decide) ?_
  refine k_iload_n (pc := 10) C dX0_tellFewest_10 0 rfl rfl ?_
  refine k_afterI (pc := 11) C (wp_J6_bitCount_0f7a4 x3_2 S) hw (fun post hw => by
      exact rn_S C (ct_J6_bitCount_0f7a4 l D cA ad x3_2 S post hw) (va_cwS 1 C.2.2.2.2.1 gX0_tellFewest_J6_bitCount_0f7a4 rfl rfl rfl (by decide +kernel) ⟨Nat.le_of_ble_eq_true rfl, Nat.le_of_ble_eq_true rfl⟩) rfl rfl (Nat.le_of_ble_eq_true rfl) dX0_tellFewest_11) (fun r_3 S_3 hw => ?_)
  refine k_ishl (pc := 14) C dX0_tellFewest_14 ?_
  refine k_topi (fun x4_4 ex4_4 => ?_)
  have hw := hw x4_4 ex4_4
  refine k_istore (pc := 15) C dX0_tellFewest_15 (by decide) [(4, .int x4_4), (3, .int x3_2), (2, .int x2_1), (0, .ref (ad 6 0)), (1, .int a1)] rfl ?_
  refine k_iconst (v := 0) (pc := 17) C dX0_tellFewest_17 (by decide) ?_
  refine k_istore (pc := 18) C dX0_tellFewest_18 (by decide) [(5, .int 0), (4, .int x4_4), (3, .int x3_2), (2, .int x2_1), (0, .ref (ad 6 0)), (1, .int a1)] rfl ?_
  refine k_bipush (v := 11) (pc := 20) C dX0_tellFewest_20 (by decide) ?_
  refine k_istore (pc := 22) C dX0_tellFewest_22 (by decide) [(6, .int 11), (5, .int 0), (4, .int x4_4), (3, .int x3_2), (2, .int x2_1), (0, .ref (ad 6 0)), (1, .int a1)] rfl ?_
  refine k_iconst (v := 0) (pc := 24) C dX0_tellFewest_24 (by decide) ?_
  refine k_istore (pc := 25) C dX0_tellFewest_25 (by decide) [(7, .int 0), (6, .int 11), (5, .int 0), (4, .int x4_4), (3, .int x3_2), (2, .int x2_1), (0, .ref (ad 6 0)), (1, .int a1)] rfl ?_
  refine k_sub [6, 7, 5, 4, 3, 2, 1, 0] [(0, .ref (ad 6 0)), (1, .int a1), (2, .int x2_1), (3, .int x3_2), (4, .int x4_4), (5, .int 0), (6, .int 11), (7, .int 0)] rfl ?_
  obtain ⟨I_5, μ_5, hi_5, hw⟩ := hw
  have L_5 : ∀ (n : Nat) (v5_5 : Int32) (v6_5 : Int32) (v7_5 : Int32) (S_5 : Sg), μ_5 v5_5 v6_5 v7_5 S_5 < n → I_5 v5_5 v6_5 v7_5 S_5 → KK p l e (mkR 1 20) s m args below meth c 9 D cA ad A Q 27 [(0, .ref (ad 6 0)), (1, .int a1), (2, .int x2_1), (3, .int x3_2), (4, .int x4_4), (5, .int v5_5), (6, .int v6_5), (7, .int v7_5)] [] S_5 := by
    intro n
    induction n with
    | zero => intro v5_5 v6_5 v7_5 S_5 h; exact absurd h (Nat.not_lt_zero _)
    | succ n ih_5 =>
      intro v5_5 v6_5 v7_5 S_5 hn_5 hi_5
      have hw := hw v5_5 v6_5 v7_5 S_5 hi_5
      refine k_iload (pc := 27) C dX0_tellFewest_27 7 rfl ?_
      refine k_iload (pc := 29) C dX0_tellFewest_29 4 rfl ?_
      refine k_icmp_ge (pc := 31) C 101 dX0_tellFewest_31 (by decide) (fun q_6 => ?_) (fun q_6 => ?_)
      · have hw := hw.1 q_6
        refine k_aload_n (pc := 101) C dX0_tellFewest_101 0 rfl rfl ?_
        refine k_get (j := 1) (pc := 102) C hin0 hm_6 (cel_6 cA ad S_5 0) rfl (by decide) f15 (fun _ h => h) rfl dX0_tellFewest_102 ?_
        refine k_iload_n (pc := 105) C dX0_tellFewest_105 1 rfl rfl ?_
        refine k_iload (pc := 106) C dX0_tellFewest_106 6 rfl ?_
        obtain ⟨h_7, hw⟩ := hw
        refine k_iast (pc := 108) C hm_8 (fun S => cel_8 cA ad S 0) h_7 dX0_tellFewest_108 ?_
        refine k_nameS (fun S_8 eS_8 => ?_)
        have hw := hw S_8 eS_8
        exact hret _ _ _ dX0_tellFewest_109 hw
      · have hw := hw.2 q_6
        refine k_iload (pc := 34) C dX0_tellFewest_34 5 rfl ?_
        refine k_iload_n (pc := 36) C dX0_tellFewest_36 2 rfl rfl ?_
        refine k_ior (pc := 37) C dX0_tellFewest_37 ?_
        refine k_topi (fun x8_9 ex8_9 => ?_)
        have hw := hw x8_9 ex8_9
        refine k_istore (pc := 38) C dX0_tellFewest_38 (by decide) [(8, .int x8_9), (0, .ref (ad 6 0)), (1, .int a1), (2, .int x2_1), (3, .int x3_2), (4, .int x4_4), (5, .int v5_5), (6, .int v6_5), (7, .int v7_5)] rfl ?_
        refine k_aload_n (pc := 40) C dX0_tellFewest_40 1 rfl rfl ?_
        refine k_get (j := 0) (pc := 41) C hin0 hm_6 (cel_6 cA ad S_5 0) rfl (by decide) f9 (fun _ h => h) rfl dX0_tellFewest_41 ?_
        refine k_iload (pc := 44) C dX0_tellFewest_44 0 rfl ?_
        obtain ⟨h_10, hw⟩ := hw
        refine k_zald (pc := 46) C hm_7 (cel_7 cA ad S_5 0) h_10 dX0_tellFewest_46 ?_
        refine k_if_eq (pc := 47) C 87 dX0_tellFewest_47 (by decide) (fun q_11 => ?_) (fun q_11 => ?_)
        · have hw := hw.1 q_11
          refine k_iload (pc := 87) C dX0_tellFewest_87 6 rfl ?_
          refine k_iload_n (pc := 89) C dX0_tellFewest_89 4 rfl rfl ?_
          refine k_isub (pc := 90) C dX0_tellFewest_90 ?_
          refine k_iload_n (pc := 91) C dX0_tellFewest_91 4 rfl rfl ?_
          refine k_iand (pc := 92) C dX0_tellFewest_92 ?_
          refine k_topi (fun x5_12 ex5_12 => ?_)
          have hw := hw x5_12 ex5_12
          refine k_istore (pc := 93) C dX0_tellFewest_93 (by decide) [(5, .int x5_12), (8, .int x8_9), (0, .ref (ad 6 0)), (1, .int a1), (2, .int x2_1), (3, .int x3_2), (4, .int x4_4), (6, .int v6_5), (7, .int v7_5)] rfl ?_
          obtain ⟨x7_13, ex7_13⟩ : ∃ y : Int32, y = v7_5 + 1 := ⟨_, rfl⟩
          have hw := hw x7_13 ex7_13
          refine k_iinc (v := x7_13) (j := 8) (pc := 95) C dX0_tellFewest_95 rfl (by rw [ex7_13]; rfl) (by decide) [(7, .int x7_13), (5, .int x5_12), (8, .int x8_9), (0, .ref (ad 6 0)), (1, .int a1), (2, .int x2_1), (3, .int x3_2), (4, .int x4_4), (6, .int v6_5)] rfl ?_
          refine k_goto (pc := 98) C 27 dX0_tellFewest_98 (by decide) ?_
          refine k_sub [3, 4, 5, 6, 7, 1, 8, 0] [(0, .ref (ad 6 0)), (1, .int a1), (2, .int x2_1), (3, .int x3_2), (4, .int x4_4), (5, .int x5_12), (6, .int v6_5), (7, .int x7_13)] rfl ?_
          exact ih_5 x5_12 v6_5 x7_13 S_5 (Nat.lt_of_lt_of_le hw.2 (Nat.le_of_lt_succ hn_5)) hw.1
        · have hw := hw.2 q_11
          refine k_aload_n (pc := 50) C dX0_tellFewest_50 1 rfl rfl ?_
          refine k_get (j := 1) (pc := 51) C hin0 hm_6 (cel_6 cA ad S_5 0) rfl (by decide) f15 (fun _ h => h) rfl dX0_tellFewest_51 ?_
          refine k_iload_n (pc := 54) C dX0_tellFewest_54 2 rfl rfl ?_
          refine k_iload (pc := 55) C dX0_tellFewest_55 0 rfl ?_
          refine k_ixor (pc := 57) C dX0_tellFewest_57 ?_
          obtain ⟨h_14, hw⟩ := hw
          refine k_iald (pc := 58) C hm_8 (cel_8 cA ad S_5 0) h_14 dX0_tellFewest_58 ?_
          refine k_iconst (v := 1) (pc := 59) C dX0_tellFewest_59 (by decide) ?_
          refine k_iadd (pc := 60) C dX0_tellFewest_60 ?_
          refine k_iload (pc := 61) C dX0_tellFewest_61 7 rfl ?_
          refine k_icmp_ge (pc := 63) C 87 dX0_tellFewest_63 (by decide) (fun q_15 => ?_) (fun q_15 => ?_)
          · have hw := hw.1 q_15
            refine k_iload (pc := 87) C dX0_tellFewest_87 6 rfl ?_
            refine k_iload_n (pc := 89) C dX0_tellFewest_89 4 rfl rfl ?_
            refine k_isub (pc := 90) C dX0_tellFewest_90 ?_
            refine k_iload_n (pc := 91) C dX0_tellFewest_91 4 rfl rfl ?_
            refine k_iand (pc := 92) C dX0_tellFewest_92 ?_
            refine k_topi (fun x5_16 ex5_16 => ?_)
            have hw := hw x5_16 ex5_16
            refine k_istore (pc := 93) C dX0_tellFewest_93 (by decide) [(5, .int x5_16), (8, .int x8_9), (0, .ref (ad 6 0)), (1, .int a1), (2, .int x2_1), (3, .int x3_2), (4, .int x4_4), (6, .int v6_5), (7, .int v7_5)] rfl ?_
            obtain ⟨x7_17, ex7_17⟩ : ∃ y : Int32, y = v7_5 + 1 := ⟨_, rfl⟩
            have hw := hw x7_17 ex7_17
            refine k_iinc (v := x7_17) (j := 8) (pc := 95) C dX0_tellFewest_95 rfl (by rw [ex7_17]; rfl) (by decide) [(7, .int x7_17), (5, .int x5_16), (8, .int x8_9), (0, .ref (ad 6 0)), (1, .int a1), (2, .int x2_1), (3, .int x3_2), (4, .int x4_4), (6, .int v6_5)] rfl ?_
            refine k_goto (pc := 98) C 27 dX0_tellFewest_98 (by decide) ?_
            refine k_sub [3, 4, 5, 6, 7, 1, 8, 0] [(0, .ref (ad 6 0)), (1, .int a1), (2, .int x2_1), (3, .int x3_2), (4, .int x4_4), (5, .int x5_16), (6, .int v6_5), (7, .int x7_17)] rfl ?_
            exact ih_5 x5_16 v6_5 x7_17 S_5 (Nat.lt_of_lt_of_le hw.2 (Nat.le_of_lt_succ hn_5)) hw.1
          · have hw := hw.2 q_15
            refine k_aload_n (pc := 66) C dX0_tellFewest_66 1 rfl rfl ?_
            refine k_get (j := 1) (pc := 67) C hin0 hm_6 (cel_6 cA ad S_5 0) rfl (by decide) f15 (fun _ h => h) rfl dX0_tellFewest_67 ?_
            refine k_iload_n (pc := 70) C dX0_tellFewest_70 2 rfl rfl ?_
            refine k_iload (pc := 71) C dX0_tellFewest_71 0 rfl ?_
            refine k_ixor (pc := 73) C dX0_tellFewest_73 ?_
            obtain ⟨h_18, hw⟩ := hw
            refine k_iald (pc := 74) C hm_8 (cel_8 cA ad S_5 0) h_18 dX0_tellFewest_74 ?_
            refine k_iconst (v := 1) (pc := 75) C dX0_tellFewest_75 (by decide) ?_
            refine k_iadd (pc := 76) C dX0_tellFewest_76 ?_
            refine k_topi (fun x6_19 ex6_19 => ?_)
            have hw := hw x6_19 ex6_19
            refine k_istore (pc := 77) C dX0_tellFewest_77 (by decide) [(6, .int x6_19), (8, .int x8_9), (0, .ref (ad 6 0)), (1, .int a1), (2, .int x2_1), (3, .int x3_2), (4, .int x4_4), (5, .int v5_5), (7, .int v7_5)] rfl ?_
            refine k_aload_n (pc := 79) C dX0_tellFewest_79 2 rfl rfl ?_
            refine k_get (j := 2) (pc := 80) C hin0 hm_6 (cel_6 cA ad S_5 0) rfl (by decide) f19 (fun _ h => h) rfl dX0_tellFewest_80 ?_
            refine k_iload_n (pc := 83) C dX0_tellFewest_83 3 rfl rfl ?_
            refine k_iload (pc := 84) C dX0_tellFewest_84 1 rfl ?_
            obtain ⟨h_20, hw⟩ := hw
            refine k_iast (pc := 86) C hm_9 (fun S => cel_9 cA ad S 0) h_20 dX0_tellFewest_86 ?_
            refine k_nameS (fun S_21 eS_21 => ?_)
            have hw := hw S_21 eS_21
            refine k_iload (pc := 87) C dX0_tellFewest_87 7 rfl ?_
            refine k_iload_n (pc := 89) C dX0_tellFewest_89 5 rfl rfl ?_
            refine k_isub (pc := 90) C dX0_tellFewest_90 ?_
            refine k_iload_n (pc := 91) C dX0_tellFewest_91 5 rfl rfl ?_
            refine k_iand (pc := 92) C dX0_tellFewest_92 ?_
            refine k_topi (fun x5_22 ex5_22 => ?_)
            have hw := hw x5_22 ex5_22
            refine k_istore (pc := 93) C dX0_tellFewest_93 (by decide) [(5, .int x5_22), (6, .int x6_19), (8, .int x8_9), (0, .ref (ad 6 0)), (1, .int a1), (2, .int x2_1), (3, .int x3_2), (4, .int x4_4), (7, .int v7_5)] rfl ?_
            obtain ⟨x7_23, ex7_23⟩ : ∃ y : Int32, y = v7_5 + 1 := ⟨_, rfl⟩
            have hw := hw x7_23 ex7_23
            refine k_iinc (v := x7_23) (j := 8) (pc := 95) C dX0_tellFewest_95 rfl (by rw [ex7_23]; rfl) (by decide) [(7, .int x7_23), (5, .int x5_22), (6, .int x6_19), (8, .int x8_9), (0, .ref (ad 6 0)), (1, .int a1), (2, .int x2_1), (3, .int x3_2), (4, .int x4_4)] rfl ?_
            refine k_goto (pc := 98) C 27 dX0_tellFewest_98 (by decide) ?_
            refine k_sub [4, 5, 6, 7, 8, 1, 2, 0] [(0, .ref (ad 6 0)), (1, .int a1), (2, .int x2_1), (3, .int x3_2), (4, .int x4_4), (5, .int x5_22), (6, .int x6_19), (7, .int x7_23)] rfl ?_
            exact ih_5 x5_22 x6_19 x7_23 S_21 (Nat.lt_of_lt_of_le hw.2 (Nat.le_of_lt_succ hn_5)) hw.1
  exact L_5 (μ_5 0 11 0 S_3 + 1) 0 11 0 S_3 (Nat.lt_succ_self _) hi_5
def wp_X0_setBlock (a1 : Int32) (S : Sg) (Q : Sg → Prop) : Prop :=
  (∃ (I_1 : Int32 → Sg → Prop) (μ_1 : Int32 → Sg → Nat), I_1 0 S ∧ ∀ (v2_1 : Int32) (S_1 : Sg), I_1 v2_1 S_1 → ((10 ≤ v2_1 → Q S_1) ∧ (¬ 10 ≤ v2_1 → ((((a1 >>> (v2_1 &&& 31)) &&& 1) = 0 → (∀ x2_4 : Int32, x2_4 = v2_1 + 1 → (I_1 x2_4 S_1 ∧ μ_1 x2_4 S_1 < μ_1 v2_1 S_1))) ∧ (¬ ((a1 >>> (v2_1 &&& 31)) &&& 1) = 0 → (vp_in v2_1 10 ∧ (∀ S_6 : Sg, S_6 = uA S_1 10 0 (Int32.toNatClampNeg v2_1) a1 → (∀ x2_7 : Int32, x2_7 = v2_1 + 1 → (I_1 x2_7 S_6 ∧ μ_1 x2_7 S_6 < μ_1 v2_1 S_1)))))))))
set_option maxHeartbeats 4000000 in
set_option maxRecDepth 100000 in
theorem ct_X0_setBlock (l : Launch) (D : va_G) (cA : Nat → ClassId) (ad : Nat → Nat → Nat) (a1 : Int32) (S : Sg) (Q : Sg → Prop) (hw : wp_X0_setBlock a1 S Q) : CtV l yX0_setBlock wsX0_setBlock (mkR 0 0) D cA ad [.ref (ad 6 0), .int a1] S Q := by
  refine ct_ofV (cc := cX0_setBlock) (nL := 3) (by decide) rfl (Nat.le_of_ble_eq_true rfl) ?_
  intro p e s m args below meth c A Q C hret
  unfold wp_X0_setBlock at hw
  have C : Cx p s m args c cX0_setBlock 3 wsX0_setBlock RX0 D cA A := C
  have hin0 : ∀ w ∈ u_ws RX0 TX0 6, w ∈ wsX0_setBlock := fun w h => List.mem_cons_of_mem _ (List.mem_append_right _ h)
  have f22 : Cond.fieldLink RX0 22 "CreepBoard$BlockFinder" "blockOfMark" "[I" ∈ wsX0_setBlock := by decide +kernel
  change KK p l e (mkR 0 0) s m args below meth c 3 D cA ad A Q 0 [(0, .ref (ad 6 0)), (1, .int a1)] [] S
  refine k_iconst (v := 0) (pc := 0) C dX0_setBlock_0 (by decide) ?_
  refine k_istore_n (pc := 1) C dX0_setBlock_1 rfl (by decide) [(2, .int 0), (0, .ref (ad 6 0)), (1, .int a1)] rfl ?_
  refine k_sub [1, 2, 0] [(0, .ref (ad 6 0)), (1, .int a1), (2, .int 0)] rfl ?_
  obtain ⟨I_1, μ_1, hi_1, hw⟩ := hw
  have L_1 : ∀ (n : Nat) (v2_1 : Int32) (S_1 : Sg), μ_1 v2_1 S_1 < n → I_1 v2_1 S_1 → KK p l e (mkR 0 0) s m args below meth c 3 D cA ad A Q 2 [(0, .ref (ad 6 0)), (1, .int a1), (2, .int v2_1)] [] S_1 := by
    intro n
    induction n with
    | zero => intro v2_1 S_1 h; exact absurd h (Nat.not_lt_zero _)
    | succ n ih_1 =>
      intro v2_1 S_1 hn_1 hi_1
      have hw := hw v2_1 S_1 hi_1
      refine k_iload_n (pc := 2) C dX0_setBlock_2 2 rfl rfl ?_
      refine k_bipush (v := 10) (pc := 3) C dX0_setBlock_3 (by decide) ?_
      refine k_icmp_ge (pc := 5) C 29 dX0_setBlock_5 (by decide) (fun q_2 => ?_) (fun q_2 => ?_)
      · have hw := hw.1 q_2
        exact hret _ _ _ dX0_setBlock_29 hw
      · have hw := hw.2 q_2
        refine k_iload_n (pc := 8) C dX0_setBlock_8 1 rfl rfl ?_
        refine k_iload_n (pc := 9) C dX0_setBlock_9 2 rfl rfl ?_
        refine k_ishr (pc := 10) C dX0_setBlock_10 ?_
        refine k_iconst (v := 1) (pc := 11) C dX0_setBlock_11 (by decide) ?_
        refine k_iand (pc := 12) C dX0_setBlock_12 ?_
        refine k_if_eq (pc := 13) C 23 dX0_setBlock_13 (by decide) (fun q_3 => ?_) (fun q_3 => ?_)
        · have hw := hw.1 q_3
          obtain ⟨x2_4, ex2_4⟩ : ∃ y : Int32, y = v2_1 + 1 := ⟨_, rfl⟩
          have hw := hw x2_4 ex2_4
          refine k_iinc (v := x2_4) (j := 2) (pc := 23) C dX0_setBlock_23 rfl (by rw [ex2_4]; rfl) (by decide) [(2, .int x2_4), (0, .ref (ad 6 0)), (1, .int a1)] rfl ?_
          refine k_goto (pc := 26) C 2 dX0_setBlock_26 (by decide) ?_
          refine k_sub [1, 2, 0] [(0, .ref (ad 6 0)), (1, .int a1), (2, .int x2_4)] rfl ?_
          exact ih_1 x2_4 S_1 (Nat.lt_of_lt_of_le hw.2 (Nat.le_of_lt_succ hn_1)) hw.1
        · have hw := hw.2 q_3
          refine k_aload_n (pc := 16) C dX0_setBlock_16 0 rfl rfl ?_
          refine k_get (j := 3) (pc := 17) C hin0 hm_6 (cel_6 cA ad S_1 0) rfl (by decide) f22 (fun _ h => h) rfl dX0_setBlock_17 ?_
          refine k_iload_n (pc := 20) C dX0_setBlock_20 2 rfl rfl ?_
          refine k_iload_n (pc := 21) C dX0_setBlock_21 1 rfl rfl ?_
          obtain ⟨h_5, hw⟩ := hw
          refine k_iast (pc := 22) C hm_10 (fun S => cel_10 cA ad S 0) h_5 dX0_setBlock_22 ?_
          refine k_nameS (fun S_6 eS_6 => ?_)
          have hw := hw S_6 eS_6
          obtain ⟨x2_7, ex2_7⟩ : ∃ y : Int32, y = v2_1 + 1 := ⟨_, rfl⟩
          have hw := hw x2_7 ex2_7
          refine k_iinc (v := x2_7) (j := 2) (pc := 23) C dX0_setBlock_23 rfl (by rw [ex2_7]; rfl) (by decide) [(2, .int x2_7), (0, .ref (ad 6 0)), (1, .int a1)] rfl ?_
          refine k_goto (pc := 26) C 2 dX0_setBlock_26 (by decide) ?_
          refine k_sub [1, 2, 0] [(0, .ref (ad 6 0)), (1, .int a1), (2, .int x2_7)] rfl ?_
          exact ih_1 x2_7 S_6 (Nat.lt_of_lt_of_le hw.2 (Nat.le_of_lt_succ hn_1)) hw.1
  exact L_1 (μ_1 0 S + 1) 0 S (Nat.lt_succ_self _) hi_1
def wp_X0_giveOut (a1 : Int32) (a2 : Int32) (S : Sg) (Q : Sg → Prop) : Prop :=
  (vp_in a1 1024 ∧ (∀ S_2 : Sg, S_2 = uI S 6 0 4 (gA S 8 0 (Int32.toNatClampNeg a1)) → (∃ (I_3 : Int32 → Int32 → Sg → Prop) (μ_3 : Int32 → Int32 → Sg → Nat), I_3 a1 0 S_2 ∧ ∀ (v3_3 : Int32) (v4_3 : Int32) (S_3 : Sg), I_3 v3_3 v4_3 S_3 → ((a2 ≤ v4_3 → Q S_3) ∧ (¬ a2 ≤ v4_3 → ((((v3_3 >>> (v4_3 &&& 31)) &&& 1) = 0 → (∀ x4_6 : Int32, x4_6 = v4_3 + 1 → (I_3 v3_3 x4_6 S_3 ∧ μ_3 v3_3 x4_6 S_3 < μ_3 v3_3 v4_3 S_3))) ∧ (¬ ((v3_3 >>> (v4_3 &&& 31)) &&& 1) = 0 → (vp_in v3_3 1024 ∧ (∀ x5_8 : Int32, x5_8 = (gA S_3 9 0 (Int32.toNatClampNeg v3_3)) → wp_X0_setBlock x5_8 S_3 (fun S_9 => (∀ x3_10 : Int32, x3_10 = (v3_3 &&& (x5_8 ^^^ (-1))) → (∀ x4_11 : Int32, x4_11 = v4_3 + 1 → (I_3 x3_10 x4_11 S_9 ∧ μ_3 x3_10 x4_11 S_9 < μ_3 v3_3 v4_3 S_3)))))))))))))
set_option maxHeartbeats 4000000 in
set_option maxRecDepth 100000 in
theorem ct_X0_giveOut (l : Launch) (D : va_G) (cA : Nat → ClassId) (ad : Nat → Nat → Nat) (a1 : Int32) (a2 : Int32) (S : Sg) (Q : Sg → Prop) (hw : wp_X0_giveOut a1 a2 S Q) : CtV l yX0_giveOut wsX0_giveOut (mkR 1 22) D cA ad [.ref (ad 6 0), .int a1, .int a2] S Q := by
  refine ct_ofV (cc := cX0_giveOut) (nL := 6) (by decide) rfl (Nat.le_of_ble_eq_true rfl) ?_
  intro p e s m args below meth c A Q C hret
  unfold wp_X0_giveOut at hw
  have C : Cx p s m args c cX0_giveOut 6 wsX0_giveOut RX0 D cA A := C
  have hin0 : ∀ w ∈ u_ws RX0 TX0 6, w ∈ wsX0_giveOut := fun w h => List.mem_cons_of_mem _ (List.mem_append_right _ h)
  have f15 : Cond.fieldLink RX0 15 "CreepBoard$BlockFinder" "fewest" "[I" ∈ wsX0_giveOut := by decide +kernel
  have f29 : Cond.fieldLink RX0 29 "CreepBoard$BlockFinder" "blockCount" "I" ∈ wsX0_giveOut := by decide +kernel
  have f19 : Cond.fieldLink RX0 19 "CreepBoard$BlockFinder" "leastBlock" "[I" ∈ wsX0_giveOut := by decide +kernel
  change KK p l e (mkR 1 22) s m args below meth c 6 D cA ad A Q 0 [(0, .ref (ad 6 0)), (1, .int a1), (2, .int a2)] [] S
  refine k_aload_n (pc := 0) C dX0_giveOut_0 0 rfl rfl ?_
  refine k_aload_n (pc := 1) C dX0_giveOut_1 0 rfl rfl ?_
  refine k_get (j := 1) (pc := 2) C hin0 hm_6 (cel_6 cA ad S 0) rfl (by decide) f15 (fun _ h => h) rfl dX0_giveOut_2 ?_
  refine k_iload_n (pc := 5) C dX0_giveOut_5 1 rfl rfl ?_
  obtain ⟨h_1, hw⟩ := hw
  refine k_iald (pc := 6) C hm_8 (cel_8 cA ad S 0) h_1 dX0_giveOut_6 ?_
  refine k_put (S' := uI S 6 0 4 (gA S 8 0 (Int32.toNatClampNeg a1))) (j := 4) (ty := .int) (pc := 7) C hin0 tyX0 tyX0_ok nmX0 hm_6 (cel_6 cA ad S 0) rfl (by decide) f29 (fun _ h => h) rfl (by decide +kernel) rfl rfl (Nat.le_of_ble_eq_true rfl) rfl rfl (fun a b h => cel_uI h) dX0_giveOut_7 ?_
  refine k_nameS (fun S_2 eS_2 => ?_)
  have hw := hw S_2 eS_2
  refine k_iload_n (pc := 10) C dX0_giveOut_10 1 rfl rfl ?_
  refine k_istore_n (pc := 11) C dX0_giveOut_11 rfl (by decide) [(3, .int a1), (0, .ref (ad 6 0)), (1, .int a1), (2, .int a2)] rfl ?_
  refine k_iconst (v := 0) (pc := 12) C dX0_giveOut_12 (by decide) ?_
  refine k_istore (pc := 13) C dX0_giveOut_13 (by decide) [(4, .int 0), (3, .int a1), (0, .ref (ad 6 0)), (1, .int a1), (2, .int a2)] rfl ?_
  refine k_sub [2, 4, 1, 0] [(0, .ref (ad 6 0)), (2, .int a2), (3, .int a1), (4, .int 0)] rfl ?_
  obtain ⟨I_3, μ_3, hi_3, hw⟩ := hw
  have L_3 : ∀ (n : Nat) (v3_3 : Int32) (v4_3 : Int32) (S_3 : Sg), μ_3 v3_3 v4_3 S_3 < n → I_3 v3_3 v4_3 S_3 → KK p l e (mkR 1 22) s m args below meth c 6 D cA ad A Q 15 [(0, .ref (ad 6 0)), (2, .int a2), (3, .int v3_3), (4, .int v4_3)] [] S_3 := by
    intro n
    induction n with
    | zero => intro v3_3 v4_3 S_3 h; exact absurd h (Nat.not_lt_zero _)
    | succ n ih_3 =>
      intro v3_3 v4_3 S_3 hn_3 hi_3
      have hw := hw v3_3 v4_3 S_3 hi_3
      refine k_iload (pc := 15) C dX0_giveOut_15 3 rfl ?_
      refine k_iload_n (pc := 17) C dX0_giveOut_17 1 rfl rfl ?_
      refine k_icmp_ge (pc := 18) C 57 dX0_giveOut_18 (by decide) (fun q_4 => ?_) (fun q_4 => ?_)
      · have hw := hw.1 q_4
        exact hret _ _ _ dX0_giveOut_57 hw
      · have hw := hw.2 q_4
        refine k_iload_n (pc := 21) C dX0_giveOut_21 2 rfl rfl ?_
        refine k_iload (pc := 22) C dX0_giveOut_22 3 rfl ?_
        refine k_ishr (pc := 24) C dX0_giveOut_24 ?_
        refine k_iconst (v := 1) (pc := 25) C dX0_giveOut_25 (by decide) ?_
        refine k_iand (pc := 26) C dX0_giveOut_26 ?_
        refine k_if_eq (pc := 27) C 51 dX0_giveOut_27 (by decide) (fun q_5 => ?_) (fun q_5 => ?_)
        · have hw := hw.1 q_5
          obtain ⟨x4_6, ex4_6⟩ : ∃ y : Int32, y = v4_3 + 1 := ⟨_, rfl⟩
          have hw := hw x4_6 ex4_6
          refine k_iinc (v := x4_6) (j := 3) (pc := 51) C dX0_giveOut_51 rfl (by rw [ex4_6]; rfl) (by decide) [(4, .int x4_6), (0, .ref (ad 6 0)), (2, .int a2), (3, .int v3_3)] rfl ?_
          refine k_goto (pc := 54) C 15 dX0_giveOut_54 (by decide) ?_
          refine k_sub [1, 2, 3, 0] [(0, .ref (ad 6 0)), (2, .int a2), (3, .int v3_3), (4, .int x4_6)] rfl ?_
          exact ih_3 v3_3 x4_6 S_3 (Nat.lt_of_lt_of_le hw.2 (Nat.le_of_lt_succ hn_3)) hw.1
        · have hw := hw.2 q_5
          refine k_aload_n (pc := 30) C dX0_giveOut_30 0 rfl rfl ?_
          refine k_get (j := 2) (pc := 31) C hin0 hm_6 (cel_6 cA ad S_3 0) rfl (by decide) f19 (fun _ h => h) rfl dX0_giveOut_31 ?_
          refine k_iload_n (pc := 34) C dX0_giveOut_34 2 rfl rfl ?_
          obtain ⟨h_7, hw⟩ := hw
          refine k_iald (pc := 35) C hm_9 (cel_9 cA ad S_3 0) h_7 dX0_giveOut_35 ?_
          refine k_topi (fun x5_8 ex5_8 => ?_)
          have hw := hw x5_8 ex5_8
          refine k_istore (pc := 36) C dX0_giveOut_36 (by decide) [(5, .int x5_8), (0, .ref (ad 6 0)), (2, .int a2), (3, .int v3_3), (4, .int v4_3)] rfl ?_
          refine k_aload_n (pc := 38) C dX0_giveOut_38 1 rfl rfl ?_
          refine k_iload (pc := 39) C dX0_giveOut_39 0 rfl ?_
          refine k_afterV (pc := 41) C (wp_X0_setBlock x5_8 S_3) hw (fun post hw => by
              exact rn_V C (ct_X0_setBlock l D cA ad x5_8 S_3 post hw) (cwV 1 C.2.2.2.2.1 gX0_giveOut_X0_setBlock rfl rfl rfl (by decide +kernel) ⟨Nat.le_of_ble_eq_true rfl, Nat.le_of_ble_eq_true rfl⟩) hm_6 (cel_6 cA ad S_3 0) rfl rfl rfl rfl (Nat.le_of_ble_eq_true rfl) dX0_giveOut_41) (fun S_9 hw => ?_)
          refine k_iload_n (pc := 44) C dX0_giveOut_44 3 rfl rfl ?_
          refine k_iload (pc := 45) C dX0_giveOut_45 0 rfl ?_
          refine k_iconst (v := (-1)) (pc := 47) C dX0_giveOut_47 (by decide) ?_
          refine k_ixor (pc := 48) C dX0_giveOut_48 ?_
          refine k_iand (pc := 49) C dX0_giveOut_49 ?_
          refine k_topi (fun x3_10 ex3_10 => ?_)
          have hw := hw x3_10 ex3_10
          refine k_istore_n (pc := 50) C dX0_giveOut_50 rfl (by decide) [(3, .int x3_10), (5, .int x5_8), (0, .ref (ad 6 0)), (2, .int a2), (4, .int v4_3)] rfl ?_
          obtain ⟨x4_11, ex4_11⟩ : ∃ y : Int32, y = v4_3 + 1 := ⟨_, rfl⟩
          have hw := hw x4_11 ex4_11
          refine k_iinc (v := x4_11) (j := 4) (pc := 51) C dX0_giveOut_51 rfl (by rw [ex4_11]; rfl) (by decide) [(4, .int x4_11), (3, .int x3_10), (5, .int x5_8), (0, .ref (ad 6 0)), (2, .int a2)] rfl ?_
          refine k_goto (pc := 54) C 15 dX0_giveOut_54 (by decide) ?_
          refine k_sub [3, 4, 1, 0] [(0, .ref (ad 6 0)), (2, .int a2), (3, .int x3_10), (4, .int x4_11)] rfl ?_
          exact ih_3 x3_10 x4_11 S_9 (Nat.lt_of_lt_of_le hw.2 (Nat.le_of_lt_succ hn_3)) hw.1
  exact L_3 (μ_3 a1 0 S_2 + 1) a1 0 S_2 (Nat.lt_succ_self _) hi_3
def wp_X0_find (a2 : Int32) (S : Sg) (Q : Sg → Prop) : Prop :=
  (((gI S 6 0 5) = 0 → (∀ x3_2 : Int32, x3_2 = (((1 : Int32) <<< (a2 &&& 31)) - 1) → wp_X0_tellTurns x3_2 S (fun S_3 => (∃ (I_4 : Int32 → Sg → Prop) (μ_4 : Int32 → Sg → Nat), I_4 2 S_3 ∧ ∀ (v4_4 : Int32) (S_4 : Sg), I_4 v4_4 S_4 → ((x3_2 ≤ v4_4 → wp_X0_tellFewest x3_2 S_4 (fun S_6 => wp_X0_giveOut x3_2 a2 S_6 (fun S_7 => (∀ S_8 : Sg, S_8 = uI S_7 6 0 5 1 → Q S_8)))) ∧ (¬ x3_2 ≤ v4_4 → wp_X0_tellFewest v4_4 S_4 (fun S_9 => (∀ x4_10 : Int32, x4_10 = v4_4 + 2 → (I_4 x4_10 S_9 ∧ μ_4 x4_10 S_9 < μ_4 v4_4 S_4))))))))) ∧ (¬ (gI S 6 0 5) = 0 → Q S))
set_option maxHeartbeats 4000000 in
set_option maxRecDepth 100000 in
theorem ct_X0_find (l : Launch) (D : va_G) (cA : Nat → ClassId) (ad : Nat → Nat → Nat) (a2 : Int32) (S : Sg) (Q : Sg → Prop) (hw : wp_X0_find a2 S Q) : CtV l yX0_find wsX0_find (mkR 3 80) D cA ad [.ref (ad 6 0), .ref (ad 1 0), .int a2] S Q := by
  refine ct_ofV (cc := cX0_find) (nL := 5) (by decide) rfl (Nat.le_of_ble_eq_true rfl) ?_
  intro p e s m args below meth c A Q C hret
  unfold wp_X0_find at hw
  have C : Cx p s m args c cX0_find 5 wsX0_find RX0 D cA A := C
  have hin0 : ∀ w ∈ u_ws RX0 TX0 6, w ∈ wsX0_find := fun w h => List.mem_cons_of_mem _ (List.mem_append_left _ (List.mem_append_left _ (List.mem_append_left _ (List.mem_append_left _ (List.mem_append_right _ h)))))
  have f25 : Cond.fieldLink RX0 25 "CreepBoard$BlockFinder" "known" "Z" ∈ wsX0_find := by decide +kernel
  change KK p l e (mkR 3 80) s m args below meth c 5 D cA ad A Q 0 [(0, .ref (ad 6 0)), (1, .ref (ad 1 0)), (2, .int a2)] [] S
  refine k_aload_n (pc := 0) C dX0_find_0 0 rfl rfl ?_
  refine k_get (j := 5) (pc := 1) C hin0 hm_6 (cel_6 cA ad S 0) rfl (by decide) f25 (fun _ h => h) rfl dX0_find_1 ?_
  refine k_if_eq (pc := 4) C 8 dX0_find_4 (by decide) (fun q_1 => ?_) (fun q_1 => ?_)
  · have hw := hw.1 q_1
    refine k_iconst (v := 1) (pc := 8) C dX0_find_8 (by decide) ?_
    refine k_iload_n (pc := 9) C dX0_find_9 2 rfl rfl ?_
    refine k_ishl (pc := 10) C dX0_find_10 ?_
    refine k_iconst (v := 1) (pc := 11) C dX0_find_11 (by decide) ?_
    refine k_isub (pc := 12) C dX0_find_12 ?_
    refine k_topi (fun x3_2 ex3_2 => ?_)
    have hw := hw x3_2 ex3_2
    refine k_istore_n (pc := 13) C dX0_find_13 rfl (by decide) [(3, .int x3_2), (0, .ref (ad 6 0)), (1, .ref (ad 1 0)), (2, .int a2)] rfl ?_
    refine k_aload_n (pc := 14) C dX0_find_14 1 rfl rfl ?_
    refine k_aload_n (pc := 15) C dX0_find_15 2 rfl rfl ?_
    refine k_iload_n (pc := 16) C dX0_find_16 0 rfl rfl ?_
    refine k_afterV (pc := 17) C (wp_X0_tellTurns x3_2 S) hw (fun post hw => by
        exact rn_V C (ct_X0_tellTurns l D cA ad x3_2 S post hw) (cwV 2 C.2.2.2.2.1 gX0_find_X0_tellTurns rfl rfl rfl (by decide +kernel) ⟨Nat.le_of_ble_eq_true rfl, Nat.le_of_ble_eq_true rfl⟩) hm_6 (cel_6 cA ad S 0) rfl rfl rfl rfl (Nat.le_of_ble_eq_true rfl) dX0_find_17) (fun S_3 hw => ?_)
    refine k_iconst (v := 2) (pc := 20) C dX0_find_20 (by decide) ?_
    refine k_istore (pc := 21) C dX0_find_21 (by decide) [(4, .int 2), (3, .int x3_2), (0, .ref (ad 6 0)), (1, .ref (ad 1 0)), (2, .int a2)] rfl ?_
    refine k_sub [2, 4, 1, 0] [(0, .ref (ad 6 0)), (2, .int a2), (3, .int x3_2), (4, .int 2)] rfl ?_
    obtain ⟨I_4, μ_4, hi_4, hw⟩ := hw
    have L_4 : ∀ (n : Nat) (v4_4 : Int32) (S_4 : Sg), μ_4 v4_4 S_4 < n → I_4 v4_4 S_4 → KK p l e (mkR 3 80) s m args below meth c 5 D cA ad A Q 23 [(0, .ref (ad 6 0)), (2, .int a2), (3, .int x3_2), (4, .int v4_4)] [] S_4 := by
      intro n
      induction n with
      | zero => intro v4_4 S_4 h; exact absurd h (Nat.not_lt_zero _)
      | succ n ih_4 =>
        intro v4_4 S_4 hn_4 hi_4
        have hw := hw v4_4 S_4 hi_4
        refine k_iload (pc := 23) C dX0_find_23 3 rfl ?_
        refine k_iload_n (pc := 25) C dX0_find_25 2 rfl rfl ?_
        refine k_icmp_ge (pc := 26) C 41 dX0_find_26 (by decide) (fun q_5 => ?_) (fun q_5 => ?_)
        · have hw := hw.1 q_5
          refine k_aload_n (pc := 41) C dX0_find_41 0 rfl rfl ?_
          refine k_iload_n (pc := 42) C dX0_find_42 2 rfl rfl ?_
          refine k_afterV (pc := 43) C (wp_X0_tellFewest x3_2 S_4) hw (fun post hw => by
              exact rn_V C (ct_X0_tellFewest l D cA ad x3_2 S_4 post hw) (cwV 1 C.2.2.2.2.1 gX0_find_X0_tellFewest rfl rfl rfl (by decide +kernel) ⟨Nat.le_of_ble_eq_true rfl, Nat.le_of_ble_eq_true rfl⟩) hm_6 (cel_6 cA ad S_4 0) rfl rfl rfl rfl (Nat.le_of_ble_eq_true rfl) dX0_find_43) (fun S_6 hw => ?_)
          refine k_aload_n (pc := 46) C dX0_find_46 0 rfl rfl ?_
          refine k_iload_n (pc := 47) C dX0_find_47 2 rfl rfl ?_
          refine k_iload_n (pc := 48) C dX0_find_48 1 rfl rfl ?_
          refine k_afterV (pc := 49) C (wp_X0_giveOut x3_2 a2 S_6) hw (fun post hw => by
              exact rn_V C (ct_X0_giveOut l D cA ad x3_2 a2 S_6 post hw) (cwV 2 C.2.2.2.2.1 gX0_find_X0_giveOut rfl rfl rfl (by decide +kernel) ⟨Nat.le_of_ble_eq_true rfl, Nat.le_of_ble_eq_true rfl⟩) hm_6 (cel_6 cA ad S_6 0) rfl rfl rfl rfl (Nat.le_of_ble_eq_true rfl) dX0_find_49) (fun S_7 hw => ?_)
          refine k_aload_n (pc := 52) C dX0_find_52 0 rfl rfl ?_
          refine k_iconst (v := 1) (pc := 53) C dX0_find_53 (by decide) ?_
          refine k_put (S' := uI S_7 6 0 5 1) (j := 5) (ty := .boolean) (pc := 54) C hin0 tyX0 tyX0_ok nmX0 hm_6 (cel_6 cA ad S_7 0) rfl (by decide) f25 (fun _ h => h) rfl (by decide +kernel) rfl rfl (Nat.le_of_ble_eq_true rfl) rfl rfl (fun a b h => cel_uI h) dX0_find_54 ?_
          refine k_nameS (fun S_8 eS_8 => ?_)
          have hw := hw S_8 eS_8
          exact hret _ _ _ dX0_find_57 hw
        · have hw := hw.2 q_5
          refine k_aload_n (pc := 29) C dX0_find_29 0 rfl rfl ?_
          refine k_iload (pc := 30) C dX0_find_30 3 rfl ?_
          refine k_afterV (pc := 32) C (wp_X0_tellFewest v4_4 S_4) hw (fun post hw => by
              exact rn_V C (ct_X0_tellFewest l D cA ad v4_4 S_4 post hw) (cwV 1 C.2.2.2.2.1 gX0_find_X0_tellFewest rfl rfl rfl (by decide +kernel) ⟨Nat.le_of_ble_eq_true rfl, Nat.le_of_ble_eq_true rfl⟩) hm_6 (cel_6 cA ad S_4 0) rfl rfl rfl rfl (Nat.le_of_ble_eq_true rfl) dX0_find_32) (fun S_9 hw => ?_)
          obtain ⟨x4_10, ex4_10⟩ : ∃ y : Int32, y = v4_4 + 2 := ⟨_, rfl⟩
          have hw := hw x4_10 ex4_10
          refine k_iinc (v := x4_10) (j := 3) (pc := 35) C dX0_find_35 rfl (by rw [ex4_10]; rfl) (by decide) [(4, .int x4_10), (0, .ref (ad 6 0)), (2, .int a2), (3, .int x3_2)] rfl ?_
          refine k_goto (pc := 38) C 23 dX0_find_38 (by decide) ?_
          refine k_sub [1, 2, 3, 0] [(0, .ref (ad 6 0)), (2, .int a2), (3, .int x3_2), (4, .int x4_10)] rfl ?_
          exact ih_4 x4_10 S_9 (Nat.lt_of_lt_of_le hw.2 (Nat.le_of_lt_succ hn_4)) hw.1
    exact L_4 (μ_4 2 S_3 + 1) 2 S_3 (Nat.lt_succ_self _) hi_4
  · have hw := hw.2 q_1
    exact hret _ _ _ dX0_find_7 hw
def wp_X2_lineCount (S : Sg) (Q : Int32 → Sg → Prop) : Prop :=
  Q (gI S 14 0 3) S
set_option maxHeartbeats 4000000 in
set_option maxRecDepth 100000 in
theorem ct_X2_lineCount (l : Launch) (D : va_G) (cA : Nat → ClassId) (ad : Nat → Nat → Nat) (S : Sg) (Q : Int32 → Sg → Prop) (hw : wp_X2_lineCount  S Q) : CtI l yX2_lineCount wsX2_lineCount (mkR 0 0) D cA ad [.ref (ad 14 0)] S Q := by
  refine ct_ofI (cc := cX2_lineCount) (nL := 1) (by decide) rfl (Nat.le_of_ble_eq_true rfl) ?_
  intro p e s m args below meth c A Q C hret
  unfold wp_X2_lineCount at hw
  have C : Cx p s m args c cX2_lineCount 1 wsX2_lineCount RX2 D cA A := C
  have hin2 : ∀ w ∈ u_ws RX2 TX2 11, w ∈ wsX2_lineCount := fun w h => List.mem_cons_of_mem _ (List.mem_append_right _ h)
  have f35 : Cond.fieldLink RX2 35 "CreepBoard$Levels" "lineCount" "I" ∈ wsX2_lineCount := by decide +kernel
  change KK p l e (mkR 0 0) s m args below meth c 1 D cA ad A Q 0 [(0, .ref (ad 14 0))] [] S
  refine k_aload_n (pc := 0) C dX2_lineCount_0 0 rfl rfl ?_
  refine k_get (j := 3) (pc := 1) C hin2 hm_14 (cel_14 cA ad S 0) rfl (by decide) f35 (fun _ h => h) rfl dX2_lineCount_1 ?_
  exact hret _ _ _ _ dX2_lineCount_4 hw
def wp_X2_addLine (a1 : Int32) (a2 : Int32) (a3 : Int32) (S : Sg) (Q : Int32 → Sg → Prop) : Prop :=
  (((gI S 14 0 3) < 14 → (vp_in (gI S 14 0 3) 14 ∧ (∀ S_3 : Sg, S_3 = uA S 15 0 (Int32.toNatClampNeg (gI S 14 0 3)) a1 → (vp_in (gI S_3 14 0 3) 14 ∧ (∀ S_5 : Sg, S_5 = uA S_3 16 0 (Int32.toNatClampNeg (gI S_3 14 0 3)) a2 → (vp_in (gI S_5 14 0 3) 14 ∧ (∀ S_7 : Sg, S_7 = uA S_5 17 0 (Int32.toNatClampNeg (gI S_5 14 0 3)) a3 → (∀ S_8 : Sg, S_8 = uI S_7 14 0 3 ((gI S_7 14 0 3) + 1) → (∀ S_9 : Sg, S_9 = uI S_8 14 0 10 0 → Q 1 S_9))))))))) ∧ (¬ (gI S 14 0 3) < 14 → Q 0 S))
set_option maxHeartbeats 4000000 in
set_option maxRecDepth 100000 in
theorem ct_X2_addLine (l : Launch) (D : va_G) (cA : Nat → ClassId) (ad : Nat → Nat → Nat) (a1 : Int32) (a2 : Int32) (a3 : Int32) (S : Sg) (Q : Int32 → Sg → Prop) (hw : wp_X2_addLine a1 a2 a3 S Q) : CtI l yX2_addLine wsX2_addLine (mkR 0 0) D cA ad [.ref (ad 14 0), .int a1, .int a2, .int a3] S Q := by
  refine ct_ofZ (cc := cX2_addLine) (nL := 4) (by decide) rfl (Nat.le_of_ble_eq_true rfl) ?_
  intro p e s m args below meth c A Q C hret
  unfold wp_X2_addLine at hw
  have C : Cx p s m args c cX2_addLine 4 wsX2_addLine RX2 D cA A := C
  have hin2 : ∀ w ∈ u_ws RX2 TX2 11, w ∈ wsX2_addLine := fun w h => List.mem_cons_of_mem _ (List.mem_append_right _ h)
  have f35 : Cond.fieldLink RX2 35 "CreepBoard$Levels" "lineCount" "I" ∈ wsX2_addLine := by decide +kernel
  have f9 : Cond.fieldLink RX2 9 "CreepBoard$Levels" "from" "[I" ∈ wsX2_addLine := by decide +kernel
  have f15 : Cond.fieldLink RX2 15 "CreepBoard$Levels" "to" "[I" ∈ wsX2_addLine := by decide +kernel
  have f18 : Cond.fieldLink RX2 18 "CreepBoard$Levels" "rise" "[I" ∈ wsX2_addLine := by decide +kernel
  have f39 : Cond.fieldLink RX2 39 "CreepBoard$Levels" "known" "Z" ∈ wsX2_addLine := by decide +kernel
  change KK p l e (mkR 0 0) s m args below meth c 4 D cA ad A Q 0 [(0, .ref (ad 14 0)), (1, .int a1), (2, .int a2), (3, .int a3)] [] S
  refine k_aload_n (pc := 0) C dX2_addLine_0 0 rfl rfl ?_
  refine k_get (j := 3) (pc := 1) C hin2 hm_14 (cel_14 cA ad S 0) rfl (by decide) f35 (fun _ h => h) rfl dX2_addLine_1 ?_
  refine k_bipush (v := 14) (pc := 4) C dX2_addLine_4 (by decide) ?_
  refine k_icmp_lt (pc := 6) C 11 dX2_addLine_6 (by decide) (fun q_1 => ?_) (fun q_1 => ?_)
  · have hw := hw.1 q_1
    refine k_aload_n (pc := 11) C dX2_addLine_11 0 rfl rfl ?_
    refine k_get (j := 0) (pc := 12) C hin2 hm_14 (cel_14 cA ad S 0) rfl (by decide) f9 (fun _ h => h) rfl dX2_addLine_12 ?_
    refine k_aload_n (pc := 15) C dX2_addLine_15 0 rfl rfl ?_
    refine k_get (j := 3) (pc := 16) C hin2 hm_14 (cel_14 cA ad S 0) rfl (by decide) f35 (fun _ h => h) rfl dX2_addLine_16 ?_
    refine k_iload_n (pc := 19) C dX2_addLine_19 1 rfl rfl ?_
    obtain ⟨h_2, hw⟩ := hw
    refine k_iast (pc := 20) C hm_15 (fun S => cel_15 cA ad S 0) h_2 dX2_addLine_20 ?_
    refine k_nameS (fun S_3 eS_3 => ?_)
    have hw := hw S_3 eS_3
    refine k_aload_n (pc := 21) C dX2_addLine_21 0 rfl rfl ?_
    refine k_get (j := 1) (pc := 22) C hin2 hm_14 (cel_14 cA ad S_3 0) rfl (by decide) f15 (fun _ h => h) rfl dX2_addLine_22 ?_
    refine k_aload_n (pc := 25) C dX2_addLine_25 0 rfl rfl ?_
    refine k_get (j := 3) (pc := 26) C hin2 hm_14 (cel_14 cA ad S_3 0) rfl (by decide) f35 (fun _ h => h) rfl dX2_addLine_26 ?_
    refine k_iload_n (pc := 29) C dX2_addLine_29 2 rfl rfl ?_
    obtain ⟨h_4, hw⟩ := hw
    refine k_iast (pc := 30) C hm_16 (fun S => cel_16 cA ad S 0) h_4 dX2_addLine_30 ?_
    refine k_nameS (fun S_5 eS_5 => ?_)
    have hw := hw S_5 eS_5
    refine k_aload_n (pc := 31) C dX2_addLine_31 0 rfl rfl ?_
    refine k_get (j := 2) (pc := 32) C hin2 hm_14 (cel_14 cA ad S_5 0) rfl (by decide) f18 (fun _ h => h) rfl dX2_addLine_32 ?_
    refine k_aload_n (pc := 35) C dX2_addLine_35 0 rfl rfl ?_
    refine k_get (j := 3) (pc := 36) C hin2 hm_14 (cel_14 cA ad S_5 0) rfl (by decide) f35 (fun _ h => h) rfl dX2_addLine_36 ?_
    refine k_iload_n (pc := 39) C dX2_addLine_39 3 rfl rfl ?_
    obtain ⟨h_6, hw⟩ := hw
    refine k_iast (pc := 40) C hm_17 (fun S => cel_17 cA ad S 0) h_6 dX2_addLine_40 ?_
    refine k_nameS (fun S_7 eS_7 => ?_)
    have hw := hw S_7 eS_7
    refine k_aload_n (pc := 41) C dX2_addLine_41 0 rfl rfl ?_
    refine k_dup (pc := 42) C dX2_addLine_42 rfl ?_
    refine k_get (j := 3) (pc := 43) C hin2 hm_14 (cel_14 cA ad S_7 0) rfl (by decide) f35 (fun _ h => h) rfl dX2_addLine_43 ?_
    refine k_iconst (v := 1) (pc := 46) C dX2_addLine_46 (by decide) ?_
    refine k_iadd (pc := 47) C dX2_addLine_47 ?_
    refine k_put (S' := uI S_7 14 0 3 ((gI S_7 14 0 3) + 1)) (j := 3) (ty := .int) (pc := 48) C hin2 tyX2 tyX2_ok nmX2 hm_14 (cel_14 cA ad S_7 0) rfl (by decide) f35 (fun _ h => h) rfl (by decide +kernel) rfl rfl (Nat.le_of_ble_eq_true rfl) rfl rfl (fun a b h => cel_uI h) dX2_addLine_48 ?_
    refine k_nameS (fun S_8 eS_8 => ?_)
    have hw := hw S_8 eS_8
    refine k_aload_n (pc := 51) C dX2_addLine_51 0 rfl rfl ?_
    refine k_iconst (v := 0) (pc := 52) C dX2_addLine_52 (by decide) ?_
    refine k_put (S' := uI S_8 14 0 10 0) (j := 10) (ty := .boolean) (pc := 53) C hin2 tyX2 tyX2_ok nmX2 hm_14 (cel_14 cA ad S_8 0) rfl (by decide) f39 (fun _ h => h) rfl (by decide +kernel) rfl rfl (Nat.le_of_ble_eq_true rfl) rfl rfl (fun a b h => cel_uI h) dX2_addLine_53 ?_
    refine k_nameS (fun S_9 eS_9 => ?_)
    have hw := hw S_9 eS_9
    refine k_iconst (v := 1) (pc := 56) C dX2_addLine_56 (by decide) ?_
    exact hret _ _ _ _ dX2_addLine_57 rfl hw
  · have hw := hw.2 q_1
    refine k_iconst (v := 0) (pc := 9) C dX2_addLine_9 (by decide) ?_
    exact hret _ _ _ _ dX2_addLine_10 rfl hw
def wp_X2_dropLine (S : Sg) (Q : Int32 → Sg → Prop) : Prop :=
  ((0 < (gI S 14 0 3) → (∀ S_2 : Sg, S_2 = uI S 14 0 3 ((gI S 14 0 3) - 1) → (∀ S_3 : Sg, S_3 = uI S_2 14 0 10 0 → Q 1 S_3))) ∧ (¬ 0 < (gI S 14 0 3) → Q 0 S))
set_option maxHeartbeats 4000000 in
set_option maxRecDepth 100000 in
theorem ct_X2_dropLine (l : Launch) (D : va_G) (cA : Nat → ClassId) (ad : Nat → Nat → Nat) (S : Sg) (Q : Int32 → Sg → Prop) (hw : wp_X2_dropLine  S Q) : CtI l yX2_dropLine wsX2_dropLine (mkR 0 0) D cA ad [.ref (ad 14 0)] S Q := by
  refine ct_ofZ (cc := cX2_dropLine) (nL := 1) (by decide) rfl (Nat.le_of_ble_eq_true rfl) ?_
  intro p e s m args below meth c A Q C hret
  unfold wp_X2_dropLine at hw
  have C : Cx p s m args c cX2_dropLine 1 wsX2_dropLine RX2 D cA A := C
  have hin2 : ∀ w ∈ u_ws RX2 TX2 11, w ∈ wsX2_dropLine := fun w h => List.mem_cons_of_mem _ (List.mem_append_right _ h)
  have f35 : Cond.fieldLink RX2 35 "CreepBoard$Levels" "lineCount" "I" ∈ wsX2_dropLine := by decide +kernel
  have f39 : Cond.fieldLink RX2 39 "CreepBoard$Levels" "known" "Z" ∈ wsX2_dropLine := by decide +kernel
  change KK p l e (mkR 0 0) s m args below meth c 1 D cA ad A Q 0 [(0, .ref (ad 14 0))] [] S
  refine k_aload_n (pc := 0) C dX2_dropLine_0 0 rfl rfl ?_
  refine k_get (j := 3) (pc := 1) C hin2 hm_14 (cel_14 cA ad S 0) rfl (by decide) f35 (fun _ h => h) rfl dX2_dropLine_1 ?_
  refine k_if_gt (pc := 4) C 9 dX2_dropLine_4 (by decide) (fun q_1 => ?_) (fun q_1 => ?_)
  · have hw := hw.1 q_1
    refine k_aload_n (pc := 9) C dX2_dropLine_9 0 rfl rfl ?_
    refine k_dup (pc := 10) C dX2_dropLine_10 rfl ?_
    refine k_get (j := 3) (pc := 11) C hin2 hm_14 (cel_14 cA ad S 0) rfl (by decide) f35 (fun _ h => h) rfl dX2_dropLine_11 ?_
    refine k_iconst (v := 1) (pc := 14) C dX2_dropLine_14 (by decide) ?_
    refine k_isub (pc := 15) C dX2_dropLine_15 ?_
    refine k_put (S' := uI S 14 0 3 ((gI S 14 0 3) - 1)) (j := 3) (ty := .int) (pc := 16) C hin2 tyX2 tyX2_ok nmX2 hm_14 (cel_14 cA ad S 0) rfl (by decide) f35 (fun _ h => h) rfl (by decide +kernel) rfl rfl (Nat.le_of_ble_eq_true rfl) rfl rfl (fun a b h => cel_uI h) dX2_dropLine_16 ?_
    refine k_nameS (fun S_2 eS_2 => ?_)
    have hw := hw S_2 eS_2
    refine k_aload_n (pc := 19) C dX2_dropLine_19 0 rfl rfl ?_
    refine k_iconst (v := 0) (pc := 20) C dX2_dropLine_20 (by decide) ?_
    refine k_put (S' := uI S_2 14 0 10 0) (j := 10) (ty := .boolean) (pc := 21) C hin2 tyX2 tyX2_ok nmX2 hm_14 (cel_14 cA ad S_2 0) rfl (by decide) f39 (fun _ h => h) rfl (by decide +kernel) rfl rfl (Nat.le_of_ble_eq_true rfl) rfl rfl (fun a b h => cel_uI h) dX2_dropLine_21 ?_
    refine k_nameS (fun S_3 eS_3 => ?_)
    have hw := hw S_3 eS_3
    refine k_iconst (v := 1) (pc := 24) C dX2_dropLine_24 (by decide) ?_
    exact hret _ _ _ _ dX2_dropLine_25 rfl hw
  · have hw := hw.2 q_1
    refine k_iconst (v := 0) (pc := 7) C dX2_dropLine_7 (by decide) ?_
    exact hret _ _ _ _ dX2_dropLine_8 rfl hw
def wp_X2_join (a1 : Int32) (a2 : Int32) (S : Sg) (Q : Sg → Prop) : Prop :=
  (vp_in a2 14 ∧ (∀ x3_2 : Int32, x3_2 = (gA S 15 0 (Int32.toNatClampNeg a2)) → (vp_in a2 14 ∧ (∀ x4_4 : Int32, x4_4 = (gA S 16 0 (Int32.toNatClampNeg a2)) → (vp_in a1 10 ∧ (vp_in x3_2 10 ∧ (∀ x5_7 : Int32, x5_7 = (gA S 19 (Int32.toNatClampNeg a1) (Int32.toNatClampNeg x3_2)) → (vp_in a1 10 ∧ (vp_in x4_4 10 ∧ (∀ x6_10 : Int32, x6_10 = (gA S 19 (Int32.toNatClampNeg a1) (Int32.toNatClampNeg x4_4)) → (vp_in a1 10 ∧ (vp_in x3_2 10 ∧ (vp_in a2 14 ∧ (vp_in a1 10 ∧ (vp_in x4_4 10 ∧ (∀ x7_16 : Int32, x7_16 = (((gA S 21 (Int32.toNatClampNeg a1) (Int32.toNatClampNeg x3_2)) + (gA S 17 0 (Int32.toNatClampNeg a2))) - (gA S 21 (Int32.toNatClampNeg a1) (Int32.toNatClampNeg x4_4))) → (∃ (I_17 : Int32 → Sg → Prop) (μ_17 : Int32 → Sg → Nat), I_17 0 S ∧ ∀ (v8_17 : Int32) (S_17 : Sg), I_17 v8_17 S_17 → ((10 ≤ v8_17 → Q S_17) ∧ (¬ 10 ≤ v8_17 → (vp_in a1 10 ∧ (vp_in v8_17 10 ∧ (∃ J_21 : Int32 → Sg → Prop, (∀ (t0_21 : Int32) (S_21 : Sg), J_21 t0_21 S_21 → (vp_in (a1 + 1) 10 ∧ (∃ J_23 : Int32 → Sg → Prop, (∀ (t0_23 : Int32) (S_23 : Sg), J_23 t0_23 S_23 → (vp_in v8_17 10 ∧ (∀ S_25 : Sg, S_25 = uA S_23 19 (Int32.toNatClampNeg (a1 + 1)) (Int32.toNatClampNeg v8_17) t0_23 → (vp_in (a1 + 1) 10 ∧ ((t0_21 = 0 → (vp_in a1 10 ∧ (vp_in v8_17 10 ∧ (vp_in v8_17 10 ∧ (∀ S_31 : Sg, S_31 = uA S_25 21 (Int32.toNatClampNeg (a1 + 1)) (Int32.toNatClampNeg v8_17) (gA S_25 21 (Int32.toNatClampNeg a1) (Int32.toNatClampNeg v8_17)) → (∀ x8_32 : Int32, x8_32 = v8_17 + 1 → (I_17 x8_32 S_31 ∧ μ_17 x8_32 S_31 < μ_17 v8_17 S_17))))))) ∧ (¬ t0_21 = 0 → (vp_in a1 10 ∧ (vp_in v8_17 10 ∧ (vp_in v8_17 10 ∧ (∀ S_36 : Sg, S_36 = uA S_25 21 (Int32.toNatClampNeg (a1 + 1)) (Int32.toNatClampNeg v8_17) ((gA S_25 21 (Int32.toNatClampNeg a1) (Int32.toNatClampNeg v8_17)) + x7_16) → (∀ x8_37 : Int32, x8_37 = v8_17 + 1 → (I_17 x8_37 S_36 ∧ μ_17 x8_37 S_36 < μ_17 v8_17 S_17)))))))))))) ∧ ((t0_21 = 0 → (vp_in a1 10 ∧ (vp_in v8_17 10 ∧ J_23 (gA S_21 19 (Int32.toNatClampNeg a1) (Int32.toNatClampNeg v8_17)) S_21))) ∧ (¬ t0_21 = 0 → J_23 x5_7 S_21))))) ∧ ((¬ (gA S_17 19 (Int32.toNatClampNeg a1) (Int32.toNatClampNeg v8_17)) = x6_10 → J_21 0 S_17) ∧ ((gA S_17 19 (Int32.toNatClampNeg a1) (Int32.toNatClampNeg v8_17)) = x6_10 → J_21 1 S_17))))))))))))))))))))))))
set_option maxHeartbeats 4000000 in
set_option maxRecDepth 100000 in
theorem ct_X2_join (l : Launch) (D : va_G) (cA : Nat → ClassId) (ad : Nat → Nat → Nat) (a1 : Int32) (a2 : Int32) (S : Sg) (Q : Sg → Prop) (hw : wp_X2_join a1 a2 S Q) : CtV l yX2_join wsX2_join (mkR 0 0) D cA ad [.ref (ad 14 0), .int a1, .int a2] S Q := by
  refine ct_ofV (cc := cX2_join) (nL := 10) (by decide) rfl (Nat.le_of_ble_eq_true rfl) ?_
  intro p e s m args below meth c A Q C hret
  unfold wp_X2_join at hw
  have C : Cx p s m args c cX2_join 10 wsX2_join RX2 D cA A := C
  have hin2 : ∀ w ∈ u_ws RX2 TX2 11, w ∈ wsX2_join := fun w h => List.mem_cons_of_mem _ (List.mem_append_right _ h)
  have f9 : Cond.fieldLink RX2 9 "CreepBoard$Levels" "from" "[I" ∈ wsX2_join := by decide +kernel
  have f15 : Cond.fieldLink RX2 15 "CreepBoard$Levels" "to" "[I" ∈ wsX2_join := by decide +kernel
  have f23 : Cond.fieldLink RX2 23 "CreepBoard$Levels" "group" "[[I" ∈ wsX2_join := by decide +kernel
  have f26 : Cond.fieldLink RX2 26 "CreepBoard$Levels" "level" "[[I" ∈ wsX2_join := by decide +kernel
  have f18 : Cond.fieldLink RX2 18 "CreepBoard$Levels" "rise" "[I" ∈ wsX2_join := by decide +kernel
  change KK p l e (mkR 0 0) s m args below meth c 10 D cA ad A Q 0 [(0, .ref (ad 14 0)), (1, .int a1), (2, .int a2)] [] S
  refine k_aload_n (pc := 0) C dX2_join_0 0 rfl rfl ?_
  refine k_get (j := 0) (pc := 1) C hin2 hm_14 (cel_14 cA ad S 0) rfl (by decide) f9 (fun _ h => h) rfl dX2_join_1 ?_
  refine k_iload_n (pc := 4) C dX2_join_4 2 rfl rfl ?_
  obtain ⟨h_1, hw⟩ := hw
  refine k_iald (pc := 5) C hm_15 (cel_15 cA ad S 0) h_1 dX2_join_5 ?_
  refine k_topi (fun x3_2 ex3_2 => ?_)
  have hw := hw x3_2 ex3_2
  refine k_istore_n (pc := 6) C dX2_join_6 rfl (by decide) [(3, .int x3_2), (0, .ref (ad 14 0)), (1, .int a1), (2, .int a2)] rfl ?_
  refine k_aload_n (pc := 7) C dX2_join_7 1 rfl rfl ?_
  refine k_get (j := 1) (pc := 8) C hin2 hm_14 (cel_14 cA ad S 0) rfl (by decide) f15 (fun _ h => h) rfl dX2_join_8 ?_
  refine k_iload_n (pc := 11) C dX2_join_11 3 rfl rfl ?_
  obtain ⟨h_3, hw⟩ := hw
  refine k_iald (pc := 12) C hm_16 (cel_16 cA ad S 0) h_3 dX2_join_12 ?_
  refine k_topi (fun x4_4 ex4_4 => ?_)
  have hw := hw x4_4 ex4_4
  refine k_istore (pc := 13) C dX2_join_13 (by decide) [(4, .int x4_4), (3, .int x3_2), (0, .ref (ad 14 0)), (1, .int a1), (2, .int a2)] rfl ?_
  refine k_aload_n (pc := 15) C dX2_join_15 2 rfl rfl ?_
  refine k_get (j := 4) (pc := 16) C hin2 hm_14 (cel_14 cA ad S 0) rfl (by decide) f23 (fun _ h => h) rfl dX2_join_16 ?_
  refine k_iload_n (pc := 19) C dX2_join_19 3 rfl rfl ?_
  obtain ⟨h_5, hw⟩ := hw
  refine k_aldg (pc := 20) C hm_18 (cel_18 cA ad S 0) h_5 dX2_join_20 ?_
  refine k_iload_n (pc := 21) C dX2_join_21 1 rfl rfl ?_
  obtain ⟨h_6, hw⟩ := hw
  refine k_iald (pc := 22) C (ids_row (vp_lt h_5) (Or.inl rfl)) (cel_19 cA ad S (Int32.toNatClampNeg a1)) h_6 dX2_join_22 ?_
  refine k_topi (fun x5_7 ex5_7 => ?_)
  have hw := hw x5_7 ex5_7
  refine k_istore (pc := 23) C dX2_join_23 (by decide) [(5, .int x5_7), (4, .int x4_4), (3, .int x3_2), (0, .ref (ad 14 0)), (1, .int a1), (2, .int a2)] rfl ?_
  refine k_aload_n (pc := 25) C dX2_join_25 3 rfl rfl ?_
  refine k_get (j := 4) (pc := 26) C hin2 hm_14 (cel_14 cA ad S 0) rfl (by decide) f23 (fun _ h => h) rfl dX2_join_26 ?_
  refine k_iload_n (pc := 29) C dX2_join_29 4 rfl rfl ?_
  obtain ⟨h_8, hw⟩ := hw
  refine k_aldg (pc := 30) C hm_18 (cel_18 cA ad S 0) h_8 dX2_join_30 ?_
  refine k_iload (pc := 31) C dX2_join_31 1 rfl ?_
  obtain ⟨h_9, hw⟩ := hw
  refine k_iald (pc := 33) C (ids_row (vp_lt h_8) (Or.inl rfl)) (cel_19 cA ad S (Int32.toNatClampNeg a1)) h_9 dX2_join_33 ?_
  refine k_topi (fun x6_10 ex6_10 => ?_)
  have hw := hw x6_10 ex6_10
  refine k_istore (pc := 34) C dX2_join_34 (by decide) [(6, .int x6_10), (5, .int x5_7), (4, .int x4_4), (3, .int x3_2), (0, .ref (ad 14 0)), (1, .int a1), (2, .int a2)] rfl ?_
  refine k_aload_n (pc := 36) C dX2_join_36 4 rfl rfl ?_
  refine k_get (j := 5) (pc := 37) C hin2 hm_14 (cel_14 cA ad S 0) rfl (by decide) f26 (fun _ h => h) rfl dX2_join_37 ?_
  refine k_iload_n (pc := 40) C dX2_join_40 5 rfl rfl ?_
  obtain ⟨h_11, hw⟩ := hw
  refine k_aldg (pc := 41) C hm_20 (cel_20 cA ad S 0) h_11 dX2_join_41 ?_
  refine k_iload_n (pc := 42) C dX2_join_42 3 rfl rfl ?_
  obtain ⟨h_12, hw⟩ := hw
  refine k_iald (pc := 43) C (ids_row (vp_lt h_11) (Or.inr rfl)) (cel_21 cA ad S (Int32.toNatClampNeg a1)) h_12 dX2_join_43 ?_
  refine k_aload_n (pc := 44) C dX2_join_44 4 rfl rfl ?_
  refine k_get (j := 2) (pc := 45) C hin2 hm_14 (cel_14 cA ad S 0) rfl (by decide) f18 (fun _ h => h) rfl dX2_join_45 ?_
  refine k_iload_n (pc := 48) C dX2_join_48 6 rfl rfl ?_
  obtain ⟨h_13, hw⟩ := hw
  refine k_iald (pc := 49) C hm_17 (cel_17 cA ad S 0) h_13 dX2_join_49 ?_
  refine k_iadd (pc := 50) C dX2_join_50 ?_
  refine k_aload_n (pc := 51) C dX2_join_51 4 rfl rfl ?_
  refine k_get (j := 5) (pc := 52) C hin2 hm_14 (cel_14 cA ad S 0) rfl (by decide) f26 (fun _ h => h) rfl dX2_join_52 ?_
  refine k_iload_n (pc := 55) C dX2_join_55 5 rfl rfl ?_
  obtain ⟨h_14, hw⟩ := hw
  refine k_aldg (pc := 56) C hm_20 (cel_20 cA ad S 0) h_14 dX2_join_56 ?_
  refine k_iload (pc := 57) C dX2_join_57 2 rfl ?_
  obtain ⟨h_15, hw⟩ := hw
  refine k_iald (pc := 59) C (ids_row (vp_lt h_14) (Or.inr rfl)) (cel_21 cA ad S (Int32.toNatClampNeg a1)) h_15 dX2_join_59 ?_
  refine k_isub (pc := 60) C dX2_join_60 ?_
  refine k_topi (fun x7_16 ex7_16 => ?_)
  have hw := hw x7_16 ex7_16
  refine k_istore (pc := 61) C dX2_join_61 (by decide) [(7, .int x7_16), (6, .int x6_10), (5, .int x5_7), (4, .int x4_4), (3, .int x3_2), (0, .ref (ad 14 0)), (1, .int a1), (2, .int a2)] rfl ?_
  refine k_iconst (v := 0) (pc := 63) C dX2_join_63 (by decide) ?_
  refine k_istore (pc := 64) C dX2_join_64 (by decide) [(8, .int 0), (7, .int x7_16), (6, .int x6_10), (5, .int x5_7), (4, .int x4_4), (3, .int x3_2), (0, .ref (ad 14 0)), (1, .int a1), (2, .int a2)] rfl ?_
  refine k_sub [6, 7, 3, 2, 1, 0] [(0, .ref (ad 14 0)), (1, .int a1), (5, .int x5_7), (6, .int x6_10), (7, .int x7_16), (8, .int 0)] rfl ?_
  obtain ⟨I_17, μ_17, hi_17, hw⟩ := hw
  have L_17 : ∀ (n : Nat) (v8_17 : Int32) (S_17 : Sg), μ_17 v8_17 S_17 < n → I_17 v8_17 S_17 → KK p l e (mkR 0 0) s m args below meth c 10 D cA ad A Q 66 [(0, .ref (ad 14 0)), (1, .int a1), (5, .int x5_7), (6, .int x6_10), (7, .int x7_16), (8, .int v8_17)] [] S_17 := by
    intro n
    induction n with
    | zero => intro v8_17 S_17 h; exact absurd h (Nat.not_lt_zero _)
    | succ n ih_17 =>
      intro v8_17 S_17 hn_17 hi_17
      have hw := hw v8_17 S_17 hi_17
      refine k_iload (pc := 66) C dX2_join_66 5 rfl ?_
      refine k_bipush (v := 10) (pc := 68) C dX2_join_68 (by decide) ?_
      refine k_icmp_ge (pc := 70) C 170 dX2_join_70 (by decide) (fun q_18 => ?_) (fun q_18 => ?_)
      · have hw := hw.1 q_18
        exact hret _ _ _ dX2_join_170 hw
      · have hw := hw.2 q_18
        refine k_aload_n (pc := 73) C dX2_join_73 0 rfl rfl ?_
        refine k_get (j := 4) (pc := 74) C hin2 hm_14 (cel_14 cA ad S_17 0) rfl (by decide) f23 (fun _ h => h) rfl dX2_join_74 ?_
        refine k_iload_n (pc := 77) C dX2_join_77 1 rfl rfl ?_
        obtain ⟨h_19, hw⟩ := hw
        refine k_aldg (pc := 78) C hm_18 (cel_18 cA ad S_17 0) h_19 dX2_join_78 ?_
        refine k_iload (pc := 79) C dX2_join_79 5 rfl ?_
        obtain ⟨h_20, hw⟩ := hw
        refine k_iald (pc := 81) C (ids_row (vp_lt h_19) (Or.inl rfl)) (cel_19 cA ad S_17 (Int32.toNatClampNeg a1)) h_20 dX2_join_81 ?_
        refine k_iload (pc := 82) C dX2_join_82 3 rfl ?_
        obtain ⟨J_21, hj_21, hw⟩ := hw
        have j_21 : ∀ (t0_21 : Int32) (S_21 : Sg), J_21 t0_21 S_21 → KK p l e (mkR 0 0) s m args below meth c 10 D cA ad A Q 92 [(0, .ref (ad 14 0)), (1, .int a1), (5, .int x5_7), (6, .int x6_10), (7, .int x7_16), (8, .int v8_17)] [.int t0_21] S_21 := by
          intro t0_21 S_21 hw
          have hw := hj_21 t0_21 S_21 hw
          refine k_istore (pc := 92) C dX2_join_92 (by decide) [(9, .int t0_21), (0, .ref (ad 14 0)), (1, .int a1), (5, .int x5_7), (6, .int x6_10), (7, .int x7_16), (8, .int v8_17)] rfl ?_
          refine k_aload_n (pc := 94) C dX2_join_94 1 rfl rfl ?_
          refine k_get (j := 4) (pc := 95) C hin2 hm_14 (cel_14 cA ad S_21 0) rfl (by decide) f23 (fun _ h => h) rfl dX2_join_95 ?_
          refine k_iload_n (pc := 98) C dX2_join_98 2 rfl rfl ?_
          refine k_iconst (v := 1) (pc := 99) C dX2_join_99 (by decide) ?_
          refine k_iadd (pc := 100) C dX2_join_100 ?_
          obtain ⟨h_22, hw⟩ := hw
          refine k_aldg (pc := 101) C hm_18 (cel_18 cA ad S_21 0) h_22 dX2_join_101 ?_
          refine k_iload (pc := 102) C dX2_join_102 6 rfl ?_
          refine k_iload (pc := 104) C dX2_join_104 0 rfl ?_
          obtain ⟨J_23, hj_23, hw⟩ := hw
          have j_23 : ∀ (t0_23 : Int32) (S_23 : Sg), J_23 t0_23 S_23 → KK p l e (mkR 0 0) s m args below meth c 10 D cA ad A Q 123 [(0, .ref (ad 14 0)), (1, .int a1), (5, .int x5_7), (6, .int x6_10), (7, .int x7_16), (8, .int v8_17), (9, .int t0_21)] [.int t0_23, .int v8_17, .ref (ad 19 (Int32.toNatClampNeg (a1 + 1)))] S_23 := by
            intro t0_23 S_23 hw
            have hw := hj_23 t0_23 S_23 hw
            obtain ⟨h_24, hw⟩ := hw
            refine k_iast (pc := 123) C (ids_row (vp_lt h_22) (Or.inl rfl)) (fun S => cel_19 cA ad S (Int32.toNatClampNeg (a1 + 1))) h_24 dX2_join_123 ?_
            refine k_nameS (fun S_25 eS_25 => ?_)
            have hw := hw S_25 eS_25
            refine k_aload_n (pc := 124) C dX2_join_124 0 rfl rfl ?_
            refine k_get (j := 5) (pc := 125) C hin2 hm_14 (cel_14 cA ad S_25 0) rfl (by decide) f26 (fun _ h => h) rfl dX2_join_125 ?_
            refine k_iload_n (pc := 128) C dX2_join_128 1 rfl rfl ?_
            refine k_iconst (v := 1) (pc := 129) C dX2_join_129 (by decide) ?_
            refine k_iadd (pc := 130) C dX2_join_130 ?_
            obtain ⟨h_26, hw⟩ := hw
            refine k_aldg (pc := 131) C hm_20 (cel_20 cA ad S_25 0) h_26 dX2_join_131 ?_
            refine k_iload (pc := 132) C dX2_join_132 5 rfl ?_
            refine k_iload (pc := 134) C dX2_join_134 6 rfl ?_
            refine k_if_eq (pc := 136) C 154 dX2_join_136 (by decide) (fun q_27 => ?_) (fun q_27 => ?_)
            · have hw := hw.1 q_27
              refine k_aload_n (pc := 154) C dX2_join_154 0 rfl rfl ?_
              refine k_get (j := 5) (pc := 155) C hin2 hm_14 (cel_14 cA ad S_25 0) rfl (by decide) f26 (fun _ h => h) rfl dX2_join_155 ?_
              refine k_iload_n (pc := 158) C dX2_join_158 1 rfl rfl ?_
              obtain ⟨h_28, hw⟩ := hw
              refine k_aldg (pc := 159) C hm_20 (cel_20 cA ad S_25 0) h_28 dX2_join_159 ?_
              refine k_iload (pc := 160) C dX2_join_160 5 rfl ?_
              obtain ⟨h_29, hw⟩ := hw
              refine k_iald (pc := 162) C (ids_row (vp_lt h_28) (Or.inr rfl)) (cel_21 cA ad S_25 (Int32.toNatClampNeg a1)) h_29 dX2_join_162 ?_
              obtain ⟨h_30, hw⟩ := hw
              refine k_iast (pc := 163) C (ids_row (vp_lt h_26) (Or.inr rfl)) (fun S => cel_21 cA ad S (Int32.toNatClampNeg (a1 + 1))) h_30 dX2_join_163 ?_
              refine k_nameS (fun S_31 eS_31 => ?_)
              have hw := hw S_31 eS_31
              obtain ⟨x8_32, ex8_32⟩ : ∃ y : Int32, y = v8_17 + 1 := ⟨_, rfl⟩
              have hw := hw x8_32 ex8_32
              refine k_iinc (v := x8_32) (j := 5) (pc := 164) C dX2_join_164 rfl (by rw [ex8_32]; rfl) (by decide) [(8, .int x8_32), (0, .ref (ad 14 0)), (1, .int a1), (5, .int x5_7), (6, .int x6_10), (7, .int x7_16), (9, .int t0_21)] rfl ?_
              refine k_goto (pc := 167) C 66 dX2_join_167 (by decide) ?_
              refine k_sub [1, 2, 3, 4, 5, 0] [(0, .ref (ad 14 0)), (1, .int a1), (5, .int x5_7), (6, .int x6_10), (7, .int x7_16), (8, .int x8_32)] rfl ?_
              exact ih_17 x8_32 S_31 (Nat.lt_of_lt_of_le hw.2 (Nat.le_of_lt_succ hn_17)) hw.1
            · have hw := hw.2 q_27
              refine k_aload_n (pc := 139) C dX2_join_139 0 rfl rfl ?_
              refine k_get (j := 5) (pc := 140) C hin2 hm_14 (cel_14 cA ad S_25 0) rfl (by decide) f26 (fun _ h => h) rfl dX2_join_140 ?_
              refine k_iload_n (pc := 143) C dX2_join_143 1 rfl rfl ?_
              obtain ⟨h_33, hw⟩ := hw
              refine k_aldg (pc := 144) C hm_20 (cel_20 cA ad S_25 0) h_33 dX2_join_144 ?_
              refine k_iload (pc := 145) C dX2_join_145 5 rfl ?_
              obtain ⟨h_34, hw⟩ := hw
              refine k_iald (pc := 147) C (ids_row (vp_lt h_33) (Or.inr rfl)) (cel_21 cA ad S_25 (Int32.toNatClampNeg a1)) h_34 dX2_join_147 ?_
              refine k_iload (pc := 148) C dX2_join_148 4 rfl ?_
              refine k_iadd (pc := 150) C dX2_join_150 ?_
              refine k_goto (pc := 151) C 163 dX2_join_151 (by decide) ?_
              obtain ⟨h_35, hw⟩ := hw
              refine k_iast (pc := 163) C (ids_row (vp_lt h_26) (Or.inr rfl)) (fun S => cel_21 cA ad S (Int32.toNatClampNeg (a1 + 1))) h_35 dX2_join_163 ?_
              refine k_nameS (fun S_36 eS_36 => ?_)
              have hw := hw S_36 eS_36
              obtain ⟨x8_37, ex8_37⟩ : ∃ y : Int32, y = v8_17 + 1 := ⟨_, rfl⟩
              have hw := hw x8_37 ex8_37
              refine k_iinc (v := x8_37) (j := 5) (pc := 164) C dX2_join_164 rfl (by rw [ex8_37]; rfl) (by decide) [(8, .int x8_37), (0, .ref (ad 14 0)), (1, .int a1), (5, .int x5_7), (6, .int x6_10), (7, .int x7_16), (9, .int t0_21)] rfl ?_
              refine k_goto (pc := 167) C 66 dX2_join_167 (by decide) ?_
              refine k_sub [1, 2, 3, 4, 5, 0] [(0, .ref (ad 14 0)), (1, .int a1), (5, .int x5_7), (6, .int x6_10), (7, .int x7_16), (8, .int x8_37)] rfl ?_
              exact ih_17 x8_37 S_36 (Nat.lt_of_lt_of_le hw.2 (Nat.le_of_lt_succ hn_17)) hw.1
          refine k_if_eq (pc := 106) C 114 dX2_join_106 (by decide) (fun q_38 => ?_) (fun q_38 => ?_)
          · have hw := hw.1 q_38
            refine k_aload_n (pc := 114) C dX2_join_114 1 rfl rfl ?_
            refine k_get (j := 4) (pc := 115) C hin2 hm_14 (cel_14 cA ad S_21 0) rfl (by decide) f23 (fun _ h => h) rfl dX2_join_115 ?_
            refine k_iload_n (pc := 118) C dX2_join_118 2 rfl rfl ?_
            obtain ⟨h_39, hw⟩ := hw
            refine k_aldg (pc := 119) C hm_18 (cel_18 cA ad S_21 0) h_39 dX2_join_119 ?_
            refine k_iload (pc := 120) C dX2_join_120 6 rfl ?_
            obtain ⟨h_40, hw⟩ := hw
            refine k_iald (pc := 122) C (ids_row (vp_lt h_39) (Or.inl rfl)) (cel_19 cA ad S_21 (Int32.toNatClampNeg a1)) h_40 dX2_join_122 ?_
            refine k_sub [1, 2, 3, 4, 5, 6, 0] [(0, .ref (ad 14 0)), (1, .int a1), (5, .int x5_7), (6, .int x6_10), (7, .int x7_16), (8, .int v8_17), (9, .int t0_21)] rfl ?_
            exact j_23 (gA S_21 19 (Int32.toNatClampNeg a1) (Int32.toNatClampNeg v8_17)) S_21 hw
          · have hw := hw.2 q_38
            refine k_iload (pc := 109) C dX2_join_109 3 rfl ?_
            refine k_goto (pc := 111) C 123 dX2_join_111 (by decide) ?_
            refine k_sub [1, 2, 3, 4, 5, 6, 0] [(0, .ref (ad 14 0)), (1, .int a1), (5, .int x5_7), (6, .int x6_10), (7, .int x7_16), (8, .int v8_17), (9, .int t0_21)] rfl ?_
            exact j_23 x5_7 S_21 hw
        refine k_icmp_ne (pc := 84) C 91 dX2_join_84 (by decide) (fun q_41 => ?_) (fun q_41 => ?_)
        · have hw := hw.1 q_41
          refine k_iconst (v := 0) (pc := 91) C dX2_join_91 (by decide) ?_
          refine k_sub [0, 1, 2, 3, 4, 5] [(0, .ref (ad 14 0)), (1, .int a1), (5, .int x5_7), (6, .int x6_10), (7, .int x7_16), (8, .int v8_17)] rfl ?_
          exact j_21 0 S_17 hw
        · have hw := hw.2 q_41
          refine k_iconst (v := 1) (pc := 87) C dX2_join_87 (by decide) ?_
          refine k_goto (pc := 88) C 92 dX2_join_88 (by decide) ?_
          refine k_sub [0, 1, 2, 3, 4, 5] [(0, .ref (ad 14 0)), (1, .int a1), (5, .int x5_7), (6, .int x6_10), (7, .int x7_16), (8, .int v8_17)] rfl ?_
          exact j_21 1 S_17 hw
  exact L_17 (μ_17 0 S + 1) 0 S (Nat.lt_succ_self _) hi_17
def wp_X9_within (a0 : Int32) (a1 : Int32) (S : Sg) (Q : Int32 → Sg → Prop) : Prop :=
  ((a0 < (-a1) → Q 0 S) ∧ (¬ a0 < (-a1) → ((a1 < a0 → Q 0 S) ∧ (¬ a1 < a0 → Q 1 S))))
set_option maxHeartbeats 4000000 in
set_option maxRecDepth 100000 in
theorem ct_X9_within (l : Launch) (D : va_G) (cA : Nat → ClassId) (ad : Nat → Nat → Nat) (a0 : Int32) (a1 : Int32) (S : Sg) (Q : Int32 → Sg → Prop) (hw : wp_X9_within a0 a1 S Q) : CtI l yX9_within wsX9_within (mkR 0 0) D cA ad [.int a0, .int a1] S Q := by
  refine ct_ofZ (cc := cX9_within) (nL := 2) (by decide) rfl (Nat.le_of_ble_eq_true rfl) ?_
  intro p e s m args below meth c A Q C hret
  unfold wp_X9_within at hw
  have C : Cx p s m args c cX9_within 2 wsX9_within RX9 D cA A := C
  change KK p l e (mkR 0 0) s m args below meth c 2 D cA ad A Q 0 [(0, .int a0), (1, .int a1)] [] S
  refine k_iload_n (pc := 0) C dX9_within_0 0 rfl rfl ?_
  refine k_iload_n (pc := 1) C dX9_within_1 1 rfl rfl ?_
  refine k_ineg (pc := 2) C dX9_within_2 ?_
  refine k_icmp_lt (pc := 3) C 15 dX9_within_3 (by decide) (fun q_1 => ?_) (fun q_1 => ?_)
  · have hw := hw.1 q_1
    refine k_iconst (v := 0) (pc := 15) C dX9_within_15 (by decide) ?_
    exact hret _ _ _ _ dX9_within_16 rfl hw
  · have hw := hw.2 q_1
    refine k_iload_n (pc := 6) C dX9_within_6 0 rfl rfl ?_
    refine k_iload_n (pc := 7) C dX9_within_7 1 rfl rfl ?_
    refine k_icmp_gt (pc := 8) C 15 dX9_within_8 (by decide) (fun q_2 => ?_) (fun q_2 => ?_)
    · have hw := hw.1 q_2
      refine k_iconst (v := 0) (pc := 15) C dX9_within_15 (by decide) ?_
      exact hret _ _ _ _ dX9_within_16 rfl hw
    · have hw := hw.2 q_2
      refine k_iconst (v := 1) (pc := 11) C dX9_within_11 (by decide) ?_
      refine k_goto (pc := 12) C 16 dX9_within_12 (by decide) ?_
      exact hret _ _ _ _ dX9_within_16 rfl hw
def wp_X9_isEpoch (a0 : Int32) (S : Sg) (Q : Int32 → Sg → Prop) : Prop :=
  ((a0 < 0 → Q 0 S) ∧ (¬ a0 < 0 → ((40 ≤ a0 → Q 0 S) ∧ (¬ 40 ≤ a0 → Q 1 S))))
set_option maxHeartbeats 4000000 in
set_option maxRecDepth 100000 in
theorem ct_X9_isEpoch (l : Launch) (D : va_G) (cA : Nat → ClassId) (ad : Nat → Nat → Nat) (a0 : Int32) (S : Sg) (Q : Int32 → Sg → Prop) (hw : wp_X9_isEpoch a0 S Q) : CtI l yX9_isEpoch wsX9_isEpoch (mkR 0 0) D cA ad [.int a0] S Q := by
  refine ct_ofZ (cc := cX9_isEpoch) (nL := 1) (by decide) rfl (Nat.le_of_ble_eq_true rfl) ?_
  intro p e s m args below meth c A Q C hret
  unfold wp_X9_isEpoch at hw
  have C : Cx p s m args c cX9_isEpoch 1 wsX9_isEpoch RX9 D cA A := C
  change KK p l e (mkR 0 0) s m args below meth c 1 D cA ad A Q 0 [(0, .int a0)] [] S
  refine k_iload_n (pc := 0) C dX9_isEpoch_0 0 rfl rfl ?_
  refine k_if_lt (pc := 1) C 14 dX9_isEpoch_1 (by decide) (fun q_1 => ?_) (fun q_1 => ?_)
  · have hw := hw.1 q_1
    refine k_iconst (v := 0) (pc := 14) C dX9_isEpoch_14 (by decide) ?_
    exact hret _ _ _ _ dX9_isEpoch_15 rfl hw
  · have hw := hw.2 q_1
    refine k_iload_n (pc := 4) C dX9_isEpoch_4 0 rfl rfl ?_
    refine k_bipush (v := 40) (pc := 5) C dX9_isEpoch_5 (by decide) ?_
    refine k_icmp_ge (pc := 7) C 14 dX9_isEpoch_7 (by decide) (fun q_2 => ?_) (fun q_2 => ?_)
    · have hw := hw.1 q_2
      refine k_iconst (v := 0) (pc := 14) C dX9_isEpoch_14 (by decide) ?_
      exact hret _ _ _ _ dX9_isEpoch_15 rfl hw
    · have hw := hw.2 q_2
      refine k_iconst (v := 1) (pc := 10) C dX9_isEpoch_10 (by decide) ?_
      refine k_goto (pc := 11) C 15 dX9_isEpoch_11 (by decide) ?_
      exact hret _ _ _ _ dX9_isEpoch_15 rfl hw
def wp_X9_isSide (a0 : Int32) (S : Sg) (Q : Int32 → Sg → Prop) : Prop :=
  ((a0 < 0 → Q 0 S) ∧ (¬ a0 < 0 → ((2 ≤ a0 → Q 0 S) ∧ (¬ 2 ≤ a0 → Q 1 S))))
set_option maxHeartbeats 4000000 in
set_option maxRecDepth 100000 in
theorem ct_X9_isSide (l : Launch) (D : va_G) (cA : Nat → ClassId) (ad : Nat → Nat → Nat) (a0 : Int32) (S : Sg) (Q : Int32 → Sg → Prop) (hw : wp_X9_isSide a0 S Q) : CtI l yX9_isSide wsX9_isSide (mkR 0 0) D cA ad [.int a0] S Q := by
  refine ct_ofZ (cc := cX9_isSide) (nL := 1) (by decide) rfl (Nat.le_of_ble_eq_true rfl) ?_
  intro p e s m args below meth c A Q C hret
  unfold wp_X9_isSide at hw
  have C : Cx p s m args c cX9_isSide 1 wsX9_isSide RX9 D cA A := C
  change KK p l e (mkR 0 0) s m args below meth c 1 D cA ad A Q 0 [(0, .int a0)] [] S
  refine k_iload_n (pc := 0) C dX9_isSide_0 0 rfl rfl ?_
  refine k_if_lt (pc := 1) C 13 dX9_isSide_1 (by decide) (fun q_1 => ?_) (fun q_1 => ?_)
  · have hw := hw.1 q_1
    refine k_iconst (v := 0) (pc := 13) C dX9_isSide_13 (by decide) ?_
    exact hret _ _ _ _ dX9_isSide_14 rfl hw
  · have hw := hw.2 q_1
    refine k_iload_n (pc := 4) C dX9_isSide_4 0 rfl rfl ?_
    refine k_iconst (v := 2) (pc := 5) C dX9_isSide_5 (by decide) ?_
    refine k_icmp_ge (pc := 6) C 13 dX9_isSide_6 (by decide) (fun q_2 => ?_) (fun q_2 => ?_)
    · have hw := hw.1 q_2
      refine k_iconst (v := 0) (pc := 13) C dX9_isSide_13 (by decide) ?_
      exact hret _ _ _ _ dX9_isSide_14 rfl hw
    · have hw := hw.2 q_2
      refine k_iconst (v := 1) (pc := 9) C dX9_isSide_9 (by decide) ?_
      refine k_goto (pc := 10) C 14 dX9_isSide_10 (by decide) ?_
      exact hret _ _ _ _ dX9_isSide_14 rfl hw
def wp_X9_isCut (a0 : Int32) (S : Sg) (Q : Int32 → Sg → Prop) : Prop :=
  ((a0 < 0 → Q 0 S) ∧ (¬ a0 < 0 → ((3 ≤ a0 → Q 0 S) ∧ (¬ 3 ≤ a0 → Q 1 S))))
set_option maxHeartbeats 4000000 in
set_option maxRecDepth 100000 in
theorem ct_X9_isCut (l : Launch) (D : va_G) (cA : Nat → ClassId) (ad : Nat → Nat → Nat) (a0 : Int32) (S : Sg) (Q : Int32 → Sg → Prop) (hw : wp_X9_isCut a0 S Q) : CtI l yX9_isCut wsX9_isCut (mkR 0 0) D cA ad [.int a0] S Q := by
  refine ct_ofZ (cc := cX9_isCut) (nL := 1) (by decide) rfl (Nat.le_of_ble_eq_true rfl) ?_
  intro p e s m args below meth c A Q C hret
  unfold wp_X9_isCut at hw
  have C : Cx p s m args c cX9_isCut 1 wsX9_isCut RX9 D cA A := C
  change KK p l e (mkR 0 0) s m args below meth c 1 D cA ad A Q 0 [(0, .int a0)] [] S
  refine k_iload_n (pc := 0) C dX9_isCut_0 0 rfl rfl ?_
  refine k_if_lt (pc := 1) C 13 dX9_isCut_1 (by decide) (fun q_1 => ?_) (fun q_1 => ?_)
  · have hw := hw.1 q_1
    refine k_iconst (v := 0) (pc := 13) C dX9_isCut_13 (by decide) ?_
    exact hret _ _ _ _ dX9_isCut_14 rfl hw
  · have hw := hw.2 q_1
    refine k_iload_n (pc := 4) C dX9_isCut_4 0 rfl rfl ?_
    refine k_iconst (v := 3) (pc := 5) C dX9_isCut_5 (by decide) ?_
    refine k_icmp_ge (pc := 6) C 13 dX9_isCut_6 (by decide) (fun q_2 => ?_) (fun q_2 => ?_)
    · have hw := hw.1 q_2
      refine k_iconst (v := 0) (pc := 13) C dX9_isCut_13 (by decide) ?_
      exact hret _ _ _ _ dX9_isCut_14 rfl hw
    · have hw := hw.2 q_2
      refine k_iconst (v := 1) (pc := 9) C dX9_isCut_9 (by decide) ?_
      refine k_goto (pc := 10) C 14 dX9_isCut_10 (by decide) ?_
      exact hret _ _ _ _ dX9_isCut_14 rfl hw
def wp_X9_markAt (a1 : Int32) (S : Sg) (Q : Option Nat → Sg → Prop) : Prop :=
  ((a1 < 0 → Q none S) ∧ (¬ a1 < 0 → (((gI S 0 0 6) ≤ a1 → Q none S) ∧ (¬ (gI S 0 0 6) ≤ a1 → ((10 ≤ a1 → Q none S) ∧ (¬ 10 ≤ a1 → (vp_in a1 10 ∧ (((Int32.toNatClampNeg a1) < nM S → Q (some (Int32.toNatClampNeg a1)) S) ∧ (¬ (Int32.toNatClampNeg a1) < nM S → Q none S)))))))))
set_option maxHeartbeats 4000000 in
set_option maxRecDepth 100000 in
theorem ct_X9_markAt (l : Launch) (D : va_G) (cA : Nat → ClassId) (ad : Nat → Nat → Nat) (a1 : Int32) (S : Sg) (Q : Option Nat → Sg → Prop) (hw : wp_X9_markAt a1 S Q) : CtQ 26 l yX9_markAt wsX9_markAt (mkR 0 0) D cA ad [.ref (ad 0 0), .int a1] S Q := by
  refine ct_ofQ (cc := cX9_markAt) (nL := 2) (by decide) rfl (Nat.le_of_ble_eq_true rfl) ?_
  intro p e s m args below meth c A Q C hret
  unfold wp_X9_markAt at hw
  have C : Cx p s m args c cX9_markAt 2 wsX9_markAt RX9 D cA A := C
  have hin9 : ∀ w ∈ u_ws RX9 TX9 8, w ∈ wsX9_markAt := fun w h => List.mem_cons_of_mem _ (List.mem_append_right _ h)
  have f54 : Cond.fieldLink RX9 54 "CreepBoard" "markCount" "I" ∈ wsX9_markAt := by decide +kernel
  have f11 : Cond.fieldLink RX9 11 "CreepBoard" "marks" "[LCreepBoard$Mark;" ∈ wsX9_markAt := by decide +kernel
  change KK p l e (mkR 0 0) s m args below meth c 2 D cA ad A Q 0 [(0, .ref (ad 0 0)), (1, .int a1)] [] S
  refine k_iload_n (pc := 0) C dX9_markAt_0 1 rfl rfl ?_
  refine k_if_lt (pc := 1) C 27 dX9_markAt_1 (by decide) (fun q_1 => ?_) (fun q_1 => ?_)
  · have hw := hw.1 q_1
    refine k_null (pc := 27) C dX9_markAt_27 ?_
    exact hret _ _ none _ dX9_markAt_28 hw
  · have hw := hw.2 q_1
    refine k_iload_n (pc := 4) C dX9_markAt_4 1 rfl rfl ?_
    refine k_aload_n (pc := 5) C dX9_markAt_5 0 rfl rfl ?_
    refine k_get (j := 6) (pc := 6) C hin9 hm_0 (cel_0 cA ad S 0) rfl (by decide) f54 (fun _ h => h) rfl dX9_markAt_6 ?_
    refine k_icmp_ge (pc := 9) C 27 dX9_markAt_9 (by decide) (fun q_2 => ?_) (fun q_2 => ?_)
    · have hw := hw.1 q_2
      refine k_null (pc := 27) C dX9_markAt_27 ?_
      exact hret _ _ none _ dX9_markAt_28 hw
    · have hw := hw.2 q_2
      refine k_iload_n (pc := 12) C dX9_markAt_12 1 rfl rfl ?_
      refine k_bipush (v := 10) (pc := 13) C dX9_markAt_13 (by decide) ?_
      refine k_icmp_ge (pc := 15) C 27 dX9_markAt_15 (by decide) (fun q_3 => ?_) (fun q_3 => ?_)
      · have hw := hw.1 q_3
        refine k_null (pc := 27) C dX9_markAt_27 ?_
        exact hret _ _ none _ dX9_markAt_28 hw
      · have hw := hw.2 q_3
        refine k_aload_n (pc := 18) C dX9_markAt_18 0 rfl rfl ?_
        refine k_get (j := 0) (pc := 19) C hin9 hm_0 (cel_0 cA ad S 0) rfl (by decide) f11 (fun _ h => h) rfl dX9_markAt_19 ?_
        refine k_iload_n (pc := 22) C dX9_markAt_22 1 rfl rfl ?_
        obtain ⟨h_4, hw⟩ := hw
        refine k_ald1 (pc := 23) C h_4 dX9_markAt_23 (fun g_5 => ?_) (fun g_5 => ?_)
        · have hw := hw.1 g_5
          refine k_goto (pc := 24) C 28 dX9_markAt_24 (by decide) ?_
          exact hret _ _ (some (Int32.toNatClampNeg a1)) _ dX9_markAt_28 hw
        · have hw := hw.2 g_5
          refine k_goto (pc := 24) C 28 dX9_markAt_24 (by decide) ?_
          exact hret _ _ none _ dX9_markAt_28 hw
def wp_X9_shelfAt (a1 : Int32) (S : Sg) (Q : Option Nat → Sg → Prop) : Prop :=
  ((a1 < 0 → Q none S) ∧ (¬ a1 < 0 → ((8 ≤ a1 → Q none S) ∧ (¬ 8 ≤ a1 → (vp_in a1 8 ∧ Q (some (Int32.toNatClampNeg a1)) S)))))
set_option maxHeartbeats 4000000 in
set_option maxRecDepth 100000 in
theorem ct_X9_shelfAt (l : Launch) (D : va_G) (cA : Nat → ClassId) (ad : Nat → Nat → Nat) (a1 : Int32) (S : Sg) (Q : Option Nat → Sg → Prop) (hw : wp_X9_shelfAt a1 S Q) : CtQ 24 l yX9_shelfAt wsX9_shelfAt (mkR 0 0) D cA ad [.ref (ad 0 0), .int a1] S Q := by
  refine ct_ofQ (cc := cX9_shelfAt) (nL := 2) (by decide) rfl (Nat.le_of_ble_eq_true rfl) ?_
  intro p e s m args below meth c A Q C hret
  unfold wp_X9_shelfAt at hw
  have C : Cx p s m args c cX9_shelfAt 2 wsX9_shelfAt RX9 D cA A := C
  have hin9 : ∀ w ∈ u_ws RX9 TX9 8, w ∈ wsX9_shelfAt := fun w h => List.mem_cons_of_mem _ (List.mem_append_right _ h)
  have f45 : Cond.fieldLink RX9 45 "CreepBoard" "shelves" "[LCreepBoard$Shelf;" ∈ wsX9_shelfAt := by decide +kernel
  change KK p l e (mkR 0 0) s m args below meth c 2 D cA ad A Q 0 [(0, .ref (ad 0 0)), (1, .int a1)] [] S
  refine k_iload_n (pc := 0) C dX9_shelfAt_0 1 rfl rfl ?_
  refine k_if_lt (pc := 1) C 19 dX9_shelfAt_1 (by decide) (fun q_1 => ?_) (fun q_1 => ?_)
  · have hw := hw.1 q_1
    refine k_null (pc := 19) C dX9_shelfAt_19 ?_
    exact hret _ _ none _ dX9_shelfAt_20 hw
  · have hw := hw.2 q_1
    refine k_iload_n (pc := 4) C dX9_shelfAt_4 1 rfl rfl ?_
    refine k_bipush (v := 8) (pc := 5) C dX9_shelfAt_5 (by decide) ?_
    refine k_icmp_ge (pc := 7) C 19 dX9_shelfAt_7 (by decide) (fun q_2 => ?_) (fun q_2 => ?_)
    · have hw := hw.1 q_2
      refine k_null (pc := 19) C dX9_shelfAt_19 ?_
      exact hret _ _ none _ dX9_shelfAt_20 hw
    · have hw := hw.2 q_2
      refine k_aload_n (pc := 10) C dX9_shelfAt_10 0 rfl rfl ?_
      refine k_get (j := 5) (pc := 11) C hin9 hm_0 (cel_0 cA ad S 0) rfl (by decide) f45 (fun _ h => h) rfl dX9_shelfAt_11 ?_
      refine k_iload_n (pc := 14) C dX9_shelfAt_14 1 rfl rfl ?_
      obtain ⟨h_3, hw⟩ := hw
      refine k_ald2 (pc := 15) C h_3 dX9_shelfAt_15 ?_
      refine k_goto (pc := 16) C 20 dX9_shelfAt_16 (by decide) ?_
      exact hret _ _ (some (Int32.toNatClampNeg a1)) _ dX9_shelfAt_20 hw
def wp_X9_forgetMotion (S : Sg) (Q : Sg → Prop) : Prop :=
  wp_X0_forget S (fun S_1 => wp_X7_forget S_1 (fun S_2 => Q S_2))
set_option maxHeartbeats 4000000 in
set_option maxRecDepth 100000 in
theorem ct_X9_forgetMotion (l : Launch) (D : va_G) (cA : Nat → ClassId) (ad : Nat → Nat → Nat) (S : Sg) (Q : Sg → Prop) (hw : wp_X9_forgetMotion  S Q) : CtV l yX9_forgetMotion wsX9_forgetMotion (mkR 1 20) D cA ad [.ref (ad 0 0)] S Q := by
  refine ct_ofV (cc := cX9_forgetMotion) (nL := 1) (by decide) rfl (Nat.le_of_ble_eq_true rfl) ?_
  intro p e s m args below meth c A Q C hret
  unfold wp_X9_forgetMotion at hw
  have C : Cx p s m args c cX9_forgetMotion 1 wsX9_forgetMotion RX9 D cA A := C
  have hin9 : ∀ w ∈ u_ws RX9 TX9 8, w ∈ wsX9_forgetMotion := fun w h => List.mem_cons_of_mem _ (List.mem_append_left _ (List.mem_append_left _ (List.mem_append_right _ h)))
  have f25 : Cond.fieldLink RX9 25 "CreepBoard" "blockFinder" "LCreepBoard$BlockFinder;" ∈ wsX9_forgetMotion := by decide +kernel
  have f32 : Cond.fieldLink RX9 32 "CreepBoard" "slipFinder" "LCreepBoard$SlipFinder;" ∈ wsX9_forgetMotion := by decide +kernel
  change KK p l e (mkR 1 20) s m args below meth c 1 D cA ad A Q 0 [(0, .ref (ad 0 0))] [] S
  refine k_aload_n (pc := 0) C dX9_forgetMotion_0 0 rfl rfl ?_
  refine k_get (j := 2) (pc := 1) C hin9 hm_0 (cel_0 cA ad S 0) rfl (by decide) f25 (fun _ h => h) rfl dX9_forgetMotion_1 ?_
  refine k_afterV (pc := 4) C (wp_X0_forget S) hw (fun post hw => by
      exact rn_V C (ct_X0_forget l D cA ad S post hw) (cwV 0 C.2.2.2.2.1 gX9_forgetMotion_X0_forget rfl rfl rfl (by decide +kernel) ⟨Nat.le_of_ble_eq_true rfl, Nat.le_of_ble_eq_true rfl⟩) hm_6 (cel_6 cA ad S 0) rfl rfl rfl rfl (Nat.le_of_ble_eq_true rfl) dX9_forgetMotion_4) (fun S_1 hw => ?_)
  refine k_aload_n (pc := 7) C dX9_forgetMotion_7 0 rfl rfl ?_
  refine k_get (j := 3) (pc := 8) C hin9 hm_0 (cel_0 cA ad S_1 0) rfl (by decide) f32 (fun _ h => h) rfl dX9_forgetMotion_8 ?_
  refine k_afterV (pc := 11) C (wp_X7_forget S_1) hw (fun post hw => by
      exact rn_V C (ct_X7_forget l D cA ad S_1 post hw) (cwV 0 C.2.2.2.2.1 gX9_forgetMotion_X7_forget rfl rfl rfl (by decide +kernel) ⟨Nat.le_of_ble_eq_true rfl, Nat.le_of_ble_eq_true rfl⟩) hm_11 (cel_11 cA ad S_1 0) rfl rfl rfl rfl (Nat.le_of_ble_eq_true rfl) dX9_forgetMotion_11) (fun S_2 hw => ?_)
  exact hret _ _ _ dX9_forgetMotion_14 hw
def wp_X9_eastInFrame (k0 : Nat) (a1 : Int32) (a2 : Int32) (S : Sg) (Q : Int32 → Sg → Prop) : Prop :=
  (k0 < nM S ∧ wp_X3_speed k0 0 S (fun r_1 S_1 => (k0 < nM S_1 ∧ wp_X3_placeY k0 S_1 (fun r_3 S_3 => Q (r_1 - (a1 - (a2 * r_3))) S_3))))
set_option maxHeartbeats 4000000 in
set_option maxRecDepth 100000 in
theorem ct_X9_eastInFrame (l : Launch) (D : va_G) (cA : Nat → ClassId) (ad : Nat → Nat → Nat) (k0 : Nat) (a1 : Int32) (a2 : Int32) (S : Sg) (Q : Int32 → Sg → Prop) (hw : wp_X9_eastInFrame k0 a1 a2 S Q) : CtI l yX9_eastInFrame wsX9_eastInFrame (mkR 1 21) D cA ad [.ref (ad 26 k0), .int a1, .int a2] S Q := by
  refine ct_ofI (cc := cX9_eastInFrame) (nL := 3) (by decide) rfl (Nat.le_of_ble_eq_true rfl) ?_
  intro p e s m args below meth c A Q C hret
  unfold wp_X9_eastInFrame at hw
  have C : Cx p s m args c cX9_eastInFrame 3 wsX9_eastInFrame RX9 D cA A := C
  change KK p l e (mkR 1 21) s m args below meth c 3 D cA ad A Q 0 [(0, .ref (ad 26 k0)), (1, .int a1), (2, .int a2)] [] S
  refine k_aload_n (pc := 0) C dX9_eastInFrame_0 0 rfl rfl ?_
  refine k_iconst (v := 0) (pc := 1) C dX9_eastInFrame_1 (by decide) ?_
  obtain ⟨h_2, hw⟩ := hw
  refine k_afterI (pc := 2) C (wp_X3_speed k0 0 S) hw (fun post hw => by
      rcases kd4 S k0 with h | h | h | h
      · exact rn_V C (ct_X3_speed l D cA ad k0 0 S post hw) (cwV 1 C.2.2.2.2.1 gX9_eastInFrame_X3_speed rfl rfl rfl (by decide +kernel) ⟨Nat.le_of_ble_eq_true rfl, Nat.le_of_ble_eq_true rfl⟩) (mm_26 h_2) (celM_0 h) rfl rfl rfl rfl (Nat.le_of_ble_eq_true rfl) dX9_eastInFrame_2
      · exact rn_U C (ct_X3_speed l D cA ad k0 0 S post hw) (va_cwU 1 C.2.2.2.2.1 gX9_eastInFrame_X3_speed_u149X4 rfl rfl rfl rfl (by decide +kernel) ⟨Nat.le_of_ble_eq_true rfl, Nat.le_of_ble_eq_true rfl⟩) (mm_26 h_2) (celM_1 h) rfl rfl rfl rfl (Nat.le_of_ble_eq_true rfl) dX9_eastInFrame_2
      · exact rn_U C (ct_X3_speed l D cA ad k0 0 S post hw) (va_cwU 1 C.2.2.2.2.1 gX9_eastInFrame_X3_speed_u149X8 rfl rfl rfl rfl (by decide +kernel) ⟨Nat.le_of_ble_eq_true rfl, Nat.le_of_ble_eq_true rfl⟩) (mm_26 h_2) (celM_2 h) rfl rfl rfl rfl (Nat.le_of_ble_eq_true rfl) dX9_eastInFrame_2
      · exact rn_U C (ct_X3_speed l D cA ad k0 0 S post hw) (va_cwU 1 C.2.2.2.2.1 gX9_eastInFrame_X3_speed_u149X1 rfl rfl rfl rfl (by decide +kernel) ⟨Nat.le_of_ble_eq_true rfl, Nat.le_of_ble_eq_true rfl⟩) (mm_26 h_2) (celM_3 h) rfl rfl rfl rfl (Nat.le_of_ble_eq_true rfl) dX9_eastInFrame_2) (fun r_1 S_1 hw => ?_)
  refine k_iload_n (pc := 5) C dX9_eastInFrame_5 1 rfl rfl ?_
  refine k_iload_n (pc := 6) C dX9_eastInFrame_6 2 rfl rfl ?_
  refine k_aload_n (pc := 7) C dX9_eastInFrame_7 0 rfl rfl ?_
  obtain ⟨h_4, hw⟩ := hw
  refine k_afterI (pc := 8) C (wp_X3_placeY k0 S_1) hw (fun post hw => by
      rcases kd4 S_1 k0 with h | h | h | h
      · exact rn_V C (ct_X3_placeY l D cA ad k0 S_1 post hw) (cwV 0 C.2.2.2.2.1 gX9_eastInFrame_X3_placeY rfl rfl rfl (by decide +kernel) ⟨Nat.le_of_ble_eq_true rfl, Nat.le_of_ble_eq_true rfl⟩) (mm_26 h_4) (celM_0 h) rfl rfl rfl rfl (Nat.le_of_ble_eq_true rfl) dX9_eastInFrame_8
      · exact rn_U C (ct_X3_placeY l D cA ad k0 S_1 post hw) (va_cwU 0 C.2.2.2.2.1 gX9_eastInFrame_X3_placeY_u316X4 rfl rfl rfl rfl (by decide +kernel) ⟨Nat.le_of_ble_eq_true rfl, Nat.le_of_ble_eq_true rfl⟩) (mm_26 h_4) (celM_1 h) rfl rfl rfl rfl (Nat.le_of_ble_eq_true rfl) dX9_eastInFrame_8
      · exact rn_U C (ct_X3_placeY l D cA ad k0 S_1 post hw) (va_cwU 0 C.2.2.2.2.1 gX9_eastInFrame_X3_placeY_u316X8 rfl rfl rfl rfl (by decide +kernel) ⟨Nat.le_of_ble_eq_true rfl, Nat.le_of_ble_eq_true rfl⟩) (mm_26 h_4) (celM_2 h) rfl rfl rfl rfl (Nat.le_of_ble_eq_true rfl) dX9_eastInFrame_8
      · exact rn_U C (ct_X3_placeY l D cA ad k0 S_1 post hw) (va_cwU 0 C.2.2.2.2.1 gX9_eastInFrame_X3_placeY_u316X1 rfl rfl rfl rfl (by decide +kernel) ⟨Nat.le_of_ble_eq_true rfl, Nat.le_of_ble_eq_true rfl⟩) (mm_26 h_4) (celM_3 h) rfl rfl rfl rfl (Nat.le_of_ble_eq_true rfl) dX9_eastInFrame_8) (fun r_3 S_3 hw => ?_)
  refine k_imul (pc := 11) C dX9_eastInFrame_11 ?_
  refine k_isub (pc := 12) C dX9_eastInFrame_12 ?_
  refine k_isub (pc := 13) C dX9_eastInFrame_13 ?_
  exact hret _ _ _ _ dX9_eastInFrame_14 hw
def wp_X9_northInFrame (k0 : Nat) (a1 : Int32) (a2 : Int32) (S : Sg) (Q : Int32 → Sg → Prop) : Prop :=
  (k0 < nM S ∧ wp_X3_speed k0 1 S (fun r_1 S_1 => (k0 < nM S_1 ∧ wp_X3_placeX k0 S_1 (fun r_3 S_3 => Q (r_1 - (a1 + (a2 * r_3))) S_3))))
set_option maxHeartbeats 4000000 in
set_option maxRecDepth 100000 in
theorem ct_X9_northInFrame (l : Launch) (D : va_G) (cA : Nat → ClassId) (ad : Nat → Nat → Nat) (k0 : Nat) (a1 : Int32) (a2 : Int32) (S : Sg) (Q : Int32 → Sg → Prop) (hw : wp_X9_northInFrame k0 a1 a2 S Q) : CtI l yX9_northInFrame wsX9_northInFrame (mkR 1 21) D cA ad [.ref (ad 26 k0), .int a1, .int a2] S Q := by
  refine ct_ofI (cc := cX9_northInFrame) (nL := 3) (by decide) rfl (Nat.le_of_ble_eq_true rfl) ?_
  intro p e s m args below meth c A Q C hret
  unfold wp_X9_northInFrame at hw
  have C : Cx p s m args c cX9_northInFrame 3 wsX9_northInFrame RX9 D cA A := C
  change KK p l e (mkR 1 21) s m args below meth c 3 D cA ad A Q 0 [(0, .ref (ad 26 k0)), (1, .int a1), (2, .int a2)] [] S
  refine k_aload_n (pc := 0) C dX9_northInFrame_0 0 rfl rfl ?_
  refine k_iconst (v := 1) (pc := 1) C dX9_northInFrame_1 (by decide) ?_
  obtain ⟨h_2, hw⟩ := hw
  refine k_afterI (pc := 2) C (wp_X3_speed k0 1 S) hw (fun post hw => by
      rcases kd4 S k0 with h | h | h | h
      · exact rn_V C (ct_X3_speed l D cA ad k0 1 S post hw) (cwV 1 C.2.2.2.2.1 gX9_northInFrame_X3_speed rfl rfl rfl (by decide +kernel) ⟨Nat.le_of_ble_eq_true rfl, Nat.le_of_ble_eq_true rfl⟩) (mm_26 h_2) (celM_0 h) rfl rfl rfl rfl (Nat.le_of_ble_eq_true rfl) dX9_northInFrame_2
      · exact rn_U C (ct_X3_speed l D cA ad k0 1 S post hw) (va_cwU 1 C.2.2.2.2.1 gX9_northInFrame_X3_speed_u149X4 rfl rfl rfl rfl (by decide +kernel) ⟨Nat.le_of_ble_eq_true rfl, Nat.le_of_ble_eq_true rfl⟩) (mm_26 h_2) (celM_1 h) rfl rfl rfl rfl (Nat.le_of_ble_eq_true rfl) dX9_northInFrame_2
      · exact rn_U C (ct_X3_speed l D cA ad k0 1 S post hw) (va_cwU 1 C.2.2.2.2.1 gX9_northInFrame_X3_speed_u149X8 rfl rfl rfl rfl (by decide +kernel) ⟨Nat.le_of_ble_eq_true rfl, Nat.le_of_ble_eq_true rfl⟩) (mm_26 h_2) (celM_2 h) rfl rfl rfl rfl (Nat.le_of_ble_eq_true rfl) dX9_northInFrame_2
      · exact rn_U C (ct_X3_speed l D cA ad k0 1 S post hw) (va_cwU 1 C.2.2.2.2.1 gX9_northInFrame_X3_speed_u149X1 rfl rfl rfl rfl (by decide +kernel) ⟨Nat.le_of_ble_eq_true rfl, Nat.le_of_ble_eq_true rfl⟩) (mm_26 h_2) (celM_3 h) rfl rfl rfl rfl (Nat.le_of_ble_eq_true rfl) dX9_northInFrame_2) (fun r_1 S_1 hw => ?_)
  refine k_iload_n (pc := 5) C dX9_northInFrame_5 1 rfl rfl ?_
  refine k_iload_n (pc := 6) C dX9_northInFrame_6 2 rfl rfl ?_
  refine k_aload_n (pc := 7) C dX9_northInFrame_7 0 rfl rfl ?_
  obtain ⟨h_4, hw⟩ := hw
  refine k_afterI (pc := 8) C (wp_X3_placeX k0 S_1) hw (fun post hw => by
      rcases kd4 S_1 k0 with h | h | h | h
      · exact rn_V C (ct_X3_placeX l D cA ad k0 S_1 post hw) (cwV 0 C.2.2.2.2.1 gX9_northInFrame_X3_placeX rfl rfl rfl (by decide +kernel) ⟨Nat.le_of_ble_eq_true rfl, Nat.le_of_ble_eq_true rfl⟩) (mm_26 h_4) (celM_0 h) rfl rfl rfl rfl (Nat.le_of_ble_eq_true rfl) dX9_northInFrame_8
      · exact rn_U C (ct_X3_placeX l D cA ad k0 S_1 post hw) (va_cwU 0 C.2.2.2.2.1 gX9_northInFrame_X3_placeX_u319X4 rfl rfl rfl rfl (by decide +kernel) ⟨Nat.le_of_ble_eq_true rfl, Nat.le_of_ble_eq_true rfl⟩) (mm_26 h_4) (celM_1 h) rfl rfl rfl rfl (Nat.le_of_ble_eq_true rfl) dX9_northInFrame_8
      · exact rn_U C (ct_X3_placeX l D cA ad k0 S_1 post hw) (va_cwU 0 C.2.2.2.2.1 gX9_northInFrame_X3_placeX_u319X8 rfl rfl rfl rfl (by decide +kernel) ⟨Nat.le_of_ble_eq_true rfl, Nat.le_of_ble_eq_true rfl⟩) (mm_26 h_4) (celM_2 h) rfl rfl rfl rfl (Nat.le_of_ble_eq_true rfl) dX9_northInFrame_8
      · exact rn_U C (ct_X3_placeX l D cA ad k0 S_1 post hw) (va_cwU 0 C.2.2.2.2.1 gX9_northInFrame_X3_placeX_u319X1 rfl rfl rfl rfl (by decide +kernel) ⟨Nat.le_of_ble_eq_true rfl, Nat.le_of_ble_eq_true rfl⟩) (mm_26 h_4) (celM_3 h) rfl rfl rfl rfl (Nat.le_of_ble_eq_true rfl) dX9_northInFrame_8) (fun r_3 S_3 hw => ?_)
  refine k_imul (pc := 11) C dX9_northInFrame_11 ?_
  refine k_iadd (pc := 12) C dX9_northInFrame_12 ?_
  refine k_isub (pc := 13) C dX9_northInFrame_13 ?_
  exact hret _ _ _ _ dX9_northInFrame_14 hw
def wp_X9_areaTwice (k0 : Nat) (k1 : Nat) (k2 : Nat) (S : Sg) (Q : Int64 → Sg → Prop) : Prop :=
  (k1 < nM S ∧ wp_X3_placeX k1 S (fun r_1 S_1 => (k0 < nM S_1 ∧ wp_X3_placeX k0 S_1 (fun r_3 S_3 => (∀ x3_5 : Int64, x3_5 = (Int32.toInt64 (r_1 - r_3)) → (k1 < nM S_3 ∧ wp_X3_placeY k1 S_3 (fun r_6 S_6 => (k0 < nM S_6 ∧ wp_X3_placeY k0 S_6 (fun r_8 S_8 => (∀ x5_10 : Int64, x5_10 = (Int32.toInt64 (r_6 - r_8)) → (k2 < nM S_8 ∧ wp_X3_placeX k2 S_8 (fun r_11 S_11 => (k0 < nM S_11 ∧ wp_X3_placeX k0 S_11 (fun r_13 S_13 => (∀ x7_15 : Int64, x7_15 = (Int32.toInt64 (r_11 - r_13)) → (k2 < nM S_13 ∧ wp_X3_placeY k2 S_13 (fun r_16 S_16 => (k0 < nM S_16 ∧ wp_X3_placeY k0 S_16 (fun r_18 S_18 => (∀ x9_20 : Int64, x9_20 = (Int32.toInt64 (r_16 - r_18)) → Q ((x3_5 * x9_20) - (x7_15 * x5_10)) S_18))))))))))))))))))))
set_option maxHeartbeats 4000000 in
set_option maxRecDepth 100000 in
theorem ct_X9_areaTwice (l : Launch) (D : va_G) (cA : Nat → ClassId) (ad : Nat → Nat → Nat) (k0 : Nat) (k1 : Nat) (k2 : Nat) (S : Sg) (Q : Int64 → Sg → Prop) (hw : wp_X9_areaTwice k0 k1 k2 S Q) : CtL l yX9_areaTwice wsX9_areaTwice (mkR 1 20) D cA ad [.ref (ad 26 k0), .ref (ad 26 k1), .ref (ad 26 k2)] S Q := by
  refine ct_ofL (cc := cX9_areaTwice) (nL := 11) (by decide) rfl (Nat.le_of_ble_eq_true rfl) ?_
  intro p e s m args below meth c A Q C hret
  unfold wp_X9_areaTwice at hw
  have C : Cx p s m args c cX9_areaTwice 11 wsX9_areaTwice RX9 D cA A := C
  change KK p l e (mkR 1 20) s m args below meth c 11 D cA ad A Q 0 [(0, .ref (ad 26 k0)), (1, .ref (ad 26 k1)), (2, .ref (ad 26 k2))] [] S
  refine k_aload_n (pc := 0) C dX9_areaTwice_0 1 rfl rfl ?_
  obtain ⟨h_2, hw⟩ := hw
  refine k_afterI (pc := 1) C (wp_X3_placeX k1 S) hw (fun post hw => by
      rcases kd4 S k1 with h | h | h | h
      · exact rn_V C (ct_X3_placeX l D cA ad k1 S post hw) (cwV 0 C.2.2.2.2.1 gX9_areaTwice_X3_placeX rfl rfl rfl (by decide +kernel) ⟨Nat.le_of_ble_eq_true rfl, Nat.le_of_ble_eq_true rfl⟩) (mm_26 h_2) (celM_0 h) rfl rfl rfl rfl (Nat.le_of_ble_eq_true rfl) dX9_areaTwice_1
      · exact rn_U C (ct_X3_placeX l D cA ad k1 S post hw) (va_cwU 0 C.2.2.2.2.1 gX9_areaTwice_X3_placeX_u319X4 rfl rfl rfl rfl (by decide +kernel) ⟨Nat.le_of_ble_eq_true rfl, Nat.le_of_ble_eq_true rfl⟩) (mm_26 h_2) (celM_1 h) rfl rfl rfl rfl (Nat.le_of_ble_eq_true rfl) dX9_areaTwice_1
      · exact rn_U C (ct_X3_placeX l D cA ad k1 S post hw) (va_cwU 0 C.2.2.2.2.1 gX9_areaTwice_X3_placeX_u319X8 rfl rfl rfl rfl (by decide +kernel) ⟨Nat.le_of_ble_eq_true rfl, Nat.le_of_ble_eq_true rfl⟩) (mm_26 h_2) (celM_2 h) rfl rfl rfl rfl (Nat.le_of_ble_eq_true rfl) dX9_areaTwice_1
      · exact rn_U C (ct_X3_placeX l D cA ad k1 S post hw) (va_cwU 0 C.2.2.2.2.1 gX9_areaTwice_X3_placeX_u319X1 rfl rfl rfl rfl (by decide +kernel) ⟨Nat.le_of_ble_eq_true rfl, Nat.le_of_ble_eq_true rfl⟩) (mm_26 h_2) (celM_3 h) rfl rfl rfl rfl (Nat.le_of_ble_eq_true rfl) dX9_areaTwice_1) (fun r_1 S_1 hw => ?_)
  refine k_aload_n (pc := 4) C dX9_areaTwice_4 0 rfl rfl ?_
  obtain ⟨h_4, hw⟩ := hw
  refine k_afterI (pc := 5) C (wp_X3_placeX k0 S_1) hw (fun post hw => by
      rcases kd4 S_1 k0 with h | h | h | h
      · exact rn_V C (ct_X3_placeX l D cA ad k0 S_1 post hw) (cwV 0 C.2.2.2.2.1 gX9_areaTwice_X3_placeX rfl rfl rfl (by decide +kernel) ⟨Nat.le_of_ble_eq_true rfl, Nat.le_of_ble_eq_true rfl⟩) (mm_26 h_4) (celM_0 h) rfl rfl rfl rfl (Nat.le_of_ble_eq_true rfl) dX9_areaTwice_5
      · exact rn_U C (ct_X3_placeX l D cA ad k0 S_1 post hw) (va_cwU 0 C.2.2.2.2.1 gX9_areaTwice_X3_placeX_u319X4 rfl rfl rfl rfl (by decide +kernel) ⟨Nat.le_of_ble_eq_true rfl, Nat.le_of_ble_eq_true rfl⟩) (mm_26 h_4) (celM_1 h) rfl rfl rfl rfl (Nat.le_of_ble_eq_true rfl) dX9_areaTwice_5
      · exact rn_U C (ct_X3_placeX l D cA ad k0 S_1 post hw) (va_cwU 0 C.2.2.2.2.1 gX9_areaTwice_X3_placeX_u319X8 rfl rfl rfl rfl (by decide +kernel) ⟨Nat.le_of_ble_eq_true rfl, Nat.le_of_ble_eq_true rfl⟩) (mm_26 h_4) (celM_2 h) rfl rfl rfl rfl (Nat.le_of_ble_eq_true rfl) dX9_areaTwice_5
      · exact rn_U C (ct_X3_placeX l D cA ad k0 S_1 post hw) (va_cwU 0 C.2.2.2.2.1 gX9_areaTwice_X3_placeX_u319X1 rfl rfl rfl rfl (by decide +kernel) ⟨Nat.le_of_ble_eq_true rfl, Nat.le_of_ble_eq_true rfl⟩) (mm_26 h_4) (celM_3 h) rfl rfl rfl rfl (Nat.le_of_ble_eq_true rfl) dX9_areaTwice_5) (fun r_3 S_3 hw => ?_)
  refine k_isub (pc := 8) C dX9_areaTwice_8 ?_
  refine k_i2l (pc := 9) C dX9_areaTwice_9 ?_
  refine k_topl (fun x3_5 ex3_5 => ?_)
  have hw := hw x3_5 ex3_5
  refine k_lstore_n (pc := 10) C dX9_areaTwice_10 rfl (by decide) [(3, .long x3_5), (0, .ref (ad 26 k0)), (1, .ref (ad 26 k1)), (2, .ref (ad 26 k2))] rfl ?_
  refine k_aload_n (pc := 11) C dX9_areaTwice_11 2 rfl rfl ?_
  obtain ⟨h_7, hw⟩ := hw
  refine k_afterI (pc := 12) C (wp_X3_placeY k1 S_3) hw (fun post hw => by
      rcases kd4 S_3 k1 with h | h | h | h
      · exact rn_V C (ct_X3_placeY l D cA ad k1 S_3 post hw) (cwV 0 C.2.2.2.2.1 gX9_areaTwice_X3_placeY rfl rfl rfl (by decide +kernel) ⟨Nat.le_of_ble_eq_true rfl, Nat.le_of_ble_eq_true rfl⟩) (mm_26 h_7) (celM_0 h) rfl rfl rfl rfl (Nat.le_of_ble_eq_true rfl) dX9_areaTwice_12
      · exact rn_U C (ct_X3_placeY l D cA ad k1 S_3 post hw) (va_cwU 0 C.2.2.2.2.1 gX9_areaTwice_X3_placeY_u316X4 rfl rfl rfl rfl (by decide +kernel) ⟨Nat.le_of_ble_eq_true rfl, Nat.le_of_ble_eq_true rfl⟩) (mm_26 h_7) (celM_1 h) rfl rfl rfl rfl (Nat.le_of_ble_eq_true rfl) dX9_areaTwice_12
      · exact rn_U C (ct_X3_placeY l D cA ad k1 S_3 post hw) (va_cwU 0 C.2.2.2.2.1 gX9_areaTwice_X3_placeY_u316X8 rfl rfl rfl rfl (by decide +kernel) ⟨Nat.le_of_ble_eq_true rfl, Nat.le_of_ble_eq_true rfl⟩) (mm_26 h_7) (celM_2 h) rfl rfl rfl rfl (Nat.le_of_ble_eq_true rfl) dX9_areaTwice_12
      · exact rn_U C (ct_X3_placeY l D cA ad k1 S_3 post hw) (va_cwU 0 C.2.2.2.2.1 gX9_areaTwice_X3_placeY_u316X1 rfl rfl rfl rfl (by decide +kernel) ⟨Nat.le_of_ble_eq_true rfl, Nat.le_of_ble_eq_true rfl⟩) (mm_26 h_7) (celM_3 h) rfl rfl rfl rfl (Nat.le_of_ble_eq_true rfl) dX9_areaTwice_12) (fun r_6 S_6 hw => ?_)
  refine k_aload_n (pc := 15) C dX9_areaTwice_15 1 rfl rfl ?_
  obtain ⟨h_9, hw⟩ := hw
  refine k_afterI (pc := 16) C (wp_X3_placeY k0 S_6) hw (fun post hw => by
      rcases kd4 S_6 k0 with h | h | h | h
      · exact rn_V C (ct_X3_placeY l D cA ad k0 S_6 post hw) (cwV 0 C.2.2.2.2.1 gX9_areaTwice_X3_placeY rfl rfl rfl (by decide +kernel) ⟨Nat.le_of_ble_eq_true rfl, Nat.le_of_ble_eq_true rfl⟩) (mm_26 h_9) (celM_0 h) rfl rfl rfl rfl (Nat.le_of_ble_eq_true rfl) dX9_areaTwice_16
      · exact rn_U C (ct_X3_placeY l D cA ad k0 S_6 post hw) (va_cwU 0 C.2.2.2.2.1 gX9_areaTwice_X3_placeY_u316X4 rfl rfl rfl rfl (by decide +kernel) ⟨Nat.le_of_ble_eq_true rfl, Nat.le_of_ble_eq_true rfl⟩) (mm_26 h_9) (celM_1 h) rfl rfl rfl rfl (Nat.le_of_ble_eq_true rfl) dX9_areaTwice_16
      · exact rn_U C (ct_X3_placeY l D cA ad k0 S_6 post hw) (va_cwU 0 C.2.2.2.2.1 gX9_areaTwice_X3_placeY_u316X8 rfl rfl rfl rfl (by decide +kernel) ⟨Nat.le_of_ble_eq_true rfl, Nat.le_of_ble_eq_true rfl⟩) (mm_26 h_9) (celM_2 h) rfl rfl rfl rfl (Nat.le_of_ble_eq_true rfl) dX9_areaTwice_16
      · exact rn_U C (ct_X3_placeY l D cA ad k0 S_6 post hw) (va_cwU 0 C.2.2.2.2.1 gX9_areaTwice_X3_placeY_u316X1 rfl rfl rfl rfl (by decide +kernel) ⟨Nat.le_of_ble_eq_true rfl, Nat.le_of_ble_eq_true rfl⟩) (mm_26 h_9) (celM_3 h) rfl rfl rfl rfl (Nat.le_of_ble_eq_true rfl) dX9_areaTwice_16) (fun r_8 S_8 hw => ?_)
  refine k_isub (pc := 19) C dX9_areaTwice_19 ?_
  refine k_i2l (pc := 20) C dX9_areaTwice_20 ?_
  refine k_topl (fun x5_10 ex5_10 => ?_)
  have hw := hw x5_10 ex5_10
  refine k_lstore (pc := 21) C dX9_areaTwice_21 (by decide) [(5, .long x5_10), (3, .long x3_5), (0, .ref (ad 26 k0)), (1, .ref (ad 26 k1)), (2, .ref (ad 26 k2))] rfl ?_
  refine k_aload_n (pc := 23) C dX9_areaTwice_23 4 rfl rfl ?_
  obtain ⟨h_12, hw⟩ := hw
  refine k_afterI (pc := 24) C (wp_X3_placeX k2 S_8) hw (fun post hw => by
      rcases kd4 S_8 k2 with h | h | h | h
      · exact rn_V C (ct_X3_placeX l D cA ad k2 S_8 post hw) (cwV 0 C.2.2.2.2.1 gX9_areaTwice_X3_placeX rfl rfl rfl (by decide +kernel) ⟨Nat.le_of_ble_eq_true rfl, Nat.le_of_ble_eq_true rfl⟩) (mm_26 h_12) (celM_0 h) rfl rfl rfl rfl (Nat.le_of_ble_eq_true rfl) dX9_areaTwice_24
      · exact rn_U C (ct_X3_placeX l D cA ad k2 S_8 post hw) (va_cwU 0 C.2.2.2.2.1 gX9_areaTwice_X3_placeX_u319X4 rfl rfl rfl rfl (by decide +kernel) ⟨Nat.le_of_ble_eq_true rfl, Nat.le_of_ble_eq_true rfl⟩) (mm_26 h_12) (celM_1 h) rfl rfl rfl rfl (Nat.le_of_ble_eq_true rfl) dX9_areaTwice_24
      · exact rn_U C (ct_X3_placeX l D cA ad k2 S_8 post hw) (va_cwU 0 C.2.2.2.2.1 gX9_areaTwice_X3_placeX_u319X8 rfl rfl rfl rfl (by decide +kernel) ⟨Nat.le_of_ble_eq_true rfl, Nat.le_of_ble_eq_true rfl⟩) (mm_26 h_12) (celM_2 h) rfl rfl rfl rfl (Nat.le_of_ble_eq_true rfl) dX9_areaTwice_24
      · exact rn_U C (ct_X3_placeX l D cA ad k2 S_8 post hw) (va_cwU 0 C.2.2.2.2.1 gX9_areaTwice_X3_placeX_u319X1 rfl rfl rfl rfl (by decide +kernel) ⟨Nat.le_of_ble_eq_true rfl, Nat.le_of_ble_eq_true rfl⟩) (mm_26 h_12) (celM_3 h) rfl rfl rfl rfl (Nat.le_of_ble_eq_true rfl) dX9_areaTwice_24) (fun r_11 S_11 hw => ?_)
  refine k_aload_n (pc := 27) C dX9_areaTwice_27 2 rfl rfl ?_
  obtain ⟨h_14, hw⟩ := hw
  refine k_afterI (pc := 28) C (wp_X3_placeX k0 S_11) hw (fun post hw => by
      rcases kd4 S_11 k0 with h | h | h | h
      · exact rn_V C (ct_X3_placeX l D cA ad k0 S_11 post hw) (cwV 0 C.2.2.2.2.1 gX9_areaTwice_X3_placeX rfl rfl rfl (by decide +kernel) ⟨Nat.le_of_ble_eq_true rfl, Nat.le_of_ble_eq_true rfl⟩) (mm_26 h_14) (celM_0 h) rfl rfl rfl rfl (Nat.le_of_ble_eq_true rfl) dX9_areaTwice_28
      · exact rn_U C (ct_X3_placeX l D cA ad k0 S_11 post hw) (va_cwU 0 C.2.2.2.2.1 gX9_areaTwice_X3_placeX_u319X4 rfl rfl rfl rfl (by decide +kernel) ⟨Nat.le_of_ble_eq_true rfl, Nat.le_of_ble_eq_true rfl⟩) (mm_26 h_14) (celM_1 h) rfl rfl rfl rfl (Nat.le_of_ble_eq_true rfl) dX9_areaTwice_28
      · exact rn_U C (ct_X3_placeX l D cA ad k0 S_11 post hw) (va_cwU 0 C.2.2.2.2.1 gX9_areaTwice_X3_placeX_u319X8 rfl rfl rfl rfl (by decide +kernel) ⟨Nat.le_of_ble_eq_true rfl, Nat.le_of_ble_eq_true rfl⟩) (mm_26 h_14) (celM_2 h) rfl rfl rfl rfl (Nat.le_of_ble_eq_true rfl) dX9_areaTwice_28
      · exact rn_U C (ct_X3_placeX l D cA ad k0 S_11 post hw) (va_cwU 0 C.2.2.2.2.1 gX9_areaTwice_X3_placeX_u319X1 rfl rfl rfl rfl (by decide +kernel) ⟨Nat.le_of_ble_eq_true rfl, Nat.le_of_ble_eq_true rfl⟩) (mm_26 h_14) (celM_3 h) rfl rfl rfl rfl (Nat.le_of_ble_eq_true rfl) dX9_areaTwice_28) (fun r_13 S_13 hw => ?_)
  refine k_isub (pc := 31) C dX9_areaTwice_31 ?_
  refine k_i2l (pc := 32) C dX9_areaTwice_32 ?_
  refine k_topl (fun x7_15 ex7_15 => ?_)
  have hw := hw x7_15 ex7_15
  refine k_lstore (pc := 33) C dX9_areaTwice_33 (by decide) [(7, .long x7_15), (5, .long x5_10), (3, .long x3_5), (0, .ref (ad 26 k0)), (1, .ref (ad 26 k1)), (2, .ref (ad 26 k2))] rfl ?_
  refine k_aload_n (pc := 35) C dX9_areaTwice_35 5 rfl rfl ?_
  obtain ⟨h_17, hw⟩ := hw
  refine k_afterI (pc := 36) C (wp_X3_placeY k2 S_13) hw (fun post hw => by
      rcases kd4 S_13 k2 with h | h | h | h
      · exact rn_V C (ct_X3_placeY l D cA ad k2 S_13 post hw) (cwV 0 C.2.2.2.2.1 gX9_areaTwice_X3_placeY rfl rfl rfl (by decide +kernel) ⟨Nat.le_of_ble_eq_true rfl, Nat.le_of_ble_eq_true rfl⟩) (mm_26 h_17) (celM_0 h) rfl rfl rfl rfl (Nat.le_of_ble_eq_true rfl) dX9_areaTwice_36
      · exact rn_U C (ct_X3_placeY l D cA ad k2 S_13 post hw) (va_cwU 0 C.2.2.2.2.1 gX9_areaTwice_X3_placeY_u316X4 rfl rfl rfl rfl (by decide +kernel) ⟨Nat.le_of_ble_eq_true rfl, Nat.le_of_ble_eq_true rfl⟩) (mm_26 h_17) (celM_1 h) rfl rfl rfl rfl (Nat.le_of_ble_eq_true rfl) dX9_areaTwice_36
      · exact rn_U C (ct_X3_placeY l D cA ad k2 S_13 post hw) (va_cwU 0 C.2.2.2.2.1 gX9_areaTwice_X3_placeY_u316X8 rfl rfl rfl rfl (by decide +kernel) ⟨Nat.le_of_ble_eq_true rfl, Nat.le_of_ble_eq_true rfl⟩) (mm_26 h_17) (celM_2 h) rfl rfl rfl rfl (Nat.le_of_ble_eq_true rfl) dX9_areaTwice_36
      · exact rn_U C (ct_X3_placeY l D cA ad k2 S_13 post hw) (va_cwU 0 C.2.2.2.2.1 gX9_areaTwice_X3_placeY_u316X1 rfl rfl rfl rfl (by decide +kernel) ⟨Nat.le_of_ble_eq_true rfl, Nat.le_of_ble_eq_true rfl⟩) (mm_26 h_17) (celM_3 h) rfl rfl rfl rfl (Nat.le_of_ble_eq_true rfl) dX9_areaTwice_36) (fun r_16 S_16 hw => ?_)
  refine k_aload_n (pc := 39) C dX9_areaTwice_39 3 rfl rfl ?_
  obtain ⟨h_19, hw⟩ := hw
  refine k_afterI (pc := 40) C (wp_X3_placeY k0 S_16) hw (fun post hw => by
      rcases kd4 S_16 k0 with h | h | h | h
      · exact rn_V C (ct_X3_placeY l D cA ad k0 S_16 post hw) (cwV 0 C.2.2.2.2.1 gX9_areaTwice_X3_placeY rfl rfl rfl (by decide +kernel) ⟨Nat.le_of_ble_eq_true rfl, Nat.le_of_ble_eq_true rfl⟩) (mm_26 h_19) (celM_0 h) rfl rfl rfl rfl (Nat.le_of_ble_eq_true rfl) dX9_areaTwice_40
      · exact rn_U C (ct_X3_placeY l D cA ad k0 S_16 post hw) (va_cwU 0 C.2.2.2.2.1 gX9_areaTwice_X3_placeY_u316X4 rfl rfl rfl rfl (by decide +kernel) ⟨Nat.le_of_ble_eq_true rfl, Nat.le_of_ble_eq_true rfl⟩) (mm_26 h_19) (celM_1 h) rfl rfl rfl rfl (Nat.le_of_ble_eq_true rfl) dX9_areaTwice_40
      · exact rn_U C (ct_X3_placeY l D cA ad k0 S_16 post hw) (va_cwU 0 C.2.2.2.2.1 gX9_areaTwice_X3_placeY_u316X8 rfl rfl rfl rfl (by decide +kernel) ⟨Nat.le_of_ble_eq_true rfl, Nat.le_of_ble_eq_true rfl⟩) (mm_26 h_19) (celM_2 h) rfl rfl rfl rfl (Nat.le_of_ble_eq_true rfl) dX9_areaTwice_40
      · exact rn_U C (ct_X3_placeY l D cA ad k0 S_16 post hw) (va_cwU 0 C.2.2.2.2.1 gX9_areaTwice_X3_placeY_u316X1 rfl rfl rfl rfl (by decide +kernel) ⟨Nat.le_of_ble_eq_true rfl, Nat.le_of_ble_eq_true rfl⟩) (mm_26 h_19) (celM_3 h) rfl rfl rfl rfl (Nat.le_of_ble_eq_true rfl) dX9_areaTwice_40) (fun r_18 S_18 hw => ?_)
  refine k_isub (pc := 43) C dX9_areaTwice_43 ?_
  refine k_i2l (pc := 44) C dX9_areaTwice_44 ?_
  refine k_topl (fun x9_20 ex9_20 => ?_)
  have hw := hw x9_20 ex9_20
  refine k_lstore (pc := 45) C dX9_areaTwice_45 (by decide) [(9, .long x9_20), (7, .long x7_15), (5, .long x5_10), (3, .long x3_5), (0, .ref (ad 26 k0)), (1, .ref (ad 26 k1)), (2, .ref (ad 26 k2))] rfl ?_
  refine k_lload_n (pc := 47) C dX9_areaTwice_47 3 rfl rfl ?_
  refine k_lload (pc := 48) C dX9_areaTwice_48 0 rfl ?_
  refine k_lmul (pc := 50) C dX9_areaTwice_50 ?_
  refine k_lload (pc := 51) C dX9_areaTwice_51 1 rfl ?_
  refine k_lload (pc := 53) C dX9_areaTwice_53 2 rfl ?_
  refine k_lmul (pc := 55) C dX9_areaTwice_55 ?_
  refine k_lsub (pc := 56) C dX9_areaTwice_56 ?_
  exact hret _ _ _ _ dX9_areaTwice_57 hw
def wp_X9_strainAbove (k0 : Nat) (k1 : Nat) (k2 : Nat) (a3 : Int32) (S : Sg) (Q : Int64 → Sg → Prop) : Prop :=
  (k1 < nM S ∧ wp_X3_placeX k1 S (fun r_1 S_1 => (k0 < nM S_1 ∧ wp_X3_placeX k0 S_1 (fun r_3 S_3 => (∀ x4_5 : Int64, x4_5 = (Int32.toInt64 (r_1 - r_3)) → (k1 < nM S_3 ∧ wp_X3_placeY k1 S_3 (fun r_6 S_6 => (k0 < nM S_6 ∧ wp_X3_placeY k0 S_6 (fun r_8 S_8 => (∀ x6_10 : Int64, x6_10 = (Int32.toInt64 (r_6 - r_8)) → (k2 < nM S_8 ∧ wp_X3_placeX k2 S_8 (fun r_11 S_11 => (k0 < nM S_11 ∧ wp_X3_placeX k0 S_11 (fun r_13 S_13 => (∀ x8_15 : Int64, x8_15 = (Int32.toInt64 (r_11 - r_13)) → (k2 < nM S_13 ∧ wp_X3_placeY k2 S_13 (fun r_16 S_16 => (k0 < nM S_16 ∧ wp_X3_placeY k0 S_16 (fun r_18 S_18 => (∀ x10_20 : Int64, x10_20 = (Int32.toInt64 (r_16 - r_18)) → (k1 < nM S_18 ∧ wp_X3_speed k1 0 S_18 (fun r_21 S_21 => (k0 < nM S_21 ∧ wp_X3_speed k0 0 S_21 (fun r_23 S_23 => (∀ x12_25 : Int64, x12_25 = (Int32.toInt64 (r_21 - r_23)) → (k1 < nM S_23 ∧ wp_X3_speed k1 1 S_23 (fun r_26 S_26 => (k0 < nM S_26 ∧ wp_X3_speed k0 1 S_26 (fun r_28 S_28 => (∀ x14_30 : Int64, x14_30 = (Int32.toInt64 (r_26 - r_28)) → (k2 < nM S_28 ∧ wp_X3_speed k2 0 S_28 (fun r_31 S_31 => (k0 < nM S_31 ∧ wp_X3_speed k0 0 S_31 (fun r_33 S_33 => (∀ x16_35 : Int64, x16_35 = (Int32.toInt64 (r_31 - r_33)) → (k2 < nM S_33 ∧ wp_X3_speed k2 1 S_33 (fun r_36 S_36 => (k0 < nM S_36 ∧ wp_X3_speed k0 1 S_36 (fun r_38 S_38 => (∀ x18_40 : Int64, x18_40 = (Int32.toInt64 (r_36 - r_38)) → ((a3 = 0 → Q ((x12_25 * x10_20) - (x16_35 * x6_10)) S_38) ∧ ((a3 = 1 → Q ((x4_5 * x18_40) - (x8_15 * x14_30)) S_38) ∧ ((a3 = 2 → Q (((x4_5 * x16_35) - (x8_15 * x12_25)) + ((x14_30 * x10_20) - (x18_40 * x6_10))) S_38) ∧ (((¬ a3 = 0 ∧ ¬ a3 = 1 ∧ ¬ a3 = 2) → Q (((x14_30 * x10_20) - (x18_40 * x6_10)) - ((x4_5 * x16_35) - (x8_15 * x12_25))) S_38)))))))))))))))))))))))))))))))))))))))))))))
set_option maxHeartbeats 4000000 in
set_option maxRecDepth 100000 in
theorem ct_X9_strainAbove (l : Launch) (D : va_G) (cA : Nat → ClassId) (ad : Nat → Nat → Nat) (k0 : Nat) (k1 : Nat) (k2 : Nat) (a3 : Int32) (S : Sg) (Q : Int64 → Sg → Prop) (hw : wp_X9_strainAbove k0 k1 k2 a3 S Q) : CtL l yX9_strainAbove wsX9_strainAbove (mkR 1 21) D cA ad [.ref (ad 26 k0), .ref (ad 26 k1), .ref (ad 26 k2), .int a3] S Q := by
  refine ct_ofL (cc := cX9_strainAbove) (nL := 20) (by decide) rfl (Nat.le_of_ble_eq_true rfl) ?_
  intro p e s m args below meth c A Q C hret
  unfold wp_X9_strainAbove at hw
  have C : Cx p s m args c cX9_strainAbove 20 wsX9_strainAbove RX9 D cA A := C
  change KK p l e (mkR 1 21) s m args below meth c 20 D cA ad A Q 0 [(0, .ref (ad 26 k0)), (1, .ref (ad 26 k1)), (2, .ref (ad 26 k2)), (3, .int a3)] [] S
  refine k_aload_n (pc := 0) C dX9_strainAbove_0 1 rfl rfl ?_
  obtain ⟨h_2, hw⟩ := hw
  refine k_afterI (pc := 1) C (wp_X3_placeX k1 S) hw (fun post hw => by
      rcases kd4 S k1 with h | h | h | h
      · exact rn_V C (ct_X3_placeX l D cA ad k1 S post hw) (cwV 0 C.2.2.2.2.1 gX9_strainAbove_X3_placeX rfl rfl rfl (by decide +kernel) ⟨Nat.le_of_ble_eq_true rfl, Nat.le_of_ble_eq_true rfl⟩) (mm_26 h_2) (celM_0 h) rfl rfl rfl rfl (Nat.le_of_ble_eq_true rfl) dX9_strainAbove_1
      · exact rn_U C (ct_X3_placeX l D cA ad k1 S post hw) (va_cwU 0 C.2.2.2.2.1 gX9_strainAbove_X3_placeX_u319X4 rfl rfl rfl rfl (by decide +kernel) ⟨Nat.le_of_ble_eq_true rfl, Nat.le_of_ble_eq_true rfl⟩) (mm_26 h_2) (celM_1 h) rfl rfl rfl rfl (Nat.le_of_ble_eq_true rfl) dX9_strainAbove_1
      · exact rn_U C (ct_X3_placeX l D cA ad k1 S post hw) (va_cwU 0 C.2.2.2.2.1 gX9_strainAbove_X3_placeX_u319X8 rfl rfl rfl rfl (by decide +kernel) ⟨Nat.le_of_ble_eq_true rfl, Nat.le_of_ble_eq_true rfl⟩) (mm_26 h_2) (celM_2 h) rfl rfl rfl rfl (Nat.le_of_ble_eq_true rfl) dX9_strainAbove_1
      · exact rn_U C (ct_X3_placeX l D cA ad k1 S post hw) (va_cwU 0 C.2.2.2.2.1 gX9_strainAbove_X3_placeX_u319X1 rfl rfl rfl rfl (by decide +kernel) ⟨Nat.le_of_ble_eq_true rfl, Nat.le_of_ble_eq_true rfl⟩) (mm_26 h_2) (celM_3 h) rfl rfl rfl rfl (Nat.le_of_ble_eq_true rfl) dX9_strainAbove_1) (fun r_1 S_1 hw => ?_)
  refine k_aload_n (pc := 4) C dX9_strainAbove_4 0 rfl rfl ?_
  obtain ⟨h_4, hw⟩ := hw
  refine k_afterI (pc := 5) C (wp_X3_placeX k0 S_1) hw (fun post hw => by
      rcases kd4 S_1 k0 with h | h | h | h
      · exact rn_V C (ct_X3_placeX l D cA ad k0 S_1 post hw) (cwV 0 C.2.2.2.2.1 gX9_strainAbove_X3_placeX rfl rfl rfl (by decide +kernel) ⟨Nat.le_of_ble_eq_true rfl, Nat.le_of_ble_eq_true rfl⟩) (mm_26 h_4) (celM_0 h) rfl rfl rfl rfl (Nat.le_of_ble_eq_true rfl) dX9_strainAbove_5
      · exact rn_U C (ct_X3_placeX l D cA ad k0 S_1 post hw) (va_cwU 0 C.2.2.2.2.1 gX9_strainAbove_X3_placeX_u319X4 rfl rfl rfl rfl (by decide +kernel) ⟨Nat.le_of_ble_eq_true rfl, Nat.le_of_ble_eq_true rfl⟩) (mm_26 h_4) (celM_1 h) rfl rfl rfl rfl (Nat.le_of_ble_eq_true rfl) dX9_strainAbove_5
      · exact rn_U C (ct_X3_placeX l D cA ad k0 S_1 post hw) (va_cwU 0 C.2.2.2.2.1 gX9_strainAbove_X3_placeX_u319X8 rfl rfl rfl rfl (by decide +kernel) ⟨Nat.le_of_ble_eq_true rfl, Nat.le_of_ble_eq_true rfl⟩) (mm_26 h_4) (celM_2 h) rfl rfl rfl rfl (Nat.le_of_ble_eq_true rfl) dX9_strainAbove_5
      · exact rn_U C (ct_X3_placeX l D cA ad k0 S_1 post hw) (va_cwU 0 C.2.2.2.2.1 gX9_strainAbove_X3_placeX_u319X1 rfl rfl rfl rfl (by decide +kernel) ⟨Nat.le_of_ble_eq_true rfl, Nat.le_of_ble_eq_true rfl⟩) (mm_26 h_4) (celM_3 h) rfl rfl rfl rfl (Nat.le_of_ble_eq_true rfl) dX9_strainAbove_5) (fun r_3 S_3 hw => ?_)
  refine k_isub (pc := 8) C dX9_strainAbove_8 ?_
  refine k_i2l (pc := 9) C dX9_strainAbove_9 ?_
  refine k_topl (fun x4_5 ex4_5 => ?_)
  have hw := hw x4_5 ex4_5
  refine k_lstore (pc := 10) C dX9_strainAbove_10 (by decide) [(4, .long x4_5), (0, .ref (ad 26 k0)), (1, .ref (ad 26 k1)), (2, .ref (ad 26 k2)), (3, .int a3)] rfl ?_
  refine k_aload_n (pc := 12) C dX9_strainAbove_12 2 rfl rfl ?_
  obtain ⟨h_7, hw⟩ := hw
  refine k_afterI (pc := 13) C (wp_X3_placeY k1 S_3) hw (fun post hw => by
      rcases kd4 S_3 k1 with h | h | h | h
      · exact rn_V C (ct_X3_placeY l D cA ad k1 S_3 post hw) (cwV 0 C.2.2.2.2.1 gX9_strainAbove_X3_placeY rfl rfl rfl (by decide +kernel) ⟨Nat.le_of_ble_eq_true rfl, Nat.le_of_ble_eq_true rfl⟩) (mm_26 h_7) (celM_0 h) rfl rfl rfl rfl (Nat.le_of_ble_eq_true rfl) dX9_strainAbove_13
      · exact rn_U C (ct_X3_placeY l D cA ad k1 S_3 post hw) (va_cwU 0 C.2.2.2.2.1 gX9_strainAbove_X3_placeY_u316X4 rfl rfl rfl rfl (by decide +kernel) ⟨Nat.le_of_ble_eq_true rfl, Nat.le_of_ble_eq_true rfl⟩) (mm_26 h_7) (celM_1 h) rfl rfl rfl rfl (Nat.le_of_ble_eq_true rfl) dX9_strainAbove_13
      · exact rn_U C (ct_X3_placeY l D cA ad k1 S_3 post hw) (va_cwU 0 C.2.2.2.2.1 gX9_strainAbove_X3_placeY_u316X8 rfl rfl rfl rfl (by decide +kernel) ⟨Nat.le_of_ble_eq_true rfl, Nat.le_of_ble_eq_true rfl⟩) (mm_26 h_7) (celM_2 h) rfl rfl rfl rfl (Nat.le_of_ble_eq_true rfl) dX9_strainAbove_13
      · exact rn_U C (ct_X3_placeY l D cA ad k1 S_3 post hw) (va_cwU 0 C.2.2.2.2.1 gX9_strainAbove_X3_placeY_u316X1 rfl rfl rfl rfl (by decide +kernel) ⟨Nat.le_of_ble_eq_true rfl, Nat.le_of_ble_eq_true rfl⟩) (mm_26 h_7) (celM_3 h) rfl rfl rfl rfl (Nat.le_of_ble_eq_true rfl) dX9_strainAbove_13) (fun r_6 S_6 hw => ?_)
  refine k_aload_n (pc := 16) C dX9_strainAbove_16 1 rfl rfl ?_
  obtain ⟨h_9, hw⟩ := hw
  refine k_afterI (pc := 17) C (wp_X3_placeY k0 S_6) hw (fun post hw => by
      rcases kd4 S_6 k0 with h | h | h | h
      · exact rn_V C (ct_X3_placeY l D cA ad k0 S_6 post hw) (cwV 0 C.2.2.2.2.1 gX9_strainAbove_X3_placeY rfl rfl rfl (by decide +kernel) ⟨Nat.le_of_ble_eq_true rfl, Nat.le_of_ble_eq_true rfl⟩) (mm_26 h_9) (celM_0 h) rfl rfl rfl rfl (Nat.le_of_ble_eq_true rfl) dX9_strainAbove_17
      · exact rn_U C (ct_X3_placeY l D cA ad k0 S_6 post hw) (va_cwU 0 C.2.2.2.2.1 gX9_strainAbove_X3_placeY_u316X4 rfl rfl rfl rfl (by decide +kernel) ⟨Nat.le_of_ble_eq_true rfl, Nat.le_of_ble_eq_true rfl⟩) (mm_26 h_9) (celM_1 h) rfl rfl rfl rfl (Nat.le_of_ble_eq_true rfl) dX9_strainAbove_17
      · exact rn_U C (ct_X3_placeY l D cA ad k0 S_6 post hw) (va_cwU 0 C.2.2.2.2.1 gX9_strainAbove_X3_placeY_u316X8 rfl rfl rfl rfl (by decide +kernel) ⟨Nat.le_of_ble_eq_true rfl, Nat.le_of_ble_eq_true rfl⟩) (mm_26 h_9) (celM_2 h) rfl rfl rfl rfl (Nat.le_of_ble_eq_true rfl) dX9_strainAbove_17
      · exact rn_U C (ct_X3_placeY l D cA ad k0 S_6 post hw) (va_cwU 0 C.2.2.2.2.1 gX9_strainAbove_X3_placeY_u316X1 rfl rfl rfl rfl (by decide +kernel) ⟨Nat.le_of_ble_eq_true rfl, Nat.le_of_ble_eq_true rfl⟩) (mm_26 h_9) (celM_3 h) rfl rfl rfl rfl (Nat.le_of_ble_eq_true rfl) dX9_strainAbove_17) (fun r_8 S_8 hw => ?_)
  refine k_isub (pc := 20) C dX9_strainAbove_20 ?_
  refine k_i2l (pc := 21) C dX9_strainAbove_21 ?_
  refine k_topl (fun x6_10 ex6_10 => ?_)
  have hw := hw x6_10 ex6_10
  refine k_lstore (pc := 22) C dX9_strainAbove_22 (by decide) [(6, .long x6_10), (4, .long x4_5), (0, .ref (ad 26 k0)), (1, .ref (ad 26 k1)), (2, .ref (ad 26 k2)), (3, .int a3)] rfl ?_
  refine k_aload_n (pc := 24) C dX9_strainAbove_24 4 rfl rfl ?_
  obtain ⟨h_12, hw⟩ := hw
  refine k_afterI (pc := 25) C (wp_X3_placeX k2 S_8) hw (fun post hw => by
      rcases kd4 S_8 k2 with h | h | h | h
      · exact rn_V C (ct_X3_placeX l D cA ad k2 S_8 post hw) (cwV 0 C.2.2.2.2.1 gX9_strainAbove_X3_placeX rfl rfl rfl (by decide +kernel) ⟨Nat.le_of_ble_eq_true rfl, Nat.le_of_ble_eq_true rfl⟩) (mm_26 h_12) (celM_0 h) rfl rfl rfl rfl (Nat.le_of_ble_eq_true rfl) dX9_strainAbove_25
      · exact rn_U C (ct_X3_placeX l D cA ad k2 S_8 post hw) (va_cwU 0 C.2.2.2.2.1 gX9_strainAbove_X3_placeX_u319X4 rfl rfl rfl rfl (by decide +kernel) ⟨Nat.le_of_ble_eq_true rfl, Nat.le_of_ble_eq_true rfl⟩) (mm_26 h_12) (celM_1 h) rfl rfl rfl rfl (Nat.le_of_ble_eq_true rfl) dX9_strainAbove_25
      · exact rn_U C (ct_X3_placeX l D cA ad k2 S_8 post hw) (va_cwU 0 C.2.2.2.2.1 gX9_strainAbove_X3_placeX_u319X8 rfl rfl rfl rfl (by decide +kernel) ⟨Nat.le_of_ble_eq_true rfl, Nat.le_of_ble_eq_true rfl⟩) (mm_26 h_12) (celM_2 h) rfl rfl rfl rfl (Nat.le_of_ble_eq_true rfl) dX9_strainAbove_25
      · exact rn_U C (ct_X3_placeX l D cA ad k2 S_8 post hw) (va_cwU 0 C.2.2.2.2.1 gX9_strainAbove_X3_placeX_u319X1 rfl rfl rfl rfl (by decide +kernel) ⟨Nat.le_of_ble_eq_true rfl, Nat.le_of_ble_eq_true rfl⟩) (mm_26 h_12) (celM_3 h) rfl rfl rfl rfl (Nat.le_of_ble_eq_true rfl) dX9_strainAbove_25) (fun r_11 S_11 hw => ?_)
  refine k_aload_n (pc := 28) C dX9_strainAbove_28 2 rfl rfl ?_
  obtain ⟨h_14, hw⟩ := hw
  refine k_afterI (pc := 29) C (wp_X3_placeX k0 S_11) hw (fun post hw => by
      rcases kd4 S_11 k0 with h | h | h | h
      · exact rn_V C (ct_X3_placeX l D cA ad k0 S_11 post hw) (cwV 0 C.2.2.2.2.1 gX9_strainAbove_X3_placeX rfl rfl rfl (by decide +kernel) ⟨Nat.le_of_ble_eq_true rfl, Nat.le_of_ble_eq_true rfl⟩) (mm_26 h_14) (celM_0 h) rfl rfl rfl rfl (Nat.le_of_ble_eq_true rfl) dX9_strainAbove_29
      · exact rn_U C (ct_X3_placeX l D cA ad k0 S_11 post hw) (va_cwU 0 C.2.2.2.2.1 gX9_strainAbove_X3_placeX_u319X4 rfl rfl rfl rfl (by decide +kernel) ⟨Nat.le_of_ble_eq_true rfl, Nat.le_of_ble_eq_true rfl⟩) (mm_26 h_14) (celM_1 h) rfl rfl rfl rfl (Nat.le_of_ble_eq_true rfl) dX9_strainAbove_29
      · exact rn_U C (ct_X3_placeX l D cA ad k0 S_11 post hw) (va_cwU 0 C.2.2.2.2.1 gX9_strainAbove_X3_placeX_u319X8 rfl rfl rfl rfl (by decide +kernel) ⟨Nat.le_of_ble_eq_true rfl, Nat.le_of_ble_eq_true rfl⟩) (mm_26 h_14) (celM_2 h) rfl rfl rfl rfl (Nat.le_of_ble_eq_true rfl) dX9_strainAbove_29
      · exact rn_U C (ct_X3_placeX l D cA ad k0 S_11 post hw) (va_cwU 0 C.2.2.2.2.1 gX9_strainAbove_X3_placeX_u319X1 rfl rfl rfl rfl (by decide +kernel) ⟨Nat.le_of_ble_eq_true rfl, Nat.le_of_ble_eq_true rfl⟩) (mm_26 h_14) (celM_3 h) rfl rfl rfl rfl (Nat.le_of_ble_eq_true rfl) dX9_strainAbove_29) (fun r_13 S_13 hw => ?_)
  refine k_isub (pc := 32) C dX9_strainAbove_32 ?_
  refine k_i2l (pc := 33) C dX9_strainAbove_33 ?_
  refine k_topl (fun x8_15 ex8_15 => ?_)
  have hw := hw x8_15 ex8_15
  refine k_lstore (pc := 34) C dX9_strainAbove_34 (by decide) [(8, .long x8_15), (6, .long x6_10), (4, .long x4_5), (0, .ref (ad 26 k0)), (1, .ref (ad 26 k1)), (2, .ref (ad 26 k2)), (3, .int a3)] rfl ?_
  refine k_aload_n (pc := 36) C dX9_strainAbove_36 5 rfl rfl ?_
  obtain ⟨h_17, hw⟩ := hw
  refine k_afterI (pc := 37) C (wp_X3_placeY k2 S_13) hw (fun post hw => by
      rcases kd4 S_13 k2 with h | h | h | h
      · exact rn_V C (ct_X3_placeY l D cA ad k2 S_13 post hw) (cwV 0 C.2.2.2.2.1 gX9_strainAbove_X3_placeY rfl rfl rfl (by decide +kernel) ⟨Nat.le_of_ble_eq_true rfl, Nat.le_of_ble_eq_true rfl⟩) (mm_26 h_17) (celM_0 h) rfl rfl rfl rfl (Nat.le_of_ble_eq_true rfl) dX9_strainAbove_37
      · exact rn_U C (ct_X3_placeY l D cA ad k2 S_13 post hw) (va_cwU 0 C.2.2.2.2.1 gX9_strainAbove_X3_placeY_u316X4 rfl rfl rfl rfl (by decide +kernel) ⟨Nat.le_of_ble_eq_true rfl, Nat.le_of_ble_eq_true rfl⟩) (mm_26 h_17) (celM_1 h) rfl rfl rfl rfl (Nat.le_of_ble_eq_true rfl) dX9_strainAbove_37
      · exact rn_U C (ct_X3_placeY l D cA ad k2 S_13 post hw) (va_cwU 0 C.2.2.2.2.1 gX9_strainAbove_X3_placeY_u316X8 rfl rfl rfl rfl (by decide +kernel) ⟨Nat.le_of_ble_eq_true rfl, Nat.le_of_ble_eq_true rfl⟩) (mm_26 h_17) (celM_2 h) rfl rfl rfl rfl (Nat.le_of_ble_eq_true rfl) dX9_strainAbove_37
      · exact rn_U C (ct_X3_placeY l D cA ad k2 S_13 post hw) (va_cwU 0 C.2.2.2.2.1 gX9_strainAbove_X3_placeY_u316X1 rfl rfl rfl rfl (by decide +kernel) ⟨Nat.le_of_ble_eq_true rfl, Nat.le_of_ble_eq_true rfl⟩) (mm_26 h_17) (celM_3 h) rfl rfl rfl rfl (Nat.le_of_ble_eq_true rfl) dX9_strainAbove_37) (fun r_16 S_16 hw => ?_)
  refine k_aload_n (pc := 40) C dX9_strainAbove_40 3 rfl rfl ?_
  obtain ⟨h_19, hw⟩ := hw
  refine k_afterI (pc := 41) C (wp_X3_placeY k0 S_16) hw (fun post hw => by
      rcases kd4 S_16 k0 with h | h | h | h
      · exact rn_V C (ct_X3_placeY l D cA ad k0 S_16 post hw) (cwV 0 C.2.2.2.2.1 gX9_strainAbove_X3_placeY rfl rfl rfl (by decide +kernel) ⟨Nat.le_of_ble_eq_true rfl, Nat.le_of_ble_eq_true rfl⟩) (mm_26 h_19) (celM_0 h) rfl rfl rfl rfl (Nat.le_of_ble_eq_true rfl) dX9_strainAbove_41
      · exact rn_U C (ct_X3_placeY l D cA ad k0 S_16 post hw) (va_cwU 0 C.2.2.2.2.1 gX9_strainAbove_X3_placeY_u316X4 rfl rfl rfl rfl (by decide +kernel) ⟨Nat.le_of_ble_eq_true rfl, Nat.le_of_ble_eq_true rfl⟩) (mm_26 h_19) (celM_1 h) rfl rfl rfl rfl (Nat.le_of_ble_eq_true rfl) dX9_strainAbove_41
      · exact rn_U C (ct_X3_placeY l D cA ad k0 S_16 post hw) (va_cwU 0 C.2.2.2.2.1 gX9_strainAbove_X3_placeY_u316X8 rfl rfl rfl rfl (by decide +kernel) ⟨Nat.le_of_ble_eq_true rfl, Nat.le_of_ble_eq_true rfl⟩) (mm_26 h_19) (celM_2 h) rfl rfl rfl rfl (Nat.le_of_ble_eq_true rfl) dX9_strainAbove_41
      · exact rn_U C (ct_X3_placeY l D cA ad k0 S_16 post hw) (va_cwU 0 C.2.2.2.2.1 gX9_strainAbove_X3_placeY_u316X1 rfl rfl rfl rfl (by decide +kernel) ⟨Nat.le_of_ble_eq_true rfl, Nat.le_of_ble_eq_true rfl⟩) (mm_26 h_19) (celM_3 h) rfl rfl rfl rfl (Nat.le_of_ble_eq_true rfl) dX9_strainAbove_41) (fun r_18 S_18 hw => ?_)
  refine k_isub (pc := 44) C dX9_strainAbove_44 ?_
  refine k_i2l (pc := 45) C dX9_strainAbove_45 ?_
  refine k_topl (fun x10_20 ex10_20 => ?_)
  have hw := hw x10_20 ex10_20
  refine k_lstore (pc := 46) C dX9_strainAbove_46 (by decide) [(10, .long x10_20), (8, .long x8_15), (6, .long x6_10), (4, .long x4_5), (0, .ref (ad 26 k0)), (1, .ref (ad 26 k1)), (2, .ref (ad 26 k2)), (3, .int a3)] rfl ?_
  refine k_aload_n (pc := 48) C dX9_strainAbove_48 5 rfl rfl ?_
  refine k_iconst (v := 0) (pc := 49) C dX9_strainAbove_49 (by decide) ?_
  obtain ⟨h_22, hw⟩ := hw
  refine k_afterI (pc := 50) C (wp_X3_speed k1 0 S_18) hw (fun post hw => by
      rcases kd4 S_18 k1 with h | h | h | h
      · exact rn_V C (ct_X3_speed l D cA ad k1 0 S_18 post hw) (cwV 1 C.2.2.2.2.1 gX9_strainAbove_X3_speed rfl rfl rfl (by decide +kernel) ⟨Nat.le_of_ble_eq_true rfl, Nat.le_of_ble_eq_true rfl⟩) (mm_26 h_22) (celM_0 h) rfl rfl rfl rfl (Nat.le_of_ble_eq_true rfl) dX9_strainAbove_50
      · exact rn_U C (ct_X3_speed l D cA ad k1 0 S_18 post hw) (va_cwU 1 C.2.2.2.2.1 gX9_strainAbove_X3_speed_u149X4 rfl rfl rfl rfl (by decide +kernel) ⟨Nat.le_of_ble_eq_true rfl, Nat.le_of_ble_eq_true rfl⟩) (mm_26 h_22) (celM_1 h) rfl rfl rfl rfl (Nat.le_of_ble_eq_true rfl) dX9_strainAbove_50
      · exact rn_U C (ct_X3_speed l D cA ad k1 0 S_18 post hw) (va_cwU 1 C.2.2.2.2.1 gX9_strainAbove_X3_speed_u149X8 rfl rfl rfl rfl (by decide +kernel) ⟨Nat.le_of_ble_eq_true rfl, Nat.le_of_ble_eq_true rfl⟩) (mm_26 h_22) (celM_2 h) rfl rfl rfl rfl (Nat.le_of_ble_eq_true rfl) dX9_strainAbove_50
      · exact rn_U C (ct_X3_speed l D cA ad k1 0 S_18 post hw) (va_cwU 1 C.2.2.2.2.1 gX9_strainAbove_X3_speed_u149X1 rfl rfl rfl rfl (by decide +kernel) ⟨Nat.le_of_ble_eq_true rfl, Nat.le_of_ble_eq_true rfl⟩) (mm_26 h_22) (celM_3 h) rfl rfl rfl rfl (Nat.le_of_ble_eq_true rfl) dX9_strainAbove_50) (fun r_21 S_21 hw => ?_)
  refine k_aload_n (pc := 53) C dX9_strainAbove_53 4 rfl rfl ?_
  refine k_iconst (v := 0) (pc := 54) C dX9_strainAbove_54 (by decide) ?_
  obtain ⟨h_24, hw⟩ := hw
  refine k_afterI (pc := 55) C (wp_X3_speed k0 0 S_21) hw (fun post hw => by
      rcases kd4 S_21 k0 with h | h | h | h
      · exact rn_V C (ct_X3_speed l D cA ad k0 0 S_21 post hw) (cwV 1 C.2.2.2.2.1 gX9_strainAbove_X3_speed rfl rfl rfl (by decide +kernel) ⟨Nat.le_of_ble_eq_true rfl, Nat.le_of_ble_eq_true rfl⟩) (mm_26 h_24) (celM_0 h) rfl rfl rfl rfl (Nat.le_of_ble_eq_true rfl) dX9_strainAbove_55
      · exact rn_U C (ct_X3_speed l D cA ad k0 0 S_21 post hw) (va_cwU 1 C.2.2.2.2.1 gX9_strainAbove_X3_speed_u149X4 rfl rfl rfl rfl (by decide +kernel) ⟨Nat.le_of_ble_eq_true rfl, Nat.le_of_ble_eq_true rfl⟩) (mm_26 h_24) (celM_1 h) rfl rfl rfl rfl (Nat.le_of_ble_eq_true rfl) dX9_strainAbove_55
      · exact rn_U C (ct_X3_speed l D cA ad k0 0 S_21 post hw) (va_cwU 1 C.2.2.2.2.1 gX9_strainAbove_X3_speed_u149X8 rfl rfl rfl rfl (by decide +kernel) ⟨Nat.le_of_ble_eq_true rfl, Nat.le_of_ble_eq_true rfl⟩) (mm_26 h_24) (celM_2 h) rfl rfl rfl rfl (Nat.le_of_ble_eq_true rfl) dX9_strainAbove_55
      · exact rn_U C (ct_X3_speed l D cA ad k0 0 S_21 post hw) (va_cwU 1 C.2.2.2.2.1 gX9_strainAbove_X3_speed_u149X1 rfl rfl rfl rfl (by decide +kernel) ⟨Nat.le_of_ble_eq_true rfl, Nat.le_of_ble_eq_true rfl⟩) (mm_26 h_24) (celM_3 h) rfl rfl rfl rfl (Nat.le_of_ble_eq_true rfl) dX9_strainAbove_55) (fun r_23 S_23 hw => ?_)
  refine k_isub (pc := 58) C dX9_strainAbove_58 ?_
  refine k_i2l (pc := 59) C dX9_strainAbove_59 ?_
  refine k_topl (fun x12_25 ex12_25 => ?_)
  have hw := hw x12_25 ex12_25
  refine k_lstore (pc := 60) C dX9_strainAbove_60 (by decide) [(12, .long x12_25), (10, .long x10_20), (8, .long x8_15), (6, .long x6_10), (4, .long x4_5), (0, .ref (ad 26 k0)), (1, .ref (ad 26 k1)), (2, .ref (ad 26 k2)), (3, .int a3)] rfl ?_
  refine k_aload_n (pc := 62) C dX9_strainAbove_62 6 rfl rfl ?_
  refine k_iconst (v := 1) (pc := 63) C dX9_strainAbove_63 (by decide) ?_
  obtain ⟨h_27, hw⟩ := hw
  refine k_afterI (pc := 64) C (wp_X3_speed k1 1 S_23) hw (fun post hw => by
      rcases kd4 S_23 k1 with h | h | h | h
      · exact rn_V C (ct_X3_speed l D cA ad k1 1 S_23 post hw) (cwV 1 C.2.2.2.2.1 gX9_strainAbove_X3_speed rfl rfl rfl (by decide +kernel) ⟨Nat.le_of_ble_eq_true rfl, Nat.le_of_ble_eq_true rfl⟩) (mm_26 h_27) (celM_0 h) rfl rfl rfl rfl (Nat.le_of_ble_eq_true rfl) dX9_strainAbove_64
      · exact rn_U C (ct_X3_speed l D cA ad k1 1 S_23 post hw) (va_cwU 1 C.2.2.2.2.1 gX9_strainAbove_X3_speed_u149X4 rfl rfl rfl rfl (by decide +kernel) ⟨Nat.le_of_ble_eq_true rfl, Nat.le_of_ble_eq_true rfl⟩) (mm_26 h_27) (celM_1 h) rfl rfl rfl rfl (Nat.le_of_ble_eq_true rfl) dX9_strainAbove_64
      · exact rn_U C (ct_X3_speed l D cA ad k1 1 S_23 post hw) (va_cwU 1 C.2.2.2.2.1 gX9_strainAbove_X3_speed_u149X8 rfl rfl rfl rfl (by decide +kernel) ⟨Nat.le_of_ble_eq_true rfl, Nat.le_of_ble_eq_true rfl⟩) (mm_26 h_27) (celM_2 h) rfl rfl rfl rfl (Nat.le_of_ble_eq_true rfl) dX9_strainAbove_64
      · exact rn_U C (ct_X3_speed l D cA ad k1 1 S_23 post hw) (va_cwU 1 C.2.2.2.2.1 gX9_strainAbove_X3_speed_u149X1 rfl rfl rfl rfl (by decide +kernel) ⟨Nat.le_of_ble_eq_true rfl, Nat.le_of_ble_eq_true rfl⟩) (mm_26 h_27) (celM_3 h) rfl rfl rfl rfl (Nat.le_of_ble_eq_true rfl) dX9_strainAbove_64) (fun r_26 S_26 hw => ?_)
  refine k_aload_n (pc := 67) C dX9_strainAbove_67 5 rfl rfl ?_
  refine k_iconst (v := 1) (pc := 68) C dX9_strainAbove_68 (by decide) ?_
  obtain ⟨h_29, hw⟩ := hw
  refine k_afterI (pc := 69) C (wp_X3_speed k0 1 S_26) hw (fun post hw => by
      rcases kd4 S_26 k0 with h | h | h | h
      · exact rn_V C (ct_X3_speed l D cA ad k0 1 S_26 post hw) (cwV 1 C.2.2.2.2.1 gX9_strainAbove_X3_speed rfl rfl rfl (by decide +kernel) ⟨Nat.le_of_ble_eq_true rfl, Nat.le_of_ble_eq_true rfl⟩) (mm_26 h_29) (celM_0 h) rfl rfl rfl rfl (Nat.le_of_ble_eq_true rfl) dX9_strainAbove_69
      · exact rn_U C (ct_X3_speed l D cA ad k0 1 S_26 post hw) (va_cwU 1 C.2.2.2.2.1 gX9_strainAbove_X3_speed_u149X4 rfl rfl rfl rfl (by decide +kernel) ⟨Nat.le_of_ble_eq_true rfl, Nat.le_of_ble_eq_true rfl⟩) (mm_26 h_29) (celM_1 h) rfl rfl rfl rfl (Nat.le_of_ble_eq_true rfl) dX9_strainAbove_69
      · exact rn_U C (ct_X3_speed l D cA ad k0 1 S_26 post hw) (va_cwU 1 C.2.2.2.2.1 gX9_strainAbove_X3_speed_u149X8 rfl rfl rfl rfl (by decide +kernel) ⟨Nat.le_of_ble_eq_true rfl, Nat.le_of_ble_eq_true rfl⟩) (mm_26 h_29) (celM_2 h) rfl rfl rfl rfl (Nat.le_of_ble_eq_true rfl) dX9_strainAbove_69
      · exact rn_U C (ct_X3_speed l D cA ad k0 1 S_26 post hw) (va_cwU 1 C.2.2.2.2.1 gX9_strainAbove_X3_speed_u149X1 rfl rfl rfl rfl (by decide +kernel) ⟨Nat.le_of_ble_eq_true rfl, Nat.le_of_ble_eq_true rfl⟩) (mm_26 h_29) (celM_3 h) rfl rfl rfl rfl (Nat.le_of_ble_eq_true rfl) dX9_strainAbove_69) (fun r_28 S_28 hw => ?_)
  refine k_isub (pc := 72) C dX9_strainAbove_72 ?_
  refine k_i2l (pc := 73) C dX9_strainAbove_73 ?_
  refine k_topl (fun x14_30 ex14_30 => ?_)
  have hw := hw x14_30 ex14_30
  refine k_lstore (pc := 74) C dX9_strainAbove_74 (by decide) [(14, .long x14_30), (12, .long x12_25), (10, .long x10_20), (8, .long x8_15), (6, .long x6_10), (4, .long x4_5), (0, .ref (ad 26 k0)), (1, .ref (ad 26 k1)), (2, .ref (ad 26 k2)), (3, .int a3)] rfl ?_
  refine k_aload_n (pc := 76) C dX9_strainAbove_76 8 rfl rfl ?_
  refine k_iconst (v := 0) (pc := 77) C dX9_strainAbove_77 (by decide) ?_
  obtain ⟨h_32, hw⟩ := hw
  refine k_afterI (pc := 78) C (wp_X3_speed k2 0 S_28) hw (fun post hw => by
      rcases kd4 S_28 k2 with h | h | h | h
      · exact rn_V C (ct_X3_speed l D cA ad k2 0 S_28 post hw) (cwV 1 C.2.2.2.2.1 gX9_strainAbove_X3_speed rfl rfl rfl (by decide +kernel) ⟨Nat.le_of_ble_eq_true rfl, Nat.le_of_ble_eq_true rfl⟩) (mm_26 h_32) (celM_0 h) rfl rfl rfl rfl (Nat.le_of_ble_eq_true rfl) dX9_strainAbove_78
      · exact rn_U C (ct_X3_speed l D cA ad k2 0 S_28 post hw) (va_cwU 1 C.2.2.2.2.1 gX9_strainAbove_X3_speed_u149X4 rfl rfl rfl rfl (by decide +kernel) ⟨Nat.le_of_ble_eq_true rfl, Nat.le_of_ble_eq_true rfl⟩) (mm_26 h_32) (celM_1 h) rfl rfl rfl rfl (Nat.le_of_ble_eq_true rfl) dX9_strainAbove_78
      · exact rn_U C (ct_X3_speed l D cA ad k2 0 S_28 post hw) (va_cwU 1 C.2.2.2.2.1 gX9_strainAbove_X3_speed_u149X8 rfl rfl rfl rfl (by decide +kernel) ⟨Nat.le_of_ble_eq_true rfl, Nat.le_of_ble_eq_true rfl⟩) (mm_26 h_32) (celM_2 h) rfl rfl rfl rfl (Nat.le_of_ble_eq_true rfl) dX9_strainAbove_78
      · exact rn_U C (ct_X3_speed l D cA ad k2 0 S_28 post hw) (va_cwU 1 C.2.2.2.2.1 gX9_strainAbove_X3_speed_u149X1 rfl rfl rfl rfl (by decide +kernel) ⟨Nat.le_of_ble_eq_true rfl, Nat.le_of_ble_eq_true rfl⟩) (mm_26 h_32) (celM_3 h) rfl rfl rfl rfl (Nat.le_of_ble_eq_true rfl) dX9_strainAbove_78) (fun r_31 S_31 hw => ?_)
  refine k_aload_n (pc := 81) C dX9_strainAbove_81 6 rfl rfl ?_
  refine k_iconst (v := 0) (pc := 82) C dX9_strainAbove_82 (by decide) ?_
  obtain ⟨h_34, hw⟩ := hw
  refine k_afterI (pc := 83) C (wp_X3_speed k0 0 S_31) hw (fun post hw => by
      rcases kd4 S_31 k0 with h | h | h | h
      · exact rn_V C (ct_X3_speed l D cA ad k0 0 S_31 post hw) (cwV 1 C.2.2.2.2.1 gX9_strainAbove_X3_speed rfl rfl rfl (by decide +kernel) ⟨Nat.le_of_ble_eq_true rfl, Nat.le_of_ble_eq_true rfl⟩) (mm_26 h_34) (celM_0 h) rfl rfl rfl rfl (Nat.le_of_ble_eq_true rfl) dX9_strainAbove_83
      · exact rn_U C (ct_X3_speed l D cA ad k0 0 S_31 post hw) (va_cwU 1 C.2.2.2.2.1 gX9_strainAbove_X3_speed_u149X4 rfl rfl rfl rfl (by decide +kernel) ⟨Nat.le_of_ble_eq_true rfl, Nat.le_of_ble_eq_true rfl⟩) (mm_26 h_34) (celM_1 h) rfl rfl rfl rfl (Nat.le_of_ble_eq_true rfl) dX9_strainAbove_83
      · exact rn_U C (ct_X3_speed l D cA ad k0 0 S_31 post hw) (va_cwU 1 C.2.2.2.2.1 gX9_strainAbove_X3_speed_u149X8 rfl rfl rfl rfl (by decide +kernel) ⟨Nat.le_of_ble_eq_true rfl, Nat.le_of_ble_eq_true rfl⟩) (mm_26 h_34) (celM_2 h) rfl rfl rfl rfl (Nat.le_of_ble_eq_true rfl) dX9_strainAbove_83
      · exact rn_U C (ct_X3_speed l D cA ad k0 0 S_31 post hw) (va_cwU 1 C.2.2.2.2.1 gX9_strainAbove_X3_speed_u149X1 rfl rfl rfl rfl (by decide +kernel) ⟨Nat.le_of_ble_eq_true rfl, Nat.le_of_ble_eq_true rfl⟩) (mm_26 h_34) (celM_3 h) rfl rfl rfl rfl (Nat.le_of_ble_eq_true rfl) dX9_strainAbove_83) (fun r_33 S_33 hw => ?_)
  refine k_isub (pc := 86) C dX9_strainAbove_86 ?_
  refine k_i2l (pc := 87) C dX9_strainAbove_87 ?_
  refine k_topl (fun x16_35 ex16_35 => ?_)
  have hw := hw x16_35 ex16_35
  refine k_lstore (pc := 88) C dX9_strainAbove_88 (by decide) [(16, .long x16_35), (14, .long x14_30), (12, .long x12_25), (10, .long x10_20), (8, .long x8_15), (6, .long x6_10), (4, .long x4_5), (0, .ref (ad 26 k0)), (1, .ref (ad 26 k1)), (2, .ref (ad 26 k2)), (3, .int a3)] rfl ?_
  refine k_aload_n (pc := 90) C dX9_strainAbove_90 9 rfl rfl ?_
  refine k_iconst (v := 1) (pc := 91) C dX9_strainAbove_91 (by decide) ?_
  obtain ⟨h_37, hw⟩ := hw
  refine k_afterI (pc := 92) C (wp_X3_speed k2 1 S_33) hw (fun post hw => by
      rcases kd4 S_33 k2 with h | h | h | h
      · exact rn_V C (ct_X3_speed l D cA ad k2 1 S_33 post hw) (cwV 1 C.2.2.2.2.1 gX9_strainAbove_X3_speed rfl rfl rfl (by decide +kernel) ⟨Nat.le_of_ble_eq_true rfl, Nat.le_of_ble_eq_true rfl⟩) (mm_26 h_37) (celM_0 h) rfl rfl rfl rfl (Nat.le_of_ble_eq_true rfl) dX9_strainAbove_92
      · exact rn_U C (ct_X3_speed l D cA ad k2 1 S_33 post hw) (va_cwU 1 C.2.2.2.2.1 gX9_strainAbove_X3_speed_u149X4 rfl rfl rfl rfl (by decide +kernel) ⟨Nat.le_of_ble_eq_true rfl, Nat.le_of_ble_eq_true rfl⟩) (mm_26 h_37) (celM_1 h) rfl rfl rfl rfl (Nat.le_of_ble_eq_true rfl) dX9_strainAbove_92
      · exact rn_U C (ct_X3_speed l D cA ad k2 1 S_33 post hw) (va_cwU 1 C.2.2.2.2.1 gX9_strainAbove_X3_speed_u149X8 rfl rfl rfl rfl (by decide +kernel) ⟨Nat.le_of_ble_eq_true rfl, Nat.le_of_ble_eq_true rfl⟩) (mm_26 h_37) (celM_2 h) rfl rfl rfl rfl (Nat.le_of_ble_eq_true rfl) dX9_strainAbove_92
      · exact rn_U C (ct_X3_speed l D cA ad k2 1 S_33 post hw) (va_cwU 1 C.2.2.2.2.1 gX9_strainAbove_X3_speed_u149X1 rfl rfl rfl rfl (by decide +kernel) ⟨Nat.le_of_ble_eq_true rfl, Nat.le_of_ble_eq_true rfl⟩) (mm_26 h_37) (celM_3 h) rfl rfl rfl rfl (Nat.le_of_ble_eq_true rfl) dX9_strainAbove_92) (fun r_36 S_36 hw => ?_)
  refine k_aload_n (pc := 95) C dX9_strainAbove_95 7 rfl rfl ?_
  refine k_iconst (v := 1) (pc := 96) C dX9_strainAbove_96 (by decide) ?_
  obtain ⟨h_39, hw⟩ := hw
  refine k_afterI (pc := 97) C (wp_X3_speed k0 1 S_36) hw (fun post hw => by
      rcases kd4 S_36 k0 with h | h | h | h
      · exact rn_V C (ct_X3_speed l D cA ad k0 1 S_36 post hw) (cwV 1 C.2.2.2.2.1 gX9_strainAbove_X3_speed rfl rfl rfl (by decide +kernel) ⟨Nat.le_of_ble_eq_true rfl, Nat.le_of_ble_eq_true rfl⟩) (mm_26 h_39) (celM_0 h) rfl rfl rfl rfl (Nat.le_of_ble_eq_true rfl) dX9_strainAbove_97
      · exact rn_U C (ct_X3_speed l D cA ad k0 1 S_36 post hw) (va_cwU 1 C.2.2.2.2.1 gX9_strainAbove_X3_speed_u149X4 rfl rfl rfl rfl (by decide +kernel) ⟨Nat.le_of_ble_eq_true rfl, Nat.le_of_ble_eq_true rfl⟩) (mm_26 h_39) (celM_1 h) rfl rfl rfl rfl (Nat.le_of_ble_eq_true rfl) dX9_strainAbove_97
      · exact rn_U C (ct_X3_speed l D cA ad k0 1 S_36 post hw) (va_cwU 1 C.2.2.2.2.1 gX9_strainAbove_X3_speed_u149X8 rfl rfl rfl rfl (by decide +kernel) ⟨Nat.le_of_ble_eq_true rfl, Nat.le_of_ble_eq_true rfl⟩) (mm_26 h_39) (celM_2 h) rfl rfl rfl rfl (Nat.le_of_ble_eq_true rfl) dX9_strainAbove_97
      · exact rn_U C (ct_X3_speed l D cA ad k0 1 S_36 post hw) (va_cwU 1 C.2.2.2.2.1 gX9_strainAbove_X3_speed_u149X1 rfl rfl rfl rfl (by decide +kernel) ⟨Nat.le_of_ble_eq_true rfl, Nat.le_of_ble_eq_true rfl⟩) (mm_26 h_39) (celM_3 h) rfl rfl rfl rfl (Nat.le_of_ble_eq_true rfl) dX9_strainAbove_97) (fun r_38 S_38 hw => ?_)
  refine k_isub (pc := 100) C dX9_strainAbove_100 ?_
  refine k_i2l (pc := 101) C dX9_strainAbove_101 ?_
  refine k_topl (fun x18_40 ex18_40 => ?_)
  have hw := hw x18_40 ex18_40
  refine k_lstore (pc := 102) C dX9_strainAbove_102 (by decide) [(18, .long x18_40), (16, .long x16_35), (14, .long x14_30), (12, .long x12_25), (10, .long x10_20), (8, .long x8_15), (6, .long x6_10), (4, .long x4_5), (0, .ref (ad 26 k0)), (1, .ref (ad 26 k1)), (2, .ref (ad 26 k2)), (3, .int a3)] rfl ?_
  refine k_iload_n (pc := 104) C dX9_strainAbove_104 11 rfl rfl ?_
  by_cases q_105_0 : a3 = 0
  · have hw := hw.1 q_105_0
    refine k_tblIn (off := 27) (pc := 105) C 132 dX9_strainAbove_105 q_105_0 (by decide) (by decide) (by decide) (by decide) ?_
    refine k_lload (pc := 132) C dX9_strainAbove_132 3 rfl ?_
    refine k_lload (pc := 134) C dX9_strainAbove_134 4 rfl ?_
    refine k_lmul (pc := 136) C dX9_strainAbove_136 ?_
    refine k_lload (pc := 137) C dX9_strainAbove_137 1 rfl ?_
    refine k_lload (pc := 139) C dX9_strainAbove_139 6 rfl ?_
    refine k_lmul (pc := 141) C dX9_strainAbove_141 ?_
    refine k_lsub (pc := 142) C dX9_strainAbove_142 ?_
    exact hret _ _ _ _ dX9_strainAbove_143 hw
  replace hw := hw.2
  by_cases q_105_1 : a3 = 1
  · have hw := hw.1 q_105_1
    refine k_tblIn (off := 39) (pc := 105) C 144 dX9_strainAbove_105 q_105_1 (by decide) (by decide) (by decide) (by decide) ?_
    refine k_lload (pc := 144) C dX9_strainAbove_144 7 rfl ?_
    refine k_lload (pc := 146) C dX9_strainAbove_146 0 rfl ?_
    refine k_lmul (pc := 148) C dX9_strainAbove_148 ?_
    refine k_lload (pc := 149) C dX9_strainAbove_149 5 rfl ?_
    refine k_lload (pc := 151) C dX9_strainAbove_151 2 rfl ?_
    refine k_lmul (pc := 153) C dX9_strainAbove_153 ?_
    refine k_lsub (pc := 154) C dX9_strainAbove_154 ?_
    exact hret _ _ _ _ dX9_strainAbove_155 hw
  replace hw := hw.2
  by_cases q_105_2 : a3 = 2
  · have hw := hw.1 q_105_2
    refine k_tblIn (off := 51) (pc := 105) C 156 dX9_strainAbove_105 q_105_2 (by decide) (by decide) (by decide) (by decide) ?_
    refine k_lload (pc := 156) C dX9_strainAbove_156 7 rfl ?_
    refine k_lload (pc := 158) C dX9_strainAbove_158 1 rfl ?_
    refine k_lmul (pc := 160) C dX9_strainAbove_160 ?_
    refine k_lload (pc := 161) C dX9_strainAbove_161 5 rfl ?_
    refine k_lload (pc := 163) C dX9_strainAbove_163 3 rfl ?_
    refine k_lmul (pc := 165) C dX9_strainAbove_165 ?_
    refine k_lsub (pc := 166) C dX9_strainAbove_166 ?_
    refine k_lload (pc := 167) C dX9_strainAbove_167 2 rfl ?_
    refine k_lload (pc := 169) C dX9_strainAbove_169 4 rfl ?_
    refine k_lmul (pc := 171) C dX9_strainAbove_171 ?_
    refine k_lload (pc := 172) C dX9_strainAbove_172 0 rfl ?_
    refine k_lload (pc := 174) C dX9_strainAbove_174 6 rfl ?_
    refine k_lmul (pc := 176) C dX9_strainAbove_176 ?_
    refine k_lsub (pc := 177) C dX9_strainAbove_177 ?_
    refine k_ladd (pc := 178) C dX9_strainAbove_178 ?_
    exact hret _ _ _ _ dX9_strainAbove_179 hw
  replace hw := hw.2
  have z_105_0 := lv_neT q_105_0 (a := 0) (by decide)
  have z_105_1 := lv_neT q_105_1 (a := 1) (by decide)
  have z_105_2 := lv_neT q_105_2 (a := 2) (by decide)
  refine k_tblOut (pc := 105) C 180 dX9_strainAbove_105 (by omega) (by decide) ?_
  have hw := hw ⟨q_105_0, q_105_1, q_105_2⟩
  refine k_lload (pc := 180) C dX9_strainAbove_180 2 rfl ?_
  refine k_lload (pc := 182) C dX9_strainAbove_182 4 rfl ?_
  refine k_lmul (pc := 184) C dX9_strainAbove_184 ?_
  refine k_lload (pc := 185) C dX9_strainAbove_185 0 rfl ?_
  refine k_lload (pc := 187) C dX9_strainAbove_187 6 rfl ?_
  refine k_lmul (pc := 189) C dX9_strainAbove_189 ?_
  refine k_lsub (pc := 190) C dX9_strainAbove_190 ?_
  refine k_lload (pc := 191) C dX9_strainAbove_191 7 rfl ?_
  refine k_lload (pc := 193) C dX9_strainAbove_193 1 rfl ?_
  refine k_lmul (pc := 195) C dX9_strainAbove_195 ?_
  refine k_lload (pc := 196) C dX9_strainAbove_196 5 rfl ?_
  refine k_lload (pc := 198) C dX9_strainAbove_198 3 rfl ?_
  refine k_lmul (pc := 200) C dX9_strainAbove_200 ?_
  refine k_lsub (pc := 201) C dX9_strainAbove_201 ?_
  refine k_lsub (pc := 202) C dX9_strainAbove_202 ?_
  exact hret _ _ _ _ dX9_strainAbove_203 hw
