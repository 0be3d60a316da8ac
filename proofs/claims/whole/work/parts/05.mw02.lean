def wp_X10_isBlock (a1 : Int32) (S : Sg) (Q : Int32 → Sg → Prop) : Prop :=
  (∃ (I_1 : Int32 → Sg → Prop) (μ_1 : Int32 → Sg → Nat), I_1 0 S ∧ ∀ (v2_1 : Int32) (S_1 : Sg), I_1 v2_1 S_1 → ((¬ ((a1 >>> (v2_1 &&& 31)) &&& 1) = 0 → (∀ x7_3 : Int32, x7_3 = (v2_1 + 1) → (∃ (I_4 : Int64 → Int64 → Int32 → Sg → Prop) (μ_4 : Int64 → Int64 → Int32 → Sg → Nat), I_4 0 0 x7_3 S_1 ∧ ∀ (v3_4 : Int64) (v5_4 : Int64) (v7_4 : Int32) (S_4 : Sg), I_4 v3_4 v5_4 v7_4 S_4 → (((gI S_4 40 0 1) ≤ v7_4 → Q 1 S_4) ∧ (¬ (gI S_4 40 0 1) ≤ v7_4 → ((¬ ((a1 >>> (v7_4 &&& 31)) &&& 1) = 0 → (vp_in v7_4 10 ∧ (vp_in v2_1 10 ∧ (∀ x8_9 : Int64, x8_9 = (Int32.toInt64 ((gA S_4 42 0 (Int32.toNatClampNeg v7_4)) - (gA S_4 42 0 (Int32.toNatClampNeg v2_1)))) → (vp_in v7_4 10 ∧ (vp_in v2_1 10 ∧ (∀ x10_12 : Int64, x10_12 = (Int32.toInt64 ((gA S_4 43 0 (Int32.toNatClampNeg v7_4)) - (gA S_4 43 0 (Int32.toNatClampNeg v2_1)))) → (vp_in v7_4 10 ∧ (vp_in v2_1 10 ∧ (∀ x12_15 : Int64, x12_15 = (Int32.toInt64 ((gA S_4 51 0 (Int32.toNatClampNeg v7_4)) - (gA S_4 51 0 (Int32.toNatClampNeg v2_1)))) → (vp_in v7_4 10 ∧ (vp_in v2_1 10 ∧ (∀ x14_18 : Int64, x14_18 = (Int32.toInt64 ((gA S_4 52 0 (Int32.toNatClampNeg v7_4)) - (gA S_4 52 0 (Int32.toNatClampNeg v2_1)))) → (∃ J_19 : Int64 → Int64 → Sg → Prop, (∀ (v3_19 : Int64) (v5_19 : Int64) (S_19 : Sg), J_19 v3_19 v5_19 S_19 → (∃ J_20 : Int64 → Sg → Prop, (∀ (t0_20 : Int64) (S_20 : Sg), J_20 t0_20 S_20 → ((¬ (x12_15 * t0_20) = ((-v3_19) * x10_12) → Q 0 S_20) ∧ ((x12_15 * t0_20) = ((-v3_19) * x10_12) → (((x14_18 * t0_20) = (v3_19 * x8_9) → (∀ x7_23 : Int32, x7_23 = v7_4 + 1 → (I_4 v3_19 v5_19 x7_23 S_20 ∧ μ_4 v3_19 v5_19 x7_23 S_20 < μ_4 v3_4 v5_4 v7_4 S_4))) ∧ (¬ (x14_18 * t0_20) = (v3_19 * x8_9) → Q 0 S_20))))) ∧ ((¬ v5_19 = 0 → J_20 v5_19 S_19) ∧ (v5_19 = 0 → J_20 1 S_19)))) ∧ ((¬ v5_4 = 0 → J_19 v3_4 v5_4 S_4) ∧ (v5_4 = 0 → (∃ J_26 : Sg → Prop, (∀ (S_26 : Sg), J_26 S_26 → (∃ J_27 : Int64 → Sg → Prop, (∀ (t0_27 : Int64) (S_27 : Sg), J_27 t0_27 S_27 → (∃ J_28 : Int64 → Sg → Prop, (∀ (t0_28 : Int64) (S_28 : Sg), J_28 t0_28 S_28 → J_19 t0_27 t0_28 S_28) ∧ ((x8_9 = 0 → J_28 x10_12 S_27) ∧ (¬ x8_9 = 0 → J_28 x8_9 S_27)))) ∧ ((x8_9 = 0 → J_27 (-x12_15) S_26) ∧ (¬ x8_9 = 0 → J_27 x14_18 S_26)))) ∧ ((¬ x8_9 = 0 → J_26 S_4) ∧ (x8_9 = 0 → ((x10_12 = 0 → J_19 v3_4 v5_4 S_4) ∧ (¬ x10_12 = 0 → J_26 S_4))))))))))))))))))))) ∧ (((a1 >>> (v7_4 &&& 31)) &&& 1) = 0 → (∀ x7_33 : Int32, x7_33 = v7_4 + 1 → (I_4 v3_4 v5_4 x7_33 S_4 ∧ μ_4 v3_4 v5_4 x7_33 S_4 < μ_4 v3_4 v5_4 v7_4 S_4))))))))) ∧ (((a1 >>> (v2_1 &&& 31)) &&& 1) = 0 → (∀ x2_34 : Int32, x2_34 = v2_1 + 1 → (I_1 x2_34 S_1 ∧ μ_1 x2_34 S_1 < μ_1 v2_1 S_1)))))
set_option maxHeartbeats 4000000 in
set_option maxRecDepth 100000 in
theorem ct_X10_isBlock (l : Launch) (D : va_G) (cA : Nat → ClassId) (ad : Nat → Nat → Nat) (a1 : Int32) (S : Sg) (Q : Int32 → Sg → Prop) (hw : wp_X10_isBlock a1 S Q) : CtI l yX10_isBlock wsX10_isBlock (mkR 0 0) D cA ad [.ref (ad 40 0), .int a1] S Q := by
  refine ct_ofZ (cc := cX10_isBlock) (nL := 18) (by decide) rfl (Nat.le_of_ble_eq_true rfl) ?_
  intro p e s m args below meth c A Q C hret
  unfold wp_X10_isBlock at hw
  have C : Cx p s m args c cX10_isBlock 18 wsX10_isBlock RX10 D cA A := C
  have hin : ∀ w ∈ u_ws RX10 TX10 33, w ∈ wsX10_isBlock := fun w h => List.mem_cons_of_mem _ (List.mem_append_right _ h)
  have f13 : Cond.fieldLink RX10 13 "CreepBoardModel" "marks" "I" ∈ wsX10_isBlock := by decide +kernel
  have f20 : Cond.fieldLink RX10 20 "CreepBoardModel" "x" "[I" ∈ wsX10_isBlock := by decide +kernel
  have f23 : Cond.fieldLink RX10 23 "CreepBoardModel" "y" "[I" ∈ wsX10_isBlock := by decide +kernel
  have f48 : Cond.fieldLink RX10 48 "CreepBoardModel" "east" "[I" ∈ wsX10_isBlock := by decide +kernel
  have f51 : Cond.fieldLink RX10 51 "CreepBoardModel" "north" "[I" ∈ wsX10_isBlock := by decide +kernel
  change KK p l e (mkR 0 0) s m args below meth c 18 D cA ad A Q 0 [(0, .ref (ad 40 0)), (1, .int a1)] [] S
  refine k_iconst (v := 0) (pc := 0) C dX10_isBlock_0 (by decide) ?_
  refine k_istore_n (pc := 1) C dX10_isBlock_1 rfl (by decide) [(2, .int 0), (0, .ref (ad 40 0)), (1, .int a1)] rfl ?_
  refine k_sub [1, 2, 0] [(0, .ref (ad 40 0)), (1, .int a1), (2, .int 0)] rfl ?_
  obtain ⟨I_1, μ_1, hi_1, hw⟩ := hw
  have L_1 : ∀ (n : Nat) (v2_1 : Int32) (S_1 : Sg), μ_1 v2_1 S_1 < n → I_1 v2_1 S_1 → KK p l e (mkR 0 0) s m args below meth c 18 D cA ad A Q 2 [(0, .ref (ad 40 0)), (1, .int a1), (2, .int v2_1)] [] S_1 := by
    intro n
    induction n with
    | zero => intro v2_1 S_1 h; exact absurd h (Nat.not_lt_zero _)
    | succ n ih_1 =>
      intro v2_1 S_1 hn_1 hi_1
      have hw := hw v2_1 S_1 hi_1
      refine k_iload_n (pc := 2) C dX10_isBlock_2 1 rfl rfl ?_
      refine k_iload_n (pc := 3) C dX10_isBlock_3 2 rfl rfl ?_
      refine k_ishr (pc := 4) C dX10_isBlock_4 ?_
      refine k_iconst (v := 1) (pc := 5) C dX10_isBlock_5 (by decide) ?_
      refine k_iand (pc := 6) C dX10_isBlock_6 ?_
      refine k_if_ne (pc := 7) C 16 dX10_isBlock_7 (by decide) (fun q_2 => ?_) (fun q_2 => ?_)
      · have hw := hw.1 q_2
        refine k_lconst (v := 0) (pc := 16) C dX10_isBlock_16 (by decide) ?_
        refine k_lstore_n (pc := 17) C dX10_isBlock_17 rfl (by decide) [(3, .long 0), (0, .ref (ad 40 0)), (1, .int a1), (2, .int v2_1)] rfl ?_
        refine k_lconst (v := 0) (pc := 18) C dX10_isBlock_18 (by decide) ?_
        refine k_lstore (pc := 19) C dX10_isBlock_19 (by decide) [(5, .long 0), (3, .long 0), (0, .ref (ad 40 0)), (1, .int a1), (2, .int v2_1)] rfl ?_
        refine k_iload_n (pc := 21) C dX10_isBlock_21 4 rfl rfl ?_
        refine k_iconst (v := 1) (pc := 22) C dX10_isBlock_22 (by decide) ?_
        refine k_iadd (pc := 23) C dX10_isBlock_23 ?_
        refine k_topi (fun x7_3 ex7_3 => ?_)
        have hw := hw x7_3 ex7_3
        refine k_istore (pc := 24) C dX10_isBlock_24 (by decide) [(7, .int x7_3), (5, .long 0), (3, .long 0), (0, .ref (ad 40 0)), (1, .int a1), (2, .int v2_1)] rfl ?_
        refine k_sub [3, 4, 5, 2, 1, 0] [(0, .ref (ad 40 0)), (1, .int a1), (2, .int v2_1), (3, .long 0), (5, .long 0), (7, .int x7_3)] rfl ?_
        obtain ⟨I_4, μ_4, hi_4, hw⟩ := hw
        have L_4 : ∀ (n : Nat) (v3_4 : Int64) (v5_4 : Int64) (v7_4 : Int32) (S_4 : Sg), μ_4 v3_4 v5_4 v7_4 S_4 < n → I_4 v3_4 v5_4 v7_4 S_4 → KK p l e (mkR 0 0) s m args below meth c 18 D cA ad A Q 26 [(0, .ref (ad 40 0)), (1, .int a1), (2, .int v2_1), (3, .long v3_4), (5, .long v5_4), (7, .int v7_4)] [] S_4 := by
          intro n
          induction n with
          | zero => intro v3_4 v5_4 v7_4 S_4 h; exact absurd h (Nat.not_lt_zero _)
          | succ n ih_4 =>
            intro v3_4 v5_4 v7_4 S_4 hn_4 hi_4
            have hw := hw v3_4 v5_4 v7_4 S_4 hi_4
            refine k_iload (pc := 26) C dX10_isBlock_26 5 rfl ?_
            refine k_aload_n (pc := 28) C dX10_isBlock_28 0 rfl rfl ?_
            refine k_get (j := 1) (pc := 29) C hin hm_40 (cel_40 cA ad S_4 0) rfl (by decide) f13 (fun _ h => h) rfl dX10_isBlock_29 ?_
            refine k_icmp_ge (pc := 32) C 218 dX10_isBlock_32 (by decide) (fun q_5 => ?_) (fun q_5 => ?_)
            · have hw := hw.1 q_5
              refine k_iconst (v := 1) (pc := 218) C dX10_isBlock_218 (by decide) ?_
              exact hret _ _ _ _ dX10_isBlock_219 rfl hw
            · have hw := hw.2 q_5
              refine k_iload_n (pc := 35) C dX10_isBlock_35 1 rfl rfl ?_
              refine k_iload (pc := 36) C dX10_isBlock_36 5 rfl ?_
              refine k_ishr (pc := 38) C dX10_isBlock_38 ?_
              refine k_iconst (v := 1) (pc := 39) C dX10_isBlock_39 (by decide) ?_
              refine k_iand (pc := 40) C dX10_isBlock_40 ?_
              refine k_if_ne (pc := 41) C 47 dX10_isBlock_41 (by decide) (fun q_6 => ?_) (fun q_6 => ?_)
              · have hw := hw.1 q_6
                refine k_aload_n (pc := 47) C dX10_isBlock_47 0 rfl rfl ?_
                refine k_get (j := 3) (pc := 48) C hin hm_40 (cel_40 cA ad S_4 0) rfl (by decide) f20 (fun _ h => h) rfl dX10_isBlock_48 ?_
                refine k_iload (pc := 51) C dX10_isBlock_51 5 rfl ?_
                obtain ⟨h_7, hw⟩ := hw
                refine k_iald (pc := 53) C hm_42 (cel_42 cA ad S_4 0) h_7 dX10_isBlock_53 ?_
                refine k_aload_n (pc := 54) C dX10_isBlock_54 0 rfl rfl ?_
                refine k_get (j := 3) (pc := 55) C hin hm_40 (cel_40 cA ad S_4 0) rfl (by decide) f20 (fun _ h => h) rfl dX10_isBlock_55 ?_
                refine k_iload_n (pc := 58) C dX10_isBlock_58 2 rfl rfl ?_
                obtain ⟨h_8, hw⟩ := hw
                refine k_iald (pc := 59) C hm_42 (cel_42 cA ad S_4 0) h_8 dX10_isBlock_59 ?_
                refine k_isub (pc := 60) C dX10_isBlock_60 ?_
                refine k_i2l (pc := 61) C dX10_isBlock_61 ?_
                refine k_topl (fun x8_9 ex8_9 => ?_)
                have hw := hw x8_9 ex8_9
                refine k_lstore (pc := 62) C dX10_isBlock_62 (by decide) [(8, .long x8_9), (0, .ref (ad 40 0)), (1, .int a1), (2, .int v2_1), (3, .long v3_4), (5, .long v5_4), (7, .int v7_4)] rfl ?_
                refine k_aload_n (pc := 64) C dX10_isBlock_64 1 rfl rfl ?_
                refine k_get (j := 4) (pc := 65) C hin hm_40 (cel_40 cA ad S_4 0) rfl (by decide) f23 (fun _ h => h) rfl dX10_isBlock_65 ?_
                refine k_iload (pc := 68) C dX10_isBlock_68 6 rfl ?_
                obtain ⟨h_10, hw⟩ := hw
                refine k_iald (pc := 70) C hm_43 (cel_43 cA ad S_4 0) h_10 dX10_isBlock_70 ?_
                refine k_aload_n (pc := 71) C dX10_isBlock_71 1 rfl rfl ?_
                refine k_get (j := 4) (pc := 72) C hin hm_40 (cel_40 cA ad S_4 0) rfl (by decide) f23 (fun _ h => h) rfl dX10_isBlock_72 ?_
                refine k_iload_n (pc := 75) C dX10_isBlock_75 3 rfl rfl ?_
                obtain ⟨h_11, hw⟩ := hw
                refine k_iald (pc := 76) C hm_43 (cel_43 cA ad S_4 0) h_11 dX10_isBlock_76 ?_
                refine k_isub (pc := 77) C dX10_isBlock_77 ?_
                refine k_i2l (pc := 78) C dX10_isBlock_78 ?_
                refine k_topl (fun x10_12 ex10_12 => ?_)
                have hw := hw x10_12 ex10_12
                refine k_lstore (pc := 79) C dX10_isBlock_79 (by decide) [(10, .long x10_12), (8, .long x8_9), (0, .ref (ad 40 0)), (1, .int a1), (2, .int v2_1), (3, .long v3_4), (5, .long v5_4), (7, .int v7_4)] rfl ?_
                refine k_aload_n (pc := 81) C dX10_isBlock_81 2 rfl rfl ?_
                refine k_get (j := 12) (pc := 82) C hin hm_40 (cel_40 cA ad S_4 0) rfl (by decide) f48 (fun _ h => h) rfl dX10_isBlock_82 ?_
                refine k_iload (pc := 85) C dX10_isBlock_85 7 rfl ?_
                obtain ⟨h_13, hw⟩ := hw
                refine k_iald (pc := 87) C hm_51 (cel_51 cA ad S_4 0) h_13 dX10_isBlock_87 ?_
                refine k_aload_n (pc := 88) C dX10_isBlock_88 2 rfl rfl ?_
                refine k_get (j := 12) (pc := 89) C hin hm_40 (cel_40 cA ad S_4 0) rfl (by decide) f48 (fun _ h => h) rfl dX10_isBlock_89 ?_
                refine k_iload_n (pc := 92) C dX10_isBlock_92 4 rfl rfl ?_
                obtain ⟨h_14, hw⟩ := hw
                refine k_iald (pc := 93) C hm_51 (cel_51 cA ad S_4 0) h_14 dX10_isBlock_93 ?_
                refine k_isub (pc := 94) C dX10_isBlock_94 ?_
                refine k_i2l (pc := 95) C dX10_isBlock_95 ?_
                refine k_topl (fun x12_15 ex12_15 => ?_)
                have hw := hw x12_15 ex12_15
                refine k_lstore (pc := 96) C dX10_isBlock_96 (by decide) [(12, .long x12_15), (10, .long x10_12), (8, .long x8_9), (0, .ref (ad 40 0)), (1, .int a1), (2, .int v2_1), (3, .long v3_4), (5, .long v5_4), (7, .int v7_4)] rfl ?_
                refine k_aload_n (pc := 98) C dX10_isBlock_98 3 rfl rfl ?_
                refine k_get (j := 13) (pc := 99) C hin hm_40 (cel_40 cA ad S_4 0) rfl (by decide) f51 (fun _ h => h) rfl dX10_isBlock_99 ?_
                refine k_iload (pc := 102) C dX10_isBlock_102 8 rfl ?_
                obtain ⟨h_16, hw⟩ := hw
                refine k_iald (pc := 104) C hm_52 (cel_52 cA ad S_4 0) h_16 dX10_isBlock_104 ?_
                refine k_aload_n (pc := 105) C dX10_isBlock_105 3 rfl rfl ?_
                refine k_get (j := 13) (pc := 106) C hin hm_40 (cel_40 cA ad S_4 0) rfl (by decide) f51 (fun _ h => h) rfl dX10_isBlock_106 ?_
                refine k_iload_n (pc := 109) C dX10_isBlock_109 5 rfl rfl ?_
                obtain ⟨h_17, hw⟩ := hw
                refine k_iald (pc := 110) C hm_52 (cel_52 cA ad S_4 0) h_17 dX10_isBlock_110 ?_
                refine k_isub (pc := 111) C dX10_isBlock_111 ?_
                refine k_i2l (pc := 112) C dX10_isBlock_112 ?_
                refine k_topl (fun x14_18 ex14_18 => ?_)
                have hw := hw x14_18 ex14_18
                refine k_lstore (pc := 113) C dX10_isBlock_113 (by decide) [(14, .long x14_18), (12, .long x12_15), (10, .long x10_12), (8, .long x8_9), (0, .ref (ad 40 0)), (1, .int a1), (2, .int v2_1), (3, .long v3_4), (5, .long v5_4), (7, .int v7_4)] rfl ?_
                refine k_lload (pc := 115) C dX10_isBlock_115 8 rfl ?_
                refine k_lconst (v := 0) (pc := 117) C dX10_isBlock_117 (by decide) ?_
                obtain ⟨J_19, hj_19, hw⟩ := hw
                have j_19 : ∀ (v3_19 : Int64) (v5_19 : Int64) (S_19 : Sg), J_19 v3_19 v5_19 S_19 → KK p l e (mkR 0 0) s m args below meth c 18 D cA ad A Q 168 [(0, .ref (ad 40 0)), (1, .int a1), (2, .int v2_1), (3, .long v3_19), (5, .long v5_19), (7, .int v7_4), (8, .long x8_9), (10, .long x10_12), (12, .long x12_15), (14, .long x14_18)] [] S_19 := by
                  intro v3_19 v5_19 S_19 hw
                  have hw := hj_19 v3_19 v5_19 S_19 hw
                  refine k_lload (pc := 168) C dX10_isBlock_168 4 rfl ?_
                  refine k_lconst (v := 0) (pc := 170) C dX10_isBlock_170 (by decide) ?_
                  obtain ⟨J_20, hj_20, hw⟩ := hw
                  have j_20 : ∀ (t0_20 : Int64) (S_20 : Sg), J_20 t0_20 S_20 → KK p l e (mkR 0 0) s m args below meth c 18 D cA ad A Q 181 [(0, .ref (ad 40 0)), (1, .int a1), (2, .int v2_1), (3, .long v3_19), (5, .long v5_19), (7, .int v7_4), (8, .long x8_9), (10, .long x10_12), (12, .long x12_15), (14, .long x14_18)] [.long t0_20] S_20 := by
                    intro t0_20 S_20 hw
                    have hw := hj_20 t0_20 S_20 hw
                    refine k_lstore (pc := 181) C dX10_isBlock_181 (by decide) [(16, .long t0_20), (0, .ref (ad 40 0)), (1, .int a1), (2, .int v2_1), (3, .long v3_19), (5, .long v5_19), (7, .int v7_4), (8, .long x8_9), (10, .long x10_12), (12, .long x12_15), (14, .long x14_18)] rfl ?_
                    refine k_lload (pc := 183) C dX10_isBlock_183 9 rfl ?_
                    refine k_lload (pc := 185) C dX10_isBlock_185 0 rfl ?_
                    refine k_lmul (pc := 187) C dX10_isBlock_187 ?_
                    refine k_lload_n (pc := 188) C dX10_isBlock_188 4 rfl rfl ?_
                    refine k_lneg (pc := 189) C dX10_isBlock_189 ?_
                    refine k_lload (pc := 190) C dX10_isBlock_190 8 rfl ?_
                    refine k_lmul (pc := 192) C dX10_isBlock_192 ?_
                    refine k_lif_ne (pc := 193) C 210 dX10_isBlock_193 dX10_isBlock_194 (by decide) (fun q_21 => ?_) (fun q_21 => ?_)
                    · have hw := hw.1 q_21
                      refine k_iconst (v := 0) (pc := 210) C dX10_isBlock_210 (by decide) ?_
                      exact hret _ _ _ _ dX10_isBlock_211 rfl hw
                    · have hw := hw.2 q_21
                      refine k_lload (pc := 197) C dX10_isBlock_197 10 rfl ?_
                      refine k_lload (pc := 199) C dX10_isBlock_199 0 rfl ?_
                      refine k_lmul (pc := 201) C dX10_isBlock_201 ?_
                      refine k_lload_n (pc := 202) C dX10_isBlock_202 4 rfl rfl ?_
                      refine k_lload (pc := 203) C dX10_isBlock_203 7 rfl ?_
                      refine k_lmul (pc := 205) C dX10_isBlock_205 ?_
                      refine k_lif_eq (pc := 206) C 212 dX10_isBlock_206 dX10_isBlock_207 (by decide) (fun q_22 => ?_) (fun q_22 => ?_)
                      · have hw := hw.1 q_22
                        obtain ⟨x7_23, ex7_23⟩ : ∃ y : Int32, y = v7_4 + 1 := ⟨_, rfl⟩
                        have hw := hw x7_23 ex7_23
                        refine k_iinc (v := x7_23) (j := 6) (pc := 212) C dX10_isBlock_212 rfl (by rw [ex7_23]; rfl) (by decide) [(7, .int x7_23), (16, .long t0_20), (0, .ref (ad 40 0)), (1, .int a1), (2, .int v2_1), (3, .long v3_19), (5, .long v5_19), (8, .long x8_9), (10, .long x10_12), (12, .long x12_15), (14, .long x14_18)] rfl ?_
                        refine k_goto (pc := 215) C 26 dX10_isBlock_215 (by decide) ?_
                        refine k_sub [2, 3, 4, 5, 6, 0] [(0, .ref (ad 40 0)), (1, .int a1), (2, .int v2_1), (3, .long v3_19), (5, .long v5_19), (7, .int x7_23)] rfl ?_
                        exact ih_4 v3_19 v5_19 x7_23 S_20 (Nat.lt_of_lt_of_le hw.2 (Nat.le_of_lt_succ hn_4)) hw.1
                      · have hw := hw.2 q_22
                        refine k_iconst (v := 0) (pc := 210) C dX10_isBlock_210 (by decide) ?_
                        exact hret _ _ _ _ dX10_isBlock_211 rfl hw
                  refine k_lif_ne (pc := 171) C 179 dX10_isBlock_171 dX10_isBlock_172 (by decide) (fun q_24 => ?_) (fun q_24 => ?_)
                  · have hw := hw.1 q_24
                    refine k_lload (pc := 179) C dX10_isBlock_179 4 rfl ?_
                    refine k_sub [0, 1, 2, 3, 4, 5, 6, 7, 8, 9] [(0, .ref (ad 40 0)), (1, .int a1), (2, .int v2_1), (3, .long v3_19), (5, .long v5_19), (7, .int v7_4), (8, .long x8_9), (10, .long x10_12), (12, .long x12_15), (14, .long x14_18)] rfl ?_
                    exact j_20 v5_19 S_19 hw
                  · have hw := hw.2 q_24
                    refine k_lconst (v := 1) (pc := 175) C dX10_isBlock_175 (by decide) ?_
                    refine k_goto (pc := 176) C 181 dX10_isBlock_176 (by decide) ?_
                    refine k_sub [0, 1, 2, 3, 4, 5, 6, 7, 8, 9] [(0, .ref (ad 40 0)), (1, .int a1), (2, .int v2_1), (3, .long v3_19), (5, .long v5_19), (7, .int v7_4), (8, .long x8_9), (10, .long x10_12), (12, .long x12_15), (14, .long x14_18)] rfl ?_
                    exact j_20 1 S_19 hw
                refine k_lif_ne (pc := 118) C 168 dX10_isBlock_118 dX10_isBlock_119 (by decide) (fun q_25 => ?_) (fun q_25 => ?_)
                · have hw := hw.1 q_25
                  refine k_sub [4, 5, 6, 7, 8, 9, 3, 2, 1, 0] [(0, .ref (ad 40 0)), (1, .int a1), (2, .int v2_1), (3, .long v3_4), (5, .long v5_4), (7, .int v7_4), (8, .long x8_9), (10, .long x10_12), (12, .long x12_15), (14, .long x14_18)] rfl ?_
                  exact j_19 v3_4 v5_4 S_4 hw
                · have hw := hw.2 q_25
                  refine k_lload (pc := 122) C dX10_isBlock_122 3 rfl ?_
                  refine k_lconst (v := 0) (pc := 124) C dX10_isBlock_124 (by decide) ?_
                  obtain ⟨J_26, hj_26, hw⟩ := hw
                  have j_26 : ∀ (S_26 : Sg), J_26 S_26 → KK p l e (mkR 0 0) s m args below meth c 18 D cA ad A Q 136 [(0, .ref (ad 40 0)), (1, .int a1), (2, .int v2_1), (7, .int v7_4), (8, .long x8_9), (10, .long x10_12), (12, .long x12_15), (14, .long x14_18)] [] S_26 := by
                    intro S_26 hw
                    have hw := hj_26 S_26 hw
                    refine k_lload (pc := 136) C dX10_isBlock_136 4 rfl ?_
                    refine k_lconst (v := 0) (pc := 138) C dX10_isBlock_138 (by decide) ?_
                    obtain ⟨J_27, hj_27, hw⟩ := hw
                    have j_27 : ∀ (t0_27 : Int64) (S_27 : Sg), J_27 t0_27 S_27 → KK p l e (mkR 0 0) s m args below meth c 18 D cA ad A Q 151 [(0, .ref (ad 40 0)), (1, .int a1), (2, .int v2_1), (7, .int v7_4), (8, .long x8_9), (10, .long x10_12), (12, .long x12_15), (14, .long x14_18)] [.long t0_27] S_27 := by
                      intro t0_27 S_27 hw
                      have hw := hj_27 t0_27 S_27 hw
                      refine k_lstore_n (pc := 151) C dX10_isBlock_151 rfl (by decide) [(3, .long t0_27), (0, .ref (ad 40 0)), (1, .int a1), (2, .int v2_1), (7, .int v7_4), (8, .long x8_9), (10, .long x10_12), (12, .long x12_15), (14, .long x14_18)] rfl ?_
                      refine k_lload (pc := 152) C dX10_isBlock_152 5 rfl ?_
                      refine k_lconst (v := 0) (pc := 154) C dX10_isBlock_154 (by decide) ?_
                      obtain ⟨J_28, hj_28, hw⟩ := hw
                      have j_28 : ∀ (t0_28 : Int64) (S_28 : Sg), J_28 t0_28 S_28 → KK p l e (mkR 0 0) s m args below meth c 18 D cA ad A Q 166 [(0, .ref (ad 40 0)), (1, .int a1), (2, .int v2_1), (3, .long t0_27), (7, .int v7_4), (8, .long x8_9), (10, .long x10_12), (12, .long x12_15), (14, .long x14_18)] [.long t0_28] S_28 := by
                        intro t0_28 S_28 hw
                        have hw := hj_28 t0_28 S_28 hw
                        refine k_lstore (pc := 166) C dX10_isBlock_166 (by decide) [(5, .long t0_28), (0, .ref (ad 40 0)), (1, .int a1), (2, .int v2_1), (3, .long t0_27), (7, .int v7_4), (8, .long x8_9), (10, .long x10_12), (12, .long x12_15), (14, .long x14_18)] rfl ?_
                        refine k_sub [1, 2, 3, 4, 0, 5, 6, 7, 8, 9] [(0, .ref (ad 40 0)), (1, .int a1), (2, .int v2_1), (3, .long t0_27), (5, .long t0_28), (7, .int v7_4), (8, .long x8_9), (10, .long x10_12), (12, .long x12_15), (14, .long x14_18)] rfl ?_
                        exact j_19 t0_27 t0_28 S_28 hw
                      refine k_lif_eq (pc := 155) C 164 dX10_isBlock_155 dX10_isBlock_156 (by decide) (fun q_29 => ?_) (fun q_29 => ?_)
                      · have hw := hw.1 q_29
                        refine k_lload (pc := 164) C dX10_isBlock_164 6 rfl ?_
                        refine k_sub [1, 2, 3, 0, 4, 5, 6, 7, 8] [(0, .ref (ad 40 0)), (1, .int a1), (2, .int v2_1), (3, .long t0_27), (7, .int v7_4), (8, .long x8_9), (10, .long x10_12), (12, .long x12_15), (14, .long x14_18)] rfl ?_
                        exact j_28 x10_12 S_27 hw
                      · have hw := hw.2 q_29
                        refine k_lload (pc := 159) C dX10_isBlock_159 5 rfl ?_
                        refine k_goto (pc := 161) C 166 dX10_isBlock_161 (by decide) ?_
                        refine k_sub [1, 2, 3, 0, 4, 5, 6, 7, 8] [(0, .ref (ad 40 0)), (1, .int a1), (2, .int v2_1), (3, .long t0_27), (7, .int v7_4), (8, .long x8_9), (10, .long x10_12), (12, .long x12_15), (14, .long x14_18)] rfl ?_
                        exact j_28 x8_9 S_27 hw
                    refine k_lif_eq (pc := 139) C 148 dX10_isBlock_139 dX10_isBlock_140 (by decide) (fun q_30 => ?_) (fun q_30 => ?_)
                    · have hw := hw.1 q_30
                      refine k_lload (pc := 148) C dX10_isBlock_148 6 rfl ?_
                      refine k_lneg (pc := 150) C dX10_isBlock_150 ?_
                      refine k_sub [0, 1, 2, 3, 4, 5, 6, 7] [(0, .ref (ad 40 0)), (1, .int a1), (2, .int v2_1), (7, .int v7_4), (8, .long x8_9), (10, .long x10_12), (12, .long x12_15), (14, .long x14_18)] rfl ?_
                      exact j_27 (-x12_15) S_26 hw
                    · have hw := hw.2 q_30
                      refine k_lload (pc := 143) C dX10_isBlock_143 7 rfl ?_
                      refine k_goto (pc := 145) C 151 dX10_isBlock_145 (by decide) ?_
                      refine k_sub [0, 1, 2, 3, 4, 5, 6, 7] [(0, .ref (ad 40 0)), (1, .int a1), (2, .int v2_1), (7, .int v7_4), (8, .long x8_9), (10, .long x10_12), (12, .long x12_15), (14, .long x14_18)] rfl ?_
                      exact j_27 x14_18 S_26 hw
                  refine k_lif_ne (pc := 125) C 136 dX10_isBlock_125 dX10_isBlock_126 (by decide) (fun q_31 => ?_) (fun q_31 => ?_)
                  · have hw := hw.1 q_31
                    refine k_sub [4, 5, 6, 9, 3, 2, 1, 0] [(0, .ref (ad 40 0)), (1, .int a1), (2, .int v2_1), (7, .int v7_4), (8, .long x8_9), (10, .long x10_12), (12, .long x12_15), (14, .long x14_18)] rfl ?_
                    exact j_26 S_4 hw
                  · have hw := hw.2 q_31
                    refine k_lload (pc := 129) C dX10_isBlock_129 2 rfl ?_
                    refine k_lconst (v := 0) (pc := 131) C dX10_isBlock_131 (by decide) ?_
                    refine k_lif_eq (pc := 132) C 168 dX10_isBlock_132 dX10_isBlock_133 (by decide) (fun q_32 => ?_) (fun q_32 => ?_)
                    · have hw := hw.1 q_32
                      refine k_sub [4, 5, 6, 7, 8, 9, 3, 2, 1, 0] [(0, .ref (ad 40 0)), (1, .int a1), (2, .int v2_1), (3, .long v3_4), (5, .long v5_4), (7, .int v7_4), (8, .long x8_9), (10, .long x10_12), (12, .long x12_15), (14, .long x14_18)] rfl ?_
                      exact j_19 v3_4 v5_4 S_4 hw
                    · have hw := hw.2 q_32
                      refine k_sub [4, 5, 6, 9, 3, 2, 1, 0] [(0, .ref (ad 40 0)), (1, .int a1), (2, .int v2_1), (7, .int v7_4), (8, .long x8_9), (10, .long x10_12), (12, .long x12_15), (14, .long x14_18)] rfl ?_
                      exact j_26 S_4 hw
              · have hw := hw.2 q_6
                refine k_goto (pc := 44) C 212 dX10_isBlock_44 (by decide) ?_
                obtain ⟨x7_33, ex7_33⟩ : ∃ y : Int32, y = v7_4 + 1 := ⟨_, rfl⟩
                have hw := hw x7_33 ex7_33
                refine k_iinc (v := x7_33) (j := 5) (pc := 212) C dX10_isBlock_212 rfl (by rw [ex7_33]; rfl) (by decide) [(7, .int x7_33), (0, .ref (ad 40 0)), (1, .int a1), (2, .int v2_1), (3, .long v3_4), (5, .long v5_4)] rfl ?_
                refine k_goto (pc := 215) C 26 dX10_isBlock_215 (by decide) ?_
                refine k_sub [1, 2, 3, 4, 5, 0] [(0, .ref (ad 40 0)), (1, .int a1), (2, .int v2_1), (3, .long v3_4), (5, .long v5_4), (7, .int x7_33)] rfl ?_
                exact ih_4 v3_4 v5_4 x7_33 S_4 (Nat.lt_of_lt_of_le hw.2 (Nat.le_of_lt_succ hn_4)) hw.1
        exact L_4 (μ_4 0 0 x7_3 S_1 + 1) 0 0 x7_3 S_1 (Nat.lt_succ_self _) hi_4
      · have hw := hw.2 q_2
        obtain ⟨x2_34, ex2_34⟩ : ∃ y : Int32, y = v2_1 + 1 := ⟨_, rfl⟩
        have hw := hw x2_34 ex2_34
        refine k_iinc (v := x2_34) (j := 2) (pc := 10) C dX10_isBlock_10 rfl (by rw [ex2_34]; rfl) (by decide) [(2, .int x2_34), (0, .ref (ad 40 0)), (1, .int a1)] rfl ?_
        refine k_goto (pc := 13) C 2 dX10_isBlock_13 (by decide) ?_
        refine k_sub [1, 2, 0] [(0, .ref (ad 40 0)), (1, .int a1), (2, .int x2_34)] rfl ?_
        exact ih_1 x2_34 S_1 (Nat.lt_of_lt_of_le hw.2 (Nat.le_of_lt_succ hn_1)) hw.1
  exact L_1 (μ_1 0 S + 1) 0 S (Nat.lt_succ_self _) hi_1
def wp_X10_block (a1 : Int32) (S : Sg) (Q : Int32 → Sg → Prop) : Prop :=
  wp_X10_in a1 1 (((1 : Int32) <<< ((gI S 40 0 1) &&& 31)) - 1) S (fun r_1 S_1 => ((r_1 = 0 → Q (-1) S_1) ∧ (¬ r_1 = 0 → wp_X10_isBlock a1 S_1 (fun r_3 S_3 => ((r_3 = 0 → Q 0 S_3) ∧ (¬ r_3 = 0 → Q 1 S_3))))))
set_option maxHeartbeats 4000000 in
set_option maxRecDepth 100000 in
theorem ct_X10_block (l : Launch) (D : va_G) (cA : Nat → ClassId) (ad : Nat → Nat → Nat) (a1 : Int32) (S : Sg) (Q : Int32 → Sg → Prop) (hw : wp_X10_block a1 S Q) : CtI l yX10_block wsX10_block (mkR 1 37) D cA ad [.ref (ad 40 0), .int a1] S Q := by
  refine ct_ofI (cc := cX10_block) (nL := 2) (by decide) rfl (Nat.le_of_ble_eq_true rfl) ?_
  intro p e s m args below meth c A Q C hret
  unfold wp_X10_block at hw
  have C : Cx p s m args c cX10_block 2 wsX10_block RX10 D cA A := C
  have hin : ∀ w ∈ u_ws RX10 TX10 33, w ∈ wsX10_block := fun w h => List.mem_cons_of_mem _ (List.mem_append_right _ h)
  have f13 : Cond.fieldLink RX10 13 "CreepBoardModel" "marks" "I" ∈ wsX10_block := by decide +kernel
  change KK p l e (mkR 1 37) s m args below meth c 2 D cA ad A Q 0 [(0, .ref (ad 40 0)), (1, .int a1)] [] S
  refine k_aload_n (pc := 0) C dX10_block_0 0 rfl rfl ?_
  refine k_iload_n (pc := 1) C dX10_block_1 1 rfl rfl ?_
  refine k_iconst (v := 1) (pc := 2) C dX10_block_2 (by decide) ?_
  refine k_iconst (v := 1) (pc := 3) C dX10_block_3 (by decide) ?_
  refine k_aload_n (pc := 4) C dX10_block_4 0 rfl rfl ?_
  refine k_get (j := 1) (pc := 5) C hin hm_40 (cel_40 cA ad S 0) rfl (by decide) f13 (fun _ h => h) rfl dX10_block_5 ?_
  refine k_ishl (pc := 8) C dX10_block_8 ?_
  refine k_iconst (v := 1) (pc := 9) C dX10_block_9 (by decide) ?_
  refine k_isub (pc := 10) C dX10_block_10 ?_
  refine k_callVi (pc := 11) C (ct_X10_in l D cA ad a1 1 (((1 : Int32) <<< ((gI S 40 0 1) &&& 31)) - 1) S _ hw) (cwV 3 C.2.2.2.2.1 gX10_block_X10_in rfl rfl rfl (by decide +kernel) ⟨Nat.le_of_ble_eq_true rfl, Nat.le_of_ble_eq_true rfl⟩) hm_40 (cel_40 cA ad S 0) rfl rfl rfl rfl (Nat.le_of_ble_eq_true rfl) dX10_block_11 (fun r_1 S_1 hw => ?_)
  refine k_if_eq (pc := 14) C 33 dX10_block_14 (by decide) (fun q_2 => ?_) (fun q_2 => ?_)
  · have hw := hw.1 q_2
    refine k_iconst (v := (-1)) (pc := 33) C dX10_block_33 (by decide) ?_
    exact hret _ _ _ _ dX10_block_34 hw
  · have hw := hw.2 q_2
    refine k_aload_n (pc := 17) C dX10_block_17 0 rfl rfl ?_
    refine k_iload_n (pc := 18) C dX10_block_18 1 rfl rfl ?_
    refine k_callVi (pc := 19) C (ct_X10_isBlock l D cA ad a1 S_1 _ hw) (cwV 1 C.2.2.2.2.1 gX10_block_X10_isBlock rfl rfl rfl (by decide +kernel) ⟨Nat.le_of_ble_eq_true rfl, Nat.le_of_ble_eq_true rfl⟩) hm_40 (cel_40 cA ad S_1 0) rfl rfl rfl rfl (Nat.le_of_ble_eq_true rfl) dX10_block_19 (fun r_3 S_3 hw => ?_)
    refine k_if_eq (pc := 22) C 29 dX10_block_22 (by decide) (fun q_4 => ?_) (fun q_4 => ?_)
    · have hw := hw.1 q_4
      refine k_iconst (v := 0) (pc := 29) C dX10_block_29 (by decide) ?_
      refine k_goto (pc := 30) C 34 dX10_block_30 (by decide) ?_
      exact hret _ _ _ _ dX10_block_34 hw
    · have hw := hw.2 q_4
      refine k_iconst (v := 1) (pc := 25) C dX10_block_25 (by decide) ?_
      refine k_goto (pc := 26) C 34 dX10_block_26 (by decide) ?_
      exact hret _ _ _ _ dX10_block_34 hw
def wp_X10_findBlocks (S : Sg) (Q : Sg → Prop) : Prop :=
  (∀ x1_1 : Int32, x1_1 = (((1 : Int32) <<< ((gI S 40 0 1) &&& 31)) - 1) → (vp_in 0 1024 ∧ ∀ S_3 : Sg, S_3 = uA S 53 0 (Int32.toNatClampNeg 0) 0 → (∃ (I_4 : Int32 → Sg → Prop) (μ_4 : Int32 → Sg → Nat), I_4 1 S_3 ∧ ∀ (v2_4 : Int32) (S_4 : Sg), I_4 v2_4 S_4 → ((x1_1 < v2_4 → (∃ (I_6 : Int32 → Sg → Prop) (μ_6 : Int32 → Sg → Nat), I_6 x1_1 S_4 ∧ ∀ (v2_6 : Int32) (S_6 : Sg), I_6 v2_6 S_6 → ((v2_6 ≤ 0 → Q S_6) ∧ (¬ v2_6 ≤ 0 → (∀ x3_8 : Int32, x3_8 = (v2_6 &&& (-v2_6)) → (∃ (I_9 : Int32 → Int32 → Sg → Prop) (μ_9 : Int32 → Int32 → Sg → Nat), I_9 0 1 S_6 ∧ ∀ (v4_9 : Int32) (v5_9 : Int32) (S_9 : Sg), I_9 v4_9 v5_9 S_9 → (∃ J_10 : Sg → Prop, (∀ (S_10 : Sg), J_10 S_10 → (∃ (I_11 : Int32 → Sg → Prop) (μ_11 : Int32 → Sg → Nat), I_11 0 S_10 ∧ ∀ (v5_11 : Int32) (S_11 : Sg), I_11 v5_11 S_11 → (((gI S_11 40 0 1) ≤ v5_11 → (∀ x2_13 : Int32, x2_13 = (v2_6 &&& (v4_9 ^^^ (-1))) → (I_6 x2_13 S_11 ∧ μ_6 x2_13 S_11 < μ_6 v2_6 S_6))) ∧ (¬ (gI S_11 40 0 1) ≤ v5_11 → ((¬ ((v4_9 >>> (v5_11 &&& 31)) &&& 1) = 1 → (∀ x5_15 : Int32, x5_15 = v5_11 + 1 → (I_11 x5_15 S_11 ∧ μ_11 x5_15 S_11 < μ_11 v5_11 S_11))) ∧ (((v4_9 >>> (v5_11 &&& 31)) &&& 1) = 1 → (vp_in v5_11 10 ∧ ∀ S_17 : Sg, S_17 = uA S_11 54 0 (Int32.toNatClampNeg v5_11) v4_9 → (∀ x5_18 : Int32, x5_18 = v5_11 + 1 → (I_11 x5_18 S_17 ∧ μ_11 x5_18 S_17 < μ_11 v5_11 S_11))))))))) ∧ ((v2_6 < v5_9 → J_10 S_9) ∧ (¬ v2_6 < v5_9 → ((¬ v4_9 = 0 → J_10 S_9) ∧ (v4_9 = 0 → ((¬ (v5_9 &&& (v2_6 ^^^ (-1))) = 0 → (∀ x5_22 : Int32, x5_22 = v5_9 + 1 → (I_9 v4_9 x5_22 S_9 ∧ μ_9 v4_9 x5_22 S_9 < μ_9 v4_9 v5_9 S_9))) ∧ ((v5_9 &&& (v2_6 ^^^ (-1))) = 0 → (((v5_9 &&& x3_8) = 0 → (∀ x5_24 : Int32, x5_24 = v5_9 + 1 → (I_9 v4_9 x5_24 S_9 ∧ μ_9 v4_9 x5_24 S_9 < μ_9 v4_9 v5_9 S_9))) ∧ (¬ (v5_9 &&& x3_8) = 0 → (vp_in v5_9 1024 ∧ (((gA S_9 55 0 (Int32.toNatClampNeg v5_9)) = 0 → (∀ x5_27 : Int32, x5_27 = v5_9 + 1 → (I_9 v4_9 x5_27 S_9 ∧ μ_9 v4_9 x5_27 S_9 < μ_9 v4_9 v5_9 S_9))) ∧ (¬ (gA S_9 55 0 (Int32.toNatClampNeg v5_9)) = 0 → (vp_in (v2_6 &&& (v5_9 ^^^ (-1))) 1024 ∧ (vp_in v2_6 1024 ∧ ((¬ (1 + (gA S_9 53 0 (Int32.toNatClampNeg (v2_6 &&& (v5_9 ^^^ (-1)))))) = (gA S_9 53 0 (Int32.toNatClampNeg v2_6)) → (∀ x5_31 : Int32, x5_31 = v5_9 + 1 → (I_9 v4_9 x5_31 S_9 ∧ μ_9 v4_9 x5_31 S_9 < μ_9 v4_9 v5_9 S_9))) ∧ ((1 + (gA S_9 53 0 (Int32.toNatClampNeg (v2_6 &&& (v5_9 ^^^ (-1)))))) = (gA S_9 53 0 (Int32.toNatClampNeg v2_6)) → (∀ x5_32 : Int32, x5_32 = v5_9 + 1 → (I_9 v5_9 x5_32 S_9 ∧ μ_9 v5_9 x5_32 S_9 < μ_9 v4_9 v5_9 S_9)))))))))))))))))))))))) ∧ (¬ x1_1 < v2_4 → wp_X10_isBlock v2_4 S_4 (fun r_33 S_33 => (vp_in v2_4 1024 ∧ ∀ S_35 : Sg, S_35 = uA S_33 55 0 (Int32.toNatClampNeg v2_4) (vp_nar .boolean r_33) → (vp_in v2_4 1024 ∧ ∀ S_37 : Sg, S_37 = uA S_35 53 0 (Int32.toNatClampNeg v2_4) 99 → (∀ x3_38 : Int32, x3_38 = (v2_4 &&& (-v2_4)) → (∃ (I_39 : Int32 → Sg → Prop) (μ_39 : Int32 → Sg → Nat), I_39 v2_4 S_37 ∧ ∀ (v4_39 : Int32) (S_39 : Sg), I_39 v4_39 S_39 → ((v4_39 ≤ 0 → (∀ x2_41 : Int32, x2_41 = v2_4 + 1 → (I_4 x2_41 S_39 ∧ μ_4 x2_41 S_39 < μ_4 v2_4 S_4))) ∧ (¬ v4_39 ≤ 0 → (((v4_39 &&& x3_38) = 0 → (∀ x4_43 : Int32, x4_43 = ((v4_39 - 1) &&& v2_4) → (I_39 x4_43 S_39 ∧ μ_39 x4_43 S_39 < μ_39 v4_39 S_39))) ∧ (¬ (v4_39 &&& x3_38) = 0 → (vp_in v4_39 1024 ∧ ((¬ (gA S_39 55 0 (Int32.toNatClampNeg v4_39)) = 0 → (vp_in (v2_4 &&& (v4_39 ^^^ (-1))) 1024 ∧ (∀ x5_47 : Int32, x5_47 = (1 + (gA S_39 53 0 (Int32.toNatClampNeg (v2_4 &&& (v4_39 ^^^ (-1)))))) → (vp_in v2_4 1024 ∧ (((gA S_39 53 0 (Int32.toNatClampNeg v2_4)) ≤ x5_47 → (vp_in v2_4 1024 ∧ (vp_in v2_4 1024 ∧ ∀ S_52 : Sg, S_52 = uA S_39 53 0 (Int32.toNatClampNeg v2_4) (gA S_39 53 0 (Int32.toNatClampNeg v2_4)) → (∀ x4_53 : Int32, x4_53 = ((v4_39 - 1) &&& v2_4) → (I_39 x4_53 S_52 ∧ μ_39 x4_53 S_52 < μ_39 v4_39 S_39))))) ∧ (¬ (gA S_39 53 0 (Int32.toNatClampNeg v2_4)) ≤ x5_47 → (vp_in v2_4 1024 ∧ ∀ S_55 : Sg, S_55 = uA S_39 53 0 (Int32.toNatClampNeg v2_4) x5_47 → (∀ x4_56 : Int32, x4_56 = ((v4_39 - 1) &&& v2_4) → (I_39 x4_56 S_55 ∧ μ_39 x4_56 S_55 < μ_39 v4_39 S_39))))))))) ∧ ((gA S_39 55 0 (Int32.toNatClampNeg v4_39)) = 0 → (∀ x4_57 : Int32, x4_57 = ((v4_39 - 1) &&& v2_4) → (I_39 x4_57 S_39 ∧ μ_39 x4_57 S_39 < μ_39 v4_39 S_39)))))))))))))))))))
set_option maxHeartbeats 4000000 in
set_option maxRecDepth 100000 in
theorem ct_X10_findBlocks (l : Launch) (D : va_G) (cA : Nat → ClassId) (ad : Nat → Nat → Nat) (S : Sg) (Q : Sg → Prop) (hw : wp_X10_findBlocks  S Q) : CtV l yX10_findBlocks wsX10_findBlocks (mkR 1 37) D cA ad [.ref (ad 40 0)] S Q := by
  refine ct_ofV (cc := cX10_findBlocks) (nL := 6) (by decide) rfl (Nat.le_of_ble_eq_true rfl) ?_
  intro p e s m args below meth c A Q C hret
  unfold wp_X10_findBlocks at hw
  have C : Cx p s m args c cX10_findBlocks 6 wsX10_findBlocks RX10 D cA A := C
  have hin : ∀ w ∈ u_ws RX10 TX10 33, w ∈ wsX10_findBlocks := fun w h => List.mem_cons_of_mem _ (List.mem_append_right _ h)
  have f13 : Cond.fieldLink RX10 13 "CreepBoardModel" "marks" "I" ∈ wsX10_findBlocks := by decide +kernel
  have f54 : Cond.fieldLink RX10 54 "CreepBoardModel" "fewest" "[I" ∈ wsX10_findBlocks := by decide +kernel
  have f57 : Cond.fieldLink RX10 57 "CreepBoardModel" "ofMark" "[I" ∈ wsX10_findBlocks := by decide +kernel
  have f60 : Cond.fieldLink RX10 60 "CreepBoardModel" "isOne" "[Z" ∈ wsX10_findBlocks := by decide +kernel
  change KK p l e (mkR 1 37) s m args below meth c 6 D cA ad A Q 0 [(0, .ref (ad 40 0))] [] S
  refine k_iconst (v := 1) (pc := 0) C dX10_findBlocks_0 (by decide) ?_
  refine k_aload_n (pc := 1) C dX10_findBlocks_1 0 rfl rfl ?_
  refine k_get (j := 1) (pc := 2) C hin hm_40 (cel_40 cA ad S 0) rfl (by decide) f13 (fun _ h => h) rfl dX10_findBlocks_2 ?_
  refine k_ishl (pc := 5) C dX10_findBlocks_5 ?_
  refine k_iconst (v := 1) (pc := 6) C dX10_findBlocks_6 (by decide) ?_
  refine k_isub (pc := 7) C dX10_findBlocks_7 ?_
  refine k_topi (fun x1_1 ex1_1 => ?_)
  have hw := hw x1_1 ex1_1
  refine k_istore_n (pc := 8) C dX10_findBlocks_8 rfl (by decide) [(1, .int x1_1), (0, .ref (ad 40 0))] rfl ?_
  refine k_aload_n (pc := 9) C dX10_findBlocks_9 1 rfl rfl ?_
  refine k_get (j := 14) (pc := 10) C hin hm_40 (cel_40 cA ad S 0) rfl (by decide) f54 (fun _ h => h) rfl dX10_findBlocks_10 ?_
  refine k_iconst (v := 0) (pc := 13) C dX10_findBlocks_13 (by decide) ?_
  refine k_iconst (v := 0) (pc := 14) C dX10_findBlocks_14 (by decide) ?_
  obtain ⟨h_2, hw⟩ := hw
  refine k_iast (pc := 15) C hm_53 (fun S => cel_53 cA ad S 0) h_2 dX10_findBlocks_15 ?_
  refine k_nameS (fun S_3 eS_3 => ?_)
  have hw := hw S_3 eS_3
  refine k_iconst (v := 1) (pc := 16) C dX10_findBlocks_16 (by decide) ?_
  refine k_istore_n (pc := 17) C dX10_findBlocks_17 rfl (by decide) [(2, .int 1), (1, .int x1_1), (0, .ref (ad 40 0))] rfl ?_
  refine k_sub [2, 1, 0] [(0, .ref (ad 40 0)), (1, .int x1_1), (2, .int 1)] rfl ?_
  obtain ⟨I_4, μ_4, hi_4, hw⟩ := hw
  have L_4 : ∀ (n : Nat) (v2_4 : Int32) (S_4 : Sg), μ_4 v2_4 S_4 < n → I_4 v2_4 S_4 → KK p l e (mkR 1 37) s m args below meth c 6 D cA ad A Q 18 [(0, .ref (ad 40 0)), (1, .int x1_1), (2, .int v2_4)] [] S_4 := by
    intro n
    induction n with
    | zero => intro v2_4 S_4 h; exact absurd h (Nat.not_lt_zero _)
    | succ n ih_4 =>
      intro v2_4 S_4 hn_4 hi_4
      have hw := hw v2_4 S_4 hi_4
      refine k_iload_n (pc := 18) C dX10_findBlocks_18 2 rfl rfl ?_
      refine k_iload_n (pc := 19) C dX10_findBlocks_19 1 rfl rfl ?_
      refine k_icmp_gt (pc := 20) C 135 dX10_findBlocks_20 (by decide) (fun q_5 => ?_) (fun q_5 => ?_)
      · have hw := hw.1 q_5
        refine k_iload_n (pc := 135) C dX10_findBlocks_135 1 rfl rfl ?_
        refine k_istore_n (pc := 136) C dX10_findBlocks_136 rfl (by decide) [(2, .int x1_1), (0, .ref (ad 40 0)), (1, .int x1_1)] rfl ?_
        refine k_sub [1, 0] [(0, .ref (ad 40 0)), (2, .int x1_1)] rfl ?_
        obtain ⟨I_6, μ_6, hi_6, hw⟩ := hw
        have L_6 : ∀ (n : Nat) (v2_6 : Int32) (S_6 : Sg), μ_6 v2_6 S_6 < n → I_6 v2_6 S_6 → KK p l e (mkR 1 37) s m args below meth c 6 D cA ad A Q 137 [(0, .ref (ad 40 0)), (2, .int v2_6)] [] S_6 := by
          intro n
          induction n with
          | zero => intro v2_6 S_6 h; exact absurd h (Nat.not_lt_zero _)
          | succ n ih_6 =>
            intro v2_6 S_6 hn_6 hi_6
            have hw := hw v2_6 S_6 hi_6
            refine k_iload_n (pc := 137) C dX10_findBlocks_137 1 rfl rfl ?_
            refine k_if_le (pc := 138) C 269 dX10_findBlocks_138 (by decide) (fun q_7 => ?_) (fun q_7 => ?_)
            · have hw := hw.1 q_7
              exact hret _ _ _ dX10_findBlocks_269 hw
            · have hw := hw.2 q_7
              refine k_iload_n (pc := 141) C dX10_findBlocks_141 1 rfl rfl ?_
              refine k_iload_n (pc := 142) C dX10_findBlocks_142 1 rfl rfl ?_
              refine k_ineg (pc := 143) C dX10_findBlocks_143 ?_
              refine k_iand (pc := 144) C dX10_findBlocks_144 ?_
              refine k_topi (fun x3_8 ex3_8 => ?_)
              have hw := hw x3_8 ex3_8
              refine k_istore_n (pc := 145) C dX10_findBlocks_145 rfl (by decide) [(3, .int x3_8), (0, .ref (ad 40 0)), (2, .int v2_6)] rfl ?_
              refine k_iconst (v := 0) (pc := 146) C dX10_findBlocks_146 (by decide) ?_
              refine k_istore (pc := 147) C dX10_findBlocks_147 (by decide) [(4, .int 0), (3, .int x3_8), (0, .ref (ad 40 0)), (2, .int v2_6)] rfl ?_
              refine k_iconst (v := 1) (pc := 149) C dX10_findBlocks_149 (by decide) ?_
              refine k_istore (pc := 150) C dX10_findBlocks_150 (by decide) [(5, .int 1), (4, .int 0), (3, .int x3_8), (0, .ref (ad 40 0)), (2, .int v2_6)] rfl ?_
              refine k_sub [3, 4, 2, 1, 0] [(0, .ref (ad 40 0)), (2, .int v2_6), (3, .int x3_8), (4, .int 0), (5, .int 1)] rfl ?_
              obtain ⟨I_9, μ_9, hi_9, hw⟩ := hw
              have L_9 : ∀ (n : Nat) (v4_9 : Int32) (v5_9 : Int32) (S_9 : Sg), μ_9 v4_9 v5_9 S_9 < n → I_9 v4_9 v5_9 S_9 → KK p l e (mkR 1 37) s m args below meth c 6 D cA ad A Q 152 [(0, .ref (ad 40 0)), (2, .int v2_6), (3, .int x3_8), (4, .int v4_9), (5, .int v5_9)] [] S_9 := by
                intro n
                induction n with
                | zero => intro v4_9 v5_9 S_9 h; exact absurd h (Nat.not_lt_zero _)
                | succ n ih_9 =>
                  intro v4_9 v5_9 S_9 hn_9 hi_9
                  have hw := hw v4_9 v5_9 S_9 hi_9
                  refine k_iload (pc := 152) C dX10_findBlocks_152 4 rfl ?_
                  refine k_iload_n (pc := 154) C dX10_findBlocks_154 1 rfl rfl ?_
                  obtain ⟨J_10, hj_10, hw⟩ := hw
                  have j_10 : ∀ (S_10 : Sg), J_10 S_10 → KK p l e (mkR 1 37) s m args below meth c 6 D cA ad A Q 221 [(0, .ref (ad 40 0)), (2, .int v2_6), (4, .int v4_9)] [] S_10 := by
                    intro S_10 hw
                    have hw := hj_10 S_10 hw
                    refine k_iconst (v := 0) (pc := 221) C dX10_findBlocks_221 (by decide) ?_
                    refine k_istore (pc := 222) C dX10_findBlocks_222 (by decide) [(5, .int 0), (0, .ref (ad 40 0)), (2, .int v2_6), (4, .int v4_9)] rfl ?_
                    refine k_sub [1, 2, 3, 0] [(0, .ref (ad 40 0)), (2, .int v2_6), (4, .int v4_9), (5, .int 0)] rfl ?_
                    obtain ⟨I_11, μ_11, hi_11, hw⟩ := hw
                    have L_11 : ∀ (n : Nat) (v5_11 : Int32) (S_11 : Sg), μ_11 v5_11 S_11 < n → I_11 v5_11 S_11 → KK p l e (mkR 1 37) s m args below meth c 6 D cA ad A Q 224 [(0, .ref (ad 40 0)), (2, .int v2_6), (4, .int v4_9), (5, .int v5_11)] [] S_11 := by
                      intro n
                      induction n with
                      | zero => intro v5_11 S_11 h; exact absurd h (Nat.not_lt_zero _)
                      | succ n ih_11 =>
                        intro v5_11 S_11 hn_11 hi_11
                        have hw := hw v5_11 S_11 hi_11
                        refine k_iload (pc := 224) C dX10_findBlocks_224 3 rfl ?_
                        refine k_aload_n (pc := 226) C dX10_findBlocks_226 0 rfl rfl ?_
                        refine k_get (j := 1) (pc := 227) C hin hm_40 (cel_40 cA ad S_11 0) rfl (by decide) f13 (fun _ h => h) rfl dX10_findBlocks_227 ?_
                        refine k_icmp_ge (pc := 230) C 259 dX10_findBlocks_230 (by decide) (fun q_12 => ?_) (fun q_12 => ?_)
                        · have hw := hw.1 q_12
                          refine k_iload_n (pc := 259) C dX10_findBlocks_259 1 rfl rfl ?_
                          refine k_iload (pc := 260) C dX10_findBlocks_260 2 rfl ?_
                          refine k_iconst (v := (-1)) (pc := 262) C dX10_findBlocks_262 (by decide) ?_
                          refine k_ixor (pc := 263) C dX10_findBlocks_263 ?_
                          refine k_iand (pc := 264) C dX10_findBlocks_264 ?_
                          refine k_topi (fun x2_13 ex2_13 => ?_)
                          have hw := hw x2_13 ex2_13
                          refine k_istore_n (pc := 265) C dX10_findBlocks_265 rfl (by decide) [(2, .int x2_13), (0, .ref (ad 40 0)), (4, .int v4_9), (5, .int v5_11)] rfl ?_
                          refine k_goto (pc := 266) C 137 dX10_findBlocks_266 (by decide) ?_
                          refine k_sub [1, 0] [(0, .ref (ad 40 0)), (2, .int x2_13)] rfl ?_
                          exact ih_6 x2_13 S_11 (Nat.lt_of_lt_of_le hw.2 (Nat.le_of_lt_succ hn_6)) hw.1
                        · have hw := hw.2 q_12
                          refine k_iload (pc := 233) C dX10_findBlocks_233 2 rfl ?_
                          refine k_iload (pc := 235) C dX10_findBlocks_235 3 rfl ?_
                          refine k_ishr (pc := 237) C dX10_findBlocks_237 ?_
                          refine k_iconst (v := 1) (pc := 238) C dX10_findBlocks_238 (by decide) ?_
                          refine k_iand (pc := 239) C dX10_findBlocks_239 ?_
                          refine k_iconst (v := 1) (pc := 240) C dX10_findBlocks_240 (by decide) ?_
                          refine k_icmp_ne (pc := 241) C 253 dX10_findBlocks_241 (by decide) (fun q_14 => ?_) (fun q_14 => ?_)
                          · have hw := hw.1 q_14
                            obtain ⟨x5_15, ex5_15⟩ : ∃ y : Int32, y = v5_11 + 1 := ⟨_, rfl⟩
                            have hw := hw x5_15 ex5_15
                            refine k_iinc (v := x5_15) (j := 3) (pc := 253) C dX10_findBlocks_253 rfl (by rw [ex5_15]; rfl) (by decide) [(5, .int x5_15), (0, .ref (ad 40 0)), (2, .int v2_6), (4, .int v4_9)] rfl ?_
                            refine k_goto (pc := 256) C 224 dX10_findBlocks_256 (by decide) ?_
                            refine k_sub [1, 2, 3, 0] [(0, .ref (ad 40 0)), (2, .int v2_6), (4, .int v4_9), (5, .int x5_15)] rfl ?_
                            exact ih_11 x5_15 S_11 (Nat.lt_of_lt_of_le hw.2 (Nat.le_of_lt_succ hn_11)) hw.1
                          · have hw := hw.2 q_14
                            refine k_aload_n (pc := 244) C dX10_findBlocks_244 0 rfl rfl ?_
                            refine k_get (j := 15) (pc := 245) C hin hm_40 (cel_40 cA ad S_11 0) rfl (by decide) f57 (fun _ h => h) rfl dX10_findBlocks_245 ?_
                            refine k_iload (pc := 248) C dX10_findBlocks_248 3 rfl ?_
                            refine k_iload (pc := 250) C dX10_findBlocks_250 2 rfl ?_
                            obtain ⟨h_16, hw⟩ := hw
                            refine k_iast (pc := 252) C hm_54 (fun S => cel_54 cA ad S 0) h_16 dX10_findBlocks_252 ?_
                            refine k_nameS (fun S_17 eS_17 => ?_)
                            have hw := hw S_17 eS_17
                            obtain ⟨x5_18, ex5_18⟩ : ∃ y : Int32, y = v5_11 + 1 := ⟨_, rfl⟩
                            have hw := hw x5_18 ex5_18
                            refine k_iinc (v := x5_18) (j := 3) (pc := 253) C dX10_findBlocks_253 rfl (by rw [ex5_18]; rfl) (by decide) [(5, .int x5_18), (0, .ref (ad 40 0)), (2, .int v2_6), (4, .int v4_9)] rfl ?_
                            refine k_goto (pc := 256) C 224 dX10_findBlocks_256 (by decide) ?_
                            refine k_sub [1, 2, 3, 0] [(0, .ref (ad 40 0)), (2, .int v2_6), (4, .int v4_9), (5, .int x5_18)] rfl ?_
                            exact ih_11 x5_18 S_17 (Nat.lt_of_lt_of_le hw.2 (Nat.le_of_lt_succ hn_11)) hw.1
                    exact L_11 (μ_11 0 S_10 + 1) 0 S_10 (Nat.lt_succ_self _) hi_11
                  refine k_icmp_gt (pc := 155) C 221 dX10_findBlocks_155 (by decide) (fun q_19 => ?_) (fun q_19 => ?_)
                  · have hw := hw.1 q_19
                    refine k_sub [0, 1, 3] [(0, .ref (ad 40 0)), (2, .int v2_6), (4, .int v4_9)] rfl ?_
                    exact j_10 S_9 hw
                  · have hw := hw.2 q_19
                    refine k_iload (pc := 158) C dX10_findBlocks_158 3 rfl ?_
                    refine k_if_ne (pc := 160) C 221 dX10_findBlocks_160 (by decide) (fun q_20 => ?_) (fun q_20 => ?_)
                    · have hw := hw.1 q_20
                      refine k_sub [0, 1, 3] [(0, .ref (ad 40 0)), (2, .int v2_6), (4, .int v4_9)] rfl ?_
                      exact j_10 S_9 hw
                    · have hw := hw.2 q_20
                      refine k_iload (pc := 163) C dX10_findBlocks_163 4 rfl ?_
                      refine k_iload_n (pc := 165) C dX10_findBlocks_165 1 rfl rfl ?_
                      refine k_iconst (v := (-1)) (pc := 166) C dX10_findBlocks_166 (by decide) ?_
                      refine k_ixor (pc := 167) C dX10_findBlocks_167 ?_
                      refine k_iand (pc := 168) C dX10_findBlocks_168 ?_
                      refine k_if_ne (pc := 169) C 215 dX10_findBlocks_169 (by decide) (fun q_21 => ?_) (fun q_21 => ?_)
                      · have hw := hw.1 q_21
                        obtain ⟨x5_22, ex5_22⟩ : ∃ y : Int32, y = v5_9 + 1 := ⟨_, rfl⟩
                        have hw := hw x5_22 ex5_22
                        refine k_iinc (v := x5_22) (j := 4) (pc := 215) C dX10_findBlocks_215 rfl (by rw [ex5_22]; rfl) (by decide) [(5, .int x5_22), (0, .ref (ad 40 0)), (2, .int v2_6), (3, .int x3_8), (4, .int v4_9)] rfl ?_
                        refine k_goto (pc := 218) C 152 dX10_findBlocks_218 (by decide) ?_
                        refine k_sub [1, 2, 3, 4, 0] [(0, .ref (ad 40 0)), (2, .int v2_6), (3, .int x3_8), (4, .int v4_9), (5, .int x5_22)] rfl ?_
                        exact ih_9 v4_9 x5_22 S_9 (Nat.lt_of_lt_of_le hw.2 (Nat.le_of_lt_succ hn_9)) hw.1
                      · have hw := hw.2 q_21
                        refine k_iload (pc := 172) C dX10_findBlocks_172 4 rfl ?_
                        refine k_iload_n (pc := 174) C dX10_findBlocks_174 2 rfl rfl ?_
                        refine k_iand (pc := 175) C dX10_findBlocks_175 ?_
                        refine k_if_eq (pc := 176) C 215 dX10_findBlocks_176 (by decide) (fun q_23 => ?_) (fun q_23 => ?_)
                        · have hw := hw.1 q_23
                          obtain ⟨x5_24, ex5_24⟩ : ∃ y : Int32, y = v5_9 + 1 := ⟨_, rfl⟩
                          have hw := hw x5_24 ex5_24
                          refine k_iinc (v := x5_24) (j := 4) (pc := 215) C dX10_findBlocks_215 rfl (by rw [ex5_24]; rfl) (by decide) [(5, .int x5_24), (0, .ref (ad 40 0)), (2, .int v2_6), (3, .int x3_8), (4, .int v4_9)] rfl ?_
                          refine k_goto (pc := 218) C 152 dX10_findBlocks_218 (by decide) ?_
                          refine k_sub [1, 2, 3, 4, 0] [(0, .ref (ad 40 0)), (2, .int v2_6), (3, .int x3_8), (4, .int v4_9), (5, .int x5_24)] rfl ?_
                          exact ih_9 v4_9 x5_24 S_9 (Nat.lt_of_lt_of_le hw.2 (Nat.le_of_lt_succ hn_9)) hw.1
                        · have hw := hw.2 q_23
                          refine k_aload_n (pc := 179) C dX10_findBlocks_179 0 rfl rfl ?_
                          refine k_get (j := 16) (pc := 180) C hin hm_40 (cel_40 cA ad S_9 0) rfl (by decide) f60 (fun _ h => h) rfl dX10_findBlocks_180 ?_
                          refine k_iload (pc := 183) C dX10_findBlocks_183 4 rfl ?_
                          obtain ⟨h_25, hw⟩ := hw
                          refine k_zald (pc := 185) C hm_55 (cel_55 cA ad S_9 0) h_25 dX10_findBlocks_185 ?_
                          refine k_if_eq (pc := 186) C 215 dX10_findBlocks_186 (by decide) (fun q_26 => ?_) (fun q_26 => ?_)
                          · have hw := hw.1 q_26
                            obtain ⟨x5_27, ex5_27⟩ : ∃ y : Int32, y = v5_9 + 1 := ⟨_, rfl⟩
                            have hw := hw x5_27 ex5_27
                            refine k_iinc (v := x5_27) (j := 4) (pc := 215) C dX10_findBlocks_215 rfl (by rw [ex5_27]; rfl) (by decide) [(5, .int x5_27), (0, .ref (ad 40 0)), (2, .int v2_6), (3, .int x3_8), (4, .int v4_9)] rfl ?_
                            refine k_goto (pc := 218) C 152 dX10_findBlocks_218 (by decide) ?_
                            refine k_sub [1, 2, 3, 4, 0] [(0, .ref (ad 40 0)), (2, .int v2_6), (3, .int x3_8), (4, .int v4_9), (5, .int x5_27)] rfl ?_
                            exact ih_9 v4_9 x5_27 S_9 (Nat.lt_of_lt_of_le hw.2 (Nat.le_of_lt_succ hn_9)) hw.1
                          · have hw := hw.2 q_26
                            refine k_iconst (v := 1) (pc := 189) C dX10_findBlocks_189 (by decide) ?_
                            refine k_aload_n (pc := 190) C dX10_findBlocks_190 0 rfl rfl ?_
                            refine k_get (j := 14) (pc := 191) C hin hm_40 (cel_40 cA ad S_9 0) rfl (by decide) f54 (fun _ h => h) rfl dX10_findBlocks_191 ?_
                            refine k_iload_n (pc := 194) C dX10_findBlocks_194 1 rfl rfl ?_
                            refine k_iload (pc := 195) C dX10_findBlocks_195 4 rfl ?_
                            refine k_iconst (v := (-1)) (pc := 197) C dX10_findBlocks_197 (by decide) ?_
                            refine k_ixor (pc := 198) C dX10_findBlocks_198 ?_
                            refine k_iand (pc := 199) C dX10_findBlocks_199 ?_
                            obtain ⟨h_28, hw⟩ := hw
                            refine k_iald (pc := 200) C hm_53 (cel_53 cA ad S_9 0) h_28 dX10_findBlocks_200 ?_
                            refine k_iadd (pc := 201) C dX10_findBlocks_201 ?_
                            refine k_aload_n (pc := 202) C dX10_findBlocks_202 0 rfl rfl ?_
                            refine k_get (j := 14) (pc := 203) C hin hm_40 (cel_40 cA ad S_9 0) rfl (by decide) f54 (fun _ h => h) rfl dX10_findBlocks_203 ?_
                            refine k_iload_n (pc := 206) C dX10_findBlocks_206 1 rfl rfl ?_
                            obtain ⟨h_29, hw⟩ := hw
                            refine k_iald (pc := 207) C hm_53 (cel_53 cA ad S_9 0) h_29 dX10_findBlocks_207 ?_
                            refine k_icmp_ne (pc := 208) C 215 dX10_findBlocks_208 (by decide) (fun q_30 => ?_) (fun q_30 => ?_)
                            · have hw := hw.1 q_30
                              obtain ⟨x5_31, ex5_31⟩ : ∃ y : Int32, y = v5_9 + 1 := ⟨_, rfl⟩
                              have hw := hw x5_31 ex5_31
                              refine k_iinc (v := x5_31) (j := 4) (pc := 215) C dX10_findBlocks_215 rfl (by rw [ex5_31]; rfl) (by decide) [(5, .int x5_31), (0, .ref (ad 40 0)), (2, .int v2_6), (3, .int x3_8), (4, .int v4_9)] rfl ?_
                              refine k_goto (pc := 218) C 152 dX10_findBlocks_218 (by decide) ?_
                              refine k_sub [1, 2, 3, 4, 0] [(0, .ref (ad 40 0)), (2, .int v2_6), (3, .int x3_8), (4, .int v4_9), (5, .int x5_31)] rfl ?_
                              exact ih_9 v4_9 x5_31 S_9 (Nat.lt_of_lt_of_le hw.2 (Nat.le_of_lt_succ hn_9)) hw.1
                            · have hw := hw.2 q_30
                              refine k_iload (pc := 211) C dX10_findBlocks_211 4 rfl ?_
                              refine k_istore (pc := 213) C dX10_findBlocks_213 (by decide) [(4, .int v5_9), (0, .ref (ad 40 0)), (2, .int v2_6), (3, .int x3_8), (5, .int v5_9)] rfl ?_
                              obtain ⟨x5_32, ex5_32⟩ : ∃ y : Int32, y = v5_9 + 1 := ⟨_, rfl⟩
                              have hw := hw x5_32 ex5_32
                              refine k_iinc (v := x5_32) (j := 4) (pc := 215) C dX10_findBlocks_215 rfl (by rw [ex5_32]; rfl) (by decide) [(5, .int x5_32), (4, .int v5_9), (0, .ref (ad 40 0)), (2, .int v2_6), (3, .int x3_8)] rfl ?_
                              refine k_goto (pc := 218) C 152 dX10_findBlocks_218 (by decide) ?_
                              refine k_sub [2, 3, 4, 1, 0] [(0, .ref (ad 40 0)), (2, .int v2_6), (3, .int x3_8), (4, .int v5_9), (5, .int x5_32)] rfl ?_
                              exact ih_9 v5_9 x5_32 S_9 (Nat.lt_of_lt_of_le hw.2 (Nat.le_of_lt_succ hn_9)) hw.1
              exact L_9 (μ_9 0 1 S_6 + 1) 0 1 S_6 (Nat.lt_succ_self _) hi_9
        exact L_6 (μ_6 x1_1 S_4 + 1) x1_1 S_4 (Nat.lt_succ_self _) hi_6
      · have hw := hw.2 q_5
        refine k_aload_n (pc := 23) C dX10_findBlocks_23 0 rfl rfl ?_
        refine k_get (j := 16) (pc := 24) C hin hm_40 (cel_40 cA ad S_4 0) rfl (by decide) f60 (fun _ h => h) rfl dX10_findBlocks_24 ?_
        refine k_iload_n (pc := 27) C dX10_findBlocks_27 2 rfl rfl ?_
        refine k_aload_n (pc := 28) C dX10_findBlocks_28 0 rfl rfl ?_
        refine k_iload_n (pc := 29) C dX10_findBlocks_29 2 rfl rfl ?_
        refine k_callVi (pc := 30) C (ct_X10_isBlock l D cA ad v2_4 S_4 _ hw) (cwV 1 C.2.2.2.2.1 gX10_findBlocks_X10_isBlock rfl rfl rfl (by decide +kernel) ⟨Nat.le_of_ble_eq_true rfl, Nat.le_of_ble_eq_true rfl⟩) hm_40 (cel_40 cA ad S_4 0) rfl rfl rfl rfl (Nat.le_of_ble_eq_true rfl) dX10_findBlocks_30 (fun r_33 S_33 hw => ?_)
        obtain ⟨h_34, hw⟩ := hw
        refine k_zast (pc := 33) C hm_55 (fun S => cel_55 cA ad S 0) h_34 dX10_findBlocks_33 ?_
        refine k_nameS (fun S_35 eS_35 => ?_)
        have hw := hw S_35 eS_35
        refine k_aload_n (pc := 34) C dX10_findBlocks_34 0 rfl rfl ?_
        refine k_get (j := 14) (pc := 35) C hin hm_40 (cel_40 cA ad S_35 0) rfl (by decide) f54 (fun _ h => h) rfl dX10_findBlocks_35 ?_
        refine k_iload_n (pc := 38) C dX10_findBlocks_38 2 rfl rfl ?_
        refine k_bipush (v := 99) (pc := 39) C dX10_findBlocks_39 (by decide) ?_
        obtain ⟨h_36, hw⟩ := hw
        refine k_iast (pc := 41) C hm_53 (fun S => cel_53 cA ad S 0) h_36 dX10_findBlocks_41 ?_
        refine k_nameS (fun S_37 eS_37 => ?_)
        have hw := hw S_37 eS_37
        refine k_iload_n (pc := 42) C dX10_findBlocks_42 2 rfl rfl ?_
        refine k_iload_n (pc := 43) C dX10_findBlocks_43 2 rfl rfl ?_
        refine k_ineg (pc := 44) C dX10_findBlocks_44 ?_
        refine k_iand (pc := 45) C dX10_findBlocks_45 ?_
        refine k_topi (fun x3_38 ex3_38 => ?_)
        have hw := hw x3_38 ex3_38
        refine k_istore_n (pc := 46) C dX10_findBlocks_46 rfl (by decide) [(3, .int x3_38), (0, .ref (ad 40 0)), (1, .int x1_1), (2, .int v2_4)] rfl ?_
        refine k_iload_n (pc := 47) C dX10_findBlocks_47 3 rfl rfl ?_
        refine k_istore (pc := 48) C dX10_findBlocks_48 (by decide) [(4, .int v2_4), (3, .int x3_38), (0, .ref (ad 40 0)), (1, .int x1_1), (2, .int v2_4)] rfl ?_
        refine k_sub [2, 3, 4, 1, 0] [(0, .ref (ad 40 0)), (1, .int x1_1), (2, .int v2_4), (3, .int x3_38), (4, .int v2_4)] rfl ?_
        obtain ⟨I_39, μ_39, hi_39, hw⟩ := hw
        have L_39 : ∀ (n : Nat) (v4_39 : Int32) (S_39 : Sg), μ_39 v4_39 S_39 < n → I_39 v4_39 S_39 → KK p l e (mkR 1 37) s m args below meth c 6 D cA ad A Q 50 [(0, .ref (ad 40 0)), (1, .int x1_1), (2, .int v2_4), (3, .int x3_38), (4, .int v4_39)] [] S_39 := by
          intro n
          induction n with
          | zero => intro v4_39 S_39 h; exact absurd h (Nat.not_lt_zero _)
          | succ n ih_39 =>
            intro v4_39 S_39 hn_39 hi_39
            have hw := hw v4_39 S_39 hi_39
            refine k_iload (pc := 50) C dX10_findBlocks_50 4 rfl ?_
            refine k_if_le (pc := 52) C 129 dX10_findBlocks_52 (by decide) (fun q_40 => ?_) (fun q_40 => ?_)
            · have hw := hw.1 q_40
              obtain ⟨x2_41, ex2_41⟩ : ∃ y : Int32, y = v2_4 + 1 := ⟨_, rfl⟩
              have hw := hw x2_41 ex2_41
              refine k_iinc (v := x2_41) (j := 2) (pc := 129) C dX10_findBlocks_129 rfl (by rw [ex2_41]; rfl) (by decide) [(2, .int x2_41), (0, .ref (ad 40 0)), (1, .int x1_1), (3, .int x3_38), (4, .int v4_39)] rfl ?_
              refine k_goto (pc := 132) C 18 dX10_findBlocks_132 (by decide) ?_
              refine k_sub [1, 2, 0] [(0, .ref (ad 40 0)), (1, .int x1_1), (2, .int x2_41)] rfl ?_
              exact ih_4 x2_41 S_39 (Nat.lt_of_lt_of_le hw.2 (Nat.le_of_lt_succ hn_4)) hw.1
            · have hw := hw.2 q_40
              refine k_iload (pc := 55) C dX10_findBlocks_55 4 rfl ?_
              refine k_iload_n (pc := 57) C dX10_findBlocks_57 3 rfl rfl ?_
              refine k_iand (pc := 58) C dX10_findBlocks_58 ?_
              refine k_if_eq (pc := 59) C 118 dX10_findBlocks_59 (by decide) (fun q_42 => ?_) (fun q_42 => ?_)
              · have hw := hw.1 q_42
                refine k_iload (pc := 118) C dX10_findBlocks_118 4 rfl ?_
                refine k_iconst (v := 1) (pc := 120) C dX10_findBlocks_120 (by decide) ?_
                refine k_isub (pc := 121) C dX10_findBlocks_121 ?_
                refine k_iload_n (pc := 122) C dX10_findBlocks_122 2 rfl rfl ?_
                refine k_iand (pc := 123) C dX10_findBlocks_123 ?_
                refine k_topi (fun x4_43 ex4_43 => ?_)
                have hw := hw x4_43 ex4_43
                refine k_istore (pc := 124) C dX10_findBlocks_124 (by decide) [(4, .int x4_43), (0, .ref (ad 40 0)), (1, .int x1_1), (2, .int v2_4), (3, .int x3_38)] rfl ?_
                refine k_goto (pc := 126) C 50 dX10_findBlocks_126 (by decide) ?_
                refine k_sub [1, 2, 3, 4, 0] [(0, .ref (ad 40 0)), (1, .int x1_1), (2, .int v2_4), (3, .int x3_38), (4, .int x4_43)] rfl ?_
                exact ih_39 x4_43 S_39 (Nat.lt_of_lt_of_le hw.2 (Nat.le_of_lt_succ hn_39)) hw.1
              · have hw := hw.2 q_42
                refine k_aload_n (pc := 62) C dX10_findBlocks_62 0 rfl rfl ?_
                refine k_get (j := 16) (pc := 63) C hin hm_40 (cel_40 cA ad S_39 0) rfl (by decide) f60 (fun _ h => h) rfl dX10_findBlocks_63 ?_
                refine k_iload (pc := 66) C dX10_findBlocks_66 4 rfl ?_
                obtain ⟨h_44, hw⟩ := hw
                refine k_zald (pc := 68) C hm_55 (cel_55 cA ad S_39 0) h_44 dX10_findBlocks_68 ?_
                refine k_if_ne (pc := 69) C 75 dX10_findBlocks_69 (by decide) (fun q_45 => ?_) (fun q_45 => ?_)
                · have hw := hw.1 q_45
                  refine k_iconst (v := 1) (pc := 75) C dX10_findBlocks_75 (by decide) ?_
                  refine k_aload_n (pc := 76) C dX10_findBlocks_76 0 rfl rfl ?_
                  refine k_get (j := 14) (pc := 77) C hin hm_40 (cel_40 cA ad S_39 0) rfl (by decide) f54 (fun _ h => h) rfl dX10_findBlocks_77 ?_
                  refine k_iload_n (pc := 80) C dX10_findBlocks_80 2 rfl rfl ?_
                  refine k_iload (pc := 81) C dX10_findBlocks_81 4 rfl ?_
                  refine k_iconst (v := (-1)) (pc := 83) C dX10_findBlocks_83 (by decide) ?_
                  refine k_ixor (pc := 84) C dX10_findBlocks_84 ?_
                  refine k_iand (pc := 85) C dX10_findBlocks_85 ?_
                  obtain ⟨h_46, hw⟩ := hw
                  refine k_iald (pc := 86) C hm_53 (cel_53 cA ad S_39 0) h_46 dX10_findBlocks_86 ?_
                  refine k_iadd (pc := 87) C dX10_findBlocks_87 ?_
                  refine k_topi (fun x5_47 ex5_47 => ?_)
                  have hw := hw x5_47 ex5_47
                  refine k_istore (pc := 88) C dX10_findBlocks_88 (by decide) [(5, .int x5_47), (0, .ref (ad 40 0)), (1, .int x1_1), (2, .int v2_4), (3, .int x3_38), (4, .int v4_39)] rfl ?_
                  refine k_aload_n (pc := 90) C dX10_findBlocks_90 1 rfl rfl ?_
                  refine k_get (j := 14) (pc := 91) C hin hm_40 (cel_40 cA ad S_39 0) rfl (by decide) f54 (fun _ h => h) rfl dX10_findBlocks_91 ?_
                  refine k_iload_n (pc := 94) C dX10_findBlocks_94 3 rfl rfl ?_
                  refine k_iload (pc := 95) C dX10_findBlocks_95 0 rfl ?_
                  refine k_aload_n (pc := 97) C dX10_findBlocks_97 1 rfl rfl ?_
                  refine k_get (j := 14) (pc := 98) C hin hm_40 (cel_40 cA ad S_39 0) rfl (by decide) f54 (fun _ h => h) rfl dX10_findBlocks_98 ?_
                  refine k_iload_n (pc := 101) C dX10_findBlocks_101 3 rfl rfl ?_
                  obtain ⟨h_48, hw⟩ := hw
                  refine k_iald (pc := 102) C hm_53 (cel_53 cA ad S_39 0) h_48 dX10_findBlocks_102 ?_
                  refine k_icmp_ge (pc := 103) C 111 dX10_findBlocks_103 (by decide) (fun q_49 => ?_) (fun q_49 => ?_)
                  · have hw := hw.1 q_49
                    refine k_aload_n (pc := 111) C dX10_findBlocks_111 1 rfl rfl ?_
                    refine k_get (j := 14) (pc := 112) C hin hm_40 (cel_40 cA ad S_39 0) rfl (by decide) f54 (fun _ h => h) rfl dX10_findBlocks_112 ?_
                    refine k_iload_n (pc := 115) C dX10_findBlocks_115 3 rfl rfl ?_
                    obtain ⟨h_50, hw⟩ := hw
                    refine k_iald (pc := 116) C hm_53 (cel_53 cA ad S_39 0) h_50 dX10_findBlocks_116 ?_
                    obtain ⟨h_51, hw⟩ := hw
                    refine k_iast (pc := 117) C hm_53 (fun S => cel_53 cA ad S 0) h_51 dX10_findBlocks_117 ?_
                    refine k_nameS (fun S_52 eS_52 => ?_)
                    have hw := hw S_52 eS_52
                    refine k_iload (pc := 118) C dX10_findBlocks_118 5 rfl ?_
                    refine k_iconst (v := 1) (pc := 120) C dX10_findBlocks_120 (by decide) ?_
                    refine k_isub (pc := 121) C dX10_findBlocks_121 ?_
                    refine k_iload_n (pc := 122) C dX10_findBlocks_122 3 rfl rfl ?_
                    refine k_iand (pc := 123) C dX10_findBlocks_123 ?_
                    refine k_topi (fun x4_53 ex4_53 => ?_)
                    have hw := hw x4_53 ex4_53
                    refine k_istore (pc := 124) C dX10_findBlocks_124 (by decide) [(4, .int x4_53), (5, .int x5_47), (0, .ref (ad 40 0)), (1, .int x1_1), (2, .int v2_4), (3, .int x3_38)] rfl ?_
                    refine k_goto (pc := 126) C 50 dX10_findBlocks_126 (by decide) ?_
                    refine k_sub [2, 3, 4, 5, 0] [(0, .ref (ad 40 0)), (1, .int x1_1), (2, .int v2_4), (3, .int x3_38), (4, .int x4_53)] rfl ?_
                    exact ih_39 x4_53 S_52 (Nat.lt_of_lt_of_le hw.2 (Nat.le_of_lt_succ hn_39)) hw.1
                  · have hw := hw.2 q_49
                    refine k_iload (pc := 106) C dX10_findBlocks_106 0 rfl ?_
                    refine k_goto (pc := 108) C 117 dX10_findBlocks_108 (by decide) ?_
                    obtain ⟨h_54, hw⟩ := hw
                    refine k_iast (pc := 117) C hm_53 (fun S => cel_53 cA ad S 0) h_54 dX10_findBlocks_117 ?_
                    refine k_nameS (fun S_55 eS_55 => ?_)
                    have hw := hw S_55 eS_55
                    refine k_iload (pc := 118) C dX10_findBlocks_118 5 rfl ?_
                    refine k_iconst (v := 1) (pc := 120) C dX10_findBlocks_120 (by decide) ?_
                    refine k_isub (pc := 121) C dX10_findBlocks_121 ?_
                    refine k_iload_n (pc := 122) C dX10_findBlocks_122 3 rfl rfl ?_
                    refine k_iand (pc := 123) C dX10_findBlocks_123 ?_
                    refine k_topi (fun x4_56 ex4_56 => ?_)
                    have hw := hw x4_56 ex4_56
                    refine k_istore (pc := 124) C dX10_findBlocks_124 (by decide) [(4, .int x4_56), (5, .int x5_47), (0, .ref (ad 40 0)), (1, .int x1_1), (2, .int v2_4), (3, .int x3_38)] rfl ?_
                    refine k_goto (pc := 126) C 50 dX10_findBlocks_126 (by decide) ?_
                    refine k_sub [2, 3, 4, 5, 0] [(0, .ref (ad 40 0)), (1, .int x1_1), (2, .int v2_4), (3, .int x3_38), (4, .int x4_56)] rfl ?_
                    exact ih_39 x4_56 S_55 (Nat.lt_of_lt_of_le hw.2 (Nat.le_of_lt_succ hn_39)) hw.1
                · have hw := hw.2 q_45
                  refine k_goto (pc := 72) C 118 dX10_findBlocks_72 (by decide) ?_
                  refine k_iload (pc := 118) C dX10_findBlocks_118 4 rfl ?_
                  refine k_iconst (v := 1) (pc := 120) C dX10_findBlocks_120 (by decide) ?_
                  refine k_isub (pc := 121) C dX10_findBlocks_121 ?_
                  refine k_iload_n (pc := 122) C dX10_findBlocks_122 2 rfl rfl ?_
                  refine k_iand (pc := 123) C dX10_findBlocks_123 ?_
                  refine k_topi (fun x4_57 ex4_57 => ?_)
                  have hw := hw x4_57 ex4_57
                  refine k_istore (pc := 124) C dX10_findBlocks_124 (by decide) [(4, .int x4_57), (0, .ref (ad 40 0)), (1, .int x1_1), (2, .int v2_4), (3, .int x3_38)] rfl ?_
                  refine k_goto (pc := 126) C 50 dX10_findBlocks_126 (by decide) ?_
                  refine k_sub [1, 2, 3, 4, 0] [(0, .ref (ad 40 0)), (1, .int x1_1), (2, .int v2_4), (3, .int x3_38), (4, .int x4_57)] rfl ?_
                  exact ih_39 x4_57 S_39 (Nat.lt_of_lt_of_le hw.2 (Nat.le_of_lt_succ hn_39)) hw.1
        exact L_39 (μ_39 v2_4 S_37 + 1) v2_4 S_37 (Nat.lt_succ_self _) hi_39
  exact L_4 (μ_4 1 S_3 + 1) 1 S_3 (Nat.lt_succ_self _) hi_4
def wp_X10_blocks (S : Sg) (Q : Int32 → Sg → Prop) : Prop :=
  ((¬ (gI S 40 0 1) = 0 → wp_X10_findBlocks S (fun S_2 => (vp_in (((1 : Int32) <<< ((gI S_2 40 0 1) &&& 31)) - 1) 1024 ∧ Q (gA S_2 53 0 (Int32.toNatClampNeg (((1 : Int32) <<< ((gI S_2 40 0 1) &&& 31)) - 1))) S_2))) ∧ ((gI S 40 0 1) = 0 → Q (-3) S))
set_option maxHeartbeats 4000000 in
set_option maxRecDepth 100000 in
theorem ct_X10_blocks (l : Launch) (D : va_G) (cA : Nat → ClassId) (ad : Nat → Nat → Nat) (S : Sg) (Q : Int32 → Sg → Prop) (hw : wp_X10_blocks  S Q) : CtI l yX10_blocks wsX10_blocks (mkR 2 62) D cA ad [.ref (ad 40 0)] S Q := by
  refine ct_ofI (cc := cX10_blocks) (nL := 1) (by decide) rfl (Nat.le_of_ble_eq_true rfl) ?_
  intro p e s m args below meth c A Q C hret
  unfold wp_X10_blocks at hw
  have C : Cx p s m args c cX10_blocks 1 wsX10_blocks RX10 D cA A := C
  have hin : ∀ w ∈ u_ws RX10 TX10 33, w ∈ wsX10_blocks := fun w h => List.mem_cons_of_mem _ (List.mem_append_right _ h)
  have f13 : Cond.fieldLink RX10 13 "CreepBoardModel" "marks" "I" ∈ wsX10_blocks := by decide +kernel
  have f54 : Cond.fieldLink RX10 54 "CreepBoardModel" "fewest" "[I" ∈ wsX10_blocks := by decide +kernel
  change KK p l e (mkR 2 62) s m args below meth c 1 D cA ad A Q 0 [(0, .ref (ad 40 0))] [] S
  refine k_aload_n (pc := 0) C dX10_blocks_0 0 rfl rfl ?_
  refine k_get (j := 1) (pc := 1) C hin hm_40 (cel_40 cA ad S 0) rfl (by decide) f13 (fun _ h => h) rfl dX10_blocks_1 ?_
  refine k_if_ne (pc := 4) C 10 dX10_blocks_4 (by decide) (fun q_1 => ?_) (fun q_1 => ?_)
  · have hw := hw.1 q_1
    refine k_aload_n (pc := 10) C dX10_blocks_10 0 rfl rfl ?_
    refine k_callVv (pc := 11) C (ct_X10_findBlocks l D cA ad  S _ hw) (cwV 0 C.2.2.2.2.1 gX10_blocks_X10_findBlocks rfl rfl rfl (by decide +kernel) ⟨Nat.le_of_ble_eq_true rfl, Nat.le_of_ble_eq_true rfl⟩) hm_40 (cel_40 cA ad S 0) rfl rfl rfl rfl (Nat.le_of_ble_eq_true rfl) dX10_blocks_11 (fun S_2 hw => ?_)
    refine k_aload_n (pc := 14) C dX10_blocks_14 0 rfl rfl ?_
    refine k_get (j := 14) (pc := 15) C hin hm_40 (cel_40 cA ad S_2 0) rfl (by decide) f54 (fun _ h => h) rfl dX10_blocks_15 ?_
    refine k_iconst (v := 1) (pc := 18) C dX10_blocks_18 (by decide) ?_
    refine k_aload_n (pc := 19) C dX10_blocks_19 0 rfl rfl ?_
    refine k_get (j := 1) (pc := 20) C hin hm_40 (cel_40 cA ad S_2 0) rfl (by decide) f13 (fun _ h => h) rfl dX10_blocks_20 ?_
    refine k_ishl (pc := 23) C dX10_blocks_23 ?_
    refine k_iconst (v := 1) (pc := 24) C dX10_blocks_24 (by decide) ?_
    refine k_isub (pc := 25) C dX10_blocks_25 ?_
    obtain ⟨h_3, hw⟩ := hw
    refine k_iald (pc := 26) C hm_53 (cel_53 cA ad S_2 0) h_3 dX10_blocks_26 ?_
    exact hret _ _ _ _ dX10_blocks_27 hw
  · have hw := hw.2 q_1
    refine k_bipush (v := (-3)) (pc := 7) C dX10_blocks_7 (by decide) ?_
    exact hret _ _ _ _ dX10_blocks_9 hw
def wp_X10_of (a1 : Int32) (S : Sg) (Q : Int32 → Sg → Prop) : Prop :=
  wp_X10_isMark a1 S (fun r_1 S_1 => ((¬ r_1 = 0 → wp_X10_findBlocks S_1 (fun S_3 => (vp_in a1 10 ∧ Q (gA S_3 54 0 (Int32.toNatClampNeg a1)) S_3))) ∧ (r_1 = 0 → Q (-1) S_1)))
set_option maxHeartbeats 4000000 in
set_option maxRecDepth 100000 in
theorem ct_X10_of (l : Launch) (D : va_G) (cA : Nat → ClassId) (ad : Nat → Nat → Nat) (a1 : Int32) (S : Sg) (Q : Int32 → Sg → Prop) (hw : wp_X10_of a1 S Q) : CtI l yX10_of wsX10_of (mkR 2 62) D cA ad [.ref (ad 40 0), .int a1] S Q := by
  refine ct_ofI (cc := cX10_of) (nL := 2) (by decide) rfl (Nat.le_of_ble_eq_true rfl) ?_
  intro p e s m args below meth c A Q C hret
  unfold wp_X10_of at hw
  have C : Cx p s m args c cX10_of 2 wsX10_of RX10 D cA A := C
  have hin : ∀ w ∈ u_ws RX10 TX10 33, w ∈ wsX10_of := fun w h => List.mem_cons_of_mem _ (List.mem_append_right _ h)
  have f57 : Cond.fieldLink RX10 57 "CreepBoardModel" "ofMark" "[I" ∈ wsX10_of := by decide +kernel
  change KK p l e (mkR 2 62) s m args below meth c 2 D cA ad A Q 0 [(0, .ref (ad 40 0)), (1, .int a1)] [] S
  refine k_aload_n (pc := 0) C dX10_of_0 0 rfl rfl ?_
  refine k_iload_n (pc := 1) C dX10_of_1 1 rfl rfl ?_
  refine k_callVi (pc := 2) C (ct_X10_isMark l D cA ad a1 S _ hw) (cwV 1 C.2.2.2.2.1 gX10_of_X10_isMark rfl rfl rfl (by decide +kernel) ⟨Nat.le_of_ble_eq_true rfl, Nat.le_of_ble_eq_true rfl⟩) hm_40 (cel_40 cA ad S 0) rfl rfl rfl rfl (Nat.le_of_ble_eq_true rfl) dX10_of_2 (fun r_1 S_1 hw => ?_)
  refine k_if_ne (pc := 5) C 10 dX10_of_5 (by decide) (fun q_2 => ?_) (fun q_2 => ?_)
  · have hw := hw.1 q_2
    refine k_aload_n (pc := 10) C dX10_of_10 0 rfl rfl ?_
    refine k_callVv (pc := 11) C (ct_X10_findBlocks l D cA ad  S_1 _ hw) (cwV 0 C.2.2.2.2.1 gX10_of_X10_findBlocks rfl rfl rfl (by decide +kernel) ⟨Nat.le_of_ble_eq_true rfl, Nat.le_of_ble_eq_true rfl⟩) hm_40 (cel_40 cA ad S_1 0) rfl rfl rfl rfl (Nat.le_of_ble_eq_true rfl) dX10_of_11 (fun S_3 hw => ?_)
    refine k_aload_n (pc := 14) C dX10_of_14 0 rfl rfl ?_
    refine k_get (j := 15) (pc := 15) C hin hm_40 (cel_40 cA ad S_3 0) rfl (by decide) f57 (fun _ h => h) rfl dX10_of_15 ?_
    refine k_iload_n (pc := 18) C dX10_of_18 1 rfl rfl ?_
    obtain ⟨h_4, hw⟩ := hw
    refine k_iald (pc := 19) C hm_54 (cel_54 cA ad S_3 0) h_4 dX10_of_19 ?_
    exact hret _ _ _ _ dX10_of_20 hw
  · have hw := hw.2 q_2
    refine k_iconst (v := (-1)) (pc := 8) C dX10_of_8 (by decide) ?_
    exact hret _ _ _ _ dX10_of_9 hw
def wp_X10_green (a1 : Int32) (a2 : Int32) (a3 : Int32) (S : Sg) (Q : Int32 → Sg → Prop) : Prop :=
  wp_X10_isMark a1 S (fun r_1 S_1 => ((r_1 = 0 → Q (-1001) S_1) ∧ (¬ r_1 = 0 → wp_X10_in a2 0 2 S_1 (fun r_3 S_3 => ((r_3 = 0 → Q (-1001) S_3) ∧ (¬ r_3 = 0 → wp_X10_in a3 (-20) 20 S_3 (fun r_5 S_5 => ((¬ r_5 = 0 → (vp_in ((3 * a1) + a2) 30 ∧ (∀ x4_8 : Int32, x4_8 = (gA S_5 56 0 (Int32.toNatClampNeg ((3 * a1) + a2))) → (vp_in ((3 * a1) + a2) 30 ∧ ∀ S_10 : Sg, S_10 = uA S_5 56 0 (Int32.toNatClampNeg ((3 * a1) + a2)) a3 → Q x4_8 S_10)))) ∧ (r_5 = 0 → Q (-1001) S_5)))))))))
set_option maxHeartbeats 4000000 in
set_option maxRecDepth 100000 in
theorem ct_X10_green (l : Launch) (D : va_G) (cA : Nat → ClassId) (ad : Nat → Nat → Nat) (a1 : Int32) (a2 : Int32) (a3 : Int32) (S : Sg) (Q : Int32 → Sg → Prop) (hw : wp_X10_green a1 a2 a3 S Q) : CtI l yX10_green wsX10_green (mkR 2 44) D cA ad [.ref (ad 40 0), .int a1, .int a2, .int a3] S Q := by
  refine ct_ofI (cc := cX10_green) (nL := 5) (by decide) rfl (Nat.le_of_ble_eq_true rfl) ?_
  intro p e s m args below meth c A Q C hret
  unfold wp_X10_green at hw
  have C : Cx p s m args c cX10_green 5 wsX10_green RX10 D cA A := C
  have hin : ∀ w ∈ u_ws RX10 TX10 33, w ∈ wsX10_green := fun w h => List.mem_cons_of_mem _ (List.mem_append_right _ h)
  have f66 : Cond.fieldLink RX10 66 "CreepBoardModel" "green" "[I" ∈ wsX10_green := by decide +kernel
  change KK p l e (mkR 2 44) s m args below meth c 5 D cA ad A Q 0 [(0, .ref (ad 40 0)), (1, .int a1), (2, .int a2), (3, .int a3)] [] S
  refine k_aload_n (pc := 0) C dX10_green_0 0 rfl rfl ?_
  refine k_iload_n (pc := 1) C dX10_green_1 1 rfl rfl ?_
  refine k_callVi (pc := 2) C (ct_X10_isMark l D cA ad a1 S _ hw) (cwV 1 C.2.2.2.2.1 gX10_green_X10_isMark rfl rfl rfl (by decide +kernel) ⟨Nat.le_of_ble_eq_true rfl, Nat.le_of_ble_eq_true rfl⟩) hm_40 (cel_40 cA ad S 0) rfl rfl rfl rfl (Nat.le_of_ble_eq_true rfl) dX10_green_2 (fun r_1 S_1 hw => ?_)
  refine k_if_eq (pc := 5) C 30 dX10_green_5 (by decide) (fun q_2 => ?_) (fun q_2 => ?_)
  · have hw := hw.1 q_2
    refine k_sipush (v := (-1001)) (pc := 30) C dX10_green_30 (by decide) ?_
    exact hret _ _ _ _ dX10_green_33 hw
  · have hw := hw.2 q_2
    refine k_aload_n (pc := 8) C dX10_green_8 0 rfl rfl ?_
    refine k_iload_n (pc := 9) C dX10_green_9 2 rfl rfl ?_
    refine k_iconst (v := 0) (pc := 10) C dX10_green_10 (by decide) ?_
    refine k_iconst (v := 2) (pc := 11) C dX10_green_11 (by decide) ?_
    refine k_callVi (pc := 12) C (ct_X10_in l D cA ad a2 0 2 S_1 _ hw) (cwV 3 C.2.2.2.2.1 gX10_green_X10_in rfl rfl rfl (by decide +kernel) ⟨Nat.le_of_ble_eq_true rfl, Nat.le_of_ble_eq_true rfl⟩) hm_40 (cel_40 cA ad S_1 0) rfl rfl rfl rfl (Nat.le_of_ble_eq_true rfl) dX10_green_12 (fun r_3 S_3 hw => ?_)
    refine k_if_eq (pc := 15) C 30 dX10_green_15 (by decide) (fun q_4 => ?_) (fun q_4 => ?_)
    · have hw := hw.1 q_4
      refine k_sipush (v := (-1001)) (pc := 30) C dX10_green_30 (by decide) ?_
      exact hret _ _ _ _ dX10_green_33 hw
    · have hw := hw.2 q_4
      refine k_aload_n (pc := 18) C dX10_green_18 0 rfl rfl ?_
      refine k_iload_n (pc := 19) C dX10_green_19 3 rfl rfl ?_
      refine k_bipush (v := (-20)) (pc := 20) C dX10_green_20 (by decide) ?_
      refine k_bipush (v := 20) (pc := 22) C dX10_green_22 (by decide) ?_
      refine k_callVi (pc := 24) C (ct_X10_in l D cA ad a3 (-20) 20 S_3 _ hw) (cwV 3 C.2.2.2.2.1 gX10_green_X10_in rfl rfl rfl (by decide +kernel) ⟨Nat.le_of_ble_eq_true rfl, Nat.le_of_ble_eq_true rfl⟩) hm_40 (cel_40 cA ad S_3 0) rfl rfl rfl rfl (Nat.le_of_ble_eq_true rfl) dX10_green_24 (fun r_5 S_5 hw => ?_)
      refine k_if_ne (pc := 27) C 34 dX10_green_27 (by decide) (fun q_6 => ?_) (fun q_6 => ?_)
      · have hw := hw.1 q_6
        refine k_aload_n (pc := 34) C dX10_green_34 0 rfl rfl ?_
        refine k_get (j := 18) (pc := 35) C hin hm_40 (cel_40 cA ad S_5 0) rfl (by decide) f66 (fun _ h => h) rfl dX10_green_35 ?_
        refine k_iconst (v := 3) (pc := 38) C dX10_green_38 (by decide) ?_
        refine k_iload_n (pc := 39) C dX10_green_39 1 rfl rfl ?_
        refine k_imul (pc := 40) C dX10_green_40 ?_
        refine k_iload_n (pc := 41) C dX10_green_41 2 rfl rfl ?_
        refine k_iadd (pc := 42) C dX10_green_42 ?_
        obtain ⟨h_7, hw⟩ := hw
        refine k_iald (pc := 43) C hm_56 (cel_56 cA ad S_5 0) h_7 dX10_green_43 ?_
        refine k_topi (fun x4_8 ex4_8 => ?_)
        have hw := hw x4_8 ex4_8
        refine k_istore (pc := 44) C dX10_green_44 (by decide) [(4, .int x4_8), (0, .ref (ad 40 0)), (1, .int a1), (2, .int a2), (3, .int a3)] rfl ?_
        refine k_aload_n (pc := 46) C dX10_green_46 1 rfl rfl ?_
        refine k_get (j := 18) (pc := 47) C hin hm_40 (cel_40 cA ad S_5 0) rfl (by decide) f66 (fun _ h => h) rfl dX10_green_47 ?_
        refine k_iconst (v := 3) (pc := 50) C dX10_green_50 (by decide) ?_
        refine k_iload_n (pc := 51) C dX10_green_51 2 rfl rfl ?_
        refine k_imul (pc := 52) C dX10_green_52 ?_
        refine k_iload_n (pc := 53) C dX10_green_53 3 rfl rfl ?_
        refine k_iadd (pc := 54) C dX10_green_54 ?_
        refine k_iload_n (pc := 55) C dX10_green_55 4 rfl rfl ?_
        obtain ⟨h_9, hw⟩ := hw
        refine k_iast (pc := 56) C hm_56 (fun S => cel_56 cA ad S 0) h_9 dX10_green_56 ?_
        refine k_nameS (fun S_10 eS_10 => ?_)
        have hw := hw S_10 eS_10
        refine k_iload (pc := 57) C dX10_green_57 0 rfl ?_
        exact hret _ _ _ _ dX10_green_59 hw
      · have hw := hw.2 q_6
        refine k_sipush (v := (-1001)) (pc := 30) C dX10_green_30 (by decide) ?_
        exact hret _ _ _ _ dX10_green_33 hw
def wp_X10_tolerance (a1 : Int32) (S : Sg) (Q : Int32 → Sg → Prop) : Prop :=
  wp_X10_in a1 0 100 S (fun r_1 S_1 => ((¬ r_1 = 0 → (∀ x2_3 : Int32, x2_3 = (gI S_1 40 0 17) → (∀ S_4 : Sg, S_4 = uI S_1 40 0 17 a1 → Q x2_3 S_4))) ∧ (r_1 = 0 → Q (-1) S_1)))
set_option maxHeartbeats 4000000 in
set_option maxRecDepth 100000 in
theorem ct_X10_tolerance (l : Launch) (D : va_G) (cA : Nat → ClassId) (ad : Nat → Nat → Nat) (a1 : Int32) (S : Sg) (Q : Int32 → Sg → Prop) (hw : wp_X10_tolerance a1 S Q) : CtI l yX10_tolerance wsX10_tolerance (mkR 1 23) D cA ad [.ref (ad 40 0), .int a1] S Q := by
  refine ct_ofI (cc := cX10_tolerance) (nL := 3) (by decide) rfl (Nat.le_of_ble_eq_true rfl) ?_
  intro p e s m args below meth c A Q C hret
  unfold wp_X10_tolerance at hw
  have C : Cx p s m args c cX10_tolerance 3 wsX10_tolerance RX10 D cA A := C
  have hin : ∀ w ∈ u_ws RX10 TX10 33, w ∈ wsX10_tolerance := fun w h => List.mem_cons_of_mem _ (List.mem_append_right _ h)
  have f63 : Cond.fieldLink RX10 63 "CreepBoardModel" "tolerance" "I" ∈ wsX10_tolerance := by decide +kernel
  change KK p l e (mkR 1 23) s m args below meth c 3 D cA ad A Q 0 [(0, .ref (ad 40 0)), (1, .int a1)] [] S
  refine k_aload_n (pc := 0) C dX10_tolerance_0 0 rfl rfl ?_
  refine k_iload_n (pc := 1) C dX10_tolerance_1 1 rfl rfl ?_
  refine k_iconst (v := 0) (pc := 2) C dX10_tolerance_2 (by decide) ?_
  refine k_bipush (v := 100) (pc := 3) C dX10_tolerance_3 (by decide) ?_
  refine k_callVi (pc := 5) C (ct_X10_in l D cA ad a1 0 100 S _ hw) (cwV 3 C.2.2.2.2.1 gX10_tolerance_X10_in rfl rfl rfl (by decide +kernel) ⟨Nat.le_of_ble_eq_true rfl, Nat.le_of_ble_eq_true rfl⟩) hm_40 (cel_40 cA ad S 0) rfl rfl rfl rfl (Nat.le_of_ble_eq_true rfl) dX10_tolerance_5 (fun r_1 S_1 hw => ?_)
  refine k_if_ne (pc := 8) C 13 dX10_tolerance_8 (by decide) (fun q_2 => ?_) (fun q_2 => ?_)
  · have hw := hw.1 q_2
    refine k_aload_n (pc := 13) C dX10_tolerance_13 0 rfl rfl ?_
    refine k_get (j := 17) (pc := 14) C hin hm_40 (cel_40 cA ad S_1 0) rfl (by decide) f63 (fun _ h => h) rfl dX10_tolerance_14 ?_
    refine k_topi (fun x2_3 ex2_3 => ?_)
    have hw := hw x2_3 ex2_3
    refine k_istore_n (pc := 17) C dX10_tolerance_17 rfl (by decide) [(2, .int x2_3), (0, .ref (ad 40 0)), (1, .int a1)] rfl ?_
    refine k_aload_n (pc := 18) C dX10_tolerance_18 1 rfl rfl ?_
    refine k_iload_n (pc := 19) C dX10_tolerance_19 2 rfl rfl ?_
    refine k_put (S' := uI S_1 40 0 17 a1) (j := 17) (ty := .int) (pc := 20) C hin tyX10 tyX10_ok nmX10 hm_40 (cel_40 cA ad S_1 0) rfl (by decide) f63 (fun _ h => h) rfl (by decide +kernel) rfl rfl (Nat.le_of_ble_eq_true rfl) rfl rfl (fun a b h => cel_uI h) dX10_tolerance_20 ?_
    refine k_nameS (fun S_4 eS_4 => ?_)
    have hw := hw S_4 eS_4
    refine k_iload_n (pc := 23) C dX10_tolerance_23 0 rfl rfl ?_
    exact hret _ _ _ _ dX10_tolerance_24 hw
  · have hw := hw.2 q_2
    refine k_iconst (v := (-1)) (pc := 11) C dX10_tolerance_11 (by decide) ?_
    exact hret _ _ _ _ dX10_tolerance_12 hw
def wp_X10_doFit (a1 : Int32) (a2 : Int32) (a3 : Int32) (S : Sg) (Q : Int32 → Sg → Prop) : Prop :=
  (∃ (I_1 : Int32 → Int32 → Sg → Prop) (μ_1 : Int32 → Int32 → Sg → Nat), I_1 1 0 S ∧ ∀ (v4_1 : Int32) (v5_1 : Int32) (S_1 : Sg), I_1 v4_1 v5_1 S_1 → (((gI S_1 40 0 1) ≤ v5_1 → (narrow .boolean (.int v4_1) = .int v4_1 ∧ Q v4_1 S_1)) ∧ (¬ (gI S_1 40 0 1) ≤ v5_1 → ((v4_1 = 0 → (∀ x5_4 : Int32, x5_4 = v5_1 + 1 → (I_1 0 x5_4 S_1 ∧ μ_1 0 x5_4 S_1 < μ_1 v4_1 v5_1 S_1))) ∧ (¬ v4_1 = 0 → (vp_in (3 * v5_1) 30 ∧ (vp_in ((3 * v5_1) + 1) 30 ∧ (vp_in ((3 * v5_1) + 2) 30 ∧ (vp_in v5_1 10 ∧ wp_X10_in (((((gA S_1 56 0 (Int32.toNatClampNeg (3 * v5_1))) * a1) + ((gA S_1 56 0 (Int32.toNatClampNeg ((3 * v5_1) + 1))) * a2)) + ((gA S_1 56 0 (Int32.toNatClampNeg ((3 * v5_1) + 2))) * a3)) - (gA S_1 51 0 (Int32.toNatClampNeg v5_1))) (-(gI S_1 40 0 17)) (gI S_1 40 0 17) S_1 (fun r_9 S_9 => ((r_9 = 0 → (∀ x5_11 : Int32, x5_11 = v5_1 + 1 → (I_1 0 x5_11 S_9 ∧ μ_1 0 x5_11 S_9 < μ_1 v4_1 v5_1 S_1))) ∧ (¬ r_9 = 0 → (∀ x5_12 : Int32, x5_12 = v5_1 + 1 → (I_1 1 x5_12 S_9 ∧ μ_1 1 x5_12 S_9 < μ_1 v4_1 v5_1 S_1))))))))))))))
set_option maxHeartbeats 4000000 in
set_option maxRecDepth 100000 in
theorem ct_X10_doFit (l : Launch) (D : va_G) (cA : Nat → ClassId) (ad : Nat → Nat → Nat) (a1 : Int32) (a2 : Int32) (a3 : Int32) (S : Sg) (Q : Int32 → Sg → Prop) (hw : wp_X10_doFit a1 a2 a3 S Q) : CtI l yX10_doFit wsX10_doFit (mkR 1 23) D cA ad [.ref (ad 40 0), .int a1, .int a2, .int a3] S Q := by
  refine ct_ofZ (cc := cX10_doFit) (nL := 6) (by decide) rfl (Nat.le_of_ble_eq_true rfl) ?_
  intro p e s m args below meth c A Q C hret
  unfold wp_X10_doFit at hw
  have C : Cx p s m args c cX10_doFit 6 wsX10_doFit RX10 D cA A := C
  have hin : ∀ w ∈ u_ws RX10 TX10 33, w ∈ wsX10_doFit := fun w h => List.mem_cons_of_mem _ (List.mem_append_right _ h)
  have f13 : Cond.fieldLink RX10 13 "CreepBoardModel" "marks" "I" ∈ wsX10_doFit := by decide +kernel
  have f66 : Cond.fieldLink RX10 66 "CreepBoardModel" "green" "[I" ∈ wsX10_doFit := by decide +kernel
  have f48 : Cond.fieldLink RX10 48 "CreepBoardModel" "east" "[I" ∈ wsX10_doFit := by decide +kernel
  have f63 : Cond.fieldLink RX10 63 "CreepBoardModel" "tolerance" "I" ∈ wsX10_doFit := by decide +kernel
  change KK p l e (mkR 1 23) s m args below meth c 6 D cA ad A Q 0 [(0, .ref (ad 40 0)), (1, .int a1), (2, .int a2), (3, .int a3)] [] S
  refine k_iconst (v := 1) (pc := 0) C dX10_doFit_0 (by decide) ?_
  refine k_istore (pc := 1) C dX10_doFit_1 (by decide) [(4, .int 1), (0, .ref (ad 40 0)), (1, .int a1), (2, .int a2), (3, .int a3)] rfl ?_
  refine k_iconst (v := 0) (pc := 3) C dX10_doFit_3 (by decide) ?_
  refine k_istore (pc := 4) C dX10_doFit_4 (by decide) [(5, .int 0), (4, .int 1), (0, .ref (ad 40 0)), (1, .int a1), (2, .int a2), (3, .int a3)] rfl ?_
  refine k_sub [2, 3, 4, 5, 1, 0] [(0, .ref (ad 40 0)), (1, .int a1), (2, .int a2), (3, .int a3), (4, .int 1), (5, .int 0)] rfl ?_
  obtain ⟨I_1, μ_1, hi_1, hw⟩ := hw
  have L_1 : ∀ (n : Nat) (v4_1 : Int32) (v5_1 : Int32) (S_1 : Sg), μ_1 v4_1 v5_1 S_1 < n → I_1 v4_1 v5_1 S_1 → KK p l e (mkR 1 23) s m args below meth c 6 D cA ad A Q 6 [(0, .ref (ad 40 0)), (1, .int a1), (2, .int a2), (3, .int a3), (4, .int v4_1), (5, .int v5_1)] [] S_1 := by
    intro n
    induction n with
    | zero => intro v4_1 v5_1 S_1 h; exact absurd h (Nat.not_lt_zero _)
    | succ n ih_1 =>
      intro v4_1 v5_1 S_1 hn_1 hi_1
      have hw := hw v4_1 v5_1 S_1 hi_1
      refine k_iload (pc := 6) C dX10_doFit_6 5 rfl ?_
      refine k_aload_n (pc := 8) C dX10_doFit_8 0 rfl rfl ?_
      refine k_get (j := 1) (pc := 9) C hin hm_40 (cel_40 cA ad S_1 0) rfl (by decide) f13 (fun _ h => h) rfl dX10_doFit_9 ?_
      refine k_icmp_ge (pc := 12) C 96 dX10_doFit_12 (by decide) (fun q_2 => ?_) (fun q_2 => ?_)
      · have hw := hw.1 q_2
        refine k_iload (pc := 96) C dX10_doFit_96 4 rfl ?_
        exact hret _ _ _ _ dX10_doFit_98 hw.1 hw.2
      · have hw := hw.2 q_2
        refine k_iload (pc := 15) C dX10_doFit_15 4 rfl ?_
        refine k_if_eq (pc := 17) C 87 dX10_doFit_17 (by decide) (fun q_3 => ?_) (fun q_3 => ?_)
        · have hw := hw.1 q_3
          refine k_iconst (v := 0) (pc := 87) C dX10_doFit_87 (by decide) ?_
          refine k_istore (pc := 88) C dX10_doFit_88 (by decide) [(4, .int 0), (0, .ref (ad 40 0)), (1, .int a1), (2, .int a2), (3, .int a3), (5, .int v5_1)] rfl ?_
          obtain ⟨x5_4, ex5_4⟩ : ∃ y : Int32, y = v5_1 + 1 := ⟨_, rfl⟩
          have hw := hw x5_4 ex5_4
          refine k_iinc (v := x5_4) (j := 5) (pc := 90) C dX10_doFit_90 rfl (by rw [ex5_4]; rfl) (by decide) [(5, .int x5_4), (4, .int 0), (0, .ref (ad 40 0)), (1, .int a1), (2, .int a2), (3, .int a3)] rfl ?_
          refine k_goto (pc := 93) C 6 dX10_doFit_93 (by decide) ?_
          refine k_sub [2, 3, 4, 5, 1, 0] [(0, .ref (ad 40 0)), (1, .int a1), (2, .int a2), (3, .int a3), (4, .int 0), (5, .int x5_4)] rfl ?_
          exact ih_1 0 x5_4 S_1 (Nat.lt_of_lt_of_le hw.2 (Nat.le_of_lt_succ hn_1)) hw.1
        · have hw := hw.2 q_3
          refine k_aload_n (pc := 20) C dX10_doFit_20 0 rfl rfl ?_
          refine k_aload_n (pc := 21) C dX10_doFit_21 0 rfl rfl ?_
          refine k_get (j := 18) (pc := 22) C hin hm_40 (cel_40 cA ad S_1 0) rfl (by decide) f66 (fun _ h => h) rfl dX10_doFit_22 ?_
          refine k_iconst (v := 3) (pc := 25) C dX10_doFit_25 (by decide) ?_
          refine k_iload (pc := 26) C dX10_doFit_26 5 rfl ?_
          refine k_imul (pc := 28) C dX10_doFit_28 ?_
          obtain ⟨h_5, hw⟩ := hw
          refine k_iald (pc := 29) C hm_56 (cel_56 cA ad S_1 0) h_5 dX10_doFit_29 ?_
          refine k_iload_n (pc := 30) C dX10_doFit_30 1 rfl rfl ?_
          refine k_imul (pc := 31) C dX10_doFit_31 ?_
          refine k_aload_n (pc := 32) C dX10_doFit_32 0 rfl rfl ?_
          refine k_get (j := 18) (pc := 33) C hin hm_40 (cel_40 cA ad S_1 0) rfl (by decide) f66 (fun _ h => h) rfl dX10_doFit_33 ?_
          refine k_iconst (v := 3) (pc := 36) C dX10_doFit_36 (by decide) ?_
          refine k_iload (pc := 37) C dX10_doFit_37 5 rfl ?_
          refine k_imul (pc := 39) C dX10_doFit_39 ?_
          refine k_iconst (v := 1) (pc := 40) C dX10_doFit_40 (by decide) ?_
          refine k_iadd (pc := 41) C dX10_doFit_41 ?_
          obtain ⟨h_6, hw⟩ := hw
          refine k_iald (pc := 42) C hm_56 (cel_56 cA ad S_1 0) h_6 dX10_doFit_42 ?_
          refine k_iload_n (pc := 43) C dX10_doFit_43 2 rfl rfl ?_
          refine k_imul (pc := 44) C dX10_doFit_44 ?_
          refine k_iadd (pc := 45) C dX10_doFit_45 ?_
          refine k_aload_n (pc := 46) C dX10_doFit_46 0 rfl rfl ?_
          refine k_get (j := 18) (pc := 47) C hin hm_40 (cel_40 cA ad S_1 0) rfl (by decide) f66 (fun _ h => h) rfl dX10_doFit_47 ?_
          refine k_iconst (v := 3) (pc := 50) C dX10_doFit_50 (by decide) ?_
          refine k_iload (pc := 51) C dX10_doFit_51 5 rfl ?_
          refine k_imul (pc := 53) C dX10_doFit_53 ?_
          refine k_iconst (v := 2) (pc := 54) C dX10_doFit_54 (by decide) ?_
          refine k_iadd (pc := 55) C dX10_doFit_55 ?_
          obtain ⟨h_7, hw⟩ := hw
          refine k_iald (pc := 56) C hm_56 (cel_56 cA ad S_1 0) h_7 dX10_doFit_56 ?_
          refine k_iload_n (pc := 57) C dX10_doFit_57 3 rfl rfl ?_
          refine k_imul (pc := 58) C dX10_doFit_58 ?_
          refine k_iadd (pc := 59) C dX10_doFit_59 ?_
          refine k_aload_n (pc := 60) C dX10_doFit_60 0 rfl rfl ?_
          refine k_get (j := 12) (pc := 61) C hin hm_40 (cel_40 cA ad S_1 0) rfl (by decide) f48 (fun _ h => h) rfl dX10_doFit_61 ?_
          refine k_iload (pc := 64) C dX10_doFit_64 5 rfl ?_
          obtain ⟨h_8, hw⟩ := hw
          refine k_iald (pc := 66) C hm_51 (cel_51 cA ad S_1 0) h_8 dX10_doFit_66 ?_
          refine k_isub (pc := 67) C dX10_doFit_67 ?_
          refine k_aload_n (pc := 68) C dX10_doFit_68 0 rfl rfl ?_
          refine k_get (j := 17) (pc := 69) C hin hm_40 (cel_40 cA ad S_1 0) rfl (by decide) f63 (fun _ h => h) rfl dX10_doFit_69 ?_
          refine k_ineg (pc := 72) C dX10_doFit_72 ?_
          refine k_aload_n (pc := 73) C dX10_doFit_73 0 rfl rfl ?_
          refine k_get (j := 17) (pc := 74) C hin hm_40 (cel_40 cA ad S_1 0) rfl (by decide) f63 (fun _ h => h) rfl dX10_doFit_74 ?_
          refine k_callVi (pc := 77) C (ct_X10_in l D cA ad (((((gA S_1 56 0 (Int32.toNatClampNeg (3 * v5_1))) * a1) + ((gA S_1 56 0 (Int32.toNatClampNeg ((3 * v5_1) + 1))) * a2)) + ((gA S_1 56 0 (Int32.toNatClampNeg ((3 * v5_1) + 2))) * a3)) - (gA S_1 51 0 (Int32.toNatClampNeg v5_1))) (-(gI S_1 40 0 17)) (gI S_1 40 0 17) S_1 _ hw) (cwV 3 C.2.2.2.2.1 gX10_doFit_X10_in rfl rfl rfl (by decide +kernel) ⟨Nat.le_of_ble_eq_true rfl, Nat.le_of_ble_eq_true rfl⟩) hm_40 (cel_40 cA ad S_1 0) rfl rfl rfl rfl (Nat.le_of_ble_eq_true rfl) dX10_doFit_77 (fun r_9 S_9 hw => ?_)
          refine k_if_eq (pc := 80) C 87 dX10_doFit_80 (by decide) (fun q_10 => ?_) (fun q_10 => ?_)
          · have hw := hw.1 q_10
            refine k_iconst (v := 0) (pc := 87) C dX10_doFit_87 (by decide) ?_
            refine k_istore (pc := 88) C dX10_doFit_88 (by decide) [(4, .int 0), (0, .ref (ad 40 0)), (1, .int a1), (2, .int a2), (3, .int a3), (5, .int v5_1)] rfl ?_
            obtain ⟨x5_11, ex5_11⟩ : ∃ y : Int32, y = v5_1 + 1 := ⟨_, rfl⟩
            have hw := hw x5_11 ex5_11
            refine k_iinc (v := x5_11) (j := 5) (pc := 90) C dX10_doFit_90 rfl (by rw [ex5_11]; rfl) (by decide) [(5, .int x5_11), (4, .int 0), (0, .ref (ad 40 0)), (1, .int a1), (2, .int a2), (3, .int a3)] rfl ?_
            refine k_goto (pc := 93) C 6 dX10_doFit_93 (by decide) ?_
            refine k_sub [2, 3, 4, 5, 1, 0] [(0, .ref (ad 40 0)), (1, .int a1), (2, .int a2), (3, .int a3), (4, .int 0), (5, .int x5_11)] rfl ?_
            exact ih_1 0 x5_11 S_9 (Nat.lt_of_lt_of_le hw.2 (Nat.le_of_lt_succ hn_1)) hw.1
          · have hw := hw.2 q_10
            refine k_iconst (v := 1) (pc := 83) C dX10_doFit_83 (by decide) ?_
            refine k_goto (pc := 84) C 88 dX10_doFit_84 (by decide) ?_
            refine k_istore (pc := 88) C dX10_doFit_88 (by decide) [(4, .int 1), (0, .ref (ad 40 0)), (1, .int a1), (2, .int a2), (3, .int a3), (5, .int v5_1)] rfl ?_
            obtain ⟨x5_12, ex5_12⟩ : ∃ y : Int32, y = v5_1 + 1 := ⟨_, rfl⟩
            have hw := hw x5_12 ex5_12
            refine k_iinc (v := x5_12) (j := 5) (pc := 90) C dX10_doFit_90 rfl (by rw [ex5_12]; rfl) (by decide) [(5, .int x5_12), (4, .int 1), (0, .ref (ad 40 0)), (1, .int a1), (2, .int a2), (3, .int a3)] rfl ?_
            refine k_goto (pc := 93) C 6 dX10_doFit_93 (by decide) ?_
            refine k_sub [2, 3, 4, 5, 1, 0] [(0, .ref (ad 40 0)), (1, .int a1), (2, .int a2), (3, .int a3), (4, .int 1), (5, .int x5_12)] rfl ?_
            exact ih_1 1 x5_12 S_9 (Nat.lt_of_lt_of_le hw.2 (Nat.le_of_lt_succ hn_1)) hw.1
  exact L_1 (μ_1 1 0 S + 1) 1 0 S (Nat.lt_succ_self _) hi_1
def wp_X10_findSlips (S : Sg) (Q : Sg → Prop) : Prop :=
  (∀ S_1 : Sg, S_1 = uI S 40 0 19 0 → (∃ (I_2 : Int32 → Sg → Prop) (μ_2 : Int32 → Sg → Nat), I_2 0 S_1 ∧ ∀ (v1_2 : Int32) (S_2 : Sg), I_2 v1_2 S_2 → ((3 ≤ v1_2 → (∃ (I_4 : Int32 → Sg → Prop) (μ_4 : Int32 → Sg → Nat), I_4 0 S_2 ∧ ∀ (v1_4 : Int32) (S_4 : Sg), I_4 v1_4 S_4 → ((4096 ≤ v1_4 → Q S_4) ∧ (¬ 4096 ≤ v1_4 → wp_X10_doFit (v1_4 >>> ((8 : Int32) &&& 31)) ((v1_4 >>> ((4 : Int32) &&& 31)) &&& 15) (v1_4 &&& 15) S_4 (fun r_6 S_6 => ((¬ r_6 = 0 → (∀ S_8 : Sg, S_8 = uI S_6 40 0 19 ((gI S_6 40 0 19) + 1) → (∃ (I_9 : Int32 → Sg → Prop) (μ_9 : Int32 → Sg → Nat), I_9 0 S_8 ∧ ∀ (v2_9 : Int32) (S_9 : Sg), I_9 v2_9 S_9 → ((3 ≤ v2_9 → (∀ x1_11 : Int32, x1_11 = v1_4 + 1 → (I_4 x1_11 S_9 ∧ μ_4 x1_11 S_9 < μ_4 v1_4 S_4))) ∧ (¬ 3 ≤ v2_9 → (∀ x3_12 : Int32, x3_12 = ((v1_4 >>> ((8 - (4 * v2_9)) &&& 31)) &&& 15) → (vp_in v2_9 3 ∧ (∃ J_14 : Int32 → Sg → Prop, (∀ (t0_14 : Int32) (S_14 : Sg), J_14 t0_14 S_14 → (vp_in v2_9 3 ∧ ∀ S_16 : Sg, S_16 = uA S_14 57 0 (Int32.toNatClampNeg v2_9) t0_14 → (vp_in v2_9 3 ∧ ((x3_12 ≤ (gA S_16 58 0 (Int32.toNatClampNeg v2_9)) → (vp_in v2_9 3 ∧ (vp_in v2_9 3 ∧ ∀ S_21 : Sg, S_21 = uA S_16 58 0 (Int32.toNatClampNeg v2_9) (gA S_16 58 0 (Int32.toNatClampNeg v2_9)) → (∀ x2_22 : Int32, x2_22 = v2_9 + 1 → (I_9 x2_22 S_21 ∧ μ_9 x2_22 S_21 < μ_9 v2_9 S_9))))) ∧ (¬ x3_12 ≤ (gA S_16 58 0 (Int32.toNatClampNeg v2_9)) → (vp_in v2_9 3 ∧ ∀ S_24 : Sg, S_24 = uA S_16 58 0 (Int32.toNatClampNeg v2_9) x3_12 → (∀ x2_25 : Int32, x2_25 = v2_9 + 1 → (I_9 x2_25 S_24 ∧ μ_9 x2_25 S_24 < μ_9 v2_9 S_9)))))))) ∧ (((gA S_9 57 0 (Int32.toNatClampNeg v2_9)) ≤ x3_12 → (vp_in v2_9 3 ∧ J_14 (gA S_9 57 0 (Int32.toNatClampNeg v2_9)) S_9)) ∧ (¬ (gA S_9 57 0 (Int32.toNatClampNeg v2_9)) ≤ x3_12 → J_14 x3_12 S_9)))))))))) ∧ (r_6 = 0 → (∀ x1_28 : Int32, x1_28 = v1_4 + 1 → (I_4 x1_28 S_6 ∧ μ_4 x1_28 S_6 < μ_4 v1_4 S_4))))))))) ∧ (¬ 3 ≤ v1_2 → (vp_in v1_2 3 ∧ ∀ S_30 : Sg, S_30 = uA S_2 57 0 (Int32.toNatClampNeg v1_2) 16 → (vp_in v1_2 3 ∧ ∀ S_32 : Sg, S_32 = uA S_30 58 0 (Int32.toNatClampNeg v1_2) (-1) → (∀ x1_33 : Int32, x1_33 = v1_2 + 1 → (I_2 x1_33 S_32 ∧ μ_2 x1_33 S_32 < μ_2 v1_2 S_2))))))))
set_option maxHeartbeats 4000000 in
set_option maxRecDepth 100000 in
theorem ct_X10_findSlips (l : Launch) (D : va_G) (cA : Nat → ClassId) (ad : Nat → Nat → Nat) (S : Sg) (Q : Sg → Prop) (hw : wp_X10_findSlips  S Q) : CtV l yX10_findSlips wsX10_findSlips (mkR 2 48) D cA ad [.ref (ad 40 0)] S Q := by
  refine ct_ofV (cc := cX10_findSlips) (nL := 4) (by decide) rfl (Nat.le_of_ble_eq_true rfl) ?_
  intro p e s m args below meth c A Q C hret
  unfold wp_X10_findSlips at hw
  have C : Cx p s m args c cX10_findSlips 4 wsX10_findSlips RX10 D cA A := C
  have hin : ∀ w ∈ u_ws RX10 TX10 33, w ∈ wsX10_findSlips := fun w h => List.mem_cons_of_mem _ (List.mem_append_right _ h)
  have f69 : Cond.fieldLink RX10 69 "CreepBoardModel" "fitting" "I" ∈ wsX10_findSlips := by decide +kernel
  have f72 : Cond.fieldLink RX10 72 "CreepBoardModel" "leastSlip" "[I" ∈ wsX10_findSlips := by decide +kernel
  have f75 : Cond.fieldLink RX10 75 "CreepBoardModel" "mostSlip" "[I" ∈ wsX10_findSlips := by decide +kernel
  change KK p l e (mkR 2 48) s m args below meth c 4 D cA ad A Q 0 [(0, .ref (ad 40 0))] [] S
  refine k_aload_n (pc := 0) C dX10_findSlips_0 0 rfl rfl ?_
  refine k_iconst (v := 0) (pc := 1) C dX10_findSlips_1 (by decide) ?_
  refine k_put (S' := uI S 40 0 19 0) (j := 19) (ty := .int) (pc := 2) C hin tyX10 tyX10_ok nmX10 hm_40 (cel_40 cA ad S 0) rfl (by decide) f69 (fun _ h => h) rfl (by decide +kernel) rfl rfl (Nat.le_of_ble_eq_true rfl) rfl rfl (fun a b h => cel_uI h) dX10_findSlips_2 ?_
  refine k_nameS (fun S_1 eS_1 => ?_)
  have hw := hw S_1 eS_1
  refine k_iconst (v := 0) (pc := 5) C dX10_findSlips_5 (by decide) ?_
  refine k_istore_n (pc := 6) C dX10_findSlips_6 rfl (by decide) [(1, .int 0), (0, .ref (ad 40 0))] rfl ?_
  refine k_sub [1, 0] [(0, .ref (ad 40 0)), (1, .int 0)] rfl ?_
  obtain ⟨I_2, μ_2, hi_2, hw⟩ := hw
  have L_2 : ∀ (n : Nat) (v1_2 : Int32) (S_2 : Sg), μ_2 v1_2 S_2 < n → I_2 v1_2 S_2 → KK p l e (mkR 2 48) s m args below meth c 4 D cA ad A Q 7 [(0, .ref (ad 40 0)), (1, .int v1_2)] [] S_2 := by
    intro n
    induction n with
    | zero => intro v1_2 S_2 h; exact absurd h (Nat.not_lt_zero _)
    | succ n ih_2 =>
      intro v1_2 S_2 hn_2 hi_2
      have hw := hw v1_2 S_2 hi_2
      refine k_iload_n (pc := 7) C dX10_findSlips_7 1 rfl rfl ?_
      refine k_iconst (v := 3) (pc := 8) C dX10_findSlips_8 (by decide) ?_
      refine k_icmp_ge (pc := 9) C 33 dX10_findSlips_9 (by decide) (fun q_3 => ?_) (fun q_3 => ?_)
      · have hw := hw.1 q_3
        refine k_iconst (v := 0) (pc := 33) C dX10_findSlips_33 (by decide) ?_
        refine k_istore_n (pc := 34) C dX10_findSlips_34 rfl (by decide) [(1, .int 0), (0, .ref (ad 40 0))] rfl ?_
        refine k_sub [1, 0] [(0, .ref (ad 40 0)), (1, .int 0)] rfl ?_
        obtain ⟨I_4, μ_4, hi_4, hw⟩ := hw
        have L_4 : ∀ (n : Nat) (v1_4 : Int32) (S_4 : Sg), μ_4 v1_4 S_4 < n → I_4 v1_4 S_4 → KK p l e (mkR 2 48) s m args below meth c 4 D cA ad A Q 35 [(0, .ref (ad 40 0)), (1, .int v1_4)] [] S_4 := by
          intro n
          induction n with
          | zero => intro v1_4 S_4 h; exact absurd h (Nat.not_lt_zero _)
          | succ n ih_4 =>
            intro v1_4 S_4 hn_4 hi_4
            have hw := hw v1_4 S_4 hi_4
            refine k_iload_n (pc := 35) C dX10_findSlips_35 1 rfl rfl ?_
            refine k_sipush (v := 4096) (pc := 36) C dX10_findSlips_36 (by decide) ?_
            refine k_icmp_ge (pc := 39) C 159 dX10_findSlips_39 (by decide) (fun q_5 => ?_) (fun q_5 => ?_)
            · have hw := hw.1 q_5
              exact hret _ _ _ dX10_findSlips_159 hw
            · have hw := hw.2 q_5
              refine k_aload_n (pc := 42) C dX10_findSlips_42 0 rfl rfl ?_
              refine k_iload_n (pc := 43) C dX10_findSlips_43 1 rfl rfl ?_
              refine k_bipush (v := 8) (pc := 44) C dX10_findSlips_44 (by decide) ?_
              refine k_ishr (pc := 46) C dX10_findSlips_46 ?_
              refine k_iload_n (pc := 47) C dX10_findSlips_47 1 rfl rfl ?_
              refine k_iconst (v := 4) (pc := 48) C dX10_findSlips_48 (by decide) ?_
              refine k_ishr (pc := 49) C dX10_findSlips_49 ?_
              refine k_bipush (v := 15) (pc := 50) C dX10_findSlips_50 (by decide) ?_
              refine k_iand (pc := 52) C dX10_findSlips_52 ?_
              refine k_iload_n (pc := 53) C dX10_findSlips_53 1 rfl rfl ?_
              refine k_bipush (v := 15) (pc := 54) C dX10_findSlips_54 (by decide) ?_
              refine k_iand (pc := 56) C dX10_findSlips_56 ?_
              refine k_callVi (pc := 57) C (ct_X10_doFit l D cA ad (v1_4 >>> ((8 : Int32) &&& 31)) ((v1_4 >>> ((4 : Int32) &&& 31)) &&& 15) (v1_4 &&& 15) S_4 _ hw) (cwV 3 C.2.2.2.2.1 gX10_findSlips_X10_doFit rfl rfl rfl (by decide +kernel) ⟨Nat.le_of_ble_eq_true rfl, Nat.le_of_ble_eq_true rfl⟩) hm_40 (cel_40 cA ad S_4 0) rfl rfl rfl rfl (Nat.le_of_ble_eq_true rfl) dX10_findSlips_57 (fun r_6 S_6 hw => ?_)
              refine k_if_ne (pc := 60) C 66 dX10_findSlips_60 (by decide) (fun q_7 => ?_) (fun q_7 => ?_)
              · have hw := hw.1 q_7
                refine k_aload_n (pc := 66) C dX10_findSlips_66 0 rfl rfl ?_
                refine k_dup (pc := 67) C dX10_findSlips_67 rfl ?_
                refine k_get (j := 19) (pc := 68) C hin hm_40 (cel_40 cA ad S_6 0) rfl (by decide) f69 (fun _ h => h) rfl dX10_findSlips_68 ?_
                refine k_iconst (v := 1) (pc := 71) C dX10_findSlips_71 (by decide) ?_
                refine k_iadd (pc := 72) C dX10_findSlips_72 ?_
                refine k_put (S' := uI S_6 40 0 19 ((gI S_6 40 0 19) + 1)) (j := 19) (ty := .int) (pc := 73) C hin tyX10 tyX10_ok nmX10 hm_40 (cel_40 cA ad S_6 0) rfl (by decide) f69 (fun _ h => h) rfl (by decide +kernel) rfl rfl (Nat.le_of_ble_eq_true rfl) rfl rfl (fun a b h => cel_uI h) dX10_findSlips_73 ?_
                refine k_nameS (fun S_8 eS_8 => ?_)
                have hw := hw S_8 eS_8
                refine k_iconst (v := 0) (pc := 76) C dX10_findSlips_76 (by decide) ?_
                refine k_istore_n (pc := 77) C dX10_findSlips_77 rfl (by decide) [(2, .int 0), (0, .ref (ad 40 0)), (1, .int v1_4)] rfl ?_
                refine k_sub [1, 2, 0] [(0, .ref (ad 40 0)), (1, .int v1_4), (2, .int 0)] rfl ?_
                obtain ⟨I_9, μ_9, hi_9, hw⟩ := hw
                have L_9 : ∀ (n : Nat) (v2_9 : Int32) (S_9 : Sg), μ_9 v2_9 S_9 < n → I_9 v2_9 S_9 → KK p l e (mkR 2 48) s m args below meth c 4 D cA ad A Q 78 [(0, .ref (ad 40 0)), (1, .int v1_4), (2, .int v2_9)] [] S_9 := by
                  intro n
                  induction n with
                  | zero => intro v2_9 S_9 h; exact absurd h (Nat.not_lt_zero _)
                  | succ n ih_9 =>
                    intro v2_9 S_9 hn_9 hi_9
                    have hw := hw v2_9 S_9 hi_9
                    refine k_iload_n (pc := 78) C dX10_findSlips_78 2 rfl rfl ?_
                    refine k_iconst (v := 3) (pc := 79) C dX10_findSlips_79 (by decide) ?_
                    refine k_icmp_ge (pc := 80) C 153 dX10_findSlips_80 (by decide) (fun q_10 => ?_) (fun q_10 => ?_)
                    · have hw := hw.1 q_10
                      obtain ⟨x1_11, ex1_11⟩ : ∃ y : Int32, y = v1_4 + 1 := ⟨_, rfl⟩
                      have hw := hw x1_11 ex1_11
                      refine k_iinc (v := x1_11) (j := 1) (pc := 153) C dX10_findSlips_153 rfl (by rw [ex1_11]; rfl) (by decide) [(1, .int x1_11), (0, .ref (ad 40 0)), (2, .int v2_9)] rfl ?_
                      refine k_goto (pc := 156) C 35 dX10_findSlips_156 (by decide) ?_
                      refine k_sub [1, 0] [(0, .ref (ad 40 0)), (1, .int x1_11)] rfl ?_
                      exact ih_4 x1_11 S_9 (Nat.lt_of_lt_of_le hw.2 (Nat.le_of_lt_succ hn_4)) hw.1
                    · have hw := hw.2 q_10
                      refine k_iload_n (pc := 83) C dX10_findSlips_83 1 rfl rfl ?_
                      refine k_bipush (v := 8) (pc := 84) C dX10_findSlips_84 (by decide) ?_
                      refine k_iconst (v := 4) (pc := 86) C dX10_findSlips_86 (by decide) ?_
                      refine k_iload_n (pc := 87) C dX10_findSlips_87 2 rfl rfl ?_
                      refine k_imul (pc := 88) C dX10_findSlips_88 ?_
                      refine k_isub (pc := 89) C dX10_findSlips_89 ?_
                      refine k_ishr (pc := 90) C dX10_findSlips_90 ?_
                      refine k_bipush (v := 15) (pc := 91) C dX10_findSlips_91 (by decide) ?_
                      refine k_iand (pc := 93) C dX10_findSlips_93 ?_
                      refine k_topi (fun x3_12 ex3_12 => ?_)
                      have hw := hw x3_12 ex3_12
                      refine k_istore_n (pc := 94) C dX10_findSlips_94 rfl (by decide) [(3, .int x3_12), (0, .ref (ad 40 0)), (1, .int v1_4), (2, .int v2_9)] rfl ?_
                      refine k_aload_n (pc := 95) C dX10_findSlips_95 1 rfl rfl ?_
                      refine k_get (j := 20) (pc := 96) C hin hm_40 (cel_40 cA ad S_9 0) rfl (by decide) f72 (fun _ h => h) rfl dX10_findSlips_96 ?_
                      refine k_iload_n (pc := 99) C dX10_findSlips_99 3 rfl rfl ?_
                      refine k_iload_n (pc := 100) C dX10_findSlips_100 0 rfl rfl ?_
                      refine k_aload_n (pc := 101) C dX10_findSlips_101 1 rfl rfl ?_
                      refine k_get (j := 20) (pc := 102) C hin hm_40 (cel_40 cA ad S_9 0) rfl (by decide) f72 (fun _ h => h) rfl dX10_findSlips_102 ?_
                      refine k_iload_n (pc := 105) C dX10_findSlips_105 3 rfl rfl ?_
                      obtain ⟨h_13, hw⟩ := hw
                      refine k_iald (pc := 106) C hm_57 (cel_57 cA ad S_9 0) h_13 dX10_findSlips_106 ?_
                      obtain ⟨J_14, hj_14, hw⟩ := hw
                      have j_14 : ∀ (t0_14 : Int32) (S_14 : Sg), J_14 t0_14 S_14 → KK p l e (mkR 2 48) s m args below meth c 4 D cA ad A Q 120 [(0, .ref (ad 40 0)), (1, .int v1_4), (2, .int v2_9), (3, .int x3_12)] [.int t0_14, .int v2_9, .ref (ad 57 0)] S_14 := by
                        intro t0_14 S_14 hw
                        have hw := hj_14 t0_14 S_14 hw
                        obtain ⟨h_15, hw⟩ := hw
                        refine k_iast (pc := 120) C hm_57 (fun S => cel_57 cA ad S 0) h_15 dX10_findSlips_120 ?_
                        refine k_nameS (fun S_16 eS_16 => ?_)
                        have hw := hw S_16 eS_16
                        refine k_aload_n (pc := 121) C dX10_findSlips_121 0 rfl rfl ?_
                        refine k_get (j := 21) (pc := 122) C hin hm_40 (cel_40 cA ad S_16 0) rfl (by decide) f75 (fun _ h => h) rfl dX10_findSlips_122 ?_
                        refine k_iload_n (pc := 125) C dX10_findSlips_125 2 rfl rfl ?_
                        refine k_iload_n (pc := 126) C dX10_findSlips_126 3 rfl rfl ?_
                        refine k_aload_n (pc := 127) C dX10_findSlips_127 0 rfl rfl ?_
                        refine k_get (j := 21) (pc := 128) C hin hm_40 (cel_40 cA ad S_16 0) rfl (by decide) f75 (fun _ h => h) rfl dX10_findSlips_128 ?_
                        refine k_iload_n (pc := 131) C dX10_findSlips_131 2 rfl rfl ?_
                        obtain ⟨h_17, hw⟩ := hw
                        refine k_iald (pc := 132) C hm_58 (cel_58 cA ad S_16 0) h_17 dX10_findSlips_132 ?_
                        refine k_icmp_le (pc := 133) C 140 dX10_findSlips_133 (by decide) (fun q_18 => ?_) (fun q_18 => ?_)
                        · have hw := hw.1 q_18
                          refine k_aload_n (pc := 140) C dX10_findSlips_140 0 rfl rfl ?_
                          refine k_get (j := 21) (pc := 141) C hin hm_40 (cel_40 cA ad S_16 0) rfl (by decide) f75 (fun _ h => h) rfl dX10_findSlips_141 ?_
                          refine k_iload_n (pc := 144) C dX10_findSlips_144 2 rfl rfl ?_
                          obtain ⟨h_19, hw⟩ := hw
                          refine k_iald (pc := 145) C hm_58 (cel_58 cA ad S_16 0) h_19 dX10_findSlips_145 ?_
                          obtain ⟨h_20, hw⟩ := hw
                          refine k_iast (pc := 146) C hm_58 (fun S => cel_58 cA ad S 0) h_20 dX10_findSlips_146 ?_
                          refine k_nameS (fun S_21 eS_21 => ?_)
                          have hw := hw S_21 eS_21
                          obtain ⟨x2_22, ex2_22⟩ : ∃ y : Int32, y = v2_9 + 1 := ⟨_, rfl⟩
                          have hw := hw x2_22 ex2_22
                          refine k_iinc (v := x2_22) (j := 2) (pc := 147) C dX10_findSlips_147 rfl (by rw [ex2_22]; rfl) (by decide) [(2, .int x2_22), (0, .ref (ad 40 0)), (1, .int v1_4), (3, .int x3_12)] rfl ?_
                          refine k_goto (pc := 150) C 78 dX10_findSlips_150 (by decide) ?_
                          refine k_sub [1, 2, 0] [(0, .ref (ad 40 0)), (1, .int v1_4), (2, .int x2_22)] rfl ?_
                          exact ih_9 x2_22 S_21 (Nat.lt_of_lt_of_le hw.2 (Nat.le_of_lt_succ hn_9)) hw.1
                        · have hw := hw.2 q_18
                          refine k_iload_n (pc := 136) C dX10_findSlips_136 3 rfl rfl ?_
                          refine k_goto (pc := 137) C 146 dX10_findSlips_137 (by decide) ?_
                          obtain ⟨h_23, hw⟩ := hw
                          refine k_iast (pc := 146) C hm_58 (fun S => cel_58 cA ad S 0) h_23 dX10_findSlips_146 ?_
                          refine k_nameS (fun S_24 eS_24 => ?_)
                          have hw := hw S_24 eS_24
                          obtain ⟨x2_25, ex2_25⟩ : ∃ y : Int32, y = v2_9 + 1 := ⟨_, rfl⟩
                          have hw := hw x2_25 ex2_25
                          refine k_iinc (v := x2_25) (j := 2) (pc := 147) C dX10_findSlips_147 rfl (by rw [ex2_25]; rfl) (by decide) [(2, .int x2_25), (0, .ref (ad 40 0)), (1, .int v1_4), (3, .int x3_12)] rfl ?_
                          refine k_goto (pc := 150) C 78 dX10_findSlips_150 (by decide) ?_
                          refine k_sub [1, 2, 0] [(0, .ref (ad 40 0)), (1, .int v1_4), (2, .int x2_25)] rfl ?_
                          exact ih_9 x2_25 S_24 (Nat.lt_of_lt_of_le hw.2 (Nat.le_of_lt_succ hn_9)) hw.1
                      refine k_icmp_ge (pc := 107) C 114 dX10_findSlips_107 (by decide) (fun q_26 => ?_) (fun q_26 => ?_)
                      · have hw := hw.1 q_26
                        refine k_aload_n (pc := 114) C dX10_findSlips_114 1 rfl rfl ?_
                        refine k_get (j := 20) (pc := 115) C hin hm_40 (cel_40 cA ad S_9 0) rfl (by decide) f72 (fun _ h => h) rfl dX10_findSlips_115 ?_
                        refine k_iload_n (pc := 118) C dX10_findSlips_118 3 rfl rfl ?_
                        obtain ⟨h_27, hw⟩ := hw
                        refine k_iald (pc := 119) C hm_57 (cel_57 cA ad S_9 0) h_27 dX10_findSlips_119 ?_
                        refine k_sub [1, 2, 3, 0] [(0, .ref (ad 40 0)), (1, .int v1_4), (2, .int v2_9), (3, .int x3_12)] rfl ?_
                        exact j_14 (gA S_9 57 0 (Int32.toNatClampNeg v2_9)) S_9 hw
                      · have hw := hw.2 q_26
                        refine k_iload_n (pc := 110) C dX10_findSlips_110 0 rfl rfl ?_
                        refine k_goto (pc := 111) C 120 dX10_findSlips_111 (by decide) ?_
                        refine k_sub [1, 2, 3, 0] [(0, .ref (ad 40 0)), (1, .int v1_4), (2, .int v2_9), (3, .int x3_12)] rfl ?_
                        exact j_14 x3_12 S_9 hw
                exact L_9 (μ_9 0 S_8 + 1) 0 S_8 (Nat.lt_succ_self _) hi_9
              · have hw := hw.2 q_7
                refine k_goto (pc := 63) C 153 dX10_findSlips_63 (by decide) ?_
                obtain ⟨x1_28, ex1_28⟩ : ∃ y : Int32, y = v1_4 + 1 := ⟨_, rfl⟩
                have hw := hw x1_28 ex1_28
                refine k_iinc (v := x1_28) (j := 1) (pc := 153) C dX10_findSlips_153 rfl (by rw [ex1_28]; rfl) (by decide) [(1, .int x1_28), (0, .ref (ad 40 0))] rfl ?_
                refine k_goto (pc := 156) C 35 dX10_findSlips_156 (by decide) ?_
                refine k_sub [1, 0] [(0, .ref (ad 40 0)), (1, .int x1_28)] rfl ?_
                exact ih_4 x1_28 S_6 (Nat.lt_of_lt_of_le hw.2 (Nat.le_of_lt_succ hn_4)) hw.1
        exact L_4 (μ_4 0 S_2 + 1) 0 S_2 (Nat.lt_succ_self _) hi_4
      · have hw := hw.2 q_3
        refine k_aload_n (pc := 12) C dX10_findSlips_12 0 rfl rfl ?_
        refine k_get (j := 20) (pc := 13) C hin hm_40 (cel_40 cA ad S_2 0) rfl (by decide) f72 (fun _ h => h) rfl dX10_findSlips_13 ?_
        refine k_iload_n (pc := 16) C dX10_findSlips_16 1 rfl rfl ?_
        refine k_bipush (v := 16) (pc := 17) C dX10_findSlips_17 (by decide) ?_
        obtain ⟨h_29, hw⟩ := hw
        refine k_iast (pc := 19) C hm_57 (fun S => cel_57 cA ad S 0) h_29 dX10_findSlips_19 ?_
        refine k_nameS (fun S_30 eS_30 => ?_)
        have hw := hw S_30 eS_30
        refine k_aload_n (pc := 20) C dX10_findSlips_20 0 rfl rfl ?_
        refine k_get (j := 21) (pc := 21) C hin hm_40 (cel_40 cA ad S_30 0) rfl (by decide) f75 (fun _ h => h) rfl dX10_findSlips_21 ?_
        refine k_iload_n (pc := 24) C dX10_findSlips_24 1 rfl rfl ?_
        refine k_iconst (v := (-1)) (pc := 25) C dX10_findSlips_25 (by decide) ?_
        obtain ⟨h_31, hw⟩ := hw
        refine k_iast (pc := 26) C hm_58 (fun S => cel_58 cA ad S 0) h_31 dX10_findSlips_26 ?_
        refine k_nameS (fun S_32 eS_32 => ?_)
        have hw := hw S_32 eS_32
        obtain ⟨x1_33, ex1_33⟩ : ∃ y : Int32, y = v1_2 + 1 := ⟨_, rfl⟩
        have hw := hw x1_33 ex1_33
        refine k_iinc (v := x1_33) (j := 1) (pc := 27) C dX10_findSlips_27 rfl (by rw [ex1_33]; rfl) (by decide) [(1, .int x1_33), (0, .ref (ad 40 0))] rfl ?_
        refine k_goto (pc := 30) C 7 dX10_findSlips_30 (by decide) ?_
        refine k_sub [1, 0] [(0, .ref (ad 40 0)), (1, .int x1_33)] rfl ?_
        exact ih_2 x1_33 S_32 (Nat.lt_of_lt_of_le hw.2 (Nat.le_of_lt_succ hn_2)) hw.1
  exact L_2 (μ_2 0 S_1 + 1) 0 S_1 (Nat.lt_succ_self _) hi_2
