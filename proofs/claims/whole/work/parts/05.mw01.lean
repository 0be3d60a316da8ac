def wp_X10_rate (a1 : Int32) (a2 : Int32) (a3 : Int32) (S : Sg) (Q : Int64 → Sg → Prop) : Prop :=
  wp_X10_isMark a1 S (fun r_1 S_1 => (∃ J_2 : Int32 → Sg → Prop, (∀ (t0_2 : Int32) (S_2 : Sg), J_2 t0_2 S_2 → (∀ S_3 : Sg, S_3 = uI S_2 40 0 0 t0_2 → (((gI S_3 40 0 0) ≤ 0 → (∃ (I_5 : Int64 → Int64 → Int64 → Int64 → Int64 → Int32 → Sg → Prop) (μ_5 : Int64 → Int64 → Int64 → Int64 → Int64 → Int32 → Sg → Nat), I_5 0 0 0 0 0 0 S_3 ∧ ∀ (v4_5 : Int64) (v6_5 : Int64) (v8_5 : Int64) (v10_5 : Int64) (v12_5 : Int64) (v14_5 : Int32) (S_5 : Sg), I_5 v4_5 v6_5 v8_5 v10_5 v12_5 v14_5 S_5 → ((40 ≤ v14_5 → wp_X10_lowest ((v4_5 * v12_5) - (v6_5 * v8_5)) ((v4_5 * v10_5) - (v6_5 * v6_5)) a3 S_5 (fun r_7 S_7 => Q r_7 S_7)) ∧ (¬ 40 ≤ v14_5 → wp_X10_isCleared a1 v14_5 S_5 (fun r_8 S_8 => ((¬ r_8 = 0 → wp_X10_clear a1 v14_5 a2 S_8 (fun r_10 S_10 => (∀ x4_11 : Int64, x4_11 = (v4_5 + 1) → (∀ x6_12 : Int64, x6_12 = (v6_5 + (Int32.toInt64 v14_5)) → (∀ x8_13 : Int64, x8_13 = (v8_5 + r_10) → (∀ x10_14 : Int64, x10_14 = (v10_5 + ((Int32.toInt64 v14_5) * (Int32.toInt64 v14_5))) → (∀ x12_15 : Int64, x12_15 = (v12_5 + ((Int32.toInt64 v14_5) * r_10)) → (∀ x14_16 : Int32, x14_16 = v14_5 + 1 → (I_5 x4_11 x6_12 x8_13 x10_14 x12_15 x14_16 S_10 ∧ μ_5 x4_11 x6_12 x8_13 x10_14 x12_15 x14_16 S_10 < μ_5 v4_5 v6_5 v8_5 v10_5 v12_5 v14_5 S_5))))))))) ∧ (r_8 = 0 → (∀ x14_17 : Int32, x14_17 = v14_5 + 1 → (I_5 v4_5 v6_5 v8_5 v10_5 v12_5 x14_17 S_8 ∧ μ_5 v4_5 v6_5 v8_5 v10_5 v12_5 x14_17 S_8 < μ_5 v4_5 v6_5 v8_5 v10_5 v12_5 v14_5 S_5))))))))) ∧ (¬ (gI S_3 40 0 0) ≤ 0 → Q 0 S_3)))) ∧ (∃ J_18 : Sg → Prop, (∀ (S_18 : Sg), J_18 S_18 → J_2 1 S_18) ∧ ((r_1 = 0 → J_18 S_1) ∧ (¬ r_1 = 0 → wp_X10_isSide a2 S_1 (fun r_20 S_20 => ((¬ r_20 = 0 → wp_X10_manyOf a1 S_20 (fun r_22 S_22 => ((2 ≤ r_22 → J_2 0 S_22) ∧ (¬ 2 ≤ r_22 → J_2 2 S_22)))) ∧ (r_20 = 0 → J_18 S_20))))))))
set_option maxHeartbeats 4000000 in
set_option maxRecDepth 100000 in
theorem ct_X10_rate (l : Launch) (D : va_G) (cA : Nat → ClassId) (ad : Nat → Nat → Nat) (a1 : Int32) (a2 : Int32) (a3 : Int32) (S : Sg) (Q : Int64 → Sg → Prop) (hw : wp_X10_rate a1 a2 a3 S Q) : CtL l yX10_rate wsX10_rate (mkR 4 91) D cA ad [.ref (ad 40 0), .int a1, .int a2, .int a3] S Q := by
  refine ct_ofL (cc := cX10_rate) (nL := 17) (by decide) rfl (Nat.le_of_ble_eq_true rfl) ?_
  intro p e s m args below meth c A Q C hret
  unfold wp_X10_rate at hw
  have C : Cx p s m args c cX10_rate 17 wsX10_rate RX10 D cA A := C
  have hin : ∀ w ∈ u_ws RX10 TX10 33, w ∈ wsX10_rate := fun w h => List.mem_cons_of_mem _ (List.mem_append_right _ h)
  have f7 : Cond.fieldLink RX10 7 "CreepBoardModel" "thrown" "I" ∈ wsX10_rate := by decide +kernel
  change KK p l e (mkR 4 91) s m args below meth c 17 D cA ad A Q 0 [(0, .ref (ad 40 0)), (1, .int a1), (2, .int a2), (3, .int a3)] [] S
  refine k_aload_n (pc := 0) C dX10_rate_0 0 rfl rfl ?_
  refine k_aload_n (pc := 1) C dX10_rate_1 0 rfl rfl ?_
  refine k_iload_n (pc := 2) C dX10_rate_2 1 rfl rfl ?_
  refine k_callVi (pc := 3) C (ct_X10_isMark l D cA ad a1 S _ hw) (cwV 1 C.2.2.2.2.1 gX10_rate_X10_isMark rfl rfl rfl (by decide +kernel) ⟨Nat.le_of_ble_eq_true rfl, Nat.le_of_ble_eq_true rfl⟩) hm_40 (cel_40 cA ad S 0) rfl rfl rfl rfl (Nat.le_of_ble_eq_true rfl) dX10_rate_3 (fun r_1 S_1 hw => ?_)
  obtain ⟨J_2, hj_2, hw⟩ := hw
  have j_2 : ∀ (t0_2 : Int32) (S_2 : Sg), J_2 t0_2 S_2 → KK p l e (mkR 4 91) s m args below meth c 17 D cA ad A Q 35 [(0, .ref (ad 40 0)), (1, .int a1), (2, .int a2), (3, .int a3)] [.int t0_2, .ref (ad 40 0)] S_2 := by
    intro t0_2 S_2 hw
    have hw := hj_2 t0_2 S_2 hw
    refine k_put (S' := uI S_2 40 0 0 t0_2) (j := 0) (ty := .int) (pc := 35) C hin tyX10 tyX10_ok nmX10 hm_40 (cel_40 cA ad S_2 0) rfl (by decide) f7 (fun _ h => h) rfl (by decide +kernel) rfl rfl (Nat.le_of_ble_eq_true rfl) rfl rfl (fun a b h => cel_uI h) dX10_rate_35 ?_
    refine k_nameS (fun S_3 eS_3 => ?_)
    have hw := hw S_3 eS_3
    refine k_aload_n (pc := 38) C dX10_rate_38 0 rfl rfl ?_
    refine k_get (j := 0) (pc := 39) C hin hm_40 (cel_40 cA ad S_3 0) rfl (by decide) f7 (fun _ h => h) rfl dX10_rate_39 ?_
    refine k_if_le (pc := 42) C 47 dX10_rate_42 (by decide) (fun q_4 => ?_) (fun q_4 => ?_)
    · have hw := hw.1 q_4
      refine k_lconst (v := 0) (pc := 47) C dX10_rate_47 (by decide) ?_
      refine k_lstore (pc := 48) C dX10_rate_48 (by decide) [(4, .long 0), (0, .ref (ad 40 0)), (1, .int a1), (2, .int a2), (3, .int a3)] rfl ?_
      refine k_lconst (v := 0) (pc := 50) C dX10_rate_50 (by decide) ?_
      refine k_lstore (pc := 51) C dX10_rate_51 (by decide) [(6, .long 0), (4, .long 0), (0, .ref (ad 40 0)), (1, .int a1), (2, .int a2), (3, .int a3)] rfl ?_
      refine k_lconst (v := 0) (pc := 53) C dX10_rate_53 (by decide) ?_
      refine k_lstore (pc := 54) C dX10_rate_54 (by decide) [(8, .long 0), (6, .long 0), (4, .long 0), (0, .ref (ad 40 0)), (1, .int a1), (2, .int a2), (3, .int a3)] rfl ?_
      refine k_lconst (v := 0) (pc := 56) C dX10_rate_56 (by decide) ?_
      refine k_lstore (pc := 57) C dX10_rate_57 (by decide) [(10, .long 0), (8, .long 0), (6, .long 0), (4, .long 0), (0, .ref (ad 40 0)), (1, .int a1), (2, .int a2), (3, .int a3)] rfl ?_
      refine k_lconst (v := 0) (pc := 59) C dX10_rate_59 (by decide) ?_
      refine k_lstore (pc := 60) C dX10_rate_60 (by decide) [(12, .long 0), (10, .long 0), (8, .long 0), (6, .long 0), (4, .long 0), (0, .ref (ad 40 0)), (1, .int a1), (2, .int a2), (3, .int a3)] rfl ?_
      refine k_iconst (v := 0) (pc := 62) C dX10_rate_62 (by decide) ?_
      refine k_istore (pc := 63) C dX10_rate_63 (by decide) [(14, .int 0), (12, .long 0), (10, .long 0), (8, .long 0), (6, .long 0), (4, .long 0), (0, .ref (ad 40 0)), (1, .int a1), (2, .int a2), (3, .int a3)] rfl ?_
      refine k_sub [6, 7, 8, 9, 5, 4, 3, 2, 1, 0] [(0, .ref (ad 40 0)), (1, .int a1), (2, .int a2), (3, .int a3), (4, .long 0), (6, .long 0), (8, .long 0), (10, .long 0), (12, .long 0), (14, .int 0)] rfl ?_
      obtain ⟨I_5, μ_5, hi_5, hw⟩ := hw
      have L_5 : ∀ (n : Nat) (v4_5 : Int64) (v6_5 : Int64) (v8_5 : Int64) (v10_5 : Int64) (v12_5 : Int64) (v14_5 : Int32) (S_5 : Sg), μ_5 v4_5 v6_5 v8_5 v10_5 v12_5 v14_5 S_5 < n → I_5 v4_5 v6_5 v8_5 v10_5 v12_5 v14_5 S_5 → KK p l e (mkR 4 91) s m args below meth c 17 D cA ad A Q 65 [(0, .ref (ad 40 0)), (1, .int a1), (2, .int a2), (3, .int a3), (4, .long v4_5), (6, .long v6_5), (8, .long v8_5), (10, .long v10_5), (12, .long v12_5), (14, .int v14_5)] [] S_5 := by
        intro n
        induction n with
        | zero => intro v4_5 v6_5 v8_5 v10_5 v12_5 v14_5 S_5 h; exact absurd h (Nat.not_lt_zero _)
        | succ n ih_5 =>
          intro v4_5 v6_5 v8_5 v10_5 v12_5 v14_5 S_5 hn_5 hi_5
          have hw := hw v4_5 v6_5 v8_5 v10_5 v12_5 v14_5 S_5 hi_5
          refine k_iload (pc := 65) C dX10_rate_65 9 rfl ?_
          refine k_bipush (v := 40) (pc := 67) C dX10_rate_67 (by decide) ?_
          refine k_icmp_ge (pc := 69) C 145 dX10_rate_69 (by decide) (fun q_6 => ?_) (fun q_6 => ?_)
          · have hw := hw.1 q_6
            refine k_aload_n (pc := 145) C dX10_rate_145 0 rfl rfl ?_
            refine k_lload (pc := 146) C dX10_rate_146 4 rfl ?_
            refine k_lload (pc := 148) C dX10_rate_148 8 rfl ?_
            refine k_lmul (pc := 150) C dX10_rate_150 ?_
            refine k_lload (pc := 151) C dX10_rate_151 5 rfl ?_
            refine k_lload (pc := 153) C dX10_rate_153 6 rfl ?_
            refine k_lmul (pc := 155) C dX10_rate_155 ?_
            refine k_lsub (pc := 156) C dX10_rate_156 ?_
            refine k_lload (pc := 157) C dX10_rate_157 4 rfl ?_
            refine k_lload (pc := 159) C dX10_rate_159 7 rfl ?_
            refine k_lmul (pc := 161) C dX10_rate_161 ?_
            refine k_lload (pc := 162) C dX10_rate_162 5 rfl ?_
            refine k_lload (pc := 164) C dX10_rate_164 5 rfl ?_
            refine k_lmul (pc := 166) C dX10_rate_166 ?_
            refine k_lsub (pc := 167) C dX10_rate_167 ?_
            refine k_iload_n (pc := 168) C dX10_rate_168 3 rfl rfl ?_
            refine k_callVl (pc := 169) C (ct_X10_lowest l D cA ad ((v4_5 * v12_5) - (v6_5 * v8_5)) ((v4_5 * v10_5) - (v6_5 * v6_5)) a3 S_5 _ hw) (cwV 3 C.2.2.2.2.1 gX10_rate_X10_lowest rfl rfl rfl (by decide +kernel) ⟨Nat.le_of_ble_eq_true rfl, Nat.le_of_ble_eq_true rfl⟩) hm_40 (cel_40 cA ad S_5 0) rfl rfl rfl rfl (Nat.le_of_ble_eq_true rfl) dX10_rate_169 (fun r_7 S_7 hw => ?_)
            exact hret _ _ _ _ dX10_rate_172 hw
          · have hw := hw.2 q_6
            refine k_aload_n (pc := 72) C dX10_rate_72 0 rfl rfl ?_
            refine k_iload_n (pc := 73) C dX10_rate_73 1 rfl rfl ?_
            refine k_iload (pc := 74) C dX10_rate_74 9 rfl ?_
            refine k_callVi (pc := 76) C (ct_X10_isCleared l D cA ad a1 v14_5 S_5 _ hw) (cwV 2 C.2.2.2.2.1 gX10_rate_X10_isCleared rfl rfl rfl (by decide +kernel) ⟨Nat.le_of_ble_eq_true rfl, Nat.le_of_ble_eq_true rfl⟩) hm_40 (cel_40 cA ad S_5 0) rfl rfl rfl rfl (Nat.le_of_ble_eq_true rfl) dX10_rate_76 (fun r_8 S_8 hw => ?_)
            refine k_if_ne (pc := 79) C 85 dX10_rate_79 (by decide) (fun q_9 => ?_) (fun q_9 => ?_)
            · have hw := hw.1 q_9
              refine k_aload_n (pc := 85) C dX10_rate_85 0 rfl rfl ?_
              refine k_iload_n (pc := 86) C dX10_rate_86 1 rfl rfl ?_
              refine k_iload (pc := 87) C dX10_rate_87 9 rfl ?_
              refine k_iload_n (pc := 89) C dX10_rate_89 2 rfl rfl ?_
              refine k_callVl (pc := 90) C (ct_X10_clear l D cA ad a1 v14_5 a2 S_8 _ hw) (cwV 3 C.2.2.2.2.1 gX10_rate_X10_clear rfl rfl rfl (by decide +kernel) ⟨Nat.le_of_ble_eq_true rfl, Nat.le_of_ble_eq_true rfl⟩) hm_40 (cel_40 cA ad S_8 0) rfl rfl rfl rfl (Nat.le_of_ble_eq_true rfl) dX10_rate_90 (fun r_10 S_10 hw => ?_)
              refine k_lstore (pc := 93) C dX10_rate_93 (by decide) [(15, .long r_10), (0, .ref (ad 40 0)), (1, .int a1), (2, .int a2), (3, .int a3), (4, .long v4_5), (6, .long v6_5), (8, .long v8_5), (10, .long v10_5), (12, .long v12_5), (14, .int v14_5)] rfl ?_
              refine k_lload (pc := 95) C dX10_rate_95 5 rfl ?_
              refine k_lconst (v := 1) (pc := 97) C dX10_rate_97 (by decide) ?_
              refine k_ladd (pc := 98) C dX10_rate_98 ?_
              refine k_topl (fun x4_11 ex4_11 => ?_)
              have hw := hw x4_11 ex4_11
              refine k_lstore (pc := 99) C dX10_rate_99 (by decide) [(4, .long x4_11), (15, .long r_10), (0, .ref (ad 40 0)), (1, .int a1), (2, .int a2), (3, .int a3), (6, .long v6_5), (8, .long v8_5), (10, .long v10_5), (12, .long v12_5), (14, .int v14_5)] rfl ?_
              refine k_lload (pc := 101) C dX10_rate_101 6 rfl ?_
              refine k_iload (pc := 103) C dX10_rate_103 10 rfl ?_
              refine k_i2l (pc := 105) C dX10_rate_105 ?_
              refine k_ladd (pc := 106) C dX10_rate_106 ?_
              refine k_topl (fun x6_12 ex6_12 => ?_)
              have hw := hw x6_12 ex6_12
              refine k_lstore (pc := 107) C dX10_rate_107 (by decide) [(6, .long x6_12), (4, .long x4_11), (15, .long r_10), (0, .ref (ad 40 0)), (1, .int a1), (2, .int a2), (3, .int a3), (8, .long v8_5), (10, .long v10_5), (12, .long v12_5), (14, .int v14_5)] rfl ?_
              refine k_lload (pc := 109) C dX10_rate_109 7 rfl ?_
              refine k_lload (pc := 111) C dX10_rate_111 2 rfl ?_
              refine k_ladd (pc := 113) C dX10_rate_113 ?_
              refine k_topl (fun x8_13 ex8_13 => ?_)
              have hw := hw x8_13 ex8_13
              refine k_lstore (pc := 114) C dX10_rate_114 (by decide) [(8, .long x8_13), (6, .long x6_12), (4, .long x4_11), (15, .long r_10), (0, .ref (ad 40 0)), (1, .int a1), (2, .int a2), (3, .int a3), (10, .long v10_5), (12, .long v12_5), (14, .int v14_5)] rfl ?_
              refine k_lload (pc := 116) C dX10_rate_116 8 rfl ?_
              refine k_iload (pc := 118) C dX10_rate_118 10 rfl ?_
              refine k_i2l (pc := 120) C dX10_rate_120 ?_
              refine k_iload (pc := 121) C dX10_rate_121 10 rfl ?_
              refine k_i2l (pc := 123) C dX10_rate_123 ?_
              refine k_lmul (pc := 124) C dX10_rate_124 ?_
              refine k_ladd (pc := 125) C dX10_rate_125 ?_
              refine k_topl (fun x10_14 ex10_14 => ?_)
              have hw := hw x10_14 ex10_14
              refine k_lstore (pc := 126) C dX10_rate_126 (by decide) [(10, .long x10_14), (8, .long x8_13), (6, .long x6_12), (4, .long x4_11), (15, .long r_10), (0, .ref (ad 40 0)), (1, .int a1), (2, .int a2), (3, .int a3), (12, .long v12_5), (14, .int v14_5)] rfl ?_
              refine k_lload (pc := 128) C dX10_rate_128 9 rfl ?_
              refine k_iload (pc := 130) C dX10_rate_130 10 rfl ?_
              refine k_i2l (pc := 132) C dX10_rate_132 ?_
              refine k_lload (pc := 133) C dX10_rate_133 4 rfl ?_
              refine k_lmul (pc := 135) C dX10_rate_135 ?_
              refine k_ladd (pc := 136) C dX10_rate_136 ?_
              refine k_topl (fun x12_15 ex12_15 => ?_)
              have hw := hw x12_15 ex12_15
              refine k_lstore (pc := 137) C dX10_rate_137 (by decide) [(12, .long x12_15), (10, .long x10_14), (8, .long x8_13), (6, .long x6_12), (4, .long x4_11), (15, .long r_10), (0, .ref (ad 40 0)), (1, .int a1), (2, .int a2), (3, .int a3), (14, .int v14_5)] rfl ?_
              obtain ⟨x14_16, ex14_16⟩ : ∃ y : Int32, y = v14_5 + 1 := ⟨_, rfl⟩
              have hw := hw x14_16 ex14_16
              refine k_iinc (v := x14_16) (j := 10) (pc := 139) C dX10_rate_139 rfl (by rw [ex14_16]; rfl) (by decide) [(14, .int x14_16), (12, .long x12_15), (10, .long x10_14), (8, .long x8_13), (6, .long x6_12), (4, .long x4_11), (15, .long r_10), (0, .ref (ad 40 0)), (1, .int a1), (2, .int a2), (3, .int a3)] rfl ?_
              refine k_goto (pc := 142) C 65 dX10_rate_142 (by decide) ?_
              refine k_sub [7, 8, 9, 10, 5, 4, 3, 2, 1, 0] [(0, .ref (ad 40 0)), (1, .int a1), (2, .int a2), (3, .int a3), (4, .long x4_11), (6, .long x6_12), (8, .long x8_13), (10, .long x10_14), (12, .long x12_15), (14, .int x14_16)] rfl ?_
              exact ih_5 x4_11 x6_12 x8_13 x10_14 x12_15 x14_16 S_10 (Nat.lt_of_lt_of_le hw.2 (Nat.le_of_lt_succ hn_5)) hw.1
            · have hw := hw.2 q_9
              refine k_goto (pc := 82) C 139 dX10_rate_82 (by decide) ?_
              obtain ⟨x14_17, ex14_17⟩ : ∃ y : Int32, y = v14_5 + 1 := ⟨_, rfl⟩
              have hw := hw x14_17 ex14_17
              refine k_iinc (v := x14_17) (j := 9) (pc := 139) C dX10_rate_139 rfl (by rw [ex14_17]; rfl) (by decide) [(14, .int x14_17), (0, .ref (ad 40 0)), (1, .int a1), (2, .int a2), (3, .int a3), (4, .long v4_5), (6, .long v6_5), (8, .long v8_5), (10, .long v10_5), (12, .long v12_5)] rfl ?_
              refine k_goto (pc := 142) C 65 dX10_rate_142 (by decide) ?_
              refine k_sub [1, 2, 3, 4, 5, 6, 7, 8, 9, 0] [(0, .ref (ad 40 0)), (1, .int a1), (2, .int a2), (3, .int a3), (4, .long v4_5), (6, .long v6_5), (8, .long v8_5), (10, .long v10_5), (12, .long v12_5), (14, .int x14_17)] rfl ?_
              exact ih_5 v4_5 v6_5 v8_5 v10_5 v12_5 x14_17 S_8 (Nat.lt_of_lt_of_le hw.2 (Nat.le_of_lt_succ hn_5)) hw.1
      exact L_5 (μ_5 0 0 0 0 0 0 S_3 + 1) 0 0 0 0 0 0 S_3 (Nat.lt_succ_self _) hi_5
    · have hw := hw.2 q_4
      refine k_lconst (v := 0) (pc := 45) C dX10_rate_45 (by decide) ?_
      exact hret _ _ _ _ dX10_rate_46 hw
  obtain ⟨J_18, hj_18, hw⟩ := hw
  have j_18 : ∀ (S_18 : Sg), J_18 S_18 → KK p l e (mkR 4 91) s m args below meth c 17 D cA ad A Q 17 [(0, .ref (ad 40 0)), (1, .int a1), (2, .int a2), (3, .int a3)] [.ref (ad 40 0)] S_18 := by
    intro S_18 hw
    have hw := hj_18 S_18 hw
    refine k_iconst (v := 1) (pc := 17) C dX10_rate_17 (by decide) ?_
    refine k_goto (pc := 18) C 35 dX10_rate_18 (by decide) ?_
    refine k_sub [0, 1, 2, 3] [(0, .ref (ad 40 0)), (1, .int a1), (2, .int a2), (3, .int a3)] rfl ?_
    exact j_2 1 S_18 hw
  refine k_if_eq (pc := 6) C 17 dX10_rate_6 (by decide) (fun q_19 => ?_) (fun q_19 => ?_)
  · have hw := hw.1 q_19
    refine k_sub [0, 1, 2, 3] [(0, .ref (ad 40 0)), (1, .int a1), (2, .int a2), (3, .int a3)] rfl ?_
    exact j_18 S_1 hw
  · have hw := hw.2 q_19
    refine k_aload_n (pc := 9) C dX10_rate_9 0 rfl rfl ?_
    refine k_iload_n (pc := 10) C dX10_rate_10 2 rfl rfl ?_
    refine k_callVi (pc := 11) C (ct_X10_isSide l D cA ad a2 S_1 _ hw) (cwV 1 C.2.2.2.2.1 gX10_rate_X10_isSide rfl rfl rfl (by decide +kernel) ⟨Nat.le_of_ble_eq_true rfl, Nat.le_of_ble_eq_true rfl⟩) hm_40 (cel_40 cA ad S_1 0) rfl rfl rfl rfl (Nat.le_of_ble_eq_true rfl) dX10_rate_11 (fun r_20 S_20 hw => ?_)
    refine k_if_ne (pc := 14) C 21 dX10_rate_14 (by decide) (fun q_21 => ?_) (fun q_21 => ?_)
    · have hw := hw.1 q_21
      refine k_aload_n (pc := 21) C dX10_rate_21 0 rfl rfl ?_
      refine k_iload_n (pc := 22) C dX10_rate_22 1 rfl rfl ?_
      refine k_callVi (pc := 23) C (ct_X10_manyOf l D cA ad a1 S_20 _ hw) (cwV 1 C.2.2.2.2.1 gX10_rate_X10_manyOf rfl rfl rfl (by decide +kernel) ⟨Nat.le_of_ble_eq_true rfl, Nat.le_of_ble_eq_true rfl⟩) hm_40 (cel_40 cA ad S_20 0) rfl rfl rfl rfl (Nat.le_of_ble_eq_true rfl) dX10_rate_23 (fun r_22 S_22 hw => ?_)
      refine k_iconst (v := 2) (pc := 26) C dX10_rate_26 (by decide) ?_
      refine k_icmp_ge (pc := 27) C 34 dX10_rate_27 (by decide) (fun q_23 => ?_) (fun q_23 => ?_)
      · have hw := hw.1 q_23
        refine k_iconst (v := 0) (pc := 34) C dX10_rate_34 (by decide) ?_
        refine k_sub [0, 1, 2, 3] [(0, .ref (ad 40 0)), (1, .int a1), (2, .int a2), (3, .int a3)] rfl ?_
        exact j_2 0 S_22 hw
      · have hw := hw.2 q_23
        refine k_iconst (v := 2) (pc := 30) C dX10_rate_30 (by decide) ?_
        refine k_goto (pc := 31) C 35 dX10_rate_31 (by decide) ?_
        refine k_sub [0, 1, 2, 3] [(0, .ref (ad 40 0)), (1, .int a1), (2, .int a2), (3, .int a3)] rfl ?_
        exact j_2 2 S_22 hw
    · have hw := hw.2 q_21
      refine k_sub [0, 1, 2, 3] [(0, .ref (ad 40 0)), (1, .int a1), (2, .int a2), (3, .int a3)] rfl ?_
      exact j_18 S_20 hw
def wp_X10_jump (a1 : Int32) (a2 : Int32) (S : Sg) (Q : Int32 → Sg → Prop) : Prop :=
  wp_X10_isMark a1 S (fun r_1 S_1 => ((r_1 = 0 → Q (-1) S_1) ∧ (¬ r_1 = 0 → wp_X10_isSide a2 S_1 (fun r_3 S_3 => ((¬ r_3 = 0 → wp_X10_manyOf a1 S_3 (fun r_5 S_5 => (∃ (I_6 : Int64 → Int32 → Sg → Prop) (μ_6 : Int64 → Int32 → Sg → Nat), I_6 0 0 S_5 ∧ ∀ (v4_6 : Int64) (v6_6 : Int32) (S_6 : Sg), I_6 v4_6 v6_6 S_6 → ((40 ≤ v6_6 → (∃ (I_8 : Int32 → Int64 → Int64 → Int64 → Int32 → Int32 → Sg → Prop) (μ_8 : Int32 → Int64 → Int64 → Int64 → Int32 → Int32 → Sg → Nat), I_8 (-4) 0 1 0 0 0 S_6 ∧ ∀ (v6_8 : Int32) (v7_8 : Int64) (v9_8 : Int64) (v11_8 : Int64) (v13_8 : Int32) (v14_8 : Int32) (S_8 : Sg), I_8 v6_8 v7_8 v9_8 v11_8 v13_8 v14_8 S_8 → ((40 ≤ v14_8 → Q v6_8 S_8) ∧ (¬ 40 ≤ v14_8 → wp_X10_isCleared a1 v14_8 S_8 (fun r_10 S_10 => ((¬ r_10 = 0 → (∃ J_12 : Int32 → Int64 → Int64 → Sg → Prop, (∀ (v6_12 : Int32) (v7_12 : Int64) (v9_12 : Int64) (S_12 : Sg), J_12 v6_12 v7_12 v9_12 S_12 → wp_X10_clear a1 v14_8 a2 S_12 (fun r_13 S_13 => (∀ x11_14 : Int64, x11_14 = (v11_8 + r_13) → (∀ x13_15 : Int32, x13_15 = v13_8 + 1 → (∀ x14_16 : Int32, x14_16 = v14_8 + 1 → (I_8 v6_12 v7_12 v9_12 x11_14 x13_15 x14_16 S_13 ∧ μ_8 v6_12 v7_12 v9_12 x11_14 x13_15 x14_16 S_13 < μ_8 v6_8 v7_8 v9_8 v11_8 v13_8 v14_8 S_8)))))) ∧ ((v13_8 < 2 → J_12 v6_8 v7_8 v9_8 S_10) ∧ (¬ v13_8 < 2 → (((r_5 - v13_8) < 2 → J_12 v6_8 v7_8 v9_8 S_10) ∧ (¬ (r_5 - v13_8) < 2 → (∀ x15_19 : Int64, x15_19 = ((v11_8 * (Int32.toInt64 (r_5 - v13_8))) - ((v4_6 - v11_8) * (Int32.toInt64 v13_8))) → (∃ J_20 : Int64 → Sg → Prop, (∀ (t0_20 : Int64) (S_20 : Sg), J_20 t0_20 S_20 → (∀ x17_21 : Int64, x17_21 = ((Int32.toInt64 v13_8) * (Int32.toInt64 (r_5 - v13_8))) → (∃ J_22 : Sg → Prop, (∀ (S_22 : Sg), J_22 S_22 → J_12 v14_8 t0_20 x17_21 S_22) ∧ ((v6_8 < 0 → J_22 S_20) ∧ (¬ v6_8 < 0 → (((t0_20 * v9_8) ≤ (v7_8 * x17_21) → J_12 v6_8 v7_8 v9_8 S_20) ∧ (¬ (t0_20 * v9_8) ≤ (v7_8 * x17_21) → J_22 S_20))))))) ∧ ((0 ≤ x15_19 → J_20 x15_19 S_10) ∧ (¬ 0 ≤ x15_19 → J_20 (-x15_19) S_10)))))))))) ∧ (r_10 = 0 → (∀ x14_26 : Int32, x14_26 = v14_8 + 1 → (I_8 v6_8 v7_8 v9_8 v11_8 v13_8 x14_26 S_10 ∧ μ_8 v6_8 v7_8 v9_8 v11_8 v13_8 x14_26 S_10 < μ_8 v6_8 v7_8 v9_8 v11_8 v13_8 v14_8 S_8))))))))) ∧ (¬ 40 ≤ v6_6 → wp_X10_isCleared a1 v6_6 S_6 (fun r_27 S_27 => ((r_27 = 0 → (∀ x4_29 : Int64, x4_29 = (v4_6 + 0) → (∀ x6_30 : Int32, x6_30 = v6_6 + 1 → (I_6 x4_29 x6_30 S_27 ∧ μ_6 x4_29 x6_30 S_27 < μ_6 v4_6 v6_6 S_6)))) ∧ (¬ r_27 = 0 → wp_X10_clear a1 v6_6 a2 S_27 (fun r_31 S_31 => (∀ x4_32 : Int64, x4_32 = (v4_6 + r_31) → (∀ x6_33 : Int32, x6_33 = v6_6 + 1 → (I_6 x4_32 x6_33 S_31 ∧ μ_6 x4_32 x6_33 S_31 < μ_6 v4_6 v6_6 S_6)))))))))))) ∧ (r_3 = 0 → Q (-1) S_3))))))
set_option maxHeartbeats 4000000 in
set_option maxRecDepth 100000 in
theorem ct_X10_jump (l : Launch) (D : va_G) (cA : Nat → ClassId) (ad : Nat → Nat → Nat) (a1 : Int32) (a2 : Int32) (S : Sg) (Q : Int32 → Sg → Prop) (hw : wp_X10_jump a1 a2 S Q) : CtI l yX10_jump wsX10_jump (mkR 4 91) D cA ad [.ref (ad 40 0), .int a1, .int a2] S Q := by
  refine ct_ofI (cc := cX10_jump) (nL := 19) (by decide) rfl (Nat.le_of_ble_eq_true rfl) ?_
  intro p e s m args below meth c A Q C hret
  unfold wp_X10_jump at hw
  have C : Cx p s m args c cX10_jump 19 wsX10_jump RX10 D cA A := C
  change KK p l e (mkR 4 91) s m args below meth c 19 D cA ad A Q 0 [(0, .ref (ad 40 0)), (1, .int a1), (2, .int a2)] [] S
  refine k_aload_n (pc := 0) C dX10_jump_0 0 rfl rfl ?_
  refine k_iload_n (pc := 1) C dX10_jump_1 1 rfl rfl ?_
  refine k_callVi (pc := 2) C (ct_X10_isMark l D cA ad a1 S _ hw) (cwV 1 C.2.2.2.2.1 gX10_jump_X10_isMark rfl rfl rfl (by decide +kernel) ⟨Nat.le_of_ble_eq_true rfl, Nat.le_of_ble_eq_true rfl⟩) hm_40 (cel_40 cA ad S 0) rfl rfl rfl rfl (Nat.le_of_ble_eq_true rfl) dX10_jump_2 (fun r_1 S_1 hw => ?_)
  refine k_if_eq (pc := 5) C 16 dX10_jump_5 (by decide) (fun q_2 => ?_) (fun q_2 => ?_)
  · have hw := hw.1 q_2
    refine k_iconst (v := (-1)) (pc := 16) C dX10_jump_16 (by decide) ?_
    exact hret _ _ _ _ dX10_jump_17 hw
  · have hw := hw.2 q_2
    refine k_aload_n (pc := 8) C dX10_jump_8 0 rfl rfl ?_
    refine k_iload_n (pc := 9) C dX10_jump_9 2 rfl rfl ?_
    refine k_callVi (pc := 10) C (ct_X10_isSide l D cA ad a2 S_1 _ hw) (cwV 1 C.2.2.2.2.1 gX10_jump_X10_isSide rfl rfl rfl (by decide +kernel) ⟨Nat.le_of_ble_eq_true rfl, Nat.le_of_ble_eq_true rfl⟩) hm_40 (cel_40 cA ad S_1 0) rfl rfl rfl rfl (Nat.le_of_ble_eq_true rfl) dX10_jump_10 (fun r_3 S_3 hw => ?_)
    refine k_if_ne (pc := 13) C 18 dX10_jump_13 (by decide) (fun q_4 => ?_) (fun q_4 => ?_)
    · have hw := hw.1 q_4
      refine k_aload_n (pc := 18) C dX10_jump_18 0 rfl rfl ?_
      refine k_iload_n (pc := 19) C dX10_jump_19 1 rfl rfl ?_
      refine k_callVi (pc := 20) C (ct_X10_manyOf l D cA ad a1 S_3 _ hw) (cwV 1 C.2.2.2.2.1 gX10_jump_X10_manyOf rfl rfl rfl (by decide +kernel) ⟨Nat.le_of_ble_eq_true rfl, Nat.le_of_ble_eq_true rfl⟩) hm_40 (cel_40 cA ad S_3 0) rfl rfl rfl rfl (Nat.le_of_ble_eq_true rfl) dX10_jump_20 (fun r_5 S_5 hw => ?_)
      refine k_istore_n (pc := 23) C dX10_jump_23 rfl (by decide) [(3, .int r_5), (0, .ref (ad 40 0)), (1, .int a1), (2, .int a2)] rfl ?_
      refine k_lconst (v := 0) (pc := 24) C dX10_jump_24 (by decide) ?_
      refine k_lstore (pc := 25) C dX10_jump_25 (by decide) [(4, .long 0), (3, .int r_5), (0, .ref (ad 40 0)), (1, .int a1), (2, .int a2)] rfl ?_
      refine k_iconst (v := 0) (pc := 27) C dX10_jump_27 (by decide) ?_
      refine k_istore (pc := 28) C dX10_jump_28 (by decide) [(6, .int 0), (4, .long 0), (3, .int r_5), (0, .ref (ad 40 0)), (1, .int a1), (2, .int a2)] rfl ?_
      refine k_sub [3, 4, 5, 2, 1, 0] [(0, .ref (ad 40 0)), (1, .int a1), (2, .int a2), (3, .int r_5), (4, .long 0), (6, .int 0)] rfl ?_
      obtain ⟨I_6, μ_6, hi_6, hw⟩ := hw
      have L_6 : ∀ (n : Nat) (v4_6 : Int64) (v6_6 : Int32) (S_6 : Sg), μ_6 v4_6 v6_6 S_6 < n → I_6 v4_6 v6_6 S_6 → KK p l e (mkR 4 91) s m args below meth c 19 D cA ad A Q 30 [(0, .ref (ad 40 0)), (1, .int a1), (2, .int a2), (3, .int r_5), (4, .long v4_6), (6, .int v6_6)] [] S_6 := by
        intro n
        induction n with
        | zero => intro v4_6 v6_6 S_6 h; exact absurd h (Nat.not_lt_zero _)
        | succ n ih_6 =>
          intro v4_6 v6_6 S_6 hn_6 hi_6
          have hw := hw v4_6 v6_6 S_6 hi_6
          refine k_iload (pc := 30) C dX10_jump_30 5 rfl ?_
          refine k_bipush (v := 40) (pc := 32) C dX10_jump_32 (by decide) ?_
          refine k_icmp_ge (pc := 34) C 70 dX10_jump_34 (by decide) (fun q_7 => ?_) (fun q_7 => ?_)
          · have hw := hw.1 q_7
            refine k_bipush (v := (-4)) (pc := 70) C dX10_jump_70 (by decide) ?_
            refine k_istore (pc := 72) C dX10_jump_72 (by decide) [(6, .int (-4)), (0, .ref (ad 40 0)), (1, .int a1), (2, .int a2), (3, .int r_5), (4, .long v4_6)] rfl ?_
            refine k_lconst (v := 0) (pc := 74) C dX10_jump_74 (by decide) ?_
            refine k_lstore (pc := 75) C dX10_jump_75 (by decide) [(7, .long 0), (6, .int (-4)), (0, .ref (ad 40 0)), (1, .int a1), (2, .int a2), (3, .int r_5), (4, .long v4_6)] rfl ?_
            refine k_lconst (v := 1) (pc := 77) C dX10_jump_77 (by decide) ?_
            refine k_lstore (pc := 78) C dX10_jump_78 (by decide) [(9, .long 1), (7, .long 0), (6, .int (-4)), (0, .ref (ad 40 0)), (1, .int a1), (2, .int a2), (3, .int r_5), (4, .long v4_6)] rfl ?_
            refine k_lconst (v := 0) (pc := 80) C dX10_jump_80 (by decide) ?_
            refine k_lstore (pc := 81) C dX10_jump_81 (by decide) [(11, .long 0), (9, .long 1), (7, .long 0), (6, .int (-4)), (0, .ref (ad 40 0)), (1, .int a1), (2, .int a2), (3, .int r_5), (4, .long v4_6)] rfl ?_
            refine k_iconst (v := 0) (pc := 83) C dX10_jump_83 (by decide) ?_
            refine k_istore (pc := 84) C dX10_jump_84 (by decide) [(13, .int 0), (11, .long 0), (9, .long 1), (7, .long 0), (6, .int (-4)), (0, .ref (ad 40 0)), (1, .int a1), (2, .int a2), (3, .int r_5), (4, .long v4_6)] rfl ?_
            refine k_iconst (v := 0) (pc := 86) C dX10_jump_86 (by decide) ?_
            refine k_istore (pc := 87) C dX10_jump_87 (by decide) [(14, .int 0), (13, .int 0), (11, .long 0), (9, .long 1), (7, .long 0), (6, .int (-4)), (0, .ref (ad 40 0)), (1, .int a1), (2, .int a2), (3, .int r_5), (4, .long v4_6)] rfl ?_
            refine k_sub [6, 7, 8, 9, 10, 5, 4, 3, 2, 1, 0] [(0, .ref (ad 40 0)), (1, .int a1), (2, .int a2), (3, .int r_5), (4, .long v4_6), (6, .int (-4)), (7, .long 0), (9, .long 1), (11, .long 0), (13, .int 0), (14, .int 0)] rfl ?_
            obtain ⟨I_8, μ_8, hi_8, hw⟩ := hw
            have L_8 : ∀ (n : Nat) (v6_8 : Int32) (v7_8 : Int64) (v9_8 : Int64) (v11_8 : Int64) (v13_8 : Int32) (v14_8 : Int32) (S_8 : Sg), μ_8 v6_8 v7_8 v9_8 v11_8 v13_8 v14_8 S_8 < n → I_8 v6_8 v7_8 v9_8 v11_8 v13_8 v14_8 S_8 → KK p l e (mkR 4 91) s m args below meth c 19 D cA ad A Q 89 [(0, .ref (ad 40 0)), (1, .int a1), (2, .int a2), (3, .int r_5), (4, .long v4_6), (6, .int v6_8), (7, .long v7_8), (9, .long v9_8), (11, .long v11_8), (13, .int v13_8), (14, .int v14_8)] [] S_8 := by
              intro n
              induction n with
              | zero => intro v6_8 v7_8 v9_8 v11_8 v13_8 v14_8 S_8 h; exact absurd h (Nat.not_lt_zero _)
              | succ n ih_8 =>
                intro v6_8 v7_8 v9_8 v11_8 v13_8 v14_8 S_8 hn_8 hi_8
                have hw := hw v6_8 v7_8 v9_8 v11_8 v13_8 v14_8 S_8 hi_8
                refine k_iload (pc := 89) C dX10_jump_89 10 rfl ?_
                refine k_bipush (v := 40) (pc := 91) C dX10_jump_91 (by decide) ?_
                refine k_icmp_ge (pc := 93) C 224 dX10_jump_93 (by decide) (fun q_9 => ?_) (fun q_9 => ?_)
                · have hw := hw.1 q_9
                  refine k_iload (pc := 224) C dX10_jump_224 5 rfl ?_
                  exact hret _ _ _ _ dX10_jump_226 hw
                · have hw := hw.2 q_9
                  refine k_aload_n (pc := 96) C dX10_jump_96 0 rfl rfl ?_
                  refine k_iload_n (pc := 97) C dX10_jump_97 1 rfl rfl ?_
                  refine k_iload (pc := 98) C dX10_jump_98 10 rfl ?_
                  refine k_callVi (pc := 100) C (ct_X10_isCleared l D cA ad a1 v14_8 S_8 _ hw) (cwV 2 C.2.2.2.2.1 gX10_jump_X10_isCleared rfl rfl rfl (by decide +kernel) ⟨Nat.le_of_ble_eq_true rfl, Nat.le_of_ble_eq_true rfl⟩) hm_40 (cel_40 cA ad S_8 0) rfl rfl rfl rfl (Nat.le_of_ble_eq_true rfl) dX10_jump_100 (fun r_10 S_10 hw => ?_)
                  refine k_if_ne (pc := 103) C 109 dX10_jump_103 (by decide) (fun q_11 => ?_) (fun q_11 => ?_)
                  · have hw := hw.1 q_11
                    refine k_iload (pc := 109) C dX10_jump_109 9 rfl ?_
                    refine k_iconst (v := 2) (pc := 111) C dX10_jump_111 (by decide) ?_
                    obtain ⟨J_12, hj_12, hw⟩ := hw
                    have j_12 : ∀ (v6_12 : Int32) (v7_12 : Int64) (v9_12 : Int64) (S_12 : Sg), J_12 v6_12 v7_12 v9_12 S_12 → KK p l e (mkR 4 91) s m args below meth c 19 D cA ad A Q 202 [(0, .ref (ad 40 0)), (1, .int a1), (2, .int a2), (3, .int r_5), (4, .long v4_6), (6, .int v6_12), (7, .long v7_12), (9, .long v9_12), (11, .long v11_8), (13, .int v13_8), (14, .int v14_8)] [] S_12 := by
                      intro v6_12 v7_12 v9_12 S_12 hw
                      have hw := hj_12 v6_12 v7_12 v9_12 S_12 hw
                      refine k_lload (pc := 202) C dX10_jump_202 8 rfl ?_
                      refine k_aload_n (pc := 204) C dX10_jump_204 0 rfl rfl ?_
                      refine k_iload_n (pc := 205) C dX10_jump_205 1 rfl rfl ?_
                      refine k_iload (pc := 206) C dX10_jump_206 10 rfl ?_
                      refine k_iload_n (pc := 208) C dX10_jump_208 2 rfl rfl ?_
                      refine k_callVl (pc := 209) C (ct_X10_clear l D cA ad a1 v14_8 a2 S_12 _ hw) (cwV 3 C.2.2.2.2.1 gX10_jump_X10_clear rfl rfl rfl (by decide +kernel) ⟨Nat.le_of_ble_eq_true rfl, Nat.le_of_ble_eq_true rfl⟩) hm_40 (cel_40 cA ad S_12 0) rfl rfl rfl rfl (Nat.le_of_ble_eq_true rfl) dX10_jump_209 (fun r_13 S_13 hw => ?_)
                      refine k_ladd (pc := 212) C dX10_jump_212 ?_
                      refine k_topl (fun x11_14 ex11_14 => ?_)
                      have hw := hw x11_14 ex11_14
                      refine k_lstore (pc := 213) C dX10_jump_213 (by decide) [(11, .long x11_14), (0, .ref (ad 40 0)), (1, .int a1), (2, .int a2), (3, .int r_5), (4, .long v4_6), (6, .int v6_12), (7, .long v7_12), (9, .long v9_12), (13, .int v13_8), (14, .int v14_8)] rfl ?_
                      obtain ⟨x13_15, ex13_15⟩ : ∃ y : Int32, y = v13_8 + 1 := ⟨_, rfl⟩
                      have hw := hw x13_15 ex13_15
                      refine k_iinc (v := x13_15) (j := 9) (pc := 215) C dX10_jump_215 rfl (by rw [ex13_15]; rfl) (by decide) [(13, .int x13_15), (11, .long x11_14), (0, .ref (ad 40 0)), (1, .int a1), (2, .int a2), (3, .int r_5), (4, .long v4_6), (6, .int v6_12), (7, .long v7_12), (9, .long v9_12), (14, .int v14_8)] rfl ?_
                      obtain ⟨x14_16, ex14_16⟩ : ∃ y : Int32, y = v14_8 + 1 := ⟨_, rfl⟩
                      have hw := hw x14_16 ex14_16
                      refine k_iinc (v := x14_16) (j := 10) (pc := 218) C dX10_jump_218 rfl (by rw [ex14_16]; rfl) (by decide) [(14, .int x14_16), (13, .int x13_15), (11, .long x11_14), (0, .ref (ad 40 0)), (1, .int a1), (2, .int a2), (3, .int r_5), (4, .long v4_6), (6, .int v6_12), (7, .long v7_12), (9, .long v9_12)] rfl ?_
                      refine k_goto (pc := 221) C 89 dX10_jump_221 (by decide) ?_
                      refine k_sub [3, 4, 5, 6, 7, 8, 9, 10, 2, 1, 0] [(0, .ref (ad 40 0)), (1, .int a1), (2, .int a2), (3, .int r_5), (4, .long v4_6), (6, .int v6_12), (7, .long v7_12), (9, .long v9_12), (11, .long x11_14), (13, .int x13_15), (14, .int x14_16)] rfl ?_
                      exact ih_8 v6_12 v7_12 v9_12 x11_14 x13_15 x14_16 S_13 (Nat.lt_of_lt_of_le hw.2 (Nat.le_of_lt_succ hn_8)) hw.1
                    refine k_icmp_lt (pc := 112) C 202 dX10_jump_112 (by decide) (fun q_17 => ?_) (fun q_17 => ?_)
                    · have hw := hw.1 q_17
                      refine k_sub [0, 1, 2, 3, 4, 5, 6, 7, 8, 9, 10] [(0, .ref (ad 40 0)), (1, .int a1), (2, .int a2), (3, .int r_5), (4, .long v4_6), (6, .int v6_8), (7, .long v7_8), (9, .long v9_8), (11, .long v11_8), (13, .int v13_8), (14, .int v14_8)] rfl ?_
                      exact j_12 v6_8 v7_8 v9_8 S_10 hw
                    · have hw := hw.2 q_17
                      refine k_iload_n (pc := 115) C dX10_jump_115 3 rfl rfl ?_
                      refine k_iload (pc := 116) C dX10_jump_116 9 rfl ?_
                      refine k_isub (pc := 118) C dX10_jump_118 ?_
                      refine k_iconst (v := 2) (pc := 119) C dX10_jump_119 (by decide) ?_
                      refine k_icmp_lt (pc := 120) C 202 dX10_jump_120 (by decide) (fun q_18 => ?_) (fun q_18 => ?_)
                      · have hw := hw.1 q_18
                        refine k_sub [0, 1, 2, 3, 4, 5, 6, 7, 8, 9, 10] [(0, .ref (ad 40 0)), (1, .int a1), (2, .int a2), (3, .int r_5), (4, .long v4_6), (6, .int v6_8), (7, .long v7_8), (9, .long v9_8), (11, .long v11_8), (13, .int v13_8), (14, .int v14_8)] rfl ?_
                        exact j_12 v6_8 v7_8 v9_8 S_10 hw
                      · have hw := hw.2 q_18
                        refine k_lload (pc := 123) C dX10_jump_123 8 rfl ?_
                        refine k_iload_n (pc := 125) C dX10_jump_125 3 rfl rfl ?_
                        refine k_iload (pc := 126) C dX10_jump_126 9 rfl ?_
                        refine k_isub (pc := 128) C dX10_jump_128 ?_
                        refine k_i2l (pc := 129) C dX10_jump_129 ?_
                        refine k_lmul (pc := 130) C dX10_jump_130 ?_
                        refine k_lload (pc := 131) C dX10_jump_131 4 rfl ?_
                        refine k_lload (pc := 133) C dX10_jump_133 8 rfl ?_
                        refine k_lsub (pc := 135) C dX10_jump_135 ?_
                        refine k_iload (pc := 136) C dX10_jump_136 9 rfl ?_
                        refine k_i2l (pc := 138) C dX10_jump_138 ?_
                        refine k_lmul (pc := 139) C dX10_jump_139 ?_
                        refine k_lsub (pc := 140) C dX10_jump_140 ?_
                        refine k_topl (fun x15_19 ex15_19 => ?_)
                        have hw := hw x15_19 ex15_19
                        refine k_lstore (pc := 141) C dX10_jump_141 (by decide) [(15, .long x15_19), (0, .ref (ad 40 0)), (1, .int a1), (2, .int a2), (3, .int r_5), (4, .long v4_6), (6, .int v6_8), (7, .long v7_8), (9, .long v9_8), (11, .long v11_8), (13, .int v13_8), (14, .int v14_8)] rfl ?_
                        refine k_lload (pc := 143) C dX10_jump_143 0 rfl ?_
                        refine k_lconst (v := 0) (pc := 145) C dX10_jump_145 (by decide) ?_
                        obtain ⟨J_20, hj_20, hw⟩ := hw
                        have j_20 : ∀ (t0_20 : Int64) (S_20 : Sg), J_20 t0_20 S_20 → KK p l e (mkR 4 91) s m args below meth c 19 D cA ad A Q 158 [(0, .ref (ad 40 0)), (1, .int a1), (2, .int a2), (3, .int r_5), (4, .long v4_6), (6, .int v6_8), (7, .long v7_8), (9, .long v9_8), (11, .long v11_8), (13, .int v13_8), (14, .int v14_8)] [.long t0_20] S_20 := by
                          intro t0_20 S_20 hw
                          have hw := hj_20 t0_20 S_20 hw
                          refine k_lstore (pc := 158) C dX10_jump_158 (by decide) [(15, .long t0_20), (0, .ref (ad 40 0)), (1, .int a1), (2, .int a2), (3, .int r_5), (4, .long v4_6), (6, .int v6_8), (7, .long v7_8), (9, .long v9_8), (11, .long v11_8), (13, .int v13_8), (14, .int v14_8)] rfl ?_
                          refine k_iload (pc := 160) C dX10_jump_160 10 rfl ?_
                          refine k_i2l (pc := 162) C dX10_jump_162 ?_
                          refine k_iload_n (pc := 163) C dX10_jump_163 4 rfl rfl ?_
                          refine k_iload (pc := 164) C dX10_jump_164 10 rfl ?_
                          refine k_isub (pc := 166) C dX10_jump_166 ?_
                          refine k_i2l (pc := 167) C dX10_jump_167 ?_
                          refine k_lmul (pc := 168) C dX10_jump_168 ?_
                          refine k_topl (fun x17_21 ex17_21 => ?_)
                          have hw := hw x17_21 ex17_21
                          refine k_lstore (pc := 169) C dX10_jump_169 (by decide) [(17, .long x17_21), (15, .long t0_20), (0, .ref (ad 40 0)), (1, .int a1), (2, .int a2), (3, .int r_5), (4, .long v4_6), (6, .int v6_8), (7, .long v7_8), (9, .long v9_8), (11, .long v11_8), (13, .int v13_8), (14, .int v14_8)] rfl ?_
                          refine k_iload (pc := 171) C dX10_jump_171 7 rfl ?_
                          obtain ⟨J_22, hj_22, hw⟩ := hw
                          have j_22 : ∀ (S_22 : Sg), J_22 S_22 → KK p l e (mkR 4 91) s m args below meth c 19 D cA ad A Q 190 [(0, .ref (ad 40 0)), (1, .int a1), (2, .int a2), (3, .int r_5), (4, .long v4_6), (11, .long v11_8), (13, .int v13_8), (14, .int v14_8), (15, .long t0_20), (17, .long x17_21)] [] S_22 := by
                            intro S_22 hw
                            have hw := hj_22 S_22 hw
                            refine k_iload (pc := 190) C dX10_jump_190 7 rfl ?_
                            refine k_istore (pc := 192) C dX10_jump_192 (by decide) [(6, .int v14_8), (0, .ref (ad 40 0)), (1, .int a1), (2, .int a2), (3, .int r_5), (4, .long v4_6), (11, .long v11_8), (13, .int v13_8), (14, .int v14_8), (15, .long t0_20), (17, .long x17_21)] rfl ?_
                            refine k_lload (pc := 194) C dX10_jump_194 9 rfl ?_
                            refine k_lstore (pc := 196) C dX10_jump_196 (by decide) [(7, .long t0_20), (6, .int v14_8), (0, .ref (ad 40 0)), (1, .int a1), (2, .int a2), (3, .int r_5), (4, .long v4_6), (11, .long v11_8), (13, .int v13_8), (14, .int v14_8), (15, .long t0_20), (17, .long x17_21)] rfl ?_
                            refine k_lload (pc := 198) C dX10_jump_198 11 rfl ?_
                            refine k_lstore (pc := 200) C dX10_jump_200 (by decide) [(9, .long x17_21), (7, .long t0_20), (6, .int v14_8), (0, .ref (ad 40 0)), (1, .int a1), (2, .int a2), (3, .int r_5), (4, .long v4_6), (11, .long v11_8), (13, .int v13_8), (14, .int v14_8), (15, .long t0_20), (17, .long x17_21)] rfl ?_
                            refine k_sub [3, 4, 5, 6, 7, 2, 1, 0, 8, 9, 10] [(0, .ref (ad 40 0)), (1, .int a1), (2, .int a2), (3, .int r_5), (4, .long v4_6), (6, .int v14_8), (7, .long t0_20), (9, .long x17_21), (11, .long v11_8), (13, .int v13_8), (14, .int v14_8)] rfl ?_
                            exact j_12 v14_8 t0_20 x17_21 S_22 hw
                          refine k_if_lt (pc := 173) C 190 dX10_jump_173 (by decide) (fun q_23 => ?_) (fun q_23 => ?_)
                          · have hw := hw.1 q_23
                            refine k_sub [2, 3, 4, 5, 6, 10, 11, 12, 1, 0] [(0, .ref (ad 40 0)), (1, .int a1), (2, .int a2), (3, .int r_5), (4, .long v4_6), (11, .long v11_8), (13, .int v13_8), (14, .int v14_8), (15, .long t0_20), (17, .long x17_21)] rfl ?_
                            exact j_22 S_20 hw
                          · have hw := hw.2 q_23
                            refine k_lload (pc := 176) C dX10_jump_176 1 rfl ?_
                            refine k_lload (pc := 178) C dX10_jump_178 9 rfl ?_
                            refine k_lmul (pc := 180) C dX10_jump_180 ?_
                            refine k_lload (pc := 181) C dX10_jump_181 8 rfl ?_
                            refine k_lload (pc := 183) C dX10_jump_183 0 rfl ?_
                            refine k_lmul (pc := 185) C dX10_jump_185 ?_
                            refine k_lif_le (pc := 186) C 202 dX10_jump_186 dX10_jump_187 (by decide) (fun q_24 => ?_) (fun q_24 => ?_)
                            · have hw := hw.1 q_24
                              refine k_sub [2, 3, 4, 5, 6, 7, 8, 9, 10, 11, 12] [(0, .ref (ad 40 0)), (1, .int a1), (2, .int a2), (3, .int r_5), (4, .long v4_6), (6, .int v6_8), (7, .long v7_8), (9, .long v9_8), (11, .long v11_8), (13, .int v13_8), (14, .int v14_8)] rfl ?_
                              exact j_12 v6_8 v7_8 v9_8 S_20 hw
                            · have hw := hw.2 q_24
                              refine k_sub [2, 3, 4, 5, 6, 10, 11, 12, 1, 0] [(0, .ref (ad 40 0)), (1, .int a1), (2, .int a2), (3, .int r_5), (4, .long v4_6), (11, .long v11_8), (13, .int v13_8), (14, .int v14_8), (15, .long t0_20), (17, .long x17_21)] rfl ?_
                              exact j_22 S_20 hw
                        refine k_lif_ge (pc := 146) C 156 dX10_jump_146 dX10_jump_147 (by decide) (fun q_25 => ?_) (fun q_25 => ?_)
                        · have hw := hw.1 q_25
                          refine k_lload (pc := 156) C dX10_jump_156 0 rfl ?_
                          refine k_sub [1, 2, 3, 4, 5, 6, 7, 8, 9, 10, 11] [(0, .ref (ad 40 0)), (1, .int a1), (2, .int a2), (3, .int r_5), (4, .long v4_6), (6, .int v6_8), (7, .long v7_8), (9, .long v9_8), (11, .long v11_8), (13, .int v13_8), (14, .int v14_8)] rfl ?_
                          exact j_20 x15_19 S_10 hw
                        · have hw := hw.2 q_25
                          refine k_lload (pc := 150) C dX10_jump_150 0 rfl ?_
                          refine k_lneg (pc := 152) C dX10_jump_152 ?_
                          refine k_goto (pc := 153) C 158 dX10_jump_153 (by decide) ?_
                          refine k_sub [1, 2, 3, 4, 5, 6, 7, 8, 9, 10, 11] [(0, .ref (ad 40 0)), (1, .int a1), (2, .int a2), (3, .int r_5), (4, .long v4_6), (6, .int v6_8), (7, .long v7_8), (9, .long v9_8), (11, .long v11_8), (13, .int v13_8), (14, .int v14_8)] rfl ?_
                          exact j_20 (-x15_19) S_10 hw
                  · have hw := hw.2 q_11
                    refine k_goto (pc := 106) C 218 dX10_jump_106 (by decide) ?_
                    obtain ⟨x14_26, ex14_26⟩ : ∃ y : Int32, y = v14_8 + 1 := ⟨_, rfl⟩
                    have hw := hw x14_26 ex14_26
                    refine k_iinc (v := x14_26) (j := 10) (pc := 218) C dX10_jump_218 rfl (by rw [ex14_26]; rfl) (by decide) [(14, .int x14_26), (0, .ref (ad 40 0)), (1, .int a1), (2, .int a2), (3, .int r_5), (4, .long v4_6), (6, .int v6_8), (7, .long v7_8), (9, .long v9_8), (11, .long v11_8), (13, .int v13_8)] rfl ?_
                    refine k_goto (pc := 221) C 89 dX10_jump_221 (by decide) ?_
                    refine k_sub [1, 2, 3, 4, 5, 6, 7, 8, 9, 10, 0] [(0, .ref (ad 40 0)), (1, .int a1), (2, .int a2), (3, .int r_5), (4, .long v4_6), (6, .int v6_8), (7, .long v7_8), (9, .long v9_8), (11, .long v11_8), (13, .int v13_8), (14, .int x14_26)] rfl ?_
                    exact ih_8 v6_8 v7_8 v9_8 v11_8 v13_8 x14_26 S_10 (Nat.lt_of_lt_of_le hw.2 (Nat.le_of_lt_succ hn_8)) hw.1
            exact L_8 (μ_8 (-4) 0 1 0 0 0 S_6 + 1) (-4) 0 1 0 0 0 S_6 (Nat.lt_succ_self _) hi_8
          · have hw := hw.2 q_7
            refine k_lload (pc := 37) C dX10_jump_37 4 rfl ?_
            refine k_aload_n (pc := 39) C dX10_jump_39 0 rfl rfl ?_
            refine k_iload_n (pc := 40) C dX10_jump_40 1 rfl rfl ?_
            refine k_iload (pc := 41) C dX10_jump_41 5 rfl ?_
            refine k_callVi (pc := 43) C (ct_X10_isCleared l D cA ad a1 v6_6 S_6 _ hw) (cwV 2 C.2.2.2.2.1 gX10_jump_X10_isCleared rfl rfl rfl (by decide +kernel) ⟨Nat.le_of_ble_eq_true rfl, Nat.le_of_ble_eq_true rfl⟩) hm_40 (cel_40 cA ad S_6 0) rfl rfl rfl rfl (Nat.le_of_ble_eq_true rfl) dX10_jump_43 (fun r_27 S_27 hw => ?_)
            refine k_if_eq (pc := 46) C 60 dX10_jump_46 (by decide) (fun q_28 => ?_) (fun q_28 => ?_)
            · have hw := hw.1 q_28
              refine k_lconst (v := 0) (pc := 60) C dX10_jump_60 (by decide) ?_
              refine k_ladd (pc := 61) C dX10_jump_61 ?_
              refine k_topl (fun x4_29 ex4_29 => ?_)
              have hw := hw x4_29 ex4_29
              refine k_lstore (pc := 62) C dX10_jump_62 (by decide) [(4, .long x4_29), (0, .ref (ad 40 0)), (1, .int a1), (2, .int a2), (3, .int r_5), (6, .int v6_6)] rfl ?_
              obtain ⟨x6_30, ex6_30⟩ : ∃ y : Int32, y = v6_6 + 1 := ⟨_, rfl⟩
              have hw := hw x6_30 ex6_30
              refine k_iinc (v := x6_30) (j := 5) (pc := 64) C dX10_jump_64 rfl (by rw [ex6_30]; rfl) (by decide) [(6, .int x6_30), (4, .long x4_29), (0, .ref (ad 40 0)), (1, .int a1), (2, .int a2), (3, .int r_5)] rfl ?_
              refine k_goto (pc := 67) C 30 dX10_jump_67 (by decide) ?_
              refine k_sub [2, 3, 4, 5, 1, 0] [(0, .ref (ad 40 0)), (1, .int a1), (2, .int a2), (3, .int r_5), (4, .long x4_29), (6, .int x6_30)] rfl ?_
              exact ih_6 x4_29 x6_30 S_27 (Nat.lt_of_lt_of_le hw.2 (Nat.le_of_lt_succ hn_6)) hw.1
            · have hw := hw.2 q_28
              refine k_aload_n (pc := 49) C dX10_jump_49 0 rfl rfl ?_
              refine k_iload_n (pc := 50) C dX10_jump_50 1 rfl rfl ?_
              refine k_iload (pc := 51) C dX10_jump_51 5 rfl ?_
              refine k_iload_n (pc := 53) C dX10_jump_53 2 rfl rfl ?_
              refine k_callVl (pc := 54) C (ct_X10_clear l D cA ad a1 v6_6 a2 S_27 _ hw) (cwV 3 C.2.2.2.2.1 gX10_jump_X10_clear rfl rfl rfl (by decide +kernel) ⟨Nat.le_of_ble_eq_true rfl, Nat.le_of_ble_eq_true rfl⟩) hm_40 (cel_40 cA ad S_27 0) rfl rfl rfl rfl (Nat.le_of_ble_eq_true rfl) dX10_jump_54 (fun r_31 S_31 hw => ?_)
              refine k_goto (pc := 57) C 61 dX10_jump_57 (by decide) ?_
              refine k_ladd (pc := 61) C dX10_jump_61 ?_
              refine k_topl (fun x4_32 ex4_32 => ?_)
              have hw := hw x4_32 ex4_32
              refine k_lstore (pc := 62) C dX10_jump_62 (by decide) [(4, .long x4_32), (0, .ref (ad 40 0)), (1, .int a1), (2, .int a2), (3, .int r_5), (6, .int v6_6)] rfl ?_
              obtain ⟨x6_33, ex6_33⟩ : ∃ y : Int32, y = v6_6 + 1 := ⟨_, rfl⟩
              have hw := hw x6_33 ex6_33
              refine k_iinc (v := x6_33) (j := 5) (pc := 64) C dX10_jump_64 rfl (by rw [ex6_33]; rfl) (by decide) [(6, .int x6_33), (4, .long x4_32), (0, .ref (ad 40 0)), (1, .int a1), (2, .int a2), (3, .int r_5)] rfl ?_
              refine k_goto (pc := 67) C 30 dX10_jump_67 (by decide) ?_
              refine k_sub [2, 3, 4, 5, 1, 0] [(0, .ref (ad 40 0)), (1, .int a1), (2, .int a2), (3, .int r_5), (4, .long x4_32), (6, .int x6_33)] rfl ?_
              exact ih_6 x4_32 x6_33 S_31 (Nat.lt_of_lt_of_le hw.2 (Nat.le_of_lt_succ hn_6)) hw.1
      exact L_6 (μ_6 0 0 S_5 + 1) 0 0 S_5 (Nat.lt_succ_self _) hi_6
    · have hw := hw.2 q_4
      refine k_iconst (v := (-1)) (pc := 16) C dX10_jump_16 (by decide) ?_
      exact hret _ _ _ _ dX10_jump_17 hw
def wp_X10_firstOf (a1 : Int32) (a2 : Int32) (S : Sg) (Q : Int64 → Sg → Prop) : Prop :=
  (∃ (I_1 : Int32 → Sg → Prop) (μ_1 : Int32 → Sg → Nat), I_1 0 S ∧ ∀ (v3_1 : Int32) (S_1 : Sg), I_1 v3_1 S_1 → wp_X10_isCleared a1 v3_1 S_1 (fun r_2 S_2 => ((¬ r_2 = 0 → wp_X10_clear a1 v3_1 a2 S_2 (fun r_4 S_4 => Q r_4 S_4)) ∧ (r_2 = 0 → (∀ x3_5 : Int32, x3_5 = v3_1 + 1 → (I_1 x3_5 S_2 ∧ μ_1 x3_5 S_2 < μ_1 v3_1 S_1))))))
set_option maxHeartbeats 4000000 in
set_option maxRecDepth 100000 in
theorem ct_X10_firstOf (l : Launch) (D : va_G) (cA : Nat → ClassId) (ad : Nat → Nat → Nat) (a1 : Int32) (a2 : Int32) (S : Sg) (Q : Int64 → Sg → Prop) (hw : wp_X10_firstOf a1 a2 S Q) : CtL l yX10_firstOf wsX10_firstOf (mkR 3 74) D cA ad [.ref (ad 40 0), .int a1, .int a2] S Q := by
  refine ct_ofL (cc := cX10_firstOf) (nL := 4) (by decide) rfl (Nat.le_of_ble_eq_true rfl) ?_
  intro p e s m args below meth c A Q C hret
  unfold wp_X10_firstOf at hw
  have C : Cx p s m args c cX10_firstOf 4 wsX10_firstOf RX10 D cA A := C
  change KK p l e (mkR 3 74) s m args below meth c 4 D cA ad A Q 0 [(0, .ref (ad 40 0)), (1, .int a1), (2, .int a2)] [] S
  refine k_iconst (v := 0) (pc := 0) C dX10_firstOf_0 (by decide) ?_
  refine k_istore_n (pc := 1) C dX10_firstOf_1 rfl (by decide) [(3, .int 0), (0, .ref (ad 40 0)), (1, .int a1), (2, .int a2)] rfl ?_
  refine k_sub [1, 2, 3, 0] [(0, .ref (ad 40 0)), (1, .int a1), (2, .int a2), (3, .int 0)] rfl ?_
  obtain ⟨I_1, μ_1, hi_1, hw⟩ := hw
  have L_1 : ∀ (n : Nat) (v3_1 : Int32) (S_1 : Sg), μ_1 v3_1 S_1 < n → I_1 v3_1 S_1 → KK p l e (mkR 3 74) s m args below meth c 4 D cA ad A Q 2 [(0, .ref (ad 40 0)), (1, .int a1), (2, .int a2), (3, .int v3_1)] [] S_1 := by
    intro n
    induction n with
    | zero => intro v3_1 S_1 h; exact absurd h (Nat.not_lt_zero _)
    | succ n ih_1 =>
      intro v3_1 S_1 hn_1 hi_1
      have hw := hw v3_1 S_1 hi_1
      refine k_aload_n (pc := 2) C dX10_firstOf_2 0 rfl rfl ?_
      refine k_iload_n (pc := 3) C dX10_firstOf_3 1 rfl rfl ?_
      refine k_iload_n (pc := 4) C dX10_firstOf_4 3 rfl rfl ?_
      refine k_callVi (pc := 5) C (ct_X10_isCleared l D cA ad a1 v3_1 S_1 _ hw) (cwV 2 C.2.2.2.2.1 gX10_firstOf_X10_isCleared rfl rfl rfl (by decide +kernel) ⟨Nat.le_of_ble_eq_true rfl, Nat.le_of_ble_eq_true rfl⟩) hm_40 (cel_40 cA ad S_1 0) rfl rfl rfl rfl (Nat.le_of_ble_eq_true rfl) dX10_firstOf_5 (fun r_2 S_2 hw => ?_)
      refine k_if_ne (pc := 8) C 17 dX10_firstOf_8 (by decide) (fun q_3 => ?_) (fun q_3 => ?_)
      · have hw := hw.1 q_3
        refine k_aload_n (pc := 17) C dX10_firstOf_17 0 rfl rfl ?_
        refine k_iload_n (pc := 18) C dX10_firstOf_18 1 rfl rfl ?_
        refine k_iload_n (pc := 19) C dX10_firstOf_19 3 rfl rfl ?_
        refine k_iload_n (pc := 20) C dX10_firstOf_20 2 rfl rfl ?_
        refine k_callVl (pc := 21) C (ct_X10_clear l D cA ad a1 v3_1 a2 S_2 _ hw) (cwV 3 C.2.2.2.2.1 gX10_firstOf_X10_clear rfl rfl rfl (by decide +kernel) ⟨Nat.le_of_ble_eq_true rfl, Nat.le_of_ble_eq_true rfl⟩) hm_40 (cel_40 cA ad S_2 0) rfl rfl rfl rfl (Nat.le_of_ble_eq_true rfl) dX10_firstOf_21 (fun r_4 S_4 hw => ?_)
        exact hret _ _ _ _ dX10_firstOf_24 hw
      · have hw := hw.2 q_3
        obtain ⟨x3_5, ex3_5⟩ : ∃ y : Int32, y = v3_1 + 1 := ⟨_, rfl⟩
        have hw := hw x3_5 ex3_5
        refine k_iinc (v := x3_5) (j := 3) (pc := 11) C dX10_firstOf_11 rfl (by rw [ex3_5]; rfl) (by decide) [(3, .int x3_5), (0, .ref (ad 40 0)), (1, .int a1), (2, .int a2)] rfl ?_
        refine k_goto (pc := 14) C 2 dX10_firstOf_14 (by decide) ?_
        refine k_sub [1, 2, 3, 0] [(0, .ref (ad 40 0)), (1, .int a1), (2, .int a2), (3, .int x3_5)] rfl ?_
        exact ih_1 x3_5 S_2 (Nat.lt_of_lt_of_le hw.2 (Nat.le_of_lt_succ hn_1)) hw.1
  exact L_1 (μ_1 0 S + 1) 0 S (Nat.lt_succ_self _) hi_1
def wp_X10_common (a1 : Int32) (a2 : Int32) (S : Sg) (Q : Int64 → Sg → Prop) : Prop :=
  (∃ (I_1 : Int32 → Int64 → Int32 → Sg → Prop) (μ_1 : Int32 → Int64 → Int32 → Sg → Nat), I_1 0 0 0 S ∧ ∀ (v3_1 : Int32) (v4_1 : Int64) (v6_1 : Int32) (S_1 : Sg), I_1 v3_1 v4_1 v6_1 S_1 → (∃ J_2 : Sg → Prop, (∀ (S_2 : Sg), J_2 S_2 → wp_X10_isEpoch a1 S_2 (fun r_3 S_3 => (∃ J_4 : Int32 → Sg → Prop, (∀ (t0_4 : Int32) (S_4 : Sg), J_4 t0_4 S_4 → (∀ S_5 : Sg, S_5 = uI S_4 40 0 0 t0_4 → (((gI S_5 40 0 0) ≤ 0 → ((¬ (Int32.toInt64 v3_1) = 0) ∧ Q (v4_1 / (Int32.toInt64 v3_1)) S_5)) ∧ (¬ (gI S_5 40 0 0) ≤ 0 → Q 0 S_5)))) ∧ (∃ J_8 : Sg → Prop, (∀ (S_8 : Sg), J_8 S_8 → J_4 1 S_8) ∧ ((r_3 = 0 → J_8 S_3) ∧ (¬ r_3 = 0 → wp_X10_isSide a2 S_3 (fun r_10 S_10 => ((¬ r_10 = 0 → ((¬ v3_1 = 0 → J_4 0 S_10) ∧ (v3_1 = 0 → J_4 2 S_10))) ∧ (r_10 = 0 → J_8 S_10))))))))) ∧ (((gI S_1 40 0 1) ≤ v6_1 → J_2 S_1) ∧ (¬ (gI S_1 40 0 1) ≤ v6_1 → wp_X10_isEpoch a1 S_1 (fun r_14 S_14 => ((r_14 = 0 → J_2 S_14) ∧ (¬ r_14 = 0 → wp_X10_isSide a2 S_14 (fun r_16 S_16 => ((r_16 = 0 → J_2 S_16) ∧ (¬ r_16 = 0 → wp_X10_isCleared v6_1 a1 S_16 (fun r_18 S_18 => ((¬ r_18 = 0 → wp_X10_clear v6_1 a1 a2 S_18 (fun r_20 S_20 => wp_X10_firstOf v6_1 a2 S_20 (fun r_21 S_21 => (∀ x4_22 : Int64, x4_22 = (v4_1 + (r_20 - r_21)) → (∀ x3_23 : Int32, x3_23 = v3_1 + 1 → (∀ x6_24 : Int32, x6_24 = v6_1 + 1 → (I_1 x3_23 x4_22 x6_24 S_21 ∧ μ_1 x3_23 x4_22 x6_24 S_21 < μ_1 v3_1 v4_1 v6_1 S_1))))))) ∧ (r_18 = 0 → (∀ x6_25 : Int32, x6_25 = v6_1 + 1 → (I_1 v3_1 v4_1 x6_25 S_18 ∧ μ_1 v3_1 v4_1 x6_25 S_18 < μ_1 v3_1 v4_1 v6_1 S_1)))))))))))))))
set_option maxHeartbeats 4000000 in
set_option maxRecDepth 100000 in
theorem ct_X10_common (l : Launch) (D : va_G) (cA : Nat → ClassId) (ad : Nat → Nat → Nat) (a1 : Int32) (a2 : Int32) (S : Sg) (Q : Int64 → Sg → Prop) (hw : wp_X10_common a1 a2 S Q) : CtL l yX10_common wsX10_common (mkR 4 97) D cA ad [.ref (ad 40 0), .int a1, .int a2] S Q := by
  refine ct_ofL (cc := cX10_common) (nL := 7) (by decide) rfl (Nat.le_of_ble_eq_true rfl) ?_
  intro p e s m args below meth c A Q C hret
  unfold wp_X10_common at hw
  have C : Cx p s m args c cX10_common 7 wsX10_common RX10 D cA A := C
  have hin : ∀ w ∈ u_ws RX10 TX10 33, w ∈ wsX10_common := fun w h => List.mem_cons_of_mem _ (List.mem_append_right _ h)
  have f13 : Cond.fieldLink RX10 13 "CreepBoardModel" "marks" "I" ∈ wsX10_common := by decide +kernel
  have f7 : Cond.fieldLink RX10 7 "CreepBoardModel" "thrown" "I" ∈ wsX10_common := by decide +kernel
  change KK p l e (mkR 4 97) s m args below meth c 7 D cA ad A Q 0 [(0, .ref (ad 40 0)), (1, .int a1), (2, .int a2)] [] S
  refine k_iconst (v := 0) (pc := 0) C dX10_common_0 (by decide) ?_
  refine k_istore_n (pc := 1) C dX10_common_1 rfl (by decide) [(3, .int 0), (0, .ref (ad 40 0)), (1, .int a1), (2, .int a2)] rfl ?_
  refine k_lconst (v := 0) (pc := 2) C dX10_common_2 (by decide) ?_
  refine k_lstore (pc := 3) C dX10_common_3 (by decide) [(4, .long 0), (3, .int 0), (0, .ref (ad 40 0)), (1, .int a1), (2, .int a2)] rfl ?_
  refine k_iconst (v := 0) (pc := 5) C dX10_common_5 (by decide) ?_
  refine k_istore (pc := 6) C dX10_common_6 (by decide) [(6, .int 0), (4, .long 0), (3, .int 0), (0, .ref (ad 40 0)), (1, .int a1), (2, .int a2)] rfl ?_
  refine k_sub [3, 4, 5, 2, 1, 0] [(0, .ref (ad 40 0)), (1, .int a1), (2, .int a2), (3, .int 0), (4, .long 0), (6, .int 0)] rfl ?_
  obtain ⟨I_1, μ_1, hi_1, hw⟩ := hw
  have L_1 : ∀ (n : Nat) (v3_1 : Int32) (v4_1 : Int64) (v6_1 : Int32) (S_1 : Sg), μ_1 v3_1 v4_1 v6_1 S_1 < n → I_1 v3_1 v4_1 v6_1 S_1 → KK p l e (mkR 4 97) s m args below meth c 7 D cA ad A Q 8 [(0, .ref (ad 40 0)), (1, .int a1), (2, .int a2), (3, .int v3_1), (4, .long v4_1), (6, .int v6_1)] [] S_1 := by
    intro n
    induction n with
    | zero => intro v3_1 v4_1 v6_1 S_1 h; exact absurd h (Nat.not_lt_zero _)
    | succ n ih_1 =>
      intro v3_1 v4_1 v6_1 S_1 hn_1 hi_1
      have hw := hw v3_1 v4_1 v6_1 S_1 hi_1
      refine k_iload (pc := 8) C dX10_common_8 5 rfl ?_
      refine k_aload_n (pc := 10) C dX10_common_10 0 rfl rfl ?_
      refine k_get (j := 1) (pc := 11) C hin hm_40 (cel_40 cA ad S_1 0) rfl (by decide) f13 (fun _ h => h) rfl dX10_common_11 ?_
      obtain ⟨J_2, hj_2, hw⟩ := hw
      have j_2 : ∀ (S_2 : Sg), J_2 S_2 → KK p l e (mkR 4 97) s m args below meth c 7 D cA ad A Q 76 [(0, .ref (ad 40 0)), (1, .int a1), (2, .int a2), (3, .int v3_1), (4, .long v4_1)] [] S_2 := by
        intro S_2 hw
        have hw := hj_2 S_2 hw
        refine k_aload_n (pc := 76) C dX10_common_76 0 rfl rfl ?_
        refine k_aload_n (pc := 77) C dX10_common_77 0 rfl rfl ?_
        refine k_iload_n (pc := 78) C dX10_common_78 1 rfl rfl ?_
        refine k_callVi (pc := 79) C (ct_X10_isEpoch l D cA ad a1 S_2 _ hw) (cwV 1 C.2.2.2.2.1 gX10_common_X10_isEpoch rfl rfl rfl (by decide +kernel) ⟨Nat.le_of_ble_eq_true rfl, Nat.le_of_ble_eq_true rfl⟩) hm_40 (cel_40 cA ad S_2 0) rfl rfl rfl rfl (Nat.le_of_ble_eq_true rfl) dX10_common_79 (fun r_3 S_3 hw => ?_)
        obtain ⟨J_4, hj_4, hw⟩ := hw
        have j_4 : ∀ (t0_4 : Int32) (S_4 : Sg), J_4 t0_4 S_4 → KK p l e (mkR 4 97) s m args below meth c 7 D cA ad A Q 106 [(0, .ref (ad 40 0)), (3, .int v3_1), (4, .long v4_1)] [.int t0_4, .ref (ad 40 0)] S_4 := by
          intro t0_4 S_4 hw
          have hw := hj_4 t0_4 S_4 hw
          refine k_put (S' := uI S_4 40 0 0 t0_4) (j := 0) (ty := .int) (pc := 106) C hin tyX10 tyX10_ok nmX10 hm_40 (cel_40 cA ad S_4 0) rfl (by decide) f7 (fun _ h => h) rfl (by decide +kernel) rfl rfl (Nat.le_of_ble_eq_true rfl) rfl rfl (fun a b h => cel_uI h) dX10_common_106 ?_
          refine k_nameS (fun S_5 eS_5 => ?_)
          have hw := hw S_5 eS_5
          refine k_aload_n (pc := 109) C dX10_common_109 0 rfl rfl ?_
          refine k_get (j := 0) (pc := 110) C hin hm_40 (cel_40 cA ad S_5 0) rfl (by decide) f7 (fun _ h => h) rfl dX10_common_110 ?_
          refine k_if_le (pc := 113) C 120 dX10_common_113 (by decide) (fun q_6 => ?_) (fun q_6 => ?_)
          · have hw := hw.1 q_6
            refine k_lload (pc := 120) C dX10_common_120 2 rfl ?_
            refine k_iload_n (pc := 122) C dX10_common_122 1 rfl rfl ?_
            refine k_i2l (pc := 123) C dX10_common_123 ?_
            obtain ⟨h_7, hw⟩ := hw
            refine k_ldiv (pc := 124) C dX10_common_124 h_7 ?_
            exact hret _ _ _ _ dX10_common_125 hw
          · have hw := hw.2 q_6
            refine k_lconst (v := 0) (pc := 116) C dX10_common_116 (by decide) ?_
            refine k_goto (pc := 117) C 125 dX10_common_117 (by decide) ?_
            exact hret _ _ _ _ dX10_common_125 hw
        obtain ⟨J_8, hj_8, hw⟩ := hw
        have j_8 : ∀ (S_8 : Sg), J_8 S_8 → KK p l e (mkR 4 97) s m args below meth c 7 D cA ad A Q 93 [(0, .ref (ad 40 0)), (3, .int v3_1), (4, .long v4_1)] [.ref (ad 40 0)] S_8 := by
          intro S_8 hw
          have hw := hj_8 S_8 hw
          refine k_iconst (v := 1) (pc := 93) C dX10_common_93 (by decide) ?_
          refine k_goto (pc := 94) C 106 dX10_common_94 (by decide) ?_
          refine k_sub [0, 1, 2] [(0, .ref (ad 40 0)), (3, .int v3_1), (4, .long v4_1)] rfl ?_
          exact j_4 1 S_8 hw
        refine k_if_eq (pc := 82) C 93 dX10_common_82 (by decide) (fun q_9 => ?_) (fun q_9 => ?_)
        · have hw := hw.1 q_9
          refine k_sub [0, 3, 4] [(0, .ref (ad 40 0)), (3, .int v3_1), (4, .long v4_1)] rfl ?_
          exact j_8 S_3 hw
        · have hw := hw.2 q_9
          refine k_aload_n (pc := 85) C dX10_common_85 0 rfl rfl ?_
          refine k_iload_n (pc := 86) C dX10_common_86 2 rfl rfl ?_
          refine k_callVi (pc := 87) C (ct_X10_isSide l D cA ad a2 S_3 _ hw) (cwV 1 C.2.2.2.2.1 gX10_common_X10_isSide rfl rfl rfl (by decide +kernel) ⟨Nat.le_of_ble_eq_true rfl, Nat.le_of_ble_eq_true rfl⟩) hm_40 (cel_40 cA ad S_3 0) rfl rfl rfl rfl (Nat.le_of_ble_eq_true rfl) dX10_common_87 (fun r_10 S_10 hw => ?_)
          refine k_if_ne (pc := 90) C 97 dX10_common_90 (by decide) (fun q_11 => ?_) (fun q_11 => ?_)
          · have hw := hw.1 q_11
            refine k_iload_n (pc := 97) C dX10_common_97 3 rfl rfl ?_
            refine k_if_ne (pc := 98) C 105 dX10_common_98 (by decide) (fun q_12 => ?_) (fun q_12 => ?_)
            · have hw := hw.1 q_12
              refine k_iconst (v := 0) (pc := 105) C dX10_common_105 (by decide) ?_
              refine k_sub [0, 3, 4] [(0, .ref (ad 40 0)), (3, .int v3_1), (4, .long v4_1)] rfl ?_
              exact j_4 0 S_10 hw
            · have hw := hw.2 q_12
              refine k_iconst (v := 2) (pc := 101) C dX10_common_101 (by decide) ?_
              refine k_goto (pc := 102) C 106 dX10_common_102 (by decide) ?_
              refine k_sub [0, 3, 4] [(0, .ref (ad 40 0)), (3, .int v3_1), (4, .long v4_1)] rfl ?_
              exact j_4 2 S_10 hw
          · have hw := hw.2 q_11
            refine k_sub [0, 3, 4] [(0, .ref (ad 40 0)), (3, .int v3_1), (4, .long v4_1)] rfl ?_
            exact j_8 S_10 hw
      refine k_icmp_ge (pc := 14) C 76 dX10_common_14 (by decide) (fun q_13 => ?_) (fun q_13 => ?_)
      · have hw := hw.1 q_13
        refine k_sub [0, 1, 2, 3, 4] [(0, .ref (ad 40 0)), (1, .int a1), (2, .int a2), (3, .int v3_1), (4, .long v4_1)] rfl ?_
        exact j_2 S_1 hw
      · have hw := hw.2 q_13
        refine k_aload_n (pc := 17) C dX10_common_17 0 rfl rfl ?_
        refine k_iload_n (pc := 18) C dX10_common_18 1 rfl rfl ?_
        refine k_callVi (pc := 19) C (ct_X10_isEpoch l D cA ad a1 S_1 _ hw) (cwV 1 C.2.2.2.2.1 gX10_common_X10_isEpoch rfl rfl rfl (by decide +kernel) ⟨Nat.le_of_ble_eq_true rfl, Nat.le_of_ble_eq_true rfl⟩) hm_40 (cel_40 cA ad S_1 0) rfl rfl rfl rfl (Nat.le_of_ble_eq_true rfl) dX10_common_19 (fun r_14 S_14 hw => ?_)
        refine k_if_eq (pc := 22) C 76 dX10_common_22 (by decide) (fun q_15 => ?_) (fun q_15 => ?_)
        · have hw := hw.1 q_15
          refine k_sub [0, 1, 2, 3, 4] [(0, .ref (ad 40 0)), (1, .int a1), (2, .int a2), (3, .int v3_1), (4, .long v4_1)] rfl ?_
          exact j_2 S_14 hw
        · have hw := hw.2 q_15
          refine k_aload_n (pc := 25) C dX10_common_25 0 rfl rfl ?_
          refine k_iload_n (pc := 26) C dX10_common_26 2 rfl rfl ?_
          refine k_callVi (pc := 27) C (ct_X10_isSide l D cA ad a2 S_14 _ hw) (cwV 1 C.2.2.2.2.1 gX10_common_X10_isSide rfl rfl rfl (by decide +kernel) ⟨Nat.le_of_ble_eq_true rfl, Nat.le_of_ble_eq_true rfl⟩) hm_40 (cel_40 cA ad S_14 0) rfl rfl rfl rfl (Nat.le_of_ble_eq_true rfl) dX10_common_27 (fun r_16 S_16 hw => ?_)
          refine k_if_eq (pc := 30) C 76 dX10_common_30 (by decide) (fun q_17 => ?_) (fun q_17 => ?_)
          · have hw := hw.1 q_17
            refine k_sub [0, 1, 2, 3, 4] [(0, .ref (ad 40 0)), (1, .int a1), (2, .int a2), (3, .int v3_1), (4, .long v4_1)] rfl ?_
            exact j_2 S_16 hw
          · have hw := hw.2 q_17
            refine k_aload_n (pc := 33) C dX10_common_33 0 rfl rfl ?_
            refine k_iload (pc := 34) C dX10_common_34 5 rfl ?_
            refine k_iload_n (pc := 36) C dX10_common_36 1 rfl rfl ?_
            refine k_callVi (pc := 37) C (ct_X10_isCleared l D cA ad v6_1 a1 S_16 _ hw) (cwV 2 C.2.2.2.2.1 gX10_common_X10_isCleared rfl rfl rfl (by decide +kernel) ⟨Nat.le_of_ble_eq_true rfl, Nat.le_of_ble_eq_true rfl⟩) hm_40 (cel_40 cA ad S_16 0) rfl rfl rfl rfl (Nat.le_of_ble_eq_true rfl) dX10_common_37 (fun r_18 S_18 hw => ?_)
            refine k_if_ne (pc := 40) C 46 dX10_common_40 (by decide) (fun q_19 => ?_) (fun q_19 => ?_)
            · have hw := hw.1 q_19
              refine k_lload (pc := 46) C dX10_common_46 4 rfl ?_
              refine k_aload_n (pc := 48) C dX10_common_48 0 rfl rfl ?_
              refine k_iload (pc := 49) C dX10_common_49 5 rfl ?_
              refine k_iload_n (pc := 51) C dX10_common_51 1 rfl rfl ?_
              refine k_iload_n (pc := 52) C dX10_common_52 2 rfl rfl ?_
              refine k_callVl (pc := 53) C (ct_X10_clear l D cA ad v6_1 a1 a2 S_18 _ hw) (cwV 3 C.2.2.2.2.1 gX10_common_X10_clear rfl rfl rfl (by decide +kernel) ⟨Nat.le_of_ble_eq_true rfl, Nat.le_of_ble_eq_true rfl⟩) hm_40 (cel_40 cA ad S_18 0) rfl rfl rfl rfl (Nat.le_of_ble_eq_true rfl) dX10_common_53 (fun r_20 S_20 hw => ?_)
              refine k_aload_n (pc := 56) C dX10_common_56 0 rfl rfl ?_
              refine k_iload (pc := 57) C dX10_common_57 5 rfl ?_
              refine k_iload_n (pc := 59) C dX10_common_59 2 rfl rfl ?_
              refine k_callVl (pc := 60) C (ct_X10_firstOf l D cA ad v6_1 a2 S_20 _ hw) (cwV 2 C.2.2.2.2.1 gX10_common_X10_firstOf rfl rfl rfl (by decide +kernel) ⟨Nat.le_of_ble_eq_true rfl, Nat.le_of_ble_eq_true rfl⟩) hm_40 (cel_40 cA ad S_20 0) rfl rfl rfl rfl (Nat.le_of_ble_eq_true rfl) dX10_common_60 (fun r_21 S_21 hw => ?_)
              refine k_lsub (pc := 63) C dX10_common_63 ?_
              refine k_ladd (pc := 64) C dX10_common_64 ?_
              refine k_topl (fun x4_22 ex4_22 => ?_)
              have hw := hw x4_22 ex4_22
              refine k_lstore (pc := 65) C dX10_common_65 (by decide) [(4, .long x4_22), (0, .ref (ad 40 0)), (1, .int a1), (2, .int a2), (3, .int v3_1), (6, .int v6_1)] rfl ?_
              obtain ⟨x3_23, ex3_23⟩ : ∃ y : Int32, y = v3_1 + 1 := ⟨_, rfl⟩
              have hw := hw x3_23 ex3_23
              refine k_iinc (v := x3_23) (j := 4) (pc := 67) C dX10_common_67 rfl (by rw [ex3_23]; rfl) (by decide) [(3, .int x3_23), (4, .long x4_22), (0, .ref (ad 40 0)), (1, .int a1), (2, .int a2), (6, .int v6_1)] rfl ?_
              obtain ⟨x6_24, ex6_24⟩ : ∃ y : Int32, y = v6_1 + 1 := ⟨_, rfl⟩
              have hw := hw x6_24 ex6_24
              refine k_iinc (v := x6_24) (j := 5) (pc := 70) C dX10_common_70 rfl (by rw [ex6_24]; rfl) (by decide) [(6, .int x6_24), (3, .int x3_23), (4, .long x4_22), (0, .ref (ad 40 0)), (1, .int a1), (2, .int a2)] rfl ?_
              refine k_goto (pc := 73) C 8 dX10_common_73 (by decide) ?_
              refine k_sub [3, 4, 5, 1, 2, 0] [(0, .ref (ad 40 0)), (1, .int a1), (2, .int a2), (3, .int x3_23), (4, .long x4_22), (6, .int x6_24)] rfl ?_
              exact ih_1 x3_23 x4_22 x6_24 S_21 (Nat.lt_of_lt_of_le hw.2 (Nat.le_of_lt_succ hn_1)) hw.1
            · have hw := hw.2 q_19
              refine k_goto (pc := 43) C 70 dX10_common_43 (by decide) ?_
              obtain ⟨x6_25, ex6_25⟩ : ∃ y : Int32, y = v6_1 + 1 := ⟨_, rfl⟩
              have hw := hw x6_25 ex6_25
              refine k_iinc (v := x6_25) (j := 5) (pc := 70) C dX10_common_70 rfl (by rw [ex6_25]; rfl) (by decide) [(6, .int x6_25), (0, .ref (ad 40 0)), (1, .int a1), (2, .int a2), (3, .int v3_1), (4, .long v4_1)] rfl ?_
              refine k_goto (pc := 73) C 8 dX10_common_73 (by decide) ?_
              refine k_sub [1, 2, 3, 4, 5, 0] [(0, .ref (ad 40 0)), (1, .int a1), (2, .int a2), (3, .int v3_1), (4, .long v4_1), (6, .int x6_25)] rfl ?_
              exact ih_1 v3_1 v4_1 x6_25 S_18 (Nat.lt_of_lt_of_le hw.2 (Nat.le_of_lt_succ hn_1)) hw.1
  exact L_1 (μ_1 0 0 0 S + 1) 0 0 0 S (Nat.lt_succ_self _) hi_1
def wp_X10_velocity (a1 : Int32) (a2 : Int32) (a3 : Int32) (S : Sg) (Q : Int32 → Sg → Prop) : Prop :=
  wp_X10_isMark a1 S (fun r_1 S_1 => ((r_1 = 0 → Q (-1) S_1) ∧ (¬ r_1 = 0 → wp_X10_in a2 (-1000) 1000 S_1 (fun r_3 S_3 => ((r_3 = 0 → Q (-1) S_3) ∧ (¬ r_3 = 0 → wp_X10_in a3 (-1000) 1000 S_3 (fun r_5 S_5 => ((¬ r_5 = 0 → (vp_in a1 10 ∧ (∃ J_8 : Int32 → Sg → Prop, (∀ (t0_8 : Int32) (S_8 : Sg), J_8 t0_8 S_8 → (vp_in a1 10 ∧ ∀ S_10 : Sg, S_10 = uA S_8 51 0 (Int32.toNatClampNeg a1) a2 → (vp_in a1 10 ∧ ∀ S_12 : Sg, S_12 = uA S_10 52 0 (Int32.toNatClampNeg a1) a3 → Q t0_8 S_12))) ∧ (∃ J_13 : Sg → Prop, (∀ (S_13 : Sg), J_13 S_13 → J_8 1 S_13) ∧ ((¬ (gA S_5 51 0 (Int32.toNatClampNeg a1)) = a2 → J_13 S_5) ∧ ((gA S_5 51 0 (Int32.toNatClampNeg a1)) = a2 → (vp_in a1 10 ∧ ((¬ (gA S_5 52 0 (Int32.toNatClampNeg a1)) = a3 → J_13 S_5) ∧ ((gA S_5 52 0 (Int32.toNatClampNeg a1)) = a3 → J_8 0 S_5))))))))) ∧ (r_5 = 0 → Q (-1) S_5)))))))))
set_option maxHeartbeats 4000000 in
set_option maxRecDepth 100000 in
theorem ct_X10_velocity (l : Launch) (D : va_G) (cA : Nat → ClassId) (ad : Nat → Nat → Nat) (a1 : Int32) (a2 : Int32) (a3 : Int32) (S : Sg) (Q : Int32 → Sg → Prop) (hw : wp_X10_velocity a1 a2 a3 S Q) : CtI l yX10_velocity wsX10_velocity (mkR 2 44) D cA ad [.ref (ad 40 0), .int a1, .int a2, .int a3] S Q := by
  refine ct_ofI (cc := cX10_velocity) (nL := 5) (by decide) rfl (Nat.le_of_ble_eq_true rfl) ?_
  intro p e s m args below meth c A Q C hret
  unfold wp_X10_velocity at hw
  have C : Cx p s m args c cX10_velocity 5 wsX10_velocity RX10 D cA A := C
  have hin : ∀ w ∈ u_ws RX10 TX10 33, w ∈ wsX10_velocity := fun w h => List.mem_cons_of_mem _ (List.mem_append_right _ h)
  have f48 : Cond.fieldLink RX10 48 "CreepBoardModel" "east" "[I" ∈ wsX10_velocity := by decide +kernel
  have f51 : Cond.fieldLink RX10 51 "CreepBoardModel" "north" "[I" ∈ wsX10_velocity := by decide +kernel
  change KK p l e (mkR 2 44) s m args below meth c 5 D cA ad A Q 0 [(0, .ref (ad 40 0)), (1, .int a1), (2, .int a2), (3, .int a3)] [] S
  refine k_aload_n (pc := 0) C dX10_velocity_0 0 rfl rfl ?_
  refine k_iload_n (pc := 1) C dX10_velocity_1 1 rfl rfl ?_
  refine k_callVi (pc := 2) C (ct_X10_isMark l D cA ad a1 S _ hw) (cwV 1 C.2.2.2.2.1 gX10_velocity_X10_isMark rfl rfl rfl (by decide +kernel) ⟨Nat.le_of_ble_eq_true rfl, Nat.le_of_ble_eq_true rfl⟩) hm_40 (cel_40 cA ad S 0) rfl rfl rfl rfl (Nat.le_of_ble_eq_true rfl) dX10_velocity_2 (fun r_1 S_1 hw => ?_)
  refine k_if_eq (pc := 5) C 36 dX10_velocity_5 (by decide) (fun q_2 => ?_) (fun q_2 => ?_)
  · have hw := hw.1 q_2
    refine k_iconst (v := (-1)) (pc := 36) C dX10_velocity_36 (by decide) ?_
    exact hret _ _ _ _ dX10_velocity_37 hw
  · have hw := hw.2 q_2
    refine k_aload_n (pc := 8) C dX10_velocity_8 0 rfl rfl ?_
    refine k_iload_n (pc := 9) C dX10_velocity_9 2 rfl rfl ?_
    refine k_sipush (v := (-1000)) (pc := 10) C dX10_velocity_10 (by decide) ?_
    refine k_sipush (v := 1000) (pc := 13) C dX10_velocity_13 (by decide) ?_
    refine k_callVi (pc := 16) C (ct_X10_in l D cA ad a2 (-1000) 1000 S_1 _ hw) (cwV 3 C.2.2.2.2.1 gX10_velocity_X10_in rfl rfl rfl (by decide +kernel) ⟨Nat.le_of_ble_eq_true rfl, Nat.le_of_ble_eq_true rfl⟩) hm_40 (cel_40 cA ad S_1 0) rfl rfl rfl rfl (Nat.le_of_ble_eq_true rfl) dX10_velocity_16 (fun r_3 S_3 hw => ?_)
    refine k_if_eq (pc := 19) C 36 dX10_velocity_19 (by decide) (fun q_4 => ?_) (fun q_4 => ?_)
    · have hw := hw.1 q_4
      refine k_iconst (v := (-1)) (pc := 36) C dX10_velocity_36 (by decide) ?_
      exact hret _ _ _ _ dX10_velocity_37 hw
    · have hw := hw.2 q_4
      refine k_aload_n (pc := 22) C dX10_velocity_22 0 rfl rfl ?_
      refine k_iload_n (pc := 23) C dX10_velocity_23 3 rfl rfl ?_
      refine k_sipush (v := (-1000)) (pc := 24) C dX10_velocity_24 (by decide) ?_
      refine k_sipush (v := 1000) (pc := 27) C dX10_velocity_27 (by decide) ?_
      refine k_callVi (pc := 30) C (ct_X10_in l D cA ad a3 (-1000) 1000 S_3 _ hw) (cwV 3 C.2.2.2.2.1 gX10_velocity_X10_in rfl rfl rfl (by decide +kernel) ⟨Nat.le_of_ble_eq_true rfl, Nat.le_of_ble_eq_true rfl⟩) hm_40 (cel_40 cA ad S_3 0) rfl rfl rfl rfl (Nat.le_of_ble_eq_true rfl) dX10_velocity_30 (fun r_5 S_5 hw => ?_)
      refine k_if_ne (pc := 33) C 38 dX10_velocity_33 (by decide) (fun q_6 => ?_) (fun q_6 => ?_)
      · have hw := hw.1 q_6
        refine k_aload_n (pc := 38) C dX10_velocity_38 0 rfl rfl ?_
        refine k_get (j := 12) (pc := 39) C hin hm_40 (cel_40 cA ad S_5 0) rfl (by decide) f48 (fun _ h => h) rfl dX10_velocity_39 ?_
        refine k_iload_n (pc := 42) C dX10_velocity_42 1 rfl rfl ?_
        obtain ⟨h_7, hw⟩ := hw
        refine k_iald (pc := 43) C hm_51 (cel_51 cA ad S_5 0) h_7 dX10_velocity_43 ?_
        refine k_iload_n (pc := 44) C dX10_velocity_44 2 rfl rfl ?_
        obtain ⟨J_8, hj_8, hw⟩ := hw
        have j_8 : ∀ (t0_8 : Int32) (S_8 : Sg), J_8 t0_8 S_8 → KK p l e (mkR 2 44) s m args below meth c 5 D cA ad A Q 63 [(0, .ref (ad 40 0)), (1, .int a1), (2, .int a2), (3, .int a3)] [.int t0_8] S_8 := by
          intro t0_8 S_8 hw
          have hw := hj_8 t0_8 S_8 hw
          refine k_istore (pc := 63) C dX10_velocity_63 (by decide) [(4, .int t0_8), (0, .ref (ad 40 0)), (1, .int a1), (2, .int a2), (3, .int a3)] rfl ?_
          refine k_aload_n (pc := 65) C dX10_velocity_65 1 rfl rfl ?_
          refine k_get (j := 12) (pc := 66) C hin hm_40 (cel_40 cA ad S_8 0) rfl (by decide) f48 (fun _ h => h) rfl dX10_velocity_66 ?_
          refine k_iload_n (pc := 69) C dX10_velocity_69 2 rfl rfl ?_
          refine k_iload_n (pc := 70) C dX10_velocity_70 3 rfl rfl ?_
          obtain ⟨h_9, hw⟩ := hw
          refine k_iast (pc := 71) C hm_51 (fun S => cel_51 cA ad S 0) h_9 dX10_velocity_71 ?_
          refine k_nameS (fun S_10 eS_10 => ?_)
          have hw := hw S_10 eS_10
          refine k_aload_n (pc := 72) C dX10_velocity_72 1 rfl rfl ?_
          refine k_get (j := 13) (pc := 73) C hin hm_40 (cel_40 cA ad S_10 0) rfl (by decide) f51 (fun _ h => h) rfl dX10_velocity_73 ?_
          refine k_iload_n (pc := 76) C dX10_velocity_76 2 rfl rfl ?_
          refine k_iload_n (pc := 77) C dX10_velocity_77 4 rfl rfl ?_
          obtain ⟨h_11, hw⟩ := hw
          refine k_iast (pc := 78) C hm_52 (fun S => cel_52 cA ad S 0) h_11 dX10_velocity_78 ?_
          refine k_nameS (fun S_12 eS_12 => ?_)
          have hw := hw S_12 eS_12
          refine k_iload (pc := 79) C dX10_velocity_79 0 rfl ?_
          exact hret _ _ _ _ dX10_velocity_81 hw
        obtain ⟨J_13, hj_13, hw⟩ := hw
        have j_13 : ∀ (S_13 : Sg), J_13 S_13 → KK p l e (mkR 2 44) s m args below meth c 5 D cA ad A Q 62 [(0, .ref (ad 40 0)), (1, .int a1), (2, .int a2), (3, .int a3)] [] S_13 := by
          intro S_13 hw
          have hw := hj_13 S_13 hw
          refine k_iconst (v := 1) (pc := 62) C dX10_velocity_62 (by decide) ?_
          refine k_sub [0, 1, 2, 3] [(0, .ref (ad 40 0)), (1, .int a1), (2, .int a2), (3, .int a3)] rfl ?_
          exact j_8 1 S_13 hw
        refine k_icmp_ne (pc := 45) C 62 dX10_velocity_45 (by decide) (fun q_14 => ?_) (fun q_14 => ?_)
        · have hw := hw.1 q_14
          refine k_sub [0, 1, 2, 3] [(0, .ref (ad 40 0)), (1, .int a1), (2, .int a2), (3, .int a3)] rfl ?_
          exact j_13 S_5 hw
        · have hw := hw.2 q_14
          refine k_aload_n (pc := 48) C dX10_velocity_48 0 rfl rfl ?_
          refine k_get (j := 13) (pc := 49) C hin hm_40 (cel_40 cA ad S_5 0) rfl (by decide) f51 (fun _ h => h) rfl dX10_velocity_49 ?_
          refine k_iload_n (pc := 52) C dX10_velocity_52 1 rfl rfl ?_
          obtain ⟨h_15, hw⟩ := hw
          refine k_iald (pc := 53) C hm_52 (cel_52 cA ad S_5 0) h_15 dX10_velocity_53 ?_
          refine k_iload_n (pc := 54) C dX10_velocity_54 3 rfl rfl ?_
          refine k_icmp_ne (pc := 55) C 62 dX10_velocity_55 (by decide) (fun q_16 => ?_) (fun q_16 => ?_)
          · have hw := hw.1 q_16
            refine k_sub [0, 1, 2, 3] [(0, .ref (ad 40 0)), (1, .int a1), (2, .int a2), (3, .int a3)] rfl ?_
            exact j_13 S_5 hw
          · have hw := hw.2 q_16
            refine k_iconst (v := 0) (pc := 58) C dX10_velocity_58 (by decide) ?_
            refine k_goto (pc := 59) C 63 dX10_velocity_59 (by decide) ?_
            refine k_sub [0, 1, 2, 3] [(0, .ref (ad 40 0)), (1, .int a1), (2, .int a2), (3, .int a3)] rfl ?_
            exact j_8 0 S_5 hw
      · have hw := hw.2 q_6
        refine k_iconst (v := (-1)) (pc := 36) C dX10_velocity_36 (by decide) ?_
        exact hret _ _ _ _ dX10_velocity_37 hw
def wp_X10_moves (a1 : Int32) (a2 : Int32) (S : Sg) (Q : Int64 → Sg → Prop) : Prop :=
  wp_X10_isMark a1 S (fun r_1 S_1 => (∃ J_2 : Int32 → Sg → Prop, (∀ (t0_2 : Int32) (S_2 : Sg), J_2 t0_2 S_2 → (∀ S_3 : Sg, S_3 = uI S_2 40 0 0 t0_2 → (((gI S_3 40 0 0) ≤ 0 → ((¬ a2 = 0 → (vp_in a1 10 ∧ Q (Int32.toInt64 (gA S_3 52 0 (Int32.toNatClampNeg a1))) S_3)) ∧ (a2 = 0 → (vp_in a1 10 ∧ Q (Int32.toInt64 (gA S_3 51 0 (Int32.toNatClampNeg a1))) S_3)))) ∧ (¬ (gI S_3 40 0 0) ≤ 0 → Q 0 S_3)))) ∧ (∃ J_8 : Sg → Prop, (∀ (S_8 : Sg), J_8 S_8 → J_2 1 S_8) ∧ ((r_1 = 0 → J_8 S_1) ∧ (¬ r_1 = 0 → wp_X10_isSide a2 S_1 (fun r_10 S_10 => ((r_10 = 0 → J_8 S_10) ∧ (¬ r_10 = 0 → J_2 0 S_10))))))))
set_option maxHeartbeats 4000000 in
set_option maxRecDepth 100000 in
theorem ct_X10_moves (l : Launch) (D : va_G) (cA : Nat → ClassId) (ad : Nat → Nat → Nat) (a1 : Int32) (a2 : Int32) (S : Sg) (Q : Int64 → Sg → Prop) (hw : wp_X10_moves a1 a2 S Q) : CtL l yX10_moves wsX10_moves (mkR 2 44) D cA ad [.ref (ad 40 0), .int a1, .int a2] S Q := by
  refine ct_ofL (cc := cX10_moves) (nL := 3) (by decide) rfl (Nat.le_of_ble_eq_true rfl) ?_
  intro p e s m args below meth c A Q C hret
  unfold wp_X10_moves at hw
  have C : Cx p s m args c cX10_moves 3 wsX10_moves RX10 D cA A := C
  have hin : ∀ w ∈ u_ws RX10 TX10 33, w ∈ wsX10_moves := fun w h => List.mem_cons_of_mem _ (List.mem_append_right _ h)
  have f7 : Cond.fieldLink RX10 7 "CreepBoardModel" "thrown" "I" ∈ wsX10_moves := by decide +kernel
  have f51 : Cond.fieldLink RX10 51 "CreepBoardModel" "north" "[I" ∈ wsX10_moves := by decide +kernel
  have f48 : Cond.fieldLink RX10 48 "CreepBoardModel" "east" "[I" ∈ wsX10_moves := by decide +kernel
  change KK p l e (mkR 2 44) s m args below meth c 3 D cA ad A Q 0 [(0, .ref (ad 40 0)), (1, .int a1), (2, .int a2)] [] S
  refine k_aload_n (pc := 0) C dX10_moves_0 0 rfl rfl ?_
  refine k_aload_n (pc := 1) C dX10_moves_1 0 rfl rfl ?_
  refine k_iload_n (pc := 2) C dX10_moves_2 1 rfl rfl ?_
  refine k_callVi (pc := 3) C (ct_X10_isMark l D cA ad a1 S _ hw) (cwV 1 C.2.2.2.2.1 gX10_moves_X10_isMark rfl rfl rfl (by decide +kernel) ⟨Nat.le_of_ble_eq_true rfl, Nat.le_of_ble_eq_true rfl⟩) hm_40 (cel_40 cA ad S 0) rfl rfl rfl rfl (Nat.le_of_ble_eq_true rfl) dX10_moves_3 (fun r_1 S_1 hw => ?_)
  obtain ⟨J_2, hj_2, hw⟩ := hw
  have j_2 : ∀ (t0_2 : Int32) (S_2 : Sg), J_2 t0_2 S_2 → KK p l e (mkR 2 44) s m args below meth c 3 D cA ad A Q 22 [(0, .ref (ad 40 0)), (1, .int a1), (2, .int a2)] [.int t0_2, .ref (ad 40 0)] S_2 := by
    intro t0_2 S_2 hw
    have hw := hj_2 t0_2 S_2 hw
    refine k_put (S' := uI S_2 40 0 0 t0_2) (j := 0) (ty := .int) (pc := 22) C hin tyX10 tyX10_ok nmX10 hm_40 (cel_40 cA ad S_2 0) rfl (by decide) f7 (fun _ h => h) rfl (by decide +kernel) rfl rfl (Nat.le_of_ble_eq_true rfl) rfl rfl (fun a b h => cel_uI h) dX10_moves_22 ?_
    refine k_nameS (fun S_3 eS_3 => ?_)
    have hw := hw S_3 eS_3
    refine k_aload_n (pc := 25) C dX10_moves_25 0 rfl rfl ?_
    refine k_get (j := 0) (pc := 26) C hin hm_40 (cel_40 cA ad S_3 0) rfl (by decide) f7 (fun _ h => h) rfl dX10_moves_26 ?_
    refine k_if_le (pc := 29) C 36 dX10_moves_29 (by decide) (fun q_4 => ?_) (fun q_4 => ?_)
    · have hw := hw.1 q_4
      refine k_iload_n (pc := 36) C dX10_moves_36 2 rfl rfl ?_
      refine k_if_ne (pc := 37) C 50 dX10_moves_37 (by decide) (fun q_5 => ?_) (fun q_5 => ?_)
      · have hw := hw.1 q_5
        refine k_aload_n (pc := 50) C dX10_moves_50 0 rfl rfl ?_
        refine k_get (j := 13) (pc := 51) C hin hm_40 (cel_40 cA ad S_3 0) rfl (by decide) f51 (fun _ h => h) rfl dX10_moves_51 ?_
        refine k_iload_n (pc := 54) C dX10_moves_54 1 rfl rfl ?_
        obtain ⟨h_6, hw⟩ := hw
        refine k_iald (pc := 55) C hm_52 (cel_52 cA ad S_3 0) h_6 dX10_moves_55 ?_
        refine k_i2l (pc := 56) C dX10_moves_56 ?_
        exact hret _ _ _ _ dX10_moves_57 hw
      · have hw := hw.2 q_5
        refine k_aload_n (pc := 40) C dX10_moves_40 0 rfl rfl ?_
        refine k_get (j := 12) (pc := 41) C hin hm_40 (cel_40 cA ad S_3 0) rfl (by decide) f48 (fun _ h => h) rfl dX10_moves_41 ?_
        refine k_iload_n (pc := 44) C dX10_moves_44 1 rfl rfl ?_
        obtain ⟨h_7, hw⟩ := hw
        refine k_iald (pc := 45) C hm_51 (cel_51 cA ad S_3 0) h_7 dX10_moves_45 ?_
        refine k_i2l (pc := 46) C dX10_moves_46 ?_
        refine k_goto (pc := 47) C 57 dX10_moves_47 (by decide) ?_
        exact hret _ _ _ _ dX10_moves_57 hw
    · have hw := hw.2 q_4
      refine k_lconst (v := 0) (pc := 32) C dX10_moves_32 (by decide) ?_
      refine k_goto (pc := 33) C 57 dX10_moves_33 (by decide) ?_
      exact hret _ _ _ _ dX10_moves_57 hw
  obtain ⟨J_8, hj_8, hw⟩ := hw
  have j_8 : ∀ (S_8 : Sg), J_8 S_8 → KK p l e (mkR 2 44) s m args below meth c 3 D cA ad A Q 21 [(0, .ref (ad 40 0)), (1, .int a1), (2, .int a2)] [.ref (ad 40 0)] S_8 := by
    intro S_8 hw
    have hw := hj_8 S_8 hw
    refine k_iconst (v := 1) (pc := 21) C dX10_moves_21 (by decide) ?_
    refine k_sub [0, 1, 2] [(0, .ref (ad 40 0)), (1, .int a1), (2, .int a2)] rfl ?_
    exact j_2 1 S_8 hw
  refine k_if_eq (pc := 6) C 21 dX10_moves_6 (by decide) (fun q_9 => ?_) (fun q_9 => ?_)
  · have hw := hw.1 q_9
    refine k_sub [0, 1, 2] [(0, .ref (ad 40 0)), (1, .int a1), (2, .int a2)] rfl ?_
    exact j_8 S_1 hw
  · have hw := hw.2 q_9
    refine k_aload_n (pc := 9) C dX10_moves_9 0 rfl rfl ?_
    refine k_iload_n (pc := 10) C dX10_moves_10 2 rfl rfl ?_
    refine k_callVi (pc := 11) C (ct_X10_isSide l D cA ad a2 S_1 _ hw) (cwV 1 C.2.2.2.2.1 gX10_moves_X10_isSide rfl rfl rfl (by decide +kernel) ⟨Nat.le_of_ble_eq_true rfl, Nat.le_of_ble_eq_true rfl⟩) hm_40 (cel_40 cA ad S_1 0) rfl rfl rfl rfl (Nat.le_of_ble_eq_true rfl) dX10_moves_11 (fun r_10 S_10 hw => ?_)
    refine k_if_eq (pc := 14) C 21 dX10_moves_14 (by decide) (fun q_11 => ?_) (fun q_11 => ?_)
    · have hw := hw.1 q_11
      refine k_sub [0, 1, 2] [(0, .ref (ad 40 0)), (1, .int a1), (2, .int a2)] rfl ?_
      exact j_8 S_10 hw
    · have hw := hw.2 q_11
      refine k_iconst (v := 0) (pc := 17) C dX10_moves_17 (by decide) ?_
      refine k_goto (pc := 18) C 22 dX10_moves_18 (by decide) ?_
      refine k_sub [0, 1, 2] [(0, .ref (ad 40 0)), (1, .int a1), (2, .int a2)] rfl ?_
      exact j_2 0 S_10 hw
def wp_X10_frame (a1 : Int32) (a2 : Int32) (a3 : Int32) (S : Sg) (Q : Int32 → Sg → Prop) : Prop :=
  wp_X10_in a1 (-1000) 1000 S (fun r_1 S_1 => ((r_1 = 0 → Q (-1) S_1) ∧ (¬ r_1 = 0 → wp_X10_in a2 (-1000) 1000 S_1 (fun r_3 S_3 => ((r_3 = 0 → Q (-1) S_3) ∧ (¬ r_3 = 0 → wp_X10_in a3 (-9) 9 S_3 (fun r_5 S_5 => ((¬ r_5 = 0 → (∃ (I_7 : Int32 → Sg → Prop) (μ_7 : Int32 → Sg → Nat), I_7 0 S_5 ∧ ∀ (v4_7 : Int32) (S_7 : Sg), I_7 v4_7 S_7 → (((gI S_7 40 0 1) ≤ v4_7 → (∃ (I_9 : Int32 → Sg → Prop) (μ_9 : Int32 → Sg → Nat), I_9 0 S_7 ∧ ∀ (v4_9 : Int32) (S_9 : Sg), I_9 v4_9 S_9 → (((gI S_9 40 0 1) ≤ v4_9 → Q 1 S_9) ∧ (¬ (gI S_9 40 0 1) ≤ v4_9 → (vp_in v4_9 10 ∧ (vp_in v4_9 10 ∧ (vp_in v4_9 10 ∧ ∀ S_14 : Sg, S_14 = uA S_9 51 0 (Int32.toNatClampNeg v4_9) ((gA S_9 51 0 (Int32.toNatClampNeg v4_9)) - (a1 - (a3 * (gA S_9 43 0 (Int32.toNatClampNeg v4_9))))) → (vp_in v4_9 10 ∧ (vp_in v4_9 10 ∧ (vp_in v4_9 10 ∧ ∀ S_18 : Sg, S_18 = uA S_14 52 0 (Int32.toNatClampNeg v4_9) ((gA S_14 52 0 (Int32.toNatClampNeg v4_9)) - (a2 + (a3 * (gA S_14 42 0 (Int32.toNatClampNeg v4_9))))) → (∀ x4_19 : Int32, x4_19 = v4_9 + 1 → (I_9 x4_19 S_18 ∧ μ_9 x4_19 S_18 < μ_9 v4_9 S_9)))))))))))) ∧ (¬ (gI S_7 40 0 1) ≤ v4_7 → (vp_in v4_7 10 ∧ (vp_in v4_7 10 ∧ wp_X10_in ((gA S_7 51 0 (Int32.toNatClampNeg v4_7)) - (a1 - (a3 * (gA S_7 43 0 (Int32.toNatClampNeg v4_7))))) (-100000) 100000 S_7 (fun r_22 S_22 => ((r_22 = 0 → Q (-2) S_22) ∧ (¬ r_22 = 0 → (vp_in v4_7 10 ∧ (vp_in v4_7 10 ∧ wp_X10_in ((gA S_22 52 0 (Int32.toNatClampNeg v4_7)) - (a2 + (a3 * (gA S_22 42 0 (Int32.toNatClampNeg v4_7))))) (-100000) 100000 S_22 (fun r_26 S_26 => ((¬ r_26 = 0 → (∀ x4_28 : Int32, x4_28 = v4_7 + 1 → (I_7 x4_28 S_26 ∧ μ_7 x4_28 S_26 < μ_7 v4_7 S_7))) ∧ (r_26 = 0 → Q (-2) S_26)))))))))))))) ∧ (r_5 = 0 → Q (-1) S_5)))))))))
set_option maxHeartbeats 4000000 in
set_option maxRecDepth 100000 in
theorem ct_X10_frame (l : Launch) (D : va_G) (cA : Nat → ClassId) (ad : Nat → Nat → Nat) (a1 : Int32) (a2 : Int32) (a3 : Int32) (S : Sg) (Q : Int32 → Sg → Prop) (hw : wp_X10_frame a1 a2 a3 S Q) : CtI l yX10_frame wsX10_frame (mkR 1 23) D cA ad [.ref (ad 40 0), .int a1, .int a2, .int a3] S Q := by
  refine ct_ofI (cc := cX10_frame) (nL := 5) (by decide) rfl (Nat.le_of_ble_eq_true rfl) ?_
  intro p e s m args below meth c A Q C hret
  unfold wp_X10_frame at hw
  have C : Cx p s m args c cX10_frame 5 wsX10_frame RX10 D cA A := C
  have hin : ∀ w ∈ u_ws RX10 TX10 33, w ∈ wsX10_frame := fun w h => List.mem_cons_of_mem _ (List.mem_append_right _ h)
  have f13 : Cond.fieldLink RX10 13 "CreepBoardModel" "marks" "I" ∈ wsX10_frame := by decide +kernel
  have f48 : Cond.fieldLink RX10 48 "CreepBoardModel" "east" "[I" ∈ wsX10_frame := by decide +kernel
  have f23 : Cond.fieldLink RX10 23 "CreepBoardModel" "y" "[I" ∈ wsX10_frame := by decide +kernel
  have f51 : Cond.fieldLink RX10 51 "CreepBoardModel" "north" "[I" ∈ wsX10_frame := by decide +kernel
  have f20 : Cond.fieldLink RX10 20 "CreepBoardModel" "x" "[I" ∈ wsX10_frame := by decide +kernel
  change KK p l e (mkR 1 23) s m args below meth c 5 D cA ad A Q 0 [(0, .ref (ad 40 0)), (1, .int a1), (2, .int a2), (3, .int a3)] [] S
  refine k_aload_n (pc := 0) C dX10_frame_0 0 rfl rfl ?_
  refine k_iload_n (pc := 1) C dX10_frame_1 1 rfl rfl ?_
  refine k_sipush (v := (-1000)) (pc := 2) C dX10_frame_2 (by decide) ?_
  refine k_sipush (v := 1000) (pc := 5) C dX10_frame_5 (by decide) ?_
  refine k_callVi (pc := 8) C (ct_X10_in l D cA ad a1 (-1000) 1000 S _ hw) (cwV 3 C.2.2.2.2.1 gX10_frame_X10_in rfl rfl rfl (by decide +kernel) ⟨Nat.le_of_ble_eq_true rfl, Nat.le_of_ble_eq_true rfl⟩) hm_40 (cel_40 cA ad S 0) rfl rfl rfl rfl (Nat.le_of_ble_eq_true rfl) dX10_frame_8 (fun r_1 S_1 hw => ?_)
  refine k_if_eq (pc := 11) C 40 dX10_frame_11 (by decide) (fun q_2 => ?_) (fun q_2 => ?_)
  · have hw := hw.1 q_2
    refine k_iconst (v := (-1)) (pc := 40) C dX10_frame_40 (by decide) ?_
    exact hret _ _ _ _ dX10_frame_41 hw
  · have hw := hw.2 q_2
    refine k_aload_n (pc := 14) C dX10_frame_14 0 rfl rfl ?_
    refine k_iload_n (pc := 15) C dX10_frame_15 2 rfl rfl ?_
    refine k_sipush (v := (-1000)) (pc := 16) C dX10_frame_16 (by decide) ?_
    refine k_sipush (v := 1000) (pc := 19) C dX10_frame_19 (by decide) ?_
    refine k_callVi (pc := 22) C (ct_X10_in l D cA ad a2 (-1000) 1000 S_1 _ hw) (cwV 3 C.2.2.2.2.1 gX10_frame_X10_in rfl rfl rfl (by decide +kernel) ⟨Nat.le_of_ble_eq_true rfl, Nat.le_of_ble_eq_true rfl⟩) hm_40 (cel_40 cA ad S_1 0) rfl rfl rfl rfl (Nat.le_of_ble_eq_true rfl) dX10_frame_22 (fun r_3 S_3 hw => ?_)
    refine k_if_eq (pc := 25) C 40 dX10_frame_25 (by decide) (fun q_4 => ?_) (fun q_4 => ?_)
    · have hw := hw.1 q_4
      refine k_iconst (v := (-1)) (pc := 40) C dX10_frame_40 (by decide) ?_
      exact hret _ _ _ _ dX10_frame_41 hw
    · have hw := hw.2 q_4
      refine k_aload_n (pc := 28) C dX10_frame_28 0 rfl rfl ?_
      refine k_iload_n (pc := 29) C dX10_frame_29 3 rfl rfl ?_
      refine k_bipush (v := (-9)) (pc := 30) C dX10_frame_30 (by decide) ?_
      refine k_bipush (v := 9) (pc := 32) C dX10_frame_32 (by decide) ?_
      refine k_callVi (pc := 34) C (ct_X10_in l D cA ad a3 (-9) 9 S_3 _ hw) (cwV 3 C.2.2.2.2.1 gX10_frame_X10_in rfl rfl rfl (by decide +kernel) ⟨Nat.le_of_ble_eq_true rfl, Nat.le_of_ble_eq_true rfl⟩) hm_40 (cel_40 cA ad S_3 0) rfl rfl rfl rfl (Nat.le_of_ble_eq_true rfl) dX10_frame_34 (fun r_5 S_5 hw => ?_)
      refine k_if_ne (pc := 37) C 42 dX10_frame_37 (by decide) (fun q_6 => ?_) (fun q_6 => ?_)
      · have hw := hw.1 q_6
        refine k_iconst (v := 0) (pc := 42) C dX10_frame_42 (by decide) ?_
        refine k_istore (pc := 43) C dX10_frame_43 (by decide) [(4, .int 0), (0, .ref (ad 40 0)), (1, .int a1), (2, .int a2), (3, .int a3)] rfl ?_
        refine k_sub [1, 2, 3, 4, 0] [(0, .ref (ad 40 0)), (1, .int a1), (2, .int a2), (3, .int a3), (4, .int 0)] rfl ?_
        obtain ⟨I_7, μ_7, hi_7, hw⟩ := hw
        have L_7 : ∀ (n : Nat) (v4_7 : Int32) (S_7 : Sg), μ_7 v4_7 S_7 < n → I_7 v4_7 S_7 → KK p l e (mkR 1 23) s m args below meth c 5 D cA ad A Q 45 [(0, .ref (ad 40 0)), (1, .int a1), (2, .int a2), (3, .int a3), (4, .int v4_7)] [] S_7 := by
          intro n
          induction n with
          | zero => intro v4_7 S_7 h; exact absurd h (Nat.not_lt_zero _)
          | succ n ih_7 =>
            intro v4_7 S_7 hn_7 hi_7
            have hw := hw v4_7 S_7 hi_7
            refine k_iload (pc := 45) C dX10_frame_45 4 rfl ?_
            refine k_aload_n (pc := 47) C dX10_frame_47 0 rfl rfl ?_
            refine k_get (j := 1) (pc := 48) C hin hm_40 (cel_40 cA ad S_7 0) rfl (by decide) f13 (fun _ h => h) rfl dX10_frame_48 ?_
            refine k_icmp_ge (pc := 51) C 123 dX10_frame_51 (by decide) (fun q_8 => ?_) (fun q_8 => ?_)
            · have hw := hw.1 q_8
              refine k_iconst (v := 0) (pc := 123) C dX10_frame_123 (by decide) ?_
              refine k_istore (pc := 124) C dX10_frame_124 (by decide) [(4, .int 0), (0, .ref (ad 40 0)), (1, .int a1), (2, .int a2), (3, .int a3)] rfl ?_
              refine k_sub [1, 2, 3, 4, 0] [(0, .ref (ad 40 0)), (1, .int a1), (2, .int a2), (3, .int a3), (4, .int 0)] rfl ?_
              obtain ⟨I_9, μ_9, hi_9, hw⟩ := hw
              have L_9 : ∀ (n : Nat) (v4_9 : Int32) (S_9 : Sg), μ_9 v4_9 S_9 < n → I_9 v4_9 S_9 → KK p l e (mkR 1 23) s m args below meth c 5 D cA ad A Q 126 [(0, .ref (ad 40 0)), (1, .int a1), (2, .int a2), (3, .int a3), (4, .int v4_9)] [] S_9 := by
                intro n
                induction n with
                | zero => intro v4_9 S_9 h; exact absurd h (Nat.not_lt_zero _)
                | succ n ih_9 =>
                  intro v4_9 S_9 hn_9 hi_9
                  have hw := hw v4_9 S_9 hi_9
                  refine k_iload (pc := 126) C dX10_frame_126 4 rfl ?_
                  refine k_aload_n (pc := 128) C dX10_frame_128 0 rfl rfl ?_
                  refine k_get (j := 1) (pc := 129) C hin hm_40 (cel_40 cA ad S_9 0) rfl (by decide) f13 (fun _ h => h) rfl dX10_frame_129 ?_
                  refine k_icmp_ge (pc := 132) C 183 dX10_frame_132 (by decide) (fun q_10 => ?_) (fun q_10 => ?_)
                  · have hw := hw.1 q_10
                    refine k_iconst (v := 1) (pc := 183) C dX10_frame_183 (by decide) ?_
                    exact hret _ _ _ _ dX10_frame_184 hw
                  · have hw := hw.2 q_10
                    refine k_aload_n (pc := 135) C dX10_frame_135 0 rfl rfl ?_
                    refine k_get (j := 12) (pc := 136) C hin hm_40 (cel_40 cA ad S_9 0) rfl (by decide) f48 (fun _ h => h) rfl dX10_frame_136 ?_
                    refine k_iload (pc := 139) C dX10_frame_139 4 rfl ?_
                    refine k_dup2 (pc := 141) C dX10_frame_141 rfl rfl ?_
                    obtain ⟨h_11, hw⟩ := hw
                    refine k_iald (pc := 142) C hm_51 (cel_51 cA ad S_9 0) h_11 dX10_frame_142 ?_
                    refine k_iload_n (pc := 143) C dX10_frame_143 1 rfl rfl ?_
                    refine k_iload_n (pc := 144) C dX10_frame_144 3 rfl rfl ?_
                    refine k_aload_n (pc := 145) C dX10_frame_145 0 rfl rfl ?_
                    refine k_get (j := 4) (pc := 146) C hin hm_40 (cel_40 cA ad S_9 0) rfl (by decide) f23 (fun _ h => h) rfl dX10_frame_146 ?_
                    refine k_iload (pc := 149) C dX10_frame_149 4 rfl ?_
                    obtain ⟨h_12, hw⟩ := hw
                    refine k_iald (pc := 151) C hm_43 (cel_43 cA ad S_9 0) h_12 dX10_frame_151 ?_
                    refine k_imul (pc := 152) C dX10_frame_152 ?_
                    refine k_isub (pc := 153) C dX10_frame_153 ?_
                    refine k_isub (pc := 154) C dX10_frame_154 ?_
                    obtain ⟨h_13, hw⟩ := hw
                    refine k_iast (pc := 155) C hm_51 (fun S => cel_51 cA ad S 0) h_13 dX10_frame_155 ?_
                    refine k_nameS (fun S_14 eS_14 => ?_)
                    have hw := hw S_14 eS_14
                    refine k_aload_n (pc := 156) C dX10_frame_156 0 rfl rfl ?_
                    refine k_get (j := 13) (pc := 157) C hin hm_40 (cel_40 cA ad S_14 0) rfl (by decide) f51 (fun _ h => h) rfl dX10_frame_157 ?_
                    refine k_iload (pc := 160) C dX10_frame_160 4 rfl ?_
                    refine k_dup2 (pc := 162) C dX10_frame_162 rfl rfl ?_
                    obtain ⟨h_15, hw⟩ := hw
                    refine k_iald (pc := 163) C hm_52 (cel_52 cA ad S_14 0) h_15 dX10_frame_163 ?_
                    refine k_iload_n (pc := 164) C dX10_frame_164 2 rfl rfl ?_
                    refine k_iload_n (pc := 165) C dX10_frame_165 3 rfl rfl ?_
                    refine k_aload_n (pc := 166) C dX10_frame_166 0 rfl rfl ?_
                    refine k_get (j := 3) (pc := 167) C hin hm_40 (cel_40 cA ad S_14 0) rfl (by decide) f20 (fun _ h => h) rfl dX10_frame_167 ?_
                    refine k_iload (pc := 170) C dX10_frame_170 4 rfl ?_
                    obtain ⟨h_16, hw⟩ := hw
                    refine k_iald (pc := 172) C hm_42 (cel_42 cA ad S_14 0) h_16 dX10_frame_172 ?_
                    refine k_imul (pc := 173) C dX10_frame_173 ?_
                    refine k_iadd (pc := 174) C dX10_frame_174 ?_
                    refine k_isub (pc := 175) C dX10_frame_175 ?_
                    obtain ⟨h_17, hw⟩ := hw
                    refine k_iast (pc := 176) C hm_52 (fun S => cel_52 cA ad S 0) h_17 dX10_frame_176 ?_
                    refine k_nameS (fun S_18 eS_18 => ?_)
                    have hw := hw S_18 eS_18
                    obtain ⟨x4_19, ex4_19⟩ : ∃ y : Int32, y = v4_9 + 1 := ⟨_, rfl⟩
                    have hw := hw x4_19 ex4_19
                    refine k_iinc (v := x4_19) (j := 4) (pc := 177) C dX10_frame_177 rfl (by rw [ex4_19]; rfl) (by decide) [(4, .int x4_19), (0, .ref (ad 40 0)), (1, .int a1), (2, .int a2), (3, .int a3)] rfl ?_
                    refine k_goto (pc := 180) C 126 dX10_frame_180 (by decide) ?_
                    refine k_sub [1, 2, 3, 4, 0] [(0, .ref (ad 40 0)), (1, .int a1), (2, .int a2), (3, .int a3), (4, .int x4_19)] rfl ?_
                    exact ih_9 x4_19 S_18 (Nat.lt_of_lt_of_le hw.2 (Nat.le_of_lt_succ hn_9)) hw.1
              exact L_9 (μ_9 0 S_7 + 1) 0 S_7 (Nat.lt_succ_self _) hi_9
            · have hw := hw.2 q_8
              refine k_aload_n (pc := 54) C dX10_frame_54 0 rfl rfl ?_
              refine k_aload_n (pc := 55) C dX10_frame_55 0 rfl rfl ?_
              refine k_get (j := 12) (pc := 56) C hin hm_40 (cel_40 cA ad S_7 0) rfl (by decide) f48 (fun _ h => h) rfl dX10_frame_56 ?_
              refine k_iload (pc := 59) C dX10_frame_59 4 rfl ?_
              obtain ⟨h_20, hw⟩ := hw
              refine k_iald (pc := 61) C hm_51 (cel_51 cA ad S_7 0) h_20 dX10_frame_61 ?_
              refine k_iload_n (pc := 62) C dX10_frame_62 1 rfl rfl ?_
              refine k_iload_n (pc := 63) C dX10_frame_63 3 rfl rfl ?_
              refine k_aload_n (pc := 64) C dX10_frame_64 0 rfl rfl ?_
              refine k_get (j := 4) (pc := 65) C hin hm_40 (cel_40 cA ad S_7 0) rfl (by decide) f23 (fun _ h => h) rfl dX10_frame_65 ?_
              refine k_iload (pc := 68) C dX10_frame_68 4 rfl ?_
              obtain ⟨h_21, hw⟩ := hw
              refine k_iald (pc := 70) C hm_43 (cel_43 cA ad S_7 0) h_21 dX10_frame_70 ?_
              refine k_imul (pc := 71) C dX10_frame_71 ?_
              refine k_isub (pc := 72) C dX10_frame_72 ?_
              refine k_isub (pc := 73) C dX10_frame_73 ?_
              refine k_ldc (pc := 74) C (C.2.2.2.2.1 (.constant RX10 126 (-100000)) (by decide +kernel)) dX10_frame_74 ?_
              refine k_ldc (pc := 76) C (C.2.2.2.2.1 (.constant RX10 127 (100000)) (by decide +kernel)) dX10_frame_76 ?_
              refine k_callVi (pc := 78) C (ct_X10_in l D cA ad ((gA S_7 51 0 (Int32.toNatClampNeg v4_7)) - (a1 - (a3 * (gA S_7 43 0 (Int32.toNatClampNeg v4_7))))) (-100000) 100000 S_7 _ hw) (cwV 3 C.2.2.2.2.1 gX10_frame_X10_in rfl rfl rfl (by decide +kernel) ⟨Nat.le_of_ble_eq_true rfl, Nat.le_of_ble_eq_true rfl⟩) hm_40 (cel_40 cA ad S_7 0) rfl rfl rfl rfl (Nat.le_of_ble_eq_true rfl) dX10_frame_78 (fun r_22 S_22 hw => ?_)
              refine k_if_eq (pc := 81) C 114 dX10_frame_81 (by decide) (fun q_23 => ?_) (fun q_23 => ?_)
              · have hw := hw.1 q_23
                refine k_bipush (v := (-2)) (pc := 114) C dX10_frame_114 (by decide) ?_
                exact hret _ _ _ _ dX10_frame_116 hw
              · have hw := hw.2 q_23
                refine k_aload_n (pc := 84) C dX10_frame_84 0 rfl rfl ?_
                refine k_aload_n (pc := 85) C dX10_frame_85 0 rfl rfl ?_
                refine k_get (j := 13) (pc := 86) C hin hm_40 (cel_40 cA ad S_22 0) rfl (by decide) f51 (fun _ h => h) rfl dX10_frame_86 ?_
                refine k_iload (pc := 89) C dX10_frame_89 4 rfl ?_
                obtain ⟨h_24, hw⟩ := hw
                refine k_iald (pc := 91) C hm_52 (cel_52 cA ad S_22 0) h_24 dX10_frame_91 ?_
                refine k_iload_n (pc := 92) C dX10_frame_92 2 rfl rfl ?_
                refine k_iload_n (pc := 93) C dX10_frame_93 3 rfl rfl ?_
                refine k_aload_n (pc := 94) C dX10_frame_94 0 rfl rfl ?_
                refine k_get (j := 3) (pc := 95) C hin hm_40 (cel_40 cA ad S_22 0) rfl (by decide) f20 (fun _ h => h) rfl dX10_frame_95 ?_
                refine k_iload (pc := 98) C dX10_frame_98 4 rfl ?_
                obtain ⟨h_25, hw⟩ := hw
                refine k_iald (pc := 100) C hm_42 (cel_42 cA ad S_22 0) h_25 dX10_frame_100 ?_
                refine k_imul (pc := 101) C dX10_frame_101 ?_
                refine k_iadd (pc := 102) C dX10_frame_102 ?_
                refine k_isub (pc := 103) C dX10_frame_103 ?_
                refine k_ldc (pc := 104) C (C.2.2.2.2.1 (.constant RX10 126 (-100000)) (by decide +kernel)) dX10_frame_104 ?_
                refine k_ldc (pc := 106) C (C.2.2.2.2.1 (.constant RX10 127 (100000)) (by decide +kernel)) dX10_frame_106 ?_
                refine k_callVi (pc := 108) C (ct_X10_in l D cA ad ((gA S_22 52 0 (Int32.toNatClampNeg v4_7)) - (a2 + (a3 * (gA S_22 42 0 (Int32.toNatClampNeg v4_7))))) (-100000) 100000 S_22 _ hw) (cwV 3 C.2.2.2.2.1 gX10_frame_X10_in rfl rfl rfl (by decide +kernel) ⟨Nat.le_of_ble_eq_true rfl, Nat.le_of_ble_eq_true rfl⟩) hm_40 (cel_40 cA ad S_22 0) rfl rfl rfl rfl (Nat.le_of_ble_eq_true rfl) dX10_frame_108 (fun r_26 S_26 hw => ?_)
                refine k_if_ne (pc := 111) C 117 dX10_frame_111 (by decide) (fun q_27 => ?_) (fun q_27 => ?_)
                · have hw := hw.1 q_27
                  obtain ⟨x4_28, ex4_28⟩ : ∃ y : Int32, y = v4_7 + 1 := ⟨_, rfl⟩
                  have hw := hw x4_28 ex4_28
                  refine k_iinc (v := x4_28) (j := 4) (pc := 117) C dX10_frame_117 rfl (by rw [ex4_28]; rfl) (by decide) [(4, .int x4_28), (0, .ref (ad 40 0)), (1, .int a1), (2, .int a2), (3, .int a3)] rfl ?_
                  refine k_goto (pc := 120) C 45 dX10_frame_120 (by decide) ?_
                  refine k_sub [1, 2, 3, 4, 0] [(0, .ref (ad 40 0)), (1, .int a1), (2, .int a2), (3, .int a3), (4, .int x4_28)] rfl ?_
                  exact ih_7 x4_28 S_26 (Nat.lt_of_lt_of_le hw.2 (Nat.le_of_lt_succ hn_7)) hw.1
                · have hw := hw.2 q_27
                  refine k_bipush (v := (-2)) (pc := 114) C dX10_frame_114 (by decide) ?_
                  exact hret _ _ _ _ dX10_frame_116 hw
        exact L_7 (μ_7 0 S_5 + 1) 0 S_5 (Nat.lt_succ_self _) hi_7
      · have hw := hw.2 q_6
        refine k_iconst (v := (-1)) (pc := 40) C dX10_frame_40 (by decide) ?_
        exact hret _ _ _ _ dX10_frame_41 hw
def wp_X10_strain (a1 : Int32) (a2 : Int32) (a3 : Int32) (a4 : Int32) (a5 : Int32) (S : Sg) (Q : Int64 → Sg → Prop) : Prop :=
  wp_X10_isMark a1 S (fun r_1 S_1 => (∃ J_2 : Int32 → Sg → Prop, (∀ (t0_2 : Int32) (S_2 : Sg), J_2 t0_2 S_2 → (∀ S_3 : Sg, S_3 = uI S_2 40 0 0 t0_2 → (((gI S_3 40 0 0) ≤ 0 → (vp_in a2 10 ∧ (vp_in a1 10 ∧ (∀ x6_7 : Int64, x6_7 = (Int32.toInt64 ((gA S_3 42 0 (Int32.toNatClampNeg a2)) - (gA S_3 42 0 (Int32.toNatClampNeg a1)))) → (vp_in a2 10 ∧ (vp_in a1 10 ∧ (∀ x8_10 : Int64, x8_10 = (Int32.toInt64 ((gA S_3 43 0 (Int32.toNatClampNeg a2)) - (gA S_3 43 0 (Int32.toNatClampNeg a1)))) → (vp_in a3 10 ∧ (vp_in a1 10 ∧ (∀ x10_13 : Int64, x10_13 = (Int32.toInt64 ((gA S_3 42 0 (Int32.toNatClampNeg a3)) - (gA S_3 42 0 (Int32.toNatClampNeg a1)))) → (vp_in a3 10 ∧ (vp_in a1 10 ∧ (∀ x12_16 : Int64, x12_16 = (Int32.toInt64 ((gA S_3 43 0 (Int32.toNatClampNeg a3)) - (gA S_3 43 0 (Int32.toNatClampNeg a1)))) → (vp_in a2 10 ∧ (vp_in a1 10 ∧ (∀ x14_19 : Int64, x14_19 = (Int32.toInt64 ((gA S_3 51 0 (Int32.toNatClampNeg a2)) - (gA S_3 51 0 (Int32.toNatClampNeg a1)))) → (vp_in a2 10 ∧ (vp_in a1 10 ∧ (∀ x16_22 : Int64, x16_22 = (Int32.toInt64 ((gA S_3 52 0 (Int32.toNatClampNeg a2)) - (gA S_3 52 0 (Int32.toNatClampNeg a1)))) → (vp_in a3 10 ∧ (vp_in a1 10 ∧ (∀ x18_25 : Int64, x18_25 = (Int32.toInt64 ((gA S_3 51 0 (Int32.toNatClampNeg a3)) - (gA S_3 51 0 (Int32.toNatClampNeg a1)))) → (vp_in a3 10 ∧ (vp_in a1 10 ∧ (∀ x20_28 : Int64, x20_28 = (Int32.toInt64 ((gA S_3 52 0 (Int32.toNatClampNeg a3)) - (gA S_3 52 0 (Int32.toNatClampNeg a1)))) → (∀ x22_29 : Int64, x22_29 = ((x6_7 * x12_16) - (x10_13 * x8_10)) → (∃ J_30 : Int32 → Sg → Prop, (∀ (t0_30 : Int32) (S_30 : Sg), J_30 t0_30 S_30 → (∀ S_31 : Sg, S_31 = uI S_30 40 0 0 t0_30 → (((gI S_31 40 0 0) ≤ 0 → (∀ x24_33 : Int64, x24_33 = ((x6_7 * x18_25) - (x10_13 * x14_19)) → (∀ x26_34 : Int64, x26_34 = ((x16_22 * x12_16) - (x20_28 * x8_10)) → ((¬ a4 = 0 → ((¬ a4 = 1 → ((¬ a4 = 2 → (∀ x28_38 : Int64, x28_38 = (x26_34 - x24_33) → wp_X10_lowest x28_38 x22_29 a5 S_31 (fun r_39 S_39 => Q r_39 S_39))) ∧ (a4 = 2 → (∀ x28_40 : Int64, x28_40 = (x24_33 + x26_34) → wp_X10_lowest x28_40 x22_29 a5 S_31 (fun r_41 S_41 => Q r_41 S_41))))) ∧ (a4 = 1 → (∀ x28_42 : Int64, x28_42 = ((x6_7 * x20_28) - (x10_13 * x16_22)) → wp_X10_lowest x28_42 x22_29 a5 S_31 (fun r_43 S_43 => Q r_43 S_43))))) ∧ (a4 = 0 → (∀ x28_44 : Int64, x28_44 = ((x14_19 * x12_16) - (x18_25 * x8_10)) → wp_X10_lowest x28_44 x22_29 a5 S_31 (fun r_45 S_45 => Q r_45 S_45))))))) ∧ (¬ (gI S_31 40 0 0) ≤ 0 → Q 0 S_31)))) ∧ ((¬ x22_29 = 0 → J_30 0 S_3) ∧ (x22_29 = 0 → J_30 2 S_3))))))))))))))))))))))))))))) ∧ (¬ (gI S_3 40 0 0) ≤ 0 → Q 0 S_3)))) ∧ (∃ J_47 : Sg → Prop, (∀ (S_47 : Sg), J_47 S_47 → J_2 1 S_47) ∧ ((r_1 = 0 → J_47 S_1) ∧ (¬ r_1 = 0 → wp_X10_isMark a2 S_1 (fun r_49 S_49 => ((r_49 = 0 → J_47 S_49) ∧ (¬ r_49 = 0 → wp_X10_isMark a3 S_49 (fun r_51 S_51 => ((r_51 = 0 → J_47 S_51) ∧ (¬ r_51 = 0 → wp_X10_in a4 0 3 S_51 (fun r_53 S_53 => ((r_53 = 0 → J_47 S_53) ∧ (¬ r_53 = 0 → J_2 0 S_53))))))))))))))
set_option maxHeartbeats 4000000 in
set_option maxRecDepth 100000 in
theorem ct_X10_strain (l : Launch) (D : va_G) (cA : Nat → ClassId) (ad : Nat → Nat → Nat) (a1 : Int32) (a2 : Int32) (a3 : Int32) (a4 : Int32) (a5 : Int32) (S : Sg) (Q : Int64 → Sg → Prop) (hw : wp_X10_strain a1 a2 a3 a4 a5 S Q) : CtL l yX10_strain wsX10_strain (mkR 2 57) D cA ad [.ref (ad 40 0), .int a1, .int a2, .int a3, .int a4, .int a5] S Q := by
  refine ct_ofL (cc := cX10_strain) (nL := 30) (by decide) rfl (Nat.le_of_ble_eq_true rfl) ?_
  intro p e s m args below meth c A Q C hret
  unfold wp_X10_strain at hw
  have C : Cx p s m args c cX10_strain 30 wsX10_strain RX10 D cA A := C
  have hin : ∀ w ∈ u_ws RX10 TX10 33, w ∈ wsX10_strain := fun w h => List.mem_cons_of_mem _ (List.mem_append_right _ h)
  have f7 : Cond.fieldLink RX10 7 "CreepBoardModel" "thrown" "I" ∈ wsX10_strain := by decide +kernel
  have f20 : Cond.fieldLink RX10 20 "CreepBoardModel" "x" "[I" ∈ wsX10_strain := by decide +kernel
  have f23 : Cond.fieldLink RX10 23 "CreepBoardModel" "y" "[I" ∈ wsX10_strain := by decide +kernel
  have f48 : Cond.fieldLink RX10 48 "CreepBoardModel" "east" "[I" ∈ wsX10_strain := by decide +kernel
  have f51 : Cond.fieldLink RX10 51 "CreepBoardModel" "north" "[I" ∈ wsX10_strain := by decide +kernel
  change KK p l e (mkR 2 57) s m args below meth c 30 D cA ad A Q 0 [(0, .ref (ad 40 0)), (1, .int a1), (2, .int a2), (3, .int a3), (4, .int a4), (5, .int a5)] [] S
  refine k_aload_n (pc := 0) C dX10_strain_0 0 rfl rfl ?_
  refine k_aload_n (pc := 1) C dX10_strain_1 0 rfl rfl ?_
  refine k_iload_n (pc := 2) C dX10_strain_2 1 rfl rfl ?_
  refine k_callVi (pc := 3) C (ct_X10_isMark l D cA ad a1 S _ hw) (cwV 1 C.2.2.2.2.1 gX10_strain_X10_isMark rfl rfl rfl (by decide +kernel) ⟨Nat.le_of_ble_eq_true rfl, Nat.le_of_ble_eq_true rfl⟩) hm_40 (cel_40 cA ad S 0) rfl rfl rfl rfl (Nat.le_of_ble_eq_true rfl) dX10_strain_3 (fun r_1 S_1 hw => ?_)
  obtain ⟨J_2, hj_2, hw⟩ := hw
  have j_2 : ∀ (t0_2 : Int32) (S_2 : Sg), J_2 t0_2 S_2 → KK p l e (mkR 2 57) s m args below meth c 30 D cA ad A Q 41 [(0, .ref (ad 40 0)), (1, .int a1), (2, .int a2), (3, .int a3), (4, .int a4), (5, .int a5)] [.int t0_2, .ref (ad 40 0)] S_2 := by
    intro t0_2 S_2 hw
    have hw := hj_2 t0_2 S_2 hw
    refine k_put (S' := uI S_2 40 0 0 t0_2) (j := 0) (ty := .int) (pc := 41) C hin tyX10 tyX10_ok nmX10 hm_40 (cel_40 cA ad S_2 0) rfl (by decide) f7 (fun _ h => h) rfl (by decide +kernel) rfl rfl (Nat.le_of_ble_eq_true rfl) rfl rfl (fun a b h => cel_uI h) dX10_strain_41 ?_
    refine k_nameS (fun S_3 eS_3 => ?_)
    have hw := hw S_3 eS_3
    refine k_aload_n (pc := 44) C dX10_strain_44 0 rfl rfl ?_
    refine k_get (j := 0) (pc := 45) C hin hm_40 (cel_40 cA ad S_3 0) rfl (by decide) f7 (fun _ h => h) rfl dX10_strain_45 ?_
    refine k_if_le (pc := 48) C 53 dX10_strain_48 (by decide) (fun q_4 => ?_) (fun q_4 => ?_)
    · have hw := hw.1 q_4
      refine k_aload_n (pc := 53) C dX10_strain_53 0 rfl rfl ?_
      refine k_get (j := 3) (pc := 54) C hin hm_40 (cel_40 cA ad S_3 0) rfl (by decide) f20 (fun _ h => h) rfl dX10_strain_54 ?_
      refine k_iload_n (pc := 57) C dX10_strain_57 2 rfl rfl ?_
      obtain ⟨h_5, hw⟩ := hw
      refine k_iald (pc := 58) C hm_42 (cel_42 cA ad S_3 0) h_5 dX10_strain_58 ?_
      refine k_aload_n (pc := 59) C dX10_strain_59 0 rfl rfl ?_
      refine k_get (j := 3) (pc := 60) C hin hm_40 (cel_40 cA ad S_3 0) rfl (by decide) f20 (fun _ h => h) rfl dX10_strain_60 ?_
      refine k_iload_n (pc := 63) C dX10_strain_63 1 rfl rfl ?_
      obtain ⟨h_6, hw⟩ := hw
      refine k_iald (pc := 64) C hm_42 (cel_42 cA ad S_3 0) h_6 dX10_strain_64 ?_
      refine k_isub (pc := 65) C dX10_strain_65 ?_
      refine k_i2l (pc := 66) C dX10_strain_66 ?_
      refine k_topl (fun x6_7 ex6_7 => ?_)
      have hw := hw x6_7 ex6_7
      refine k_lstore (pc := 67) C dX10_strain_67 (by decide) [(6, .long x6_7), (0, .ref (ad 40 0)), (1, .int a1), (2, .int a2), (3, .int a3), (4, .int a4), (5, .int a5)] rfl ?_
      refine k_aload_n (pc := 69) C dX10_strain_69 1 rfl rfl ?_
      refine k_get (j := 4) (pc := 70) C hin hm_40 (cel_40 cA ad S_3 0) rfl (by decide) f23 (fun _ h => h) rfl dX10_strain_70 ?_
      refine k_iload_n (pc := 73) C dX10_strain_73 3 rfl rfl ?_
      obtain ⟨h_8, hw⟩ := hw
      refine k_iald (pc := 74) C hm_43 (cel_43 cA ad S_3 0) h_8 dX10_strain_74 ?_
      refine k_aload_n (pc := 75) C dX10_strain_75 1 rfl rfl ?_
      refine k_get (j := 4) (pc := 76) C hin hm_40 (cel_40 cA ad S_3 0) rfl (by decide) f23 (fun _ h => h) rfl dX10_strain_76 ?_
      refine k_iload_n (pc := 79) C dX10_strain_79 2 rfl rfl ?_
      obtain ⟨h_9, hw⟩ := hw
      refine k_iald (pc := 80) C hm_43 (cel_43 cA ad S_3 0) h_9 dX10_strain_80 ?_
      refine k_isub (pc := 81) C dX10_strain_81 ?_
      refine k_i2l (pc := 82) C dX10_strain_82 ?_
      refine k_topl (fun x8_10 ex8_10 => ?_)
      have hw := hw x8_10 ex8_10
      refine k_lstore (pc := 83) C dX10_strain_83 (by decide) [(8, .long x8_10), (6, .long x6_7), (0, .ref (ad 40 0)), (1, .int a1), (2, .int a2), (3, .int a3), (4, .int a4), (5, .int a5)] rfl ?_
      refine k_aload_n (pc := 85) C dX10_strain_85 2 rfl rfl ?_
      refine k_get (j := 3) (pc := 86) C hin hm_40 (cel_40 cA ad S_3 0) rfl (by decide) f20 (fun _ h => h) rfl dX10_strain_86 ?_
      refine k_iload_n (pc := 89) C dX10_strain_89 5 rfl rfl ?_
      obtain ⟨h_11, hw⟩ := hw
      refine k_iald (pc := 90) C hm_42 (cel_42 cA ad S_3 0) h_11 dX10_strain_90 ?_
      refine k_aload_n (pc := 91) C dX10_strain_91 2 rfl rfl ?_
      refine k_get (j := 3) (pc := 92) C hin hm_40 (cel_40 cA ad S_3 0) rfl (by decide) f20 (fun _ h => h) rfl dX10_strain_92 ?_
      refine k_iload_n (pc := 95) C dX10_strain_95 3 rfl rfl ?_
      obtain ⟨h_12, hw⟩ := hw
      refine k_iald (pc := 96) C hm_42 (cel_42 cA ad S_3 0) h_12 dX10_strain_96 ?_
      refine k_isub (pc := 97) C dX10_strain_97 ?_
      refine k_i2l (pc := 98) C dX10_strain_98 ?_
      refine k_topl (fun x10_13 ex10_13 => ?_)
      have hw := hw x10_13 ex10_13
      refine k_lstore (pc := 99) C dX10_strain_99 (by decide) [(10, .long x10_13), (8, .long x8_10), (6, .long x6_7), (0, .ref (ad 40 0)), (1, .int a1), (2, .int a2), (3, .int a3), (4, .int a4), (5, .int a5)] rfl ?_
      refine k_aload_n (pc := 101) C dX10_strain_101 3 rfl rfl ?_
      refine k_get (j := 4) (pc := 102) C hin hm_40 (cel_40 cA ad S_3 0) rfl (by decide) f23 (fun _ h => h) rfl dX10_strain_102 ?_
      refine k_iload_n (pc := 105) C dX10_strain_105 6 rfl rfl ?_
      obtain ⟨h_14, hw⟩ := hw
      refine k_iald (pc := 106) C hm_43 (cel_43 cA ad S_3 0) h_14 dX10_strain_106 ?_
      refine k_aload_n (pc := 107) C dX10_strain_107 3 rfl rfl ?_
      refine k_get (j := 4) (pc := 108) C hin hm_40 (cel_40 cA ad S_3 0) rfl (by decide) f23 (fun _ h => h) rfl dX10_strain_108 ?_
      refine k_iload_n (pc := 111) C dX10_strain_111 4 rfl rfl ?_
      obtain ⟨h_15, hw⟩ := hw
      refine k_iald (pc := 112) C hm_43 (cel_43 cA ad S_3 0) h_15 dX10_strain_112 ?_
      refine k_isub (pc := 113) C dX10_strain_113 ?_
      refine k_i2l (pc := 114) C dX10_strain_114 ?_
      refine k_topl (fun x12_16 ex12_16 => ?_)
      have hw := hw x12_16 ex12_16
      refine k_lstore (pc := 115) C dX10_strain_115 (by decide) [(12, .long x12_16), (10, .long x10_13), (8, .long x8_10), (6, .long x6_7), (0, .ref (ad 40 0)), (1, .int a1), (2, .int a2), (3, .int a3), (4, .int a4), (5, .int a5)] rfl ?_
      refine k_aload_n (pc := 117) C dX10_strain_117 4 rfl rfl ?_
      refine k_get (j := 12) (pc := 118) C hin hm_40 (cel_40 cA ad S_3 0) rfl (by decide) f48 (fun _ h => h) rfl dX10_strain_118 ?_
      refine k_iload_n (pc := 121) C dX10_strain_121 6 rfl rfl ?_
      obtain ⟨h_17, hw⟩ := hw
      refine k_iald (pc := 122) C hm_51 (cel_51 cA ad S_3 0) h_17 dX10_strain_122 ?_
      refine k_aload_n (pc := 123) C dX10_strain_123 4 rfl rfl ?_
      refine k_get (j := 12) (pc := 124) C hin hm_40 (cel_40 cA ad S_3 0) rfl (by decide) f48 (fun _ h => h) rfl dX10_strain_124 ?_
      refine k_iload_n (pc := 127) C dX10_strain_127 5 rfl rfl ?_
      obtain ⟨h_18, hw⟩ := hw
      refine k_iald (pc := 128) C hm_51 (cel_51 cA ad S_3 0) h_18 dX10_strain_128 ?_
      refine k_isub (pc := 129) C dX10_strain_129 ?_
      refine k_i2l (pc := 130) C dX10_strain_130 ?_
      refine k_topl (fun x14_19 ex14_19 => ?_)
      have hw := hw x14_19 ex14_19
      refine k_lstore (pc := 131) C dX10_strain_131 (by decide) [(14, .long x14_19), (12, .long x12_16), (10, .long x10_13), (8, .long x8_10), (6, .long x6_7), (0, .ref (ad 40 0)), (1, .int a1), (2, .int a2), (3, .int a3), (4, .int a4), (5, .int a5)] rfl ?_
      refine k_aload_n (pc := 133) C dX10_strain_133 5 rfl rfl ?_
      refine k_get (j := 13) (pc := 134) C hin hm_40 (cel_40 cA ad S_3 0) rfl (by decide) f51 (fun _ h => h) rfl dX10_strain_134 ?_
      refine k_iload_n (pc := 137) C dX10_strain_137 7 rfl rfl ?_
      obtain ⟨h_20, hw⟩ := hw
      refine k_iald (pc := 138) C hm_52 (cel_52 cA ad S_3 0) h_20 dX10_strain_138 ?_
      refine k_aload_n (pc := 139) C dX10_strain_139 5 rfl rfl ?_
      refine k_get (j := 13) (pc := 140) C hin hm_40 (cel_40 cA ad S_3 0) rfl (by decide) f51 (fun _ h => h) rfl dX10_strain_140 ?_
      refine k_iload_n (pc := 143) C dX10_strain_143 6 rfl rfl ?_
      obtain ⟨h_21, hw⟩ := hw
      refine k_iald (pc := 144) C hm_52 (cel_52 cA ad S_3 0) h_21 dX10_strain_144 ?_
      refine k_isub (pc := 145) C dX10_strain_145 ?_
      refine k_i2l (pc := 146) C dX10_strain_146 ?_
      refine k_topl (fun x16_22 ex16_22 => ?_)
      have hw := hw x16_22 ex16_22
      refine k_lstore (pc := 147) C dX10_strain_147 (by decide) [(16, .long x16_22), (14, .long x14_19), (12, .long x12_16), (10, .long x10_13), (8, .long x8_10), (6, .long x6_7), (0, .ref (ad 40 0)), (1, .int a1), (2, .int a2), (3, .int a3), (4, .int a4), (5, .int a5)] rfl ?_
      refine k_aload_n (pc := 149) C dX10_strain_149 6 rfl rfl ?_
      refine k_get (j := 12) (pc := 150) C hin hm_40 (cel_40 cA ad S_3 0) rfl (by decide) f48 (fun _ h => h) rfl dX10_strain_150 ?_
      refine k_iload_n (pc := 153) C dX10_strain_153 9 rfl rfl ?_
      obtain ⟨h_23, hw⟩ := hw
      refine k_iald (pc := 154) C hm_51 (cel_51 cA ad S_3 0) h_23 dX10_strain_154 ?_
      refine k_aload_n (pc := 155) C dX10_strain_155 6 rfl rfl ?_
      refine k_get (j := 12) (pc := 156) C hin hm_40 (cel_40 cA ad S_3 0) rfl (by decide) f48 (fun _ h => h) rfl dX10_strain_156 ?_
      refine k_iload_n (pc := 159) C dX10_strain_159 7 rfl rfl ?_
      obtain ⟨h_24, hw⟩ := hw
      refine k_iald (pc := 160) C hm_51 (cel_51 cA ad S_3 0) h_24 dX10_strain_160 ?_
      refine k_isub (pc := 161) C dX10_strain_161 ?_
      refine k_i2l (pc := 162) C dX10_strain_162 ?_
      refine k_topl (fun x18_25 ex18_25 => ?_)
      have hw := hw x18_25 ex18_25
      refine k_lstore (pc := 163) C dX10_strain_163 (by decide) [(18, .long x18_25), (16, .long x16_22), (14, .long x14_19), (12, .long x12_16), (10, .long x10_13), (8, .long x8_10), (6, .long x6_7), (0, .ref (ad 40 0)), (1, .int a1), (2, .int a2), (3, .int a3), (4, .int a4), (5, .int a5)] rfl ?_
      refine k_aload_n (pc := 165) C dX10_strain_165 7 rfl rfl ?_
      refine k_get (j := 13) (pc := 166) C hin hm_40 (cel_40 cA ad S_3 0) rfl (by decide) f51 (fun _ h => h) rfl dX10_strain_166 ?_
      refine k_iload_n (pc := 169) C dX10_strain_169 10 rfl rfl ?_
      obtain ⟨h_26, hw⟩ := hw
      refine k_iald (pc := 170) C hm_52 (cel_52 cA ad S_3 0) h_26 dX10_strain_170 ?_
      refine k_aload_n (pc := 171) C dX10_strain_171 7 rfl rfl ?_
      refine k_get (j := 13) (pc := 172) C hin hm_40 (cel_40 cA ad S_3 0) rfl (by decide) f51 (fun _ h => h) rfl dX10_strain_172 ?_
      refine k_iload_n (pc := 175) C dX10_strain_175 8 rfl rfl ?_
      obtain ⟨h_27, hw⟩ := hw
      refine k_iald (pc := 176) C hm_52 (cel_52 cA ad S_3 0) h_27 dX10_strain_176 ?_
      refine k_isub (pc := 177) C dX10_strain_177 ?_
      refine k_i2l (pc := 178) C dX10_strain_178 ?_
      refine k_topl (fun x20_28 ex20_28 => ?_)
      have hw := hw x20_28 ex20_28
      refine k_lstore (pc := 179) C dX10_strain_179 (by decide) [(20, .long x20_28), (18, .long x18_25), (16, .long x16_22), (14, .long x14_19), (12, .long x12_16), (10, .long x10_13), (8, .long x8_10), (6, .long x6_7), (0, .ref (ad 40 0)), (1, .int a1), (2, .int a2), (3, .int a3), (4, .int a4), (5, .int a5)] rfl ?_
      refine k_lload (pc := 181) C dX10_strain_181 7 rfl ?_
      refine k_lload (pc := 183) C dX10_strain_183 4 rfl ?_
      refine k_lmul (pc := 185) C dX10_strain_185 ?_
      refine k_lload (pc := 186) C dX10_strain_186 5 rfl ?_
      refine k_lload (pc := 188) C dX10_strain_188 6 rfl ?_
      refine k_lmul (pc := 190) C dX10_strain_190 ?_
      refine k_lsub (pc := 191) C dX10_strain_191 ?_
      refine k_topl (fun x22_29 ex22_29 => ?_)
      have hw := hw x22_29 ex22_29
      refine k_lstore (pc := 192) C dX10_strain_192 (by decide) [(22, .long x22_29), (20, .long x20_28), (18, .long x18_25), (16, .long x16_22), (14, .long x14_19), (12, .long x12_16), (10, .long x10_13), (8, .long x8_10), (6, .long x6_7), (0, .ref (ad 40 0)), (1, .int a1), (2, .int a2), (3, .int a3), (4, .int a4), (5, .int a5)] rfl ?_
      refine k_aload_n (pc := 194) C dX10_strain_194 9 rfl rfl ?_
      refine k_lload (pc := 195) C dX10_strain_195 0 rfl ?_
      refine k_lconst (v := 0) (pc := 197) C dX10_strain_197 (by decide) ?_
      obtain ⟨J_30, hj_30, hw⟩ := hw
      have j_30 : ∀ (t0_30 : Int32) (S_30 : Sg), J_30 t0_30 S_30 → KK p l e (mkR 2 57) s m args below meth c 30 D cA ad A Q 207 [(0, .ref (ad 40 0)), (4, .int a4), (5, .int a5), (6, .long x6_7), (8, .long x8_10), (10, .long x10_13), (12, .long x12_16), (14, .long x14_19), (16, .long x16_22), (18, .long x18_25), (20, .long x20_28), (22, .long x22_29)] [.int t0_30, .ref (ad 40 0)] S_30 := by
        intro t0_30 S_30 hw
        have hw := hj_30 t0_30 S_30 hw
        refine k_put (S' := uI S_30 40 0 0 t0_30) (j := 0) (ty := .int) (pc := 207) C hin tyX10 tyX10_ok nmX10 hm_40 (cel_40 cA ad S_30 0) rfl (by decide) f7 (fun _ h => h) rfl (by decide +kernel) rfl rfl (Nat.le_of_ble_eq_true rfl) rfl rfl (fun a b h => cel_uI h) dX10_strain_207 ?_
        refine k_nameS (fun S_31 eS_31 => ?_)
        have hw := hw S_31 eS_31
        refine k_aload_n (pc := 210) C dX10_strain_210 0 rfl rfl ?_
        refine k_get (j := 0) (pc := 211) C hin hm_40 (cel_40 cA ad S_31 0) rfl (by decide) f7 (fun _ h => h) rfl dX10_strain_211 ?_
        refine k_if_le (pc := 214) C 219 dX10_strain_214 (by decide) (fun q_32 => ?_) (fun q_32 => ?_)
        · have hw := hw.1 q_32
          refine k_lload (pc := 219) C dX10_strain_219 3 rfl ?_
          refine k_lload (pc := 221) C dX10_strain_221 9 rfl ?_
          refine k_lmul (pc := 223) C dX10_strain_223 ?_
          refine k_lload (pc := 224) C dX10_strain_224 5 rfl ?_
          refine k_lload (pc := 226) C dX10_strain_226 7 rfl ?_
          refine k_lmul (pc := 228) C dX10_strain_228 ?_
          refine k_lsub (pc := 229) C dX10_strain_229 ?_
          refine k_topl (fun x24_33 ex24_33 => ?_)
          have hw := hw x24_33 ex24_33
          refine k_lstore (pc := 230) C dX10_strain_230 (by decide) [(24, .long x24_33), (0, .ref (ad 40 0)), (4, .int a4), (5, .int a5), (6, .long x6_7), (8, .long x8_10), (10, .long x10_13), (12, .long x12_16), (14, .long x14_19), (16, .long x16_22), (18, .long x18_25), (20, .long x20_28), (22, .long x22_29)] rfl ?_
          refine k_lload (pc := 232) C dX10_strain_232 9 rfl ?_
          refine k_lload (pc := 234) C dX10_strain_234 7 rfl ?_
          refine k_lmul (pc := 236) C dX10_strain_236 ?_
          refine k_lload (pc := 237) C dX10_strain_237 11 rfl ?_
          refine k_lload (pc := 239) C dX10_strain_239 5 rfl ?_
          refine k_lmul (pc := 241) C dX10_strain_241 ?_
          refine k_lsub (pc := 242) C dX10_strain_242 ?_
          refine k_topl (fun x26_34 ex26_34 => ?_)
          have hw := hw x26_34 ex26_34
          refine k_lstore (pc := 243) C dX10_strain_243 (by decide) [(26, .long x26_34), (24, .long x24_33), (0, .ref (ad 40 0)), (4, .int a4), (5, .int a5), (6, .long x6_7), (8, .long x8_10), (10, .long x10_13), (12, .long x12_16), (14, .long x14_19), (16, .long x16_22), (18, .long x18_25), (20, .long x20_28), (22, .long x22_29)] rfl ?_
          refine k_iload (pc := 245) C dX10_strain_245 3 rfl ?_
          refine k_if_ne (pc := 247) C 264 dX10_strain_247 (by decide) (fun q_35 => ?_) (fun q_35 => ?_)
          · have hw := hw.1 q_35
            refine k_iload (pc := 264) C dX10_strain_264 3 rfl ?_
            refine k_iconst (v := 1) (pc := 266) C dX10_strain_266 (by decide) ?_
            refine k_icmp_ne (pc := 267) C 284 dX10_strain_267 (by decide) (fun q_36 => ?_) (fun q_36 => ?_)
            · have hw := hw.1 q_36
              refine k_iload (pc := 284) C dX10_strain_284 3 rfl ?_
              refine k_iconst (v := 2) (pc := 286) C dX10_strain_286 (by decide) ?_
              refine k_icmp_ne (pc := 287) C 298 dX10_strain_287 (by decide) (fun q_37 => ?_) (fun q_37 => ?_)
              · have hw := hw.1 q_37
                refine k_lload (pc := 298) C dX10_strain_298 0 rfl ?_
                refine k_lload (pc := 300) C dX10_strain_300 1 rfl ?_
                refine k_lsub (pc := 302) C dX10_strain_302 ?_
                refine k_topl (fun x28_38 ex28_38 => ?_)
                have hw := hw x28_38 ex28_38
                refine k_lstore (pc := 303) C dX10_strain_303 (by decide) [(28, .long x28_38), (26, .long x26_34), (24, .long x24_33), (0, .ref (ad 40 0)), (4, .int a4), (5, .int a5), (6, .long x6_7), (8, .long x8_10), (10, .long x10_13), (12, .long x12_16), (14, .long x14_19), (16, .long x16_22), (18, .long x18_25), (20, .long x20_28), (22, .long x22_29)] rfl ?_
                refine k_aload_n (pc := 305) C dX10_strain_305 3 rfl rfl ?_
                refine k_lload (pc := 306) C dX10_strain_306 0 rfl ?_
                refine k_lload (pc := 308) C dX10_strain_308 14 rfl ?_
                refine k_iload (pc := 310) C dX10_strain_310 5 rfl ?_
                refine k_callVl (pc := 312) C (ct_X10_lowest l D cA ad x28_38 x22_29 a5 S_31 _ hw) (cwV 3 C.2.2.2.2.1 gX10_strain_X10_lowest rfl rfl rfl (by decide +kernel) ⟨Nat.le_of_ble_eq_true rfl, Nat.le_of_ble_eq_true rfl⟩) hm_40 (cel_40 cA ad S_31 0) rfl rfl rfl rfl (Nat.le_of_ble_eq_true rfl) dX10_strain_312 (fun r_39 S_39 hw => ?_)
                exact hret _ _ _ _ dX10_strain_315 hw
              · have hw := hw.2 q_37
                refine k_lload (pc := 290) C dX10_strain_290 1 rfl ?_
                refine k_lload (pc := 292) C dX10_strain_292 0 rfl ?_
                refine k_ladd (pc := 294) C dX10_strain_294 ?_
                refine k_goto (pc := 295) C 303 dX10_strain_295 (by decide) ?_
                refine k_topl (fun x28_40 ex28_40 => ?_)
                have hw := hw x28_40 ex28_40
                refine k_lstore (pc := 303) C dX10_strain_303 (by decide) [(28, .long x28_40), (26, .long x26_34), (24, .long x24_33), (0, .ref (ad 40 0)), (4, .int a4), (5, .int a5), (6, .long x6_7), (8, .long x8_10), (10, .long x10_13), (12, .long x12_16), (14, .long x14_19), (16, .long x16_22), (18, .long x18_25), (20, .long x20_28), (22, .long x22_29)] rfl ?_
                refine k_aload_n (pc := 305) C dX10_strain_305 3 rfl rfl ?_
                refine k_lload (pc := 306) C dX10_strain_306 0 rfl ?_
                refine k_lload (pc := 308) C dX10_strain_308 14 rfl ?_
                refine k_iload (pc := 310) C dX10_strain_310 5 rfl ?_
                refine k_callVl (pc := 312) C (ct_X10_lowest l D cA ad x28_40 x22_29 a5 S_31 _ hw) (cwV 3 C.2.2.2.2.1 gX10_strain_X10_lowest rfl rfl rfl (by decide +kernel) ⟨Nat.le_of_ble_eq_true rfl, Nat.le_of_ble_eq_true rfl⟩) hm_40 (cel_40 cA ad S_31 0) rfl rfl rfl rfl (Nat.le_of_ble_eq_true rfl) dX10_strain_312 (fun r_41 S_41 hw => ?_)
                exact hret _ _ _ _ dX10_strain_315 hw
            · have hw := hw.2 q_36
              refine k_lload (pc := 270) C dX10_strain_270 5 rfl ?_
              refine k_lload (pc := 272) C dX10_strain_272 12 rfl ?_
              refine k_lmul (pc := 274) C dX10_strain_274 ?_
              refine k_lload (pc := 275) C dX10_strain_275 7 rfl ?_
              refine k_lload (pc := 277) C dX10_strain_277 10 rfl ?_
              refine k_lmul (pc := 279) C dX10_strain_279 ?_
              refine k_lsub (pc := 280) C dX10_strain_280 ?_
              refine k_goto (pc := 281) C 303 dX10_strain_281 (by decide) ?_
              refine k_topl (fun x28_42 ex28_42 => ?_)
              have hw := hw x28_42 ex28_42
              refine k_lstore (pc := 303) C dX10_strain_303 (by decide) [(28, .long x28_42), (26, .long x26_34), (24, .long x24_33), (0, .ref (ad 40 0)), (4, .int a4), (5, .int a5), (6, .long x6_7), (8, .long x8_10), (10, .long x10_13), (12, .long x12_16), (14, .long x14_19), (16, .long x16_22), (18, .long x18_25), (20, .long x20_28), (22, .long x22_29)] rfl ?_
              refine k_aload_n (pc := 305) C dX10_strain_305 3 rfl rfl ?_
              refine k_lload (pc := 306) C dX10_strain_306 0 rfl ?_
              refine k_lload (pc := 308) C dX10_strain_308 14 rfl ?_
              refine k_iload (pc := 310) C dX10_strain_310 5 rfl ?_
              refine k_callVl (pc := 312) C (ct_X10_lowest l D cA ad x28_42 x22_29 a5 S_31 _ hw) (cwV 3 C.2.2.2.2.1 gX10_strain_X10_lowest rfl rfl rfl (by decide +kernel) ⟨Nat.le_of_ble_eq_true rfl, Nat.le_of_ble_eq_true rfl⟩) hm_40 (cel_40 cA ad S_31 0) rfl rfl rfl rfl (Nat.le_of_ble_eq_true rfl) dX10_strain_312 (fun r_43 S_43 hw => ?_)
              exact hret _ _ _ _ dX10_strain_315 hw
          · have hw := hw.2 q_35
            refine k_lload (pc := 250) C dX10_strain_250 9 rfl ?_
            refine k_lload (pc := 252) C dX10_strain_252 8 rfl ?_
            refine k_lmul (pc := 254) C dX10_strain_254 ?_
            refine k_lload (pc := 255) C dX10_strain_255 11 rfl ?_
            refine k_lload (pc := 257) C dX10_strain_257 6 rfl ?_
            refine k_lmul (pc := 259) C dX10_strain_259 ?_
            refine k_lsub (pc := 260) C dX10_strain_260 ?_
            refine k_goto (pc := 261) C 303 dX10_strain_261 (by decide) ?_
            refine k_topl (fun x28_44 ex28_44 => ?_)
            have hw := hw x28_44 ex28_44
            refine k_lstore (pc := 303) C dX10_strain_303 (by decide) [(28, .long x28_44), (26, .long x26_34), (24, .long x24_33), (0, .ref (ad 40 0)), (4, .int a4), (5, .int a5), (6, .long x6_7), (8, .long x8_10), (10, .long x10_13), (12, .long x12_16), (14, .long x14_19), (16, .long x16_22), (18, .long x18_25), (20, .long x20_28), (22, .long x22_29)] rfl ?_
            refine k_aload_n (pc := 305) C dX10_strain_305 3 rfl rfl ?_
            refine k_lload (pc := 306) C dX10_strain_306 0 rfl ?_
            refine k_lload (pc := 308) C dX10_strain_308 14 rfl ?_
            refine k_iload (pc := 310) C dX10_strain_310 5 rfl ?_
            refine k_callVl (pc := 312) C (ct_X10_lowest l D cA ad x28_44 x22_29 a5 S_31 _ hw) (cwV 3 C.2.2.2.2.1 gX10_strain_X10_lowest rfl rfl rfl (by decide +kernel) ⟨Nat.le_of_ble_eq_true rfl, Nat.le_of_ble_eq_true rfl⟩) hm_40 (cel_40 cA ad S_31 0) rfl rfl rfl rfl (Nat.le_of_ble_eq_true rfl) dX10_strain_312 (fun r_45 S_45 hw => ?_)
            exact hret _ _ _ _ dX10_strain_315 hw
        · have hw := hw.2 q_32
          refine k_lconst (v := 0) (pc := 217) C dX10_strain_217 (by decide) ?_
          exact hret _ _ _ _ dX10_strain_218 hw
      refine k_lif_ne (pc := 198) C 206 dX10_strain_198 dX10_strain_199 (by decide) (fun q_46 => ?_) (fun q_46 => ?_)
      · have hw := hw.1 q_46
        refine k_iconst (v := 0) (pc := 206) C dX10_strain_206 (by decide) ?_
        refine k_sub [9, 13, 14, 8, 7, 6, 5, 4, 3, 2, 1, 0] [(0, .ref (ad 40 0)), (4, .int a4), (5, .int a5), (6, .long x6_7), (8, .long x8_10), (10, .long x10_13), (12, .long x12_16), (14, .long x14_19), (16, .long x16_22), (18, .long x18_25), (20, .long x20_28), (22, .long x22_29)] rfl ?_
        exact j_30 0 S_3 hw
      · have hw := hw.2 q_46
        refine k_iconst (v := 2) (pc := 202) C dX10_strain_202 (by decide) ?_
        refine k_goto (pc := 203) C 207 dX10_strain_203 (by decide) ?_
        refine k_sub [9, 13, 14, 8, 7, 6, 5, 4, 3, 2, 1, 0] [(0, .ref (ad 40 0)), (4, .int a4), (5, .int a5), (6, .long x6_7), (8, .long x8_10), (10, .long x10_13), (12, .long x12_16), (14, .long x14_19), (16, .long x16_22), (18, .long x18_25), (20, .long x20_28), (22, .long x22_29)] rfl ?_
        exact j_30 2 S_3 hw
    · have hw := hw.2 q_4
      refine k_lconst (v := 0) (pc := 51) C dX10_strain_51 (by decide) ?_
      exact hret _ _ _ _ dX10_strain_52 hw
  obtain ⟨J_47, hj_47, hw⟩ := hw
  have j_47 : ∀ (S_47 : Sg), J_47 S_47 → KK p l e (mkR 2 57) s m args below meth c 30 D cA ad A Q 40 [(0, .ref (ad 40 0)), (1, .int a1), (2, .int a2), (3, .int a3), (4, .int a4), (5, .int a5)] [.ref (ad 40 0)] S_47 := by
    intro S_47 hw
    have hw := hj_47 S_47 hw
    refine k_iconst (v := 1) (pc := 40) C dX10_strain_40 (by decide) ?_
    refine k_sub [0, 1, 2, 3, 4, 5] [(0, .ref (ad 40 0)), (1, .int a1), (2, .int a2), (3, .int a3), (4, .int a4), (5, .int a5)] rfl ?_
    exact j_2 1 S_47 hw
  refine k_if_eq (pc := 6) C 40 dX10_strain_6 (by decide) (fun q_48 => ?_) (fun q_48 => ?_)
  · have hw := hw.1 q_48
    refine k_sub [0, 1, 2, 3, 4, 5] [(0, .ref (ad 40 0)), (1, .int a1), (2, .int a2), (3, .int a3), (4, .int a4), (5, .int a5)] rfl ?_
    exact j_47 S_1 hw
  · have hw := hw.2 q_48
    refine k_aload_n (pc := 9) C dX10_strain_9 0 rfl rfl ?_
    refine k_iload_n (pc := 10) C dX10_strain_10 2 rfl rfl ?_
    refine k_callVi (pc := 11) C (ct_X10_isMark l D cA ad a2 S_1 _ hw) (cwV 1 C.2.2.2.2.1 gX10_strain_X10_isMark rfl rfl rfl (by decide +kernel) ⟨Nat.le_of_ble_eq_true rfl, Nat.le_of_ble_eq_true rfl⟩) hm_40 (cel_40 cA ad S_1 0) rfl rfl rfl rfl (Nat.le_of_ble_eq_true rfl) dX10_strain_11 (fun r_49 S_49 hw => ?_)
    refine k_if_eq (pc := 14) C 40 dX10_strain_14 (by decide) (fun q_50 => ?_) (fun q_50 => ?_)
    · have hw := hw.1 q_50
      refine k_sub [0, 1, 2, 3, 4, 5] [(0, .ref (ad 40 0)), (1, .int a1), (2, .int a2), (3, .int a3), (4, .int a4), (5, .int a5)] rfl ?_
      exact j_47 S_49 hw
    · have hw := hw.2 q_50
      refine k_aload_n (pc := 17) C dX10_strain_17 0 rfl rfl ?_
      refine k_iload_n (pc := 18) C dX10_strain_18 3 rfl rfl ?_
      refine k_callVi (pc := 19) C (ct_X10_isMark l D cA ad a3 S_49 _ hw) (cwV 1 C.2.2.2.2.1 gX10_strain_X10_isMark rfl rfl rfl (by decide +kernel) ⟨Nat.le_of_ble_eq_true rfl, Nat.le_of_ble_eq_true rfl⟩) hm_40 (cel_40 cA ad S_49 0) rfl rfl rfl rfl (Nat.le_of_ble_eq_true rfl) dX10_strain_19 (fun r_51 S_51 hw => ?_)
      refine k_if_eq (pc := 22) C 40 dX10_strain_22 (by decide) (fun q_52 => ?_) (fun q_52 => ?_)
      · have hw := hw.1 q_52
        refine k_sub [0, 1, 2, 3, 4, 5] [(0, .ref (ad 40 0)), (1, .int a1), (2, .int a2), (3, .int a3), (4, .int a4), (5, .int a5)] rfl ?_
        exact j_47 S_51 hw
      · have hw := hw.2 q_52
        refine k_aload_n (pc := 25) C dX10_strain_25 0 rfl rfl ?_
        refine k_iload (pc := 26) C dX10_strain_26 4 rfl ?_
        refine k_iconst (v := 0) (pc := 28) C dX10_strain_28 (by decide) ?_
        refine k_iconst (v := 3) (pc := 29) C dX10_strain_29 (by decide) ?_
        refine k_callVi (pc := 30) C (ct_X10_in l D cA ad a4 0 3 S_51 _ hw) (cwV 3 C.2.2.2.2.1 gX10_strain_X10_in rfl rfl rfl (by decide +kernel) ⟨Nat.le_of_ble_eq_true rfl, Nat.le_of_ble_eq_true rfl⟩) hm_40 (cel_40 cA ad S_51 0) rfl rfl rfl rfl (Nat.le_of_ble_eq_true rfl) dX10_strain_30 (fun r_53 S_53 hw => ?_)
        refine k_if_eq (pc := 33) C 40 dX10_strain_33 (by decide) (fun q_54 => ?_) (fun q_54 => ?_)
        · have hw := hw.1 q_54
          refine k_sub [0, 1, 2, 3, 4, 5] [(0, .ref (ad 40 0)), (1, .int a1), (2, .int a2), (3, .int a3), (4, .int a4), (5, .int a5)] rfl ?_
          exact j_47 S_53 hw
        · have hw := hw.2 q_54
          refine k_iconst (v := 0) (pc := 36) C dX10_strain_36 (by decide) ?_
          refine k_goto (pc := 37) C 41 dX10_strain_37 (by decide) ?_
          refine k_sub [0, 1, 2, 3, 4, 5] [(0, .ref (ad 40 0)), (1, .int a1), (2, .int a2), (3, .int a3), (4, .int a4), (5, .int a5)] rfl ?_
          exact j_2 0 S_53 hw
