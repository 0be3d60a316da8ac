def wp_X10_fits (S : Sg) (Q : Int32 → Sg → Prop) : Prop :=
  wp_X10_findSlips S (fun S_1 => Q (gI S_1 40 0 19) S_1)
set_option maxHeartbeats 4000000 in
set_option maxRecDepth 100000 in
theorem ct_X10_fits (l : Launch) (D : va_G) (cA : Nat → ClassId) (ad : Nat → Nat → Nat) (S : Sg) (Q : Int32 → Sg → Prop) (hw : wp_X10_fits  S Q) : CtI l yX10_fits wsX10_fits (mkR 3 71) D cA ad [.ref (ad 40 0)] S Q := by
  refine ct_ofI (cc := cX10_fits) (nL := 1) (by decide) rfl (Nat.le_of_ble_eq_true rfl) ?_
  intro p e s m args below meth c A Q C hret
  unfold wp_X10_fits at hw
  have C : Cx p s m args c cX10_fits 1 wsX10_fits RX10 D cA A := C
  have hin : ∀ w ∈ u_ws RX10 TX10 33, w ∈ wsX10_fits := fun w h => List.mem_cons_of_mem _ (List.mem_append_right _ h)
  have f69 : Cond.fieldLink RX10 69 "CreepBoardModel" "fitting" "I" ∈ wsX10_fits := by decide +kernel
  change KK p l e (mkR 3 71) s m args below meth c 1 D cA ad A Q 0 [(0, .ref (ad 40 0))] [] S
  refine k_aload_n (pc := 0) C dX10_fits_0 0 rfl rfl ?_
  refine k_callVv (pc := 1) C (ct_X10_findSlips l D cA ad  S _ hw) (cwV 0 C.2.2.2.2.1 gX10_fits_X10_findSlips rfl rfl rfl (by decide +kernel) ⟨Nat.le_of_ble_eq_true rfl, Nat.le_of_ble_eq_true rfl⟩) hm_40 (cel_40 cA ad S 0) rfl rfl rfl rfl (Nat.le_of_ble_eq_true rfl) dX10_fits_1 (fun S_1 hw => ?_)
  refine k_aload_n (pc := 4) C dX10_fits_4 0 rfl rfl ?_
  refine k_get (j := 19) (pc := 5) C hin hm_40 (cel_40 cA ad S_1 0) rfl (by decide) f69 (fun _ h => h) rfl dX10_fits_5 ?_
  exact hret _ _ _ _ dX10_fits_8 hw
def wp_X10_slip (a1 : Int32) (a2 : Int32) (S : Sg) (Q : Int32 → Sg → Prop) : Prop :=
  wp_X10_in a1 0 2 S (fun r_1 S_1 => ((¬ r_1 = 0 → wp_X10_findSlips S_1 (fun S_3 => ((¬ (gI S_3 40 0 19) = 0 → ((a2 = 0 → (vp_in a1 3 ∧ Q (gA S_3 57 0 (Int32.toNatClampNeg a1)) S_3)) ∧ (¬ a2 = 0 → (vp_in a1 3 ∧ Q (gA S_3 58 0 (Int32.toNatClampNeg a1)) S_3)))) ∧ ((gI S_3 40 0 19) = 0 → Q (-4) S_3)))) ∧ (r_1 = 0 → Q (-1) S_1)))
set_option maxHeartbeats 4000000 in
set_option maxRecDepth 100000 in
theorem ct_X10_slip (l : Launch) (D : va_G) (cA : Nat → ClassId) (ad : Nat → Nat → Nat) (a1 : Int32) (a2 : Int32) (S : Sg) (Q : Int32 → Sg → Prop) (hw : wp_X10_slip a1 a2 S Q) : CtI l yX10_slip wsX10_slip (mkR 3 71) D cA ad [.ref (ad 40 0), .int a1, .int a2] S Q := by
  refine ct_ofI (cc := cX10_slip) (nL := 3) (by decide) rfl (Nat.le_of_ble_eq_true rfl) ?_
  intro p e s m args below meth c A Q C hret
  unfold wp_X10_slip at hw
  have C : Cx p s m args c cX10_slip 3 wsX10_slip RX10 D cA A := C
  have hin : ∀ w ∈ u_ws RX10 TX10 33, w ∈ wsX10_slip := fun w h => List.mem_cons_of_mem _ (List.mem_append_right _ h)
  have f69 : Cond.fieldLink RX10 69 "CreepBoardModel" "fitting" "I" ∈ wsX10_slip := by decide +kernel
  have f72 : Cond.fieldLink RX10 72 "CreepBoardModel" "leastSlip" "[I" ∈ wsX10_slip := by decide +kernel
  have f75 : Cond.fieldLink RX10 75 "CreepBoardModel" "mostSlip" "[I" ∈ wsX10_slip := by decide +kernel
  change KK p l e (mkR 3 71) s m args below meth c 3 D cA ad A Q 0 [(0, .ref (ad 40 0)), (1, .int a1), (2, .int a2)] [] S
  refine k_aload_n (pc := 0) C dX10_slip_0 0 rfl rfl ?_
  refine k_iload_n (pc := 1) C dX10_slip_1 1 rfl rfl ?_
  refine k_iconst (v := 0) (pc := 2) C dX10_slip_2 (by decide) ?_
  refine k_iconst (v := 2) (pc := 3) C dX10_slip_3 (by decide) ?_
  refine k_callVi (pc := 4) C (ct_X10_in l D cA ad a1 0 2 S _ hw) (cwV 3 C.2.2.2.2.1 gX10_slip_X10_in rfl rfl rfl (by decide +kernel) ⟨Nat.le_of_ble_eq_true rfl, Nat.le_of_ble_eq_true rfl⟩) hm_40 (cel_40 cA ad S 0) rfl rfl rfl rfl (Nat.le_of_ble_eq_true rfl) dX10_slip_4 (fun r_1 S_1 hw => ?_)
  refine k_if_ne (pc := 7) C 12 dX10_slip_7 (by decide) (fun q_2 => ?_) (fun q_2 => ?_)
  · have hw := hw.1 q_2
    refine k_aload_n (pc := 12) C dX10_slip_12 0 rfl rfl ?_
    refine k_callVv (pc := 13) C (ct_X10_findSlips l D cA ad  S_1 _ hw) (cwV 0 C.2.2.2.2.1 gX10_slip_X10_findSlips rfl rfl rfl (by decide +kernel) ⟨Nat.le_of_ble_eq_true rfl, Nat.le_of_ble_eq_true rfl⟩) hm_40 (cel_40 cA ad S_1 0) rfl rfl rfl rfl (Nat.le_of_ble_eq_true rfl) dX10_slip_13 (fun S_3 hw => ?_)
    refine k_aload_n (pc := 16) C dX10_slip_16 0 rfl rfl ?_
    refine k_get (j := 19) (pc := 17) C hin hm_40 (cel_40 cA ad S_3 0) rfl (by decide) f69 (fun _ h => h) rfl dX10_slip_17 ?_
    refine k_if_ne (pc := 20) C 28 dX10_slip_20 (by decide) (fun q_4 => ?_) (fun q_4 => ?_)
    · have hw := hw.1 q_4
      refine k_iload_n (pc := 28) C dX10_slip_28 2 rfl rfl ?_
      refine k_if_eq (pc := 29) C 41 dX10_slip_29 (by decide) (fun q_5 => ?_) (fun q_5 => ?_)
      · have hw := hw.1 q_5
        refine k_aload_n (pc := 41) C dX10_slip_41 0 rfl rfl ?_
        refine k_get (j := 20) (pc := 42) C hin hm_40 (cel_40 cA ad S_3 0) rfl (by decide) f72 (fun _ h => h) rfl dX10_slip_42 ?_
        refine k_iload_n (pc := 45) C dX10_slip_45 1 rfl rfl ?_
        obtain ⟨h_6, hw⟩ := hw
        refine k_iald (pc := 46) C hm_57 (cel_57 cA ad S_3 0) h_6 dX10_slip_46 ?_
        exact hret _ _ _ _ dX10_slip_47 hw
      · have hw := hw.2 q_5
        refine k_aload_n (pc := 32) C dX10_slip_32 0 rfl rfl ?_
        refine k_get (j := 21) (pc := 33) C hin hm_40 (cel_40 cA ad S_3 0) rfl (by decide) f75 (fun _ h => h) rfl dX10_slip_33 ?_
        refine k_iload_n (pc := 36) C dX10_slip_36 1 rfl rfl ?_
        obtain ⟨h_7, hw⟩ := hw
        refine k_iald (pc := 37) C hm_58 (cel_58 cA ad S_3 0) h_7 dX10_slip_37 ?_
        refine k_goto (pc := 38) C 47 dX10_slip_38 (by decide) ?_
        exact hret _ _ _ _ dX10_slip_47 hw
    · have hw := hw.2 q_4
      refine k_bipush (v := (-4)) (pc := 23) C dX10_slip_23 (by decide) ?_
      refine k_goto (pc := 25) C 47 dX10_slip_25 (by decide) ?_
      exact hret _ _ _ _ dX10_slip_47 hw
  · have hw := hw.2 q_2
    refine k_iconst (v := (-1)) (pc := 10) C dX10_slip_10 (by decide) ?_
    exact hret _ _ _ _ dX10_slip_11 hw
def wp_X10_locked (S : Sg) (Q : Int32 → Sg → Prop) : Prop :=
  wp_X10_findSlips S (fun S_1 => ((¬ (gI S_1 40 0 19) = 0 → (∃ (I_3 : Int32 → Int32 → Sg → Prop) (μ_3 : Int32 → Int32 → Sg → Nat), I_3 0 0 S_1 ∧ ∀ (v1_3 : Int32) (v2_3 : Int32) (S_3 : Sg), I_3 v1_3 v2_3 S_3 → ((3 ≤ v2_3 → Q v1_3 S_3) ∧ (¬ 3 ≤ v2_3 → (vp_in v2_3 3 ∧ ((¬ (gA S_3 58 0 (Int32.toNatClampNeg v2_3)) = 0 → (∀ x1_7 : Int32, x1_7 = (v1_3 ||| 0) → (∀ x2_8 : Int32, x2_8 = v2_3 + 1 → (I_3 x1_7 x2_8 S_3 ∧ μ_3 x1_7 x2_8 S_3 < μ_3 v1_3 v2_3 S_3)))) ∧ ((gA S_3 58 0 (Int32.toNatClampNeg v2_3)) = 0 → (∀ x1_9 : Int32, x1_9 = (v1_3 ||| ((1 : Int32) <<< (v2_3 &&& 31))) → (∀ x2_10 : Int32, x2_10 = v2_3 + 1 → (I_3 x1_9 x2_10 S_3 ∧ μ_3 x1_9 x2_10 S_3 < μ_3 v1_3 v2_3 S_3)))))))))) ∧ ((gI S_1 40 0 19) = 0 → Q (-4) S_1)))
set_option maxHeartbeats 4000000 in
set_option maxRecDepth 100000 in
theorem ct_X10_locked (l : Launch) (D : va_G) (cA : Nat → ClassId) (ad : Nat → Nat → Nat) (S : Sg) (Q : Int32 → Sg → Prop) (hw : wp_X10_locked  S Q) : CtI l yX10_locked wsX10_locked (mkR 3 71) D cA ad [.ref (ad 40 0)] S Q := by
  refine ct_ofI (cc := cX10_locked) (nL := 3) (by decide) rfl (Nat.le_of_ble_eq_true rfl) ?_
  intro p e s m args below meth c A Q C hret
  unfold wp_X10_locked at hw
  have C : Cx p s m args c cX10_locked 3 wsX10_locked RX10 D cA A := C
  have hin : ∀ w ∈ u_ws RX10 TX10 33, w ∈ wsX10_locked := fun w h => List.mem_cons_of_mem _ (List.mem_append_right _ h)
  have f69 : Cond.fieldLink RX10 69 "CreepBoardModel" "fitting" "I" ∈ wsX10_locked := by decide +kernel
  have f75 : Cond.fieldLink RX10 75 "CreepBoardModel" "mostSlip" "[I" ∈ wsX10_locked := by decide +kernel
  change KK p l e (mkR 3 71) s m args below meth c 3 D cA ad A Q 0 [(0, .ref (ad 40 0))] [] S
  refine k_aload_n (pc := 0) C dX10_locked_0 0 rfl rfl ?_
  refine k_callVv (pc := 1) C (ct_X10_findSlips l D cA ad  S _ hw) (cwV 0 C.2.2.2.2.1 gX10_locked_X10_findSlips rfl rfl rfl (by decide +kernel) ⟨Nat.le_of_ble_eq_true rfl, Nat.le_of_ble_eq_true rfl⟩) hm_40 (cel_40 cA ad S 0) rfl rfl rfl rfl (Nat.le_of_ble_eq_true rfl) dX10_locked_1 (fun S_1 hw => ?_)
  refine k_aload_n (pc := 4) C dX10_locked_4 0 rfl rfl ?_
  refine k_get (j := 19) (pc := 5) C hin hm_40 (cel_40 cA ad S_1 0) rfl (by decide) f69 (fun _ h => h) rfl dX10_locked_5 ?_
  refine k_if_ne (pc := 8) C 14 dX10_locked_8 (by decide) (fun q_2 => ?_) (fun q_2 => ?_)
  · have hw := hw.1 q_2
    refine k_iconst (v := 0) (pc := 14) C dX10_locked_14 (by decide) ?_
    refine k_istore_n (pc := 15) C dX10_locked_15 rfl (by decide) [(1, .int 0), (0, .ref (ad 40 0))] rfl ?_
    refine k_iconst (v := 0) (pc := 16) C dX10_locked_16 (by decide) ?_
    refine k_istore_n (pc := 17) C dX10_locked_17 rfl (by decide) [(2, .int 0), (1, .int 0), (0, .ref (ad 40 0))] rfl ?_
    refine k_sub [2, 1, 0] [(0, .ref (ad 40 0)), (1, .int 0), (2, .int 0)] rfl ?_
    obtain ⟨I_3, μ_3, hi_3, hw⟩ := hw
    have L_3 : ∀ (n : Nat) (v1_3 : Int32) (v2_3 : Int32) (S_3 : Sg), μ_3 v1_3 v2_3 S_3 < n → I_3 v1_3 v2_3 S_3 → KK p l e (mkR 3 71) s m args below meth c 3 D cA ad A Q 18 [(0, .ref (ad 40 0)), (1, .int v1_3), (2, .int v2_3)] [] S_3 := by
      intro n
      induction n with
      | zero => intro v1_3 v2_3 S_3 h; exact absurd h (Nat.not_lt_zero _)
      | succ n ih_3 =>
        intro v1_3 v2_3 S_3 hn_3 hi_3
        have hw := hw v1_3 v2_3 S_3 hi_3
        refine k_iload_n (pc := 18) C dX10_locked_18 2 rfl rfl ?_
        refine k_iconst (v := 3) (pc := 19) C dX10_locked_19 (by decide) ?_
        refine k_icmp_ge (pc := 20) C 48 dX10_locked_20 (by decide) (fun q_4 => ?_) (fun q_4 => ?_)
        · have hw := hw.1 q_4
          refine k_iload_n (pc := 48) C dX10_locked_48 1 rfl rfl ?_
          exact hret _ _ _ _ dX10_locked_49 hw
        · have hw := hw.2 q_4
          refine k_iload_n (pc := 23) C dX10_locked_23 1 rfl rfl ?_
          refine k_aload_n (pc := 24) C dX10_locked_24 0 rfl rfl ?_
          refine k_get (j := 21) (pc := 25) C hin hm_40 (cel_40 cA ad S_3 0) rfl (by decide) f75 (fun _ h => h) rfl dX10_locked_25 ?_
          refine k_iload_n (pc := 28) C dX10_locked_28 2 rfl rfl ?_
          obtain ⟨h_5, hw⟩ := hw
          refine k_iald (pc := 29) C hm_58 (cel_58 cA ad S_3 0) h_5 dX10_locked_29 ?_
          refine k_if_ne (pc := 30) C 39 dX10_locked_30 (by decide) (fun q_6 => ?_) (fun q_6 => ?_)
          · have hw := hw.1 q_6
            refine k_iconst (v := 0) (pc := 39) C dX10_locked_39 (by decide) ?_
            refine k_ior (pc := 40) C dX10_locked_40 ?_
            refine k_topi (fun x1_7 ex1_7 => ?_)
            have hw := hw x1_7 ex1_7
            refine k_istore_n (pc := 41) C dX10_locked_41 rfl (by decide) [(1, .int x1_7), (0, .ref (ad 40 0)), (2, .int v2_3)] rfl ?_
            obtain ⟨x2_8, ex2_8⟩ : ∃ y : Int32, y = v2_3 + 1 := ⟨_, rfl⟩
            have hw := hw x2_8 ex2_8
            refine k_iinc (v := x2_8) (j := 2) (pc := 42) C dX10_locked_42 rfl (by rw [ex2_8]; rfl) (by decide) [(2, .int x2_8), (1, .int x1_7), (0, .ref (ad 40 0))] rfl ?_
            refine k_goto (pc := 45) C 18 dX10_locked_45 (by decide) ?_
            refine k_sub [2, 1, 0] [(0, .ref (ad 40 0)), (1, .int x1_7), (2, .int x2_8)] rfl ?_
            exact ih_3 x1_7 x2_8 S_3 (Nat.lt_of_lt_of_le hw.2 (Nat.le_of_lt_succ hn_3)) hw.1
          · have hw := hw.2 q_6
            refine k_iconst (v := 1) (pc := 33) C dX10_locked_33 (by decide) ?_
            refine k_iload_n (pc := 34) C dX10_locked_34 2 rfl rfl ?_
            refine k_ishl (pc := 35) C dX10_locked_35 ?_
            refine k_goto (pc := 36) C 40 dX10_locked_36 (by decide) ?_
            refine k_ior (pc := 40) C dX10_locked_40 ?_
            refine k_topi (fun x1_9 ex1_9 => ?_)
            have hw := hw x1_9 ex1_9
            refine k_istore_n (pc := 41) C dX10_locked_41 rfl (by decide) [(1, .int x1_9), (0, .ref (ad 40 0)), (2, .int v2_3)] rfl ?_
            obtain ⟨x2_10, ex2_10⟩ : ∃ y : Int32, y = v2_3 + 1 := ⟨_, rfl⟩
            have hw := hw x2_10 ex2_10
            refine k_iinc (v := x2_10) (j := 2) (pc := 42) C dX10_locked_42 rfl (by rw [ex2_10]; rfl) (by decide) [(2, .int x2_10), (1, .int x1_9), (0, .ref (ad 40 0))] rfl ?_
            refine k_goto (pc := 45) C 18 dX10_locked_45 (by decide) ?_
            refine k_sub [2, 1, 0] [(0, .ref (ad 40 0)), (1, .int x1_9), (2, .int x2_10)] rfl ?_
            exact ih_3 x1_9 x2_10 S_3 (Nat.lt_of_lt_of_le hw.2 (Nat.le_of_lt_succ hn_3)) hw.1
    exact L_3 (μ_3 0 0 S_1 + 1) 0 0 S_1 (Nat.lt_succ_self _) hi_3
  · have hw := hw.2 q_2
    refine k_bipush (v := (-4)) (pc := 11) C dX10_locked_11 (by decide) ?_
    exact hret _ _ _ _ dX10_locked_13 hw
def wp_X10_line (a1 : Int32) (a2 : Int32) (a3 : Int32) (S : Sg) (Q : Int32 → Sg → Prop) : Prop :=
  wp_X10_isMark a1 S (fun r_1 S_1 => ((r_1 = 0 → Q (-1) S_1) ∧ (¬ r_1 = 0 → wp_X10_isMark a2 S_1 (fun r_3 S_3 => ((r_3 = 0 → Q (-1) S_3) ∧ (¬ r_3 = 0 → ((a1 = a2 → Q (-1) S_3) ∧ (¬ a1 = a2 → wp_X10_in a3 (-10000) 10000 S_3 (fun r_6 S_6 => ((¬ r_6 = 0 → ((¬ (gI S_6 40 0 22) = 14 → (vp_in (gI S_6 40 0 22) 14 ∧ ∀ S_10 : Sg, S_10 = uA S_6 59 0 (Int32.toNatClampNeg (gI S_6 40 0 22)) a1 → (vp_in (gI S_10 40 0 22) 14 ∧ ∀ S_12 : Sg, S_12 = uA S_10 60 0 (Int32.toNatClampNeg (gI S_10 40 0 22)) a2 → (vp_in (gI S_12 40 0 22) 14 ∧ ∀ S_14 : Sg, S_14 = uA S_12 61 0 (Int32.toNatClampNeg (gI S_12 40 0 22)) a3 → (∀ S_15 : Sg, S_15 = uI S_14 40 0 22 ((gI S_14 40 0 22) + 1) → Q ((gI S_15 40 0 22) - 1) S_15))))) ∧ ((gI S_6 40 0 22) = 14 → Q (-2) S_6))) ∧ (r_6 = 0 → Q (-1) S_6)))))))))))
set_option maxHeartbeats 4000000 in
set_option maxRecDepth 100000 in
theorem ct_X10_line (l : Launch) (D : va_G) (cA : Nat → ClassId) (ad : Nat → Nat → Nat) (a1 : Int32) (a2 : Int32) (a3 : Int32) (S : Sg) (Q : Int32 → Sg → Prop) (hw : wp_X10_line a1 a2 a3 S Q) : CtI l yX10_line wsX10_line (mkR 2 44) D cA ad [.ref (ad 40 0), .int a1, .int a2, .int a3] S Q := by
  refine ct_ofI (cc := cX10_line) (nL := 4) (by decide) rfl (Nat.le_of_ble_eq_true rfl) ?_
  intro p e s m args below meth c A Q C hret
  unfold wp_X10_line at hw
  have C : Cx p s m args c cX10_line 4 wsX10_line RX10 D cA A := C
  have hin : ∀ w ∈ u_ws RX10 TX10 33, w ∈ wsX10_line := fun w h => List.mem_cons_of_mem _ (List.mem_append_right _ h)
  have f78 : Cond.fieldLink RX10 78 "CreepBoardModel" "lines" "I" ∈ wsX10_line := by decide +kernel
  have f81 : Cond.fieldLink RX10 81 "CreepBoardModel" "from" "[I" ∈ wsX10_line := by decide +kernel
  have f84 : Cond.fieldLink RX10 84 "CreepBoardModel" "to" "[I" ∈ wsX10_line := by decide +kernel
  have f87 : Cond.fieldLink RX10 87 "CreepBoardModel" "rise" "[I" ∈ wsX10_line := by decide +kernel
  change KK p l e (mkR 2 44) s m args below meth c 4 D cA ad A Q 0 [(0, .ref (ad 40 0)), (1, .int a1), (2, .int a2), (3, .int a3)] [] S
  refine k_aload_n (pc := 0) C dX10_line_0 0 rfl rfl ?_
  refine k_iload_n (pc := 1) C dX10_line_1 1 rfl rfl ?_
  refine k_callVi (pc := 2) C (ct_X10_isMark l D cA ad a1 S _ hw) (cwV 1 C.2.2.2.2.1 gX10_line_X10_isMark rfl rfl rfl (by decide +kernel) ⟨Nat.le_of_ble_eq_true rfl, Nat.le_of_ble_eq_true rfl⟩) hm_40 (cel_40 cA ad S 0) rfl rfl rfl rfl (Nat.le_of_ble_eq_true rfl) dX10_line_2 (fun r_1 S_1 hw => ?_)
  refine k_if_eq (pc := 5) C 35 dX10_line_5 (by decide) (fun q_2 => ?_) (fun q_2 => ?_)
  · have hw := hw.1 q_2
    refine k_iconst (v := (-1)) (pc := 35) C dX10_line_35 (by decide) ?_
    exact hret _ _ _ _ dX10_line_36 hw
  · have hw := hw.2 q_2
    refine k_aload_n (pc := 8) C dX10_line_8 0 rfl rfl ?_
    refine k_iload_n (pc := 9) C dX10_line_9 2 rfl rfl ?_
    refine k_callVi (pc := 10) C (ct_X10_isMark l D cA ad a2 S_1 _ hw) (cwV 1 C.2.2.2.2.1 gX10_line_X10_isMark rfl rfl rfl (by decide +kernel) ⟨Nat.le_of_ble_eq_true rfl, Nat.le_of_ble_eq_true rfl⟩) hm_40 (cel_40 cA ad S_1 0) rfl rfl rfl rfl (Nat.le_of_ble_eq_true rfl) dX10_line_10 (fun r_3 S_3 hw => ?_)
    refine k_if_eq (pc := 13) C 35 dX10_line_13 (by decide) (fun q_4 => ?_) (fun q_4 => ?_)
    · have hw := hw.1 q_4
      refine k_iconst (v := (-1)) (pc := 35) C dX10_line_35 (by decide) ?_
      exact hret _ _ _ _ dX10_line_36 hw
    · have hw := hw.2 q_4
      refine k_iload_n (pc := 16) C dX10_line_16 1 rfl rfl ?_
      refine k_iload_n (pc := 17) C dX10_line_17 2 rfl rfl ?_
      refine k_icmp_eq (pc := 18) C 35 dX10_line_18 (by decide) (fun q_5 => ?_) (fun q_5 => ?_)
      · have hw := hw.1 q_5
        refine k_iconst (v := (-1)) (pc := 35) C dX10_line_35 (by decide) ?_
        exact hret _ _ _ _ dX10_line_36 hw
      · have hw := hw.2 q_5
        refine k_aload_n (pc := 21) C dX10_line_21 0 rfl rfl ?_
        refine k_iload_n (pc := 22) C dX10_line_22 3 rfl rfl ?_
        refine k_sipush (v := (-10000)) (pc := 23) C dX10_line_23 (by decide) ?_
        refine k_sipush (v := 10000) (pc := 26) C dX10_line_26 (by decide) ?_
        refine k_callVi (pc := 29) C (ct_X10_in l D cA ad a3 (-10000) 10000 S_3 _ hw) (cwV 3 C.2.2.2.2.1 gX10_line_X10_in rfl rfl rfl (by decide +kernel) ⟨Nat.le_of_ble_eq_true rfl, Nat.le_of_ble_eq_true rfl⟩) hm_40 (cel_40 cA ad S_3 0) rfl rfl rfl rfl (Nat.le_of_ble_eq_true rfl) dX10_line_29 (fun r_6 S_6 hw => ?_)
        refine k_if_ne (pc := 32) C 37 dX10_line_32 (by decide) (fun q_7 => ?_) (fun q_7 => ?_)
        · have hw := hw.1 q_7
          refine k_aload_n (pc := 37) C dX10_line_37 0 rfl rfl ?_
          refine k_get (j := 22) (pc := 38) C hin hm_40 (cel_40 cA ad S_6 0) rfl (by decide) f78 (fun _ h => h) rfl dX10_line_38 ?_
          refine k_bipush (v := 14) (pc := 41) C dX10_line_41 (by decide) ?_
          refine k_icmp_ne (pc := 43) C 49 dX10_line_43 (by decide) (fun q_8 => ?_) (fun q_8 => ?_)
          · have hw := hw.1 q_8
            refine k_aload_n (pc := 49) C dX10_line_49 0 rfl rfl ?_
            refine k_get (j := 23) (pc := 50) C hin hm_40 (cel_40 cA ad S_6 0) rfl (by decide) f81 (fun _ h => h) rfl dX10_line_50 ?_
            refine k_aload_n (pc := 53) C dX10_line_53 0 rfl rfl ?_
            refine k_get (j := 22) (pc := 54) C hin hm_40 (cel_40 cA ad S_6 0) rfl (by decide) f78 (fun _ h => h) rfl dX10_line_54 ?_
            refine k_iload_n (pc := 57) C dX10_line_57 1 rfl rfl ?_
            obtain ⟨h_9, hw⟩ := hw
            refine k_iast (pc := 58) C hm_59 (fun S => cel_59 cA ad S 0) h_9 dX10_line_58 ?_
            refine k_nameS (fun S_10 eS_10 => ?_)
            have hw := hw S_10 eS_10
            refine k_aload_n (pc := 59) C dX10_line_59 0 rfl rfl ?_
            refine k_get (j := 24) (pc := 60) C hin hm_40 (cel_40 cA ad S_10 0) rfl (by decide) f84 (fun _ h => h) rfl dX10_line_60 ?_
            refine k_aload_n (pc := 63) C dX10_line_63 0 rfl rfl ?_
            refine k_get (j := 22) (pc := 64) C hin hm_40 (cel_40 cA ad S_10 0) rfl (by decide) f78 (fun _ h => h) rfl dX10_line_64 ?_
            refine k_iload_n (pc := 67) C dX10_line_67 2 rfl rfl ?_
            obtain ⟨h_11, hw⟩ := hw
            refine k_iast (pc := 68) C hm_60 (fun S => cel_60 cA ad S 0) h_11 dX10_line_68 ?_
            refine k_nameS (fun S_12 eS_12 => ?_)
            have hw := hw S_12 eS_12
            refine k_aload_n (pc := 69) C dX10_line_69 0 rfl rfl ?_
            refine k_get (j := 25) (pc := 70) C hin hm_40 (cel_40 cA ad S_12 0) rfl (by decide) f87 (fun _ h => h) rfl dX10_line_70 ?_
            refine k_aload_n (pc := 73) C dX10_line_73 0 rfl rfl ?_
            refine k_get (j := 22) (pc := 74) C hin hm_40 (cel_40 cA ad S_12 0) rfl (by decide) f78 (fun _ h => h) rfl dX10_line_74 ?_
            refine k_iload_n (pc := 77) C dX10_line_77 3 rfl rfl ?_
            obtain ⟨h_13, hw⟩ := hw
            refine k_iast (pc := 78) C hm_61 (fun S => cel_61 cA ad S 0) h_13 dX10_line_78 ?_
            refine k_nameS (fun S_14 eS_14 => ?_)
            have hw := hw S_14 eS_14
            refine k_aload_n (pc := 79) C dX10_line_79 0 rfl rfl ?_
            refine k_dup (pc := 80) C dX10_line_80 rfl ?_
            refine k_get (j := 22) (pc := 81) C hin hm_40 (cel_40 cA ad S_14 0) rfl (by decide) f78 (fun _ h => h) rfl dX10_line_81 ?_
            refine k_iconst (v := 1) (pc := 84) C dX10_line_84 (by decide) ?_
            refine k_iadd (pc := 85) C dX10_line_85 ?_
            refine k_put (S' := uI S_14 40 0 22 ((gI S_14 40 0 22) + 1)) (j := 22) (ty := .int) (pc := 86) C hin tyX10 tyX10_ok nmX10 hm_40 (cel_40 cA ad S_14 0) rfl (by decide) f78 (fun _ h => h) rfl (by decide +kernel) rfl rfl (Nat.le_of_ble_eq_true rfl) rfl rfl (fun a b h => cel_uI h) dX10_line_86 ?_
            refine k_nameS (fun S_15 eS_15 => ?_)
            have hw := hw S_15 eS_15
            refine k_aload_n (pc := 89) C dX10_line_89 0 rfl rfl ?_
            refine k_get (j := 22) (pc := 90) C hin hm_40 (cel_40 cA ad S_15 0) rfl (by decide) f78 (fun _ h => h) rfl dX10_line_90 ?_
            refine k_iconst (v := 1) (pc := 93) C dX10_line_93 (by decide) ?_
            refine k_isub (pc := 94) C dX10_line_94 ?_
            exact hret _ _ _ _ dX10_line_95 hw
          · have hw := hw.2 q_8
            refine k_bipush (v := (-2)) (pc := 46) C dX10_line_46 (by decide) ?_
            exact hret _ _ _ _ dX10_line_48 hw
        · have hw := hw.2 q_7
          refine k_iconst (v := (-1)) (pc := 35) C dX10_line_35 (by decide) ?_
          exact hret _ _ _ _ dX10_line_36 hw
def wp_X10_unline (S : Sg) (Q : Int32 → Sg → Prop) : Prop :=
  ((¬ (gI S 40 0 22) = 0 → (∀ S_2 : Sg, S_2 = uI S 40 0 22 ((gI S 40 0 22) - 1) → Q (gI S_2 40 0 22) S_2)) ∧ ((gI S 40 0 22) = 0 → Q (-3) S))
set_option maxHeartbeats 4000000 in
set_option maxRecDepth 100000 in
theorem ct_X10_unline (l : Launch) (D : va_G) (cA : Nat → ClassId) (ad : Nat → Nat → Nat) (S : Sg) (Q : Int32 → Sg → Prop) (hw : wp_X10_unline  S Q) : CtI l yX10_unline wsX10_unline (mkR 0 0) D cA ad [.ref (ad 40 0)] S Q := by
  refine ct_ofI (cc := cX10_unline) (nL := 1) (by decide) rfl (Nat.le_of_ble_eq_true rfl) ?_
  intro p e s m args below meth c A Q C hret
  unfold wp_X10_unline at hw
  have C : Cx p s m args c cX10_unline 1 wsX10_unline RX10 D cA A := C
  have hin : ∀ w ∈ u_ws RX10 TX10 33, w ∈ wsX10_unline := fun w h => List.mem_cons_of_mem _ (List.mem_append_right _ h)
  have f78 : Cond.fieldLink RX10 78 "CreepBoardModel" "lines" "I" ∈ wsX10_unline := by decide +kernel
  change KK p l e (mkR 0 0) s m args below meth c 1 D cA ad A Q 0 [(0, .ref (ad 40 0))] [] S
  refine k_aload_n (pc := 0) C dX10_unline_0 0 rfl rfl ?_
  refine k_get (j := 22) (pc := 1) C hin hm_40 (cel_40 cA ad S 0) rfl (by decide) f78 (fun _ h => h) rfl dX10_unline_1 ?_
  refine k_if_ne (pc := 4) C 10 dX10_unline_4 (by decide) (fun q_1 => ?_) (fun q_1 => ?_)
  · have hw := hw.1 q_1
    refine k_aload_n (pc := 10) C dX10_unline_10 0 rfl rfl ?_
    refine k_dup (pc := 11) C dX10_unline_11 rfl ?_
    refine k_get (j := 22) (pc := 12) C hin hm_40 (cel_40 cA ad S 0) rfl (by decide) f78 (fun _ h => h) rfl dX10_unline_12 ?_
    refine k_iconst (v := 1) (pc := 15) C dX10_unline_15 (by decide) ?_
    refine k_isub (pc := 16) C dX10_unline_16 ?_
    refine k_put (S' := uI S 40 0 22 ((gI S 40 0 22) - 1)) (j := 22) (ty := .int) (pc := 17) C hin tyX10 tyX10_ok nmX10 hm_40 (cel_40 cA ad S 0) rfl (by decide) f78 (fun _ h => h) rfl (by decide +kernel) rfl rfl (Nat.le_of_ble_eq_true rfl) rfl rfl (fun a b h => cel_uI h) dX10_unline_17 ?_
    refine k_nameS (fun S_2 eS_2 => ?_)
    have hw := hw S_2 eS_2
    refine k_aload_n (pc := 20) C dX10_unline_20 0 rfl rfl ?_
    refine k_get (j := 22) (pc := 21) C hin hm_40 (cel_40 cA ad S_2 0) rfl (by decide) f78 (fun _ h => h) rfl dX10_unline_21 ?_
    exact hret _ _ _ _ dX10_unline_24 hw
  · have hw := hw.2 q_1
    refine k_bipush (v := (-3)) (pc := 7) C dX10_unline_7 (by decide) ?_
    exact hret _ _ _ _ dX10_unline_9 hw
def wp_X10_agree (a1 : Int32) (S : Sg) (Q : Int32 → Sg → Prop) : Prop :=
  (∃ (I_1 : Int32 → Sg → Prop) (μ_1 : Int32 → Sg → Nat), I_1 0 S ∧ ∀ (v2_1 : Int32) (S_1 : Sg), I_1 v2_1 S_1 → (((gI S_1 40 0 1) ≤ v2_1 → (∃ (I_3 : Int32 → Sg → Prop) (μ_3 : Int32 → Sg → Nat), I_3 0 S_1 ∧ ∀ (v2_3 : Int32) (S_3 : Sg), I_3 v2_3 S_3 → (((gI S_3 40 0 22) ≤ v2_3 → Q 1 S_3) ∧ (¬ (gI S_3 40 0 22) ≤ v2_3 → ((¬ ((a1 >>> (v2_3 &&& 31)) &&& 1) = 1 → (vp_in v2_3 14 ∧ (vp_in (gA S_3 59 0 (Int32.toNatClampNeg v2_3)) 10 ∧ (vp_in v2_3 14 ∧ (vp_in v2_3 14 ∧ (vp_in (gA S_3 60 0 (Int32.toNatClampNeg v2_3)) 10 ∧ (∀ x3_11 : Int64, x3_11 = (((gL S_3 63 0 (Int32.toNatClampNeg (gA S_3 59 0 (Int32.toNatClampNeg v2_3)))) + (Int32.toInt64 (gA S_3 61 0 (Int32.toNatClampNeg v2_3)))) - (gL S_3 63 0 (Int32.toNatClampNeg (gA S_3 60 0 (Int32.toNatClampNeg v2_3))))) → (vp_in v2_3 14 ∧ (vp_in (gA S_3 59 0 (Int32.toNatClampNeg v2_3)) 10 ∧ (vp_in v2_3 14 ∧ (vp_in (gA S_3 60 0 (Int32.toNatClampNeg v2_3)) 10 ∧ ((¬ (gA S_3 62 0 (Int32.toNatClampNeg (gA S_3 59 0 (Int32.toNatClampNeg v2_3)))) = (gA S_3 62 0 (Int32.toNatClampNeg (gA S_3 60 0 (Int32.toNatClampNeg v2_3)))) → (vp_in v2_3 14 ∧ (vp_in (gA S_3 60 0 (Int32.toNatClampNeg v2_3)) 10 ∧ (∀ x5_19 : Int32, x5_19 = (gA S_3 62 0 (Int32.toNatClampNeg (gA S_3 60 0 (Int32.toNatClampNeg v2_3)))) → (vp_in v2_3 14 ∧ (vp_in (gA S_3 59 0 (Int32.toNatClampNeg v2_3)) 10 ∧ (∀ x6_22 : Int32, x6_22 = (gA S_3 62 0 (Int32.toNatClampNeg (gA S_3 59 0 (Int32.toNatClampNeg v2_3)))) → (∃ (I_23 : Int32 → Sg → Prop) (μ_23 : Int32 → Sg → Nat), I_23 0 S_3 ∧ ∀ (v7_23 : Int32) (S_23 : Sg), I_23 v7_23 S_23 → (((gI S_23 40 0 1) ≤ v7_23 → (∀ x2_25 : Int32, x2_25 = v2_3 + 1 → (I_3 x2_25 S_23 ∧ μ_3 x2_25 S_23 < μ_3 v2_3 S_3))) ∧ (¬ (gI S_23 40 0 1) ≤ v7_23 → (vp_in v7_23 10 ∧ (((gA S_23 62 0 (Int32.toNatClampNeg v7_23)) = x5_19 → (vp_in v7_23 10 ∧ ∀ S_29 : Sg, S_29 = uA S_23 62 0 (Int32.toNatClampNeg v7_23) x6_22 → (vp_in v7_23 10 ∧ (vp_in v7_23 10 ∧ ∀ S_32 : Sg, S_32 = uL S_29 63 0 (Int32.toNatClampNeg v7_23) ((gL S_29 63 0 (Int32.toNatClampNeg v7_23)) + x3_11) → (∀ x7_33 : Int32, x7_33 = v7_23 + 1 → (I_23 x7_33 S_32 ∧ μ_23 x7_33 S_32 < μ_23 v7_23 S_23)))))) ∧ (¬ (gA S_23 62 0 (Int32.toNatClampNeg v7_23)) = x5_19 → (∀ x7_34 : Int32, x7_34 = v7_23 + 1 → (I_23 x7_34 S_23 ∧ μ_23 x7_34 S_23 < μ_23 v7_23 S_23))))))))))))))) ∧ ((gA S_3 62 0 (Int32.toNatClampNeg (gA S_3 59 0 (Int32.toNatClampNeg v2_3)))) = (gA S_3 62 0 (Int32.toNatClampNeg (gA S_3 60 0 (Int32.toNatClampNeg v2_3)))) → ((x3_11 = 0 → (∀ x2_36 : Int32, x2_36 = v2_3 + 1 → (I_3 x2_36 S_3 ∧ μ_3 x2_36 S_3 < μ_3 v2_3 S_3))) ∧ (¬ x3_11 = 0 → Q 0 S_3))))))))))))))) ∧ (((a1 >>> (v2_3 &&& 31)) &&& 1) = 1 → (∀ x2_37 : Int32, x2_37 = v2_3 + 1 → (I_3 x2_37 S_3 ∧ μ_3 x2_37 S_3 < μ_3 v2_3 S_3)))))))) ∧ (¬ (gI S_1 40 0 1) ≤ v2_1 → (vp_in v2_1 10 ∧ ∀ S_39 : Sg, S_39 = uA S_1 62 0 (Int32.toNatClampNeg v2_1) v2_1 → (vp_in v2_1 10 ∧ ∀ S_41 : Sg, S_41 = uL S_39 63 0 (Int32.toNatClampNeg v2_1) 0 → (∀ x2_42 : Int32, x2_42 = v2_1 + 1 → (I_1 x2_42 S_41 ∧ μ_1 x2_42 S_41 < μ_1 v2_1 S_1)))))))
set_option maxHeartbeats 4000000 in
set_option maxRecDepth 100000 in
theorem ct_X10_agree (l : Launch) (D : va_G) (cA : Nat → ClassId) (ad : Nat → Nat → Nat) (a1 : Int32) (S : Sg) (Q : Int32 → Sg → Prop) (hw : wp_X10_agree a1 S Q) : CtI l yX10_agree wsX10_agree (mkR 0 0) D cA ad [.ref (ad 40 0), .int a1] S Q := by
  refine ct_ofZ (cc := cX10_agree) (nL := 8) (by decide) rfl (Nat.le_of_ble_eq_true rfl) ?_
  intro p e s m args below meth c A Q C hret
  unfold wp_X10_agree at hw
  have C : Cx p s m args c cX10_agree 8 wsX10_agree RX10 D cA A := C
  have hin : ∀ w ∈ u_ws RX10 TX10 33, w ∈ wsX10_agree := fun w h => List.mem_cons_of_mem _ (List.mem_append_right _ h)
  have f13 : Cond.fieldLink RX10 13 "CreepBoardModel" "marks" "I" ∈ wsX10_agree := by decide +kernel
  have f78 : Cond.fieldLink RX10 78 "CreepBoardModel" "lines" "I" ∈ wsX10_agree := by decide +kernel
  have f93 : Cond.fieldLink RX10 93 "CreepBoardModel" "above" "[J" ∈ wsX10_agree := by decide +kernel
  have f81 : Cond.fieldLink RX10 81 "CreepBoardModel" "from" "[I" ∈ wsX10_agree := by decide +kernel
  have f87 : Cond.fieldLink RX10 87 "CreepBoardModel" "rise" "[I" ∈ wsX10_agree := by decide +kernel
  have f84 : Cond.fieldLink RX10 84 "CreepBoardModel" "to" "[I" ∈ wsX10_agree := by decide +kernel
  have f90 : Cond.fieldLink RX10 90 "CreepBoardModel" "group" "[I" ∈ wsX10_agree := by decide +kernel
  change KK p l e (mkR 0 0) s m args below meth c 8 D cA ad A Q 0 [(0, .ref (ad 40 0)), (1, .int a1)] [] S
  refine k_iconst (v := 0) (pc := 0) C dX10_agree_0 (by decide) ?_
  refine k_istore_n (pc := 1) C dX10_agree_1 rfl (by decide) [(2, .int 0), (0, .ref (ad 40 0)), (1, .int a1)] rfl ?_
  refine k_sub [1, 2, 0] [(0, .ref (ad 40 0)), (1, .int a1), (2, .int 0)] rfl ?_
  obtain ⟨I_1, μ_1, hi_1, hw⟩ := hw
  have L_1 : ∀ (n : Nat) (v2_1 : Int32) (S_1 : Sg), μ_1 v2_1 S_1 < n → I_1 v2_1 S_1 → KK p l e (mkR 0 0) s m args below meth c 8 D cA ad A Q 2 [(0, .ref (ad 40 0)), (1, .int a1), (2, .int v2_1)] [] S_1 := by
    intro n
    induction n with
    | zero => intro v2_1 S_1 h; exact absurd h (Nat.not_lt_zero _)
    | succ n ih_1 =>
      intro v2_1 S_1 hn_1 hi_1
      have hw := hw v2_1 S_1 hi_1
      refine k_iload_n (pc := 2) C dX10_agree_2 2 rfl rfl ?_
      refine k_aload_n (pc := 3) C dX10_agree_3 0 rfl rfl ?_
      refine k_get (j := 1) (pc := 4) C hin hm_40 (cel_40 cA ad S_1 0) rfl (by decide) f13 (fun _ h => h) rfl dX10_agree_4 ?_
      refine k_icmp_ge (pc := 7) C 30 dX10_agree_7 (by decide) (fun q_2 => ?_) (fun q_2 => ?_)
      · have hw := hw.1 q_2
        refine k_iconst (v := 0) (pc := 30) C dX10_agree_30 (by decide) ?_
        refine k_istore_n (pc := 31) C dX10_agree_31 rfl (by decide) [(2, .int 0), (0, .ref (ad 40 0)), (1, .int a1)] rfl ?_
        refine k_sub [1, 2, 0] [(0, .ref (ad 40 0)), (1, .int a1), (2, .int 0)] rfl ?_
        obtain ⟨I_3, μ_3, hi_3, hw⟩ := hw
        have L_3 : ∀ (n : Nat) (v2_3 : Int32) (S_3 : Sg), μ_3 v2_3 S_3 < n → I_3 v2_3 S_3 → KK p l e (mkR 0 0) s m args below meth c 8 D cA ad A Q 32 [(0, .ref (ad 40 0)), (1, .int a1), (2, .int v2_3)] [] S_3 := by
          intro n
          induction n with
          | zero => intro v2_3 S_3 h; exact absurd h (Nat.not_lt_zero _)
          | succ n ih_3 =>
            intro v2_3 S_3 hn_3 hi_3
            have hw := hw v2_3 S_3 hi_3
            refine k_iload_n (pc := 32) C dX10_agree_32 2 rfl rfl ?_
            refine k_aload_n (pc := 33) C dX10_agree_33 0 rfl rfl ?_
            refine k_get (j := 22) (pc := 34) C hin hm_40 (cel_40 cA ad S_3 0) rfl (by decide) f78 (fun _ h => h) rfl dX10_agree_34 ?_
            refine k_icmp_ge (pc := 37) C 202 dX10_agree_37 (by decide) (fun q_4 => ?_) (fun q_4 => ?_)
            · have hw := hw.1 q_4
              refine k_iconst (v := 1) (pc := 202) C dX10_agree_202 (by decide) ?_
              exact hret _ _ _ _ dX10_agree_203 rfl hw
            · have hw := hw.2 q_4
              refine k_iload_n (pc := 40) C dX10_agree_40 1 rfl rfl ?_
              refine k_iload_n (pc := 41) C dX10_agree_41 2 rfl rfl ?_
              refine k_ishr (pc := 42) C dX10_agree_42 ?_
              refine k_iconst (v := 1) (pc := 43) C dX10_agree_43 (by decide) ?_
              refine k_iand (pc := 44) C dX10_agree_44 ?_
              refine k_iconst (v := 1) (pc := 45) C dX10_agree_45 (by decide) ?_
              refine k_icmp_ne (pc := 46) C 52 dX10_agree_46 (by decide) (fun q_5 => ?_) (fun q_5 => ?_)
              · have hw := hw.1 q_5
                refine k_aload_n (pc := 52) C dX10_agree_52 0 rfl rfl ?_
                refine k_get (j := 27) (pc := 53) C hin hm_40 (cel_40 cA ad S_3 0) rfl (by decide) f93 (fun _ h => h) rfl dX10_agree_53 ?_
                refine k_aload_n (pc := 56) C dX10_agree_56 0 rfl rfl ?_
                refine k_get (j := 23) (pc := 57) C hin hm_40 (cel_40 cA ad S_3 0) rfl (by decide) f81 (fun _ h => h) rfl dX10_agree_57 ?_
                refine k_iload_n (pc := 60) C dX10_agree_60 2 rfl rfl ?_
                obtain ⟨h_6, hw⟩ := hw
                refine k_iald (pc := 61) C hm_59 (cel_59 cA ad S_3 0) h_6 dX10_agree_61 ?_
                obtain ⟨h_7, hw⟩ := hw
                refine k_lald (pc := 62) C hm_63 (cel_63 cA ad S_3 0) h_7 dX10_agree_62 ?_
                refine k_aload_n (pc := 63) C dX10_agree_63 0 rfl rfl ?_
                refine k_get (j := 25) (pc := 64) C hin hm_40 (cel_40 cA ad S_3 0) rfl (by decide) f87 (fun _ h => h) rfl dX10_agree_64 ?_
                refine k_iload_n (pc := 67) C dX10_agree_67 2 rfl rfl ?_
                obtain ⟨h_8, hw⟩ := hw
                refine k_iald (pc := 68) C hm_61 (cel_61 cA ad S_3 0) h_8 dX10_agree_68 ?_
                refine k_i2l (pc := 69) C dX10_agree_69 ?_
                refine k_ladd (pc := 70) C dX10_agree_70 ?_
                refine k_aload_n (pc := 71) C dX10_agree_71 0 rfl rfl ?_
                refine k_get (j := 27) (pc := 72) C hin hm_40 (cel_40 cA ad S_3 0) rfl (by decide) f93 (fun _ h => h) rfl dX10_agree_72 ?_
                refine k_aload_n (pc := 75) C dX10_agree_75 0 rfl rfl ?_
                refine k_get (j := 24) (pc := 76) C hin hm_40 (cel_40 cA ad S_3 0) rfl (by decide) f84 (fun _ h => h) rfl dX10_agree_76 ?_
                refine k_iload_n (pc := 79) C dX10_agree_79 2 rfl rfl ?_
                obtain ⟨h_9, hw⟩ := hw
                refine k_iald (pc := 80) C hm_60 (cel_60 cA ad S_3 0) h_9 dX10_agree_80 ?_
                obtain ⟨h_10, hw⟩ := hw
                refine k_lald (pc := 81) C hm_63 (cel_63 cA ad S_3 0) h_10 dX10_agree_81 ?_
                refine k_lsub (pc := 82) C dX10_agree_82 ?_
                refine k_topl (fun x3_11 ex3_11 => ?_)
                have hw := hw x3_11 ex3_11
                refine k_lstore_n (pc := 83) C dX10_agree_83 rfl (by decide) [(3, .long x3_11), (0, .ref (ad 40 0)), (1, .int a1), (2, .int v2_3)] rfl ?_
                refine k_aload_n (pc := 84) C dX10_agree_84 1 rfl rfl ?_
                refine k_get (j := 26) (pc := 85) C hin hm_40 (cel_40 cA ad S_3 0) rfl (by decide) f90 (fun _ h => h) rfl dX10_agree_85 ?_
                refine k_aload_n (pc := 88) C dX10_agree_88 1 rfl rfl ?_
                refine k_get (j := 23) (pc := 89) C hin hm_40 (cel_40 cA ad S_3 0) rfl (by decide) f81 (fun _ h => h) rfl dX10_agree_89 ?_
                refine k_iload_n (pc := 92) C dX10_agree_92 3 rfl rfl ?_
                obtain ⟨h_12, hw⟩ := hw
                refine k_iald (pc := 93) C hm_59 (cel_59 cA ad S_3 0) h_12 dX10_agree_93 ?_
                obtain ⟨h_13, hw⟩ := hw
                refine k_iald (pc := 94) C hm_62 (cel_62 cA ad S_3 0) h_13 dX10_agree_94 ?_
                refine k_aload_n (pc := 95) C dX10_agree_95 1 rfl rfl ?_
                refine k_get (j := 26) (pc := 96) C hin hm_40 (cel_40 cA ad S_3 0) rfl (by decide) f90 (fun _ h => h) rfl dX10_agree_96 ?_
                refine k_aload_n (pc := 99) C dX10_agree_99 1 rfl rfl ?_
                refine k_get (j := 24) (pc := 100) C hin hm_40 (cel_40 cA ad S_3 0) rfl (by decide) f84 (fun _ h => h) rfl dX10_agree_100 ?_
                refine k_iload_n (pc := 103) C dX10_agree_103 3 rfl rfl ?_
                obtain ⟨h_14, hw⟩ := hw
                refine k_iald (pc := 104) C hm_60 (cel_60 cA ad S_3 0) h_14 dX10_agree_104 ?_
                obtain ⟨h_15, hw⟩ := hw
                refine k_iald (pc := 105) C hm_62 (cel_62 cA ad S_3 0) h_15 dX10_agree_105 ?_
                refine k_icmp_ne (pc := 106) C 117 dX10_agree_106 (by decide) (fun q_16 => ?_) (fun q_16 => ?_)
                · have hw := hw.1 q_16
                  refine k_aload_n (pc := 117) C dX10_agree_117 1 rfl rfl ?_
                  refine k_get (j := 26) (pc := 118) C hin hm_40 (cel_40 cA ad S_3 0) rfl (by decide) f90 (fun _ h => h) rfl dX10_agree_118 ?_
                  refine k_aload_n (pc := 121) C dX10_agree_121 1 rfl rfl ?_
                  refine k_get (j := 24) (pc := 122) C hin hm_40 (cel_40 cA ad S_3 0) rfl (by decide) f84 (fun _ h => h) rfl dX10_agree_122 ?_
                  refine k_iload_n (pc := 125) C dX10_agree_125 3 rfl rfl ?_
                  obtain ⟨h_17, hw⟩ := hw
                  refine k_iald (pc := 126) C hm_60 (cel_60 cA ad S_3 0) h_17 dX10_agree_126 ?_
                  obtain ⟨h_18, hw⟩ := hw
                  refine k_iald (pc := 127) C hm_62 (cel_62 cA ad S_3 0) h_18 dX10_agree_127 ?_
                  refine k_topi (fun x5_19 ex5_19 => ?_)
                  have hw := hw x5_19 ex5_19
                  refine k_istore (pc := 128) C dX10_agree_128 (by decide) [(5, .int x5_19), (3, .long x3_11), (0, .ref (ad 40 0)), (1, .int a1), (2, .int v2_3)] rfl ?_
                  refine k_aload_n (pc := 130) C dX10_agree_130 2 rfl rfl ?_
                  refine k_get (j := 26) (pc := 131) C hin hm_40 (cel_40 cA ad S_3 0) rfl (by decide) f90 (fun _ h => h) rfl dX10_agree_131 ?_
                  refine k_aload_n (pc := 134) C dX10_agree_134 2 rfl rfl ?_
                  refine k_get (j := 23) (pc := 135) C hin hm_40 (cel_40 cA ad S_3 0) rfl (by decide) f81 (fun _ h => h) rfl dX10_agree_135 ?_
                  refine k_iload_n (pc := 138) C dX10_agree_138 4 rfl rfl ?_
                  obtain ⟨h_20, hw⟩ := hw
                  refine k_iald (pc := 139) C hm_59 (cel_59 cA ad S_3 0) h_20 dX10_agree_139 ?_
                  obtain ⟨h_21, hw⟩ := hw
                  refine k_iald (pc := 140) C hm_62 (cel_62 cA ad S_3 0) h_21 dX10_agree_140 ?_
                  refine k_topi (fun x6_22 ex6_22 => ?_)
                  have hw := hw x6_22 ex6_22
                  refine k_istore (pc := 141) C dX10_agree_141 (by decide) [(6, .int x6_22), (5, .int x5_19), (3, .long x3_11), (0, .ref (ad 40 0)), (1, .int a1), (2, .int v2_3)] rfl ?_
                  refine k_iconst (v := 0) (pc := 143) C dX10_agree_143 (by decide) ?_
                  refine k_istore (pc := 144) C dX10_agree_144 (by decide) [(7, .int 0), (6, .int x6_22), (5, .int x5_19), (3, .long x3_11), (0, .ref (ad 40 0)), (1, .int a1), (2, .int v2_3)] rfl ?_
                  refine k_sub [4, 5, 6, 3, 2, 1, 0] [(0, .ref (ad 40 0)), (1, .int a1), (2, .int v2_3), (3, .long x3_11), (5, .int x5_19), (6, .int x6_22), (7, .int 0)] rfl ?_
                  obtain ⟨I_23, μ_23, hi_23, hw⟩ := hw
                  have L_23 : ∀ (n : Nat) (v7_23 : Int32) (S_23 : Sg), μ_23 v7_23 S_23 < n → I_23 v7_23 S_23 → KK p l e (mkR 0 0) s m args below meth c 8 D cA ad A Q 146 [(0, .ref (ad 40 0)), (1, .int a1), (2, .int v2_3), (3, .long x3_11), (5, .int x5_19), (6, .int x6_22), (7, .int v7_23)] [] S_23 := by
                    intro n
                    induction n with
                    | zero => intro v7_23 S_23 h; exact absurd h (Nat.not_lt_zero _)
                    | succ n ih_23 =>
                      intro v7_23 S_23 hn_23 hi_23
                      have hw := hw v7_23 S_23 hi_23
                      refine k_iload (pc := 146) C dX10_agree_146 6 rfl ?_
                      refine k_aload_n (pc := 148) C dX10_agree_148 0 rfl rfl ?_
                      refine k_get (j := 1) (pc := 149) C hin hm_40 (cel_40 cA ad S_23 0) rfl (by decide) f13 (fun _ h => h) rfl dX10_agree_149 ?_
                      refine k_icmp_ge (pc := 152) C 196 dX10_agree_152 (by decide) (fun q_24 => ?_) (fun q_24 => ?_)
                      · have hw := hw.1 q_24
                        obtain ⟨x2_25, ex2_25⟩ : ∃ y : Int32, y = v2_3 + 1 := ⟨_, rfl⟩
                        have hw := hw x2_25 ex2_25
                        refine k_iinc (v := x2_25) (j := 2) (pc := 196) C dX10_agree_196 rfl (by rw [ex2_25]; rfl) (by decide) [(2, .int x2_25), (0, .ref (ad 40 0)), (1, .int a1), (3, .long x3_11), (5, .int x5_19), (6, .int x6_22), (7, .int v7_23)] rfl ?_
                        refine k_goto (pc := 199) C 32 dX10_agree_199 (by decide) ?_
                        refine k_sub [1, 2, 0] [(0, .ref (ad 40 0)), (1, .int a1), (2, .int x2_25)] rfl ?_
                        exact ih_3 x2_25 S_23 (Nat.lt_of_lt_of_le hw.2 (Nat.le_of_lt_succ hn_3)) hw.1
                      · have hw := hw.2 q_24
                        refine k_aload_n (pc := 155) C dX10_agree_155 0 rfl rfl ?_
                        refine k_get (j := 26) (pc := 156) C hin hm_40 (cel_40 cA ad S_23 0) rfl (by decide) f90 (fun _ h => h) rfl dX10_agree_156 ?_
                        refine k_iload (pc := 159) C dX10_agree_159 6 rfl ?_
                        obtain ⟨h_26, hw⟩ := hw
                        refine k_iald (pc := 161) C hm_62 (cel_62 cA ad S_23 0) h_26 dX10_agree_161 ?_
                        refine k_iload (pc := 162) C dX10_agree_162 4 rfl ?_
                        refine k_icmp_eq (pc := 164) C 170 dX10_agree_164 (by decide) (fun q_27 => ?_) (fun q_27 => ?_)
                        · have hw := hw.1 q_27
                          refine k_aload_n (pc := 170) C dX10_agree_170 0 rfl rfl ?_
                          refine k_get (j := 26) (pc := 171) C hin hm_40 (cel_40 cA ad S_23 0) rfl (by decide) f90 (fun _ h => h) rfl dX10_agree_171 ?_
                          refine k_iload (pc := 174) C dX10_agree_174 6 rfl ?_
                          refine k_iload (pc := 176) C dX10_agree_176 5 rfl ?_
                          obtain ⟨h_28, hw⟩ := hw
                          refine k_iast (pc := 178) C hm_62 (fun S => cel_62 cA ad S 0) h_28 dX10_agree_178 ?_
                          refine k_nameS (fun S_29 eS_29 => ?_)
                          have hw := hw S_29 eS_29
                          refine k_aload_n (pc := 179) C dX10_agree_179 0 rfl rfl ?_
                          refine k_get (j := 27) (pc := 180) C hin hm_40 (cel_40 cA ad S_29 0) rfl (by decide) f93 (fun _ h => h) rfl dX10_agree_180 ?_
                          refine k_iload (pc := 183) C dX10_agree_183 6 rfl ?_
                          refine k_dup2 (pc := 185) C dX10_agree_185 rfl rfl ?_
                          obtain ⟨h_30, hw⟩ := hw
                          refine k_lald (pc := 186) C hm_63 (cel_63 cA ad S_29 0) h_30 dX10_agree_186 ?_
                          refine k_lload_n (pc := 187) C dX10_agree_187 3 rfl rfl ?_
                          refine k_ladd (pc := 188) C dX10_agree_188 ?_
                          obtain ⟨h_31, hw⟩ := hw
                          refine k_last (pc := 189) C hm_63 (fun S => cel_63 cA ad S 0) h_31 dX10_agree_189 ?_
                          refine k_nameS (fun S_32 eS_32 => ?_)
                          have hw := hw S_32 eS_32
                          obtain ⟨x7_33, ex7_33⟩ : ∃ y : Int32, y = v7_23 + 1 := ⟨_, rfl⟩
                          have hw := hw x7_33 ex7_33
                          refine k_iinc (v := x7_33) (j := 6) (pc := 190) C dX10_agree_190 rfl (by rw [ex7_33]; rfl) (by decide) [(7, .int x7_33), (0, .ref (ad 40 0)), (1, .int a1), (2, .int v2_3), (3, .long x3_11), (5, .int x5_19), (6, .int x6_22)] rfl ?_
                          refine k_goto (pc := 193) C 146 dX10_agree_193 (by decide) ?_
                          refine k_sub [1, 2, 3, 4, 5, 6, 0] [(0, .ref (ad 40 0)), (1, .int a1), (2, .int v2_3), (3, .long x3_11), (5, .int x5_19), (6, .int x6_22), (7, .int x7_33)] rfl ?_
                          exact ih_23 x7_33 S_32 (Nat.lt_of_lt_of_le hw.2 (Nat.le_of_lt_succ hn_23)) hw.1
                        · have hw := hw.2 q_27
                          refine k_goto (pc := 167) C 190 dX10_agree_167 (by decide) ?_
                          obtain ⟨x7_34, ex7_34⟩ : ∃ y : Int32, y = v7_23 + 1 := ⟨_, rfl⟩
                          have hw := hw x7_34 ex7_34
                          refine k_iinc (v := x7_34) (j := 6) (pc := 190) C dX10_agree_190 rfl (by rw [ex7_34]; rfl) (by decide) [(7, .int x7_34), (0, .ref (ad 40 0)), (1, .int a1), (2, .int v2_3), (3, .long x3_11), (5, .int x5_19), (6, .int x6_22)] rfl ?_
                          refine k_goto (pc := 193) C 146 dX10_agree_193 (by decide) ?_
                          refine k_sub [1, 2, 3, 4, 5, 6, 0] [(0, .ref (ad 40 0)), (1, .int a1), (2, .int v2_3), (3, .long x3_11), (5, .int x5_19), (6, .int x6_22), (7, .int x7_34)] rfl ?_
                          exact ih_23 x7_34 S_23 (Nat.lt_of_lt_of_le hw.2 (Nat.le_of_lt_succ hn_23)) hw.1
                  exact L_23 (μ_23 0 S_3 + 1) 0 S_3 (Nat.lt_succ_self _) hi_23
                · have hw := hw.2 q_16
                  refine k_lload_n (pc := 109) C dX10_agree_109 0 rfl rfl ?_
                  refine k_lconst (v := 0) (pc := 110) C dX10_agree_110 (by decide) ?_
                  refine k_lif_eq (pc := 111) C 196 dX10_agree_111 dX10_agree_112 (by decide) (fun q_35 => ?_) (fun q_35 => ?_)
                  · have hw := hw.1 q_35
                    obtain ⟨x2_36, ex2_36⟩ : ∃ y : Int32, y = v2_3 + 1 := ⟨_, rfl⟩
                    have hw := hw x2_36 ex2_36
                    refine k_iinc (v := x2_36) (j := 3) (pc := 196) C dX10_agree_196 rfl (by rw [ex2_36]; rfl) (by decide) [(2, .int x2_36), (3, .long x3_11), (0, .ref (ad 40 0)), (1, .int a1)] rfl ?_
                    refine k_goto (pc := 199) C 32 dX10_agree_199 (by decide) ?_
                    refine k_sub [2, 3, 0] [(0, .ref (ad 40 0)), (1, .int a1), (2, .int x2_36)] rfl ?_
                    exact ih_3 x2_36 S_3 (Nat.lt_of_lt_of_le hw.2 (Nat.le_of_lt_succ hn_3)) hw.1
                  · have hw := hw.2 q_35
                    refine k_iconst (v := 0) (pc := 115) C dX10_agree_115 (by decide) ?_
                    exact hret _ _ _ _ dX10_agree_116 rfl hw
              · have hw := hw.2 q_5
                refine k_goto (pc := 49) C 196 dX10_agree_49 (by decide) ?_
                obtain ⟨x2_37, ex2_37⟩ : ∃ y : Int32, y = v2_3 + 1 := ⟨_, rfl⟩
                have hw := hw x2_37 ex2_37
                refine k_iinc (v := x2_37) (j := 2) (pc := 196) C dX10_agree_196 rfl (by rw [ex2_37]; rfl) (by decide) [(2, .int x2_37), (0, .ref (ad 40 0)), (1, .int a1)] rfl ?_
                refine k_goto (pc := 199) C 32 dX10_agree_199 (by decide) ?_
                refine k_sub [1, 2, 0] [(0, .ref (ad 40 0)), (1, .int a1), (2, .int x2_37)] rfl ?_
                exact ih_3 x2_37 S_3 (Nat.lt_of_lt_of_le hw.2 (Nat.le_of_lt_succ hn_3)) hw.1
        exact L_3 (μ_3 0 S_1 + 1) 0 S_1 (Nat.lt_succ_self _) hi_3
      · have hw := hw.2 q_2
        refine k_aload_n (pc := 10) C dX10_agree_10 0 rfl rfl ?_
        refine k_get (j := 26) (pc := 11) C hin hm_40 (cel_40 cA ad S_1 0) rfl (by decide) f90 (fun _ h => h) rfl dX10_agree_11 ?_
        refine k_iload_n (pc := 14) C dX10_agree_14 2 rfl rfl ?_
        refine k_iload_n (pc := 15) C dX10_agree_15 2 rfl rfl ?_
        obtain ⟨h_38, hw⟩ := hw
        refine k_iast (pc := 16) C hm_62 (fun S => cel_62 cA ad S 0) h_38 dX10_agree_16 ?_
        refine k_nameS (fun S_39 eS_39 => ?_)
        have hw := hw S_39 eS_39
        refine k_aload_n (pc := 17) C dX10_agree_17 0 rfl rfl ?_
        refine k_get (j := 27) (pc := 18) C hin hm_40 (cel_40 cA ad S_39 0) rfl (by decide) f93 (fun _ h => h) rfl dX10_agree_18 ?_
        refine k_iload_n (pc := 21) C dX10_agree_21 2 rfl rfl ?_
        refine k_lconst (v := 0) (pc := 22) C dX10_agree_22 (by decide) ?_
        obtain ⟨h_40, hw⟩ := hw
        refine k_last (pc := 23) C hm_63 (fun S => cel_63 cA ad S 0) h_40 dX10_agree_23 ?_
        refine k_nameS (fun S_41 eS_41 => ?_)
        have hw := hw S_41 eS_41
        obtain ⟨x2_42, ex2_42⟩ : ∃ y : Int32, y = v2_1 + 1 := ⟨_, rfl⟩
        have hw := hw x2_42 ex2_42
        refine k_iinc (v := x2_42) (j := 2) (pc := 24) C dX10_agree_24 rfl (by rw [ex2_42]; rfl) (by decide) [(2, .int x2_42), (0, .ref (ad 40 0)), (1, .int a1)] rfl ?_
        refine k_goto (pc := 27) C 2 dX10_agree_27 (by decide) ?_
        refine k_sub [1, 2, 0] [(0, .ref (ad 40 0)), (1, .int a1), (2, .int x2_42)] rfl ?_
        exact ih_1 x2_42 S_41 (Nat.lt_of_lt_of_le hw.2 (Nat.le_of_lt_succ hn_1)) hw.1
  exact L_1 (μ_1 0 S + 1) 0 S (Nat.lt_succ_self _) hi_1
def wp_X10_ones (a1 : Int32) (S : Sg) (Q : Int32 → Sg → Prop) : Prop :=
  (∃ (I_1 : Int32 → Int32 → Sg → Prop) (μ_1 : Int32 → Int32 → Sg → Nat), I_1 0 0 S ∧ ∀ (v2_1 : Int32) (v3_1 : Int32) (S_1 : Sg), I_1 v2_1 v3_1 S_1 → ((14 ≤ v3_1 → Q v2_1 S_1) ∧ (¬ 14 ≤ v3_1 → (∀ x2_3 : Int32, x2_3 = (v2_1 + ((a1 >>> (v3_1 &&& 31)) &&& 1)) → (∀ x3_4 : Int32, x3_4 = v3_1 + 1 → (I_1 x2_3 x3_4 S_1 ∧ μ_1 x2_3 x3_4 S_1 < μ_1 v2_1 v3_1 S_1))))))
set_option maxHeartbeats 4000000 in
set_option maxRecDepth 100000 in
theorem ct_X10_ones (l : Launch) (D : va_G) (cA : Nat → ClassId) (ad : Nat → Nat → Nat) (a1 : Int32) (S : Sg) (Q : Int32 → Sg → Prop) (hw : wp_X10_ones a1 S Q) : CtI l yX10_ones wsX10_ones (mkR 0 0) D cA ad [.ref (ad 40 0), .int a1] S Q := by
  refine ct_ofI (cc := cX10_ones) (nL := 4) (by decide) rfl (Nat.le_of_ble_eq_true rfl) ?_
  intro p e s m args below meth c A Q C hret
  unfold wp_X10_ones at hw
  have C : Cx p s m args c cX10_ones 4 wsX10_ones RX10 D cA A := C
  change KK p l e (mkR 0 0) s m args below meth c 4 D cA ad A Q 0 [(0, .ref (ad 40 0)), (1, .int a1)] [] S
  refine k_iconst (v := 0) (pc := 0) C dX10_ones_0 (by decide) ?_
  refine k_istore_n (pc := 1) C dX10_ones_1 rfl (by decide) [(2, .int 0), (0, .ref (ad 40 0)), (1, .int a1)] rfl ?_
  refine k_iconst (v := 0) (pc := 2) C dX10_ones_2 (by decide) ?_
  refine k_istore_n (pc := 3) C dX10_ones_3 rfl (by decide) [(3, .int 0), (2, .int 0), (0, .ref (ad 40 0)), (1, .int a1)] rfl ?_
  refine k_sub [3, 1, 0] [(1, .int a1), (2, .int 0), (3, .int 0)] rfl ?_
  obtain ⟨I_1, μ_1, hi_1, hw⟩ := hw
  have L_1 : ∀ (n : Nat) (v2_1 : Int32) (v3_1 : Int32) (S_1 : Sg), μ_1 v2_1 v3_1 S_1 < n → I_1 v2_1 v3_1 S_1 → KK p l e (mkR 0 0) s m args below meth c 4 D cA ad A Q 4 [(1, .int a1), (2, .int v2_1), (3, .int v3_1)] [] S_1 := by
    intro n
    induction n with
    | zero => intro v2_1 v3_1 S_1 h; exact absurd h (Nat.not_lt_zero _)
    | succ n ih_1 =>
      intro v2_1 v3_1 S_1 hn_1 hi_1
      have hw := hw v2_1 v3_1 S_1 hi_1
      refine k_iload_n (pc := 4) C dX10_ones_4 2 rfl rfl ?_
      refine k_bipush (v := 14) (pc := 5) C dX10_ones_5 (by decide) ?_
      refine k_icmp_ge (pc := 7) C 24 dX10_ones_7 (by decide) (fun q_2 => ?_) (fun q_2 => ?_)
      · have hw := hw.1 q_2
        refine k_iload_n (pc := 24) C dX10_ones_24 1 rfl rfl ?_
        exact hret _ _ _ _ dX10_ones_25 hw
      · have hw := hw.2 q_2
        refine k_iload_n (pc := 10) C dX10_ones_10 1 rfl rfl ?_
        refine k_iload_n (pc := 11) C dX10_ones_11 0 rfl rfl ?_
        refine k_iload_n (pc := 12) C dX10_ones_12 2 rfl rfl ?_
        refine k_ishr (pc := 13) C dX10_ones_13 ?_
        refine k_iconst (v := 1) (pc := 14) C dX10_ones_14 (by decide) ?_
        refine k_iand (pc := 15) C dX10_ones_15 ?_
        refine k_iadd (pc := 16) C dX10_ones_16 ?_
        refine k_topi (fun x2_3 ex2_3 => ?_)
        have hw := hw x2_3 ex2_3
        refine k_istore_n (pc := 17) C dX10_ones_17 rfl (by decide) [(2, .int x2_3), (1, .int a1), (3, .int v3_1)] rfl ?_
        obtain ⟨x3_4, ex3_4⟩ : ∃ y : Int32, y = v3_1 + 1 := ⟨_, rfl⟩
        have hw := hw x3_4 ex3_4
        refine k_iinc (v := x3_4) (j := 2) (pc := 18) C dX10_ones_18 rfl (by rw [ex3_4]; rfl) (by decide) [(3, .int x3_4), (2, .int x2_3), (1, .int a1)] rfl ?_
        refine k_goto (pc := 21) C 4 dX10_ones_21 (by decide) ?_
        refine k_sub [2, 1, 0] [(1, .int a1), (2, .int x2_3), (3, .int x3_4)] rfl ?_
        exact ih_1 x2_3 x3_4 S_1 (Nat.lt_of_lt_of_le hw.2 (Nat.le_of_lt_succ hn_1)) hw.1
  exact L_1 (μ_1 0 0 S + 1) 0 0 S (Nat.lt_succ_self _) hi_1
def wp_X10_findWrong (S : Sg) (Q : Int32 → Sg → Prop) : Prop :=
  (∃ (I_1 : Int32 → Int32 → Int32 → Sg → Prop) (μ_1 : Int32 → Int32 → Int32 → Sg → Nat), I_1 0 15 0 S ∧ ∀ (v1_1 : Int32) (v2_1 : Int32) (v3_1 : Int32) (S_1 : Sg), I_1 v1_1 v2_1 v3_1 S_1 → ((((1 : Int32) <<< ((gI S_1 40 0 22) &&& 31)) ≤ v3_1 → Q v1_1 S_1) ∧ (¬ ((1 : Int32) <<< ((gI S_1 40 0 22) &&& 31)) ≤ v3_1 → wp_X10_ones v3_1 S_1 (fun r_3 S_3 => ((v2_1 ≤ r_3 → (∀ x3_5 : Int32, x3_5 = v3_1 + 1 → (I_1 v1_1 v2_1 x3_5 S_3 ∧ μ_1 v1_1 v2_1 x3_5 S_3 < μ_1 v1_1 v2_1 v3_1 S_1))) ∧ (¬ v2_1 ≤ r_3 → wp_X10_agree v3_1 S_3 (fun r_6 S_6 => ((¬ r_6 = 0 → wp_X10_ones v3_1 S_6 (fun r_8 S_8 => (∀ x3_9 : Int32, x3_9 = v3_1 + 1 → (I_1 v3_1 r_8 x3_9 S_8 ∧ μ_1 v3_1 r_8 x3_9 S_8 < μ_1 v1_1 v2_1 v3_1 S_1)))) ∧ (r_6 = 0 → (∀ x3_10 : Int32, x3_10 = v3_1 + 1 → (I_1 v1_1 v2_1 x3_10 S_6 ∧ μ_1 v1_1 v2_1 x3_10 S_6 < μ_1 v1_1 v2_1 v3_1 S_1)))))))))))
set_option maxHeartbeats 4000000 in
set_option maxRecDepth 100000 in
theorem ct_X10_findWrong (l : Launch) (D : va_G) (cA : Nat → ClassId) (ad : Nat → Nat → Nat) (S : Sg) (Q : Int32 → Sg → Prop) (hw : wp_X10_findWrong  S Q) : CtI l yX10_findWrong wsX10_findWrong (mkR 1 27) D cA ad [.ref (ad 40 0)] S Q := by
  refine ct_ofI (cc := cX10_findWrong) (nL := 4) (by decide) rfl (Nat.le_of_ble_eq_true rfl) ?_
  intro p e s m args below meth c A Q C hret
  unfold wp_X10_findWrong at hw
  have C : Cx p s m args c cX10_findWrong 4 wsX10_findWrong RX10 D cA A := C
  have hin : ∀ w ∈ u_ws RX10 TX10 33, w ∈ wsX10_findWrong := fun w h => List.mem_cons_of_mem _ (List.mem_append_right _ h)
  have f78 : Cond.fieldLink RX10 78 "CreepBoardModel" "lines" "I" ∈ wsX10_findWrong := by decide +kernel
  change KK p l e (mkR 1 27) s m args below meth c 4 D cA ad A Q 0 [(0, .ref (ad 40 0))] [] S
  refine k_iconst (v := 0) (pc := 0) C dX10_findWrong_0 (by decide) ?_
  refine k_istore_n (pc := 1) C dX10_findWrong_1 rfl (by decide) [(1, .int 0), (0, .ref (ad 40 0))] rfl ?_
  refine k_bipush (v := 15) (pc := 2) C dX10_findWrong_2 (by decide) ?_
  refine k_istore_n (pc := 4) C dX10_findWrong_4 rfl (by decide) [(2, .int 15), (1, .int 0), (0, .ref (ad 40 0))] rfl ?_
  refine k_iconst (v := 0) (pc := 5) C dX10_findWrong_5 (by decide) ?_
  refine k_istore_n (pc := 6) C dX10_findWrong_6 rfl (by decide) [(3, .int 0), (2, .int 15), (1, .int 0), (0, .ref (ad 40 0))] rfl ?_
  refine k_sub [3, 2, 1, 0] [(0, .ref (ad 40 0)), (1, .int 0), (2, .int 15), (3, .int 0)] rfl ?_
  obtain ⟨I_1, μ_1, hi_1, hw⟩ := hw
  have L_1 : ∀ (n : Nat) (v1_1 : Int32) (v2_1 : Int32) (v3_1 : Int32) (S_1 : Sg), μ_1 v1_1 v2_1 v3_1 S_1 < n → I_1 v1_1 v2_1 v3_1 S_1 → KK p l e (mkR 1 27) s m args below meth c 4 D cA ad A Q 7 [(0, .ref (ad 40 0)), (1, .int v1_1), (2, .int v2_1), (3, .int v3_1)] [] S_1 := by
    intro n
    induction n with
    | zero => intro v1_1 v2_1 v3_1 S_1 h; exact absurd h (Nat.not_lt_zero _)
    | succ n ih_1 =>
      intro v1_1 v2_1 v3_1 S_1 hn_1 hi_1
      have hw := hw v1_1 v2_1 v3_1 S_1 hi_1
      refine k_iload_n (pc := 7) C dX10_findWrong_7 3 rfl rfl ?_
      refine k_iconst (v := 1) (pc := 8) C dX10_findWrong_8 (by decide) ?_
      refine k_aload_n (pc := 9) C dX10_findWrong_9 0 rfl rfl ?_
      refine k_get (j := 22) (pc := 10) C hin hm_40 (cel_40 cA ad S_1 0) rfl (by decide) f78 (fun _ h => h) rfl dX10_findWrong_10 ?_
      refine k_ishl (pc := 13) C dX10_findWrong_13 ?_
      refine k_icmp_ge (pc := 14) C 51 dX10_findWrong_14 (by decide) (fun q_2 => ?_) (fun q_2 => ?_)
      · have hw := hw.1 q_2
        refine k_iload_n (pc := 51) C dX10_findWrong_51 1 rfl rfl ?_
        exact hret _ _ _ _ dX10_findWrong_52 hw
      · have hw := hw.2 q_2
        refine k_aload_n (pc := 17) C dX10_findWrong_17 0 rfl rfl ?_
        refine k_iload_n (pc := 18) C dX10_findWrong_18 3 rfl rfl ?_
        refine k_callVi (pc := 19) C (ct_X10_ones l D cA ad v3_1 S_1 _ hw) (cwV 1 C.2.2.2.2.1 gX10_findWrong_X10_ones rfl rfl rfl (by decide +kernel) ⟨Nat.le_of_ble_eq_true rfl, Nat.le_of_ble_eq_true rfl⟩) hm_40 (cel_40 cA ad S_1 0) rfl rfl rfl rfl (Nat.le_of_ble_eq_true rfl) dX10_findWrong_19 (fun r_3 S_3 hw => ?_)
        refine k_iload_n (pc := 22) C dX10_findWrong_22 2 rfl rfl ?_
        refine k_icmp_ge (pc := 23) C 45 dX10_findWrong_23 (by decide) (fun q_4 => ?_) (fun q_4 => ?_)
        · have hw := hw.1 q_4
          obtain ⟨x3_5, ex3_5⟩ : ∃ y : Int32, y = v3_1 + 1 := ⟨_, rfl⟩
          have hw := hw x3_5 ex3_5
          refine k_iinc (v := x3_5) (j := 3) (pc := 45) C dX10_findWrong_45 rfl (by rw [ex3_5]; rfl) (by decide) [(3, .int x3_5), (0, .ref (ad 40 0)), (1, .int v1_1), (2, .int v2_1)] rfl ?_
          refine k_goto (pc := 48) C 7 dX10_findWrong_48 (by decide) ?_
          refine k_sub [1, 2, 3, 0] [(0, .ref (ad 40 0)), (1, .int v1_1), (2, .int v2_1), (3, .int x3_5)] rfl ?_
          exact ih_1 v1_1 v2_1 x3_5 S_3 (Nat.lt_of_lt_of_le hw.2 (Nat.le_of_lt_succ hn_1)) hw.1
        · have hw := hw.2 q_4
          refine k_aload_n (pc := 26) C dX10_findWrong_26 0 rfl rfl ?_
          refine k_iload_n (pc := 27) C dX10_findWrong_27 3 rfl rfl ?_
          refine k_callVi (pc := 28) C (ct_X10_agree l D cA ad v3_1 S_3 _ hw) (cwV 1 C.2.2.2.2.1 gX10_findWrong_X10_agree rfl rfl rfl (by decide +kernel) ⟨Nat.le_of_ble_eq_true rfl, Nat.le_of_ble_eq_true rfl⟩) hm_40 (cel_40 cA ad S_3 0) rfl rfl rfl rfl (Nat.le_of_ble_eq_true rfl) dX10_findWrong_28 (fun r_6 S_6 hw => ?_)
          refine k_if_ne (pc := 31) C 37 dX10_findWrong_31 (by decide) (fun q_7 => ?_) (fun q_7 => ?_)
          · have hw := hw.1 q_7
            refine k_aload_n (pc := 37) C dX10_findWrong_37 0 rfl rfl ?_
            refine k_iload_n (pc := 38) C dX10_findWrong_38 3 rfl rfl ?_
            refine k_callVi (pc := 39) C (ct_X10_ones l D cA ad v3_1 S_6 _ hw) (cwV 1 C.2.2.2.2.1 gX10_findWrong_X10_ones rfl rfl rfl (by decide +kernel) ⟨Nat.le_of_ble_eq_true rfl, Nat.le_of_ble_eq_true rfl⟩) hm_40 (cel_40 cA ad S_6 0) rfl rfl rfl rfl (Nat.le_of_ble_eq_true rfl) dX10_findWrong_39 (fun r_8 S_8 hw => ?_)
            refine k_istore_n (pc := 42) C dX10_findWrong_42 rfl (by decide) [(2, .int r_8), (0, .ref (ad 40 0)), (1, .int v1_1), (3, .int v3_1)] rfl ?_
            refine k_iload_n (pc := 43) C dX10_findWrong_43 3 rfl rfl ?_
            refine k_istore_n (pc := 44) C dX10_findWrong_44 rfl (by decide) [(1, .int v3_1), (2, .int r_8), (0, .ref (ad 40 0)), (3, .int v3_1)] rfl ?_
            obtain ⟨x3_9, ex3_9⟩ : ∃ y : Int32, y = v3_1 + 1 := ⟨_, rfl⟩
            have hw := hw x3_9 ex3_9
            refine k_iinc (v := x3_9) (j := 3) (pc := 45) C dX10_findWrong_45 rfl (by rw [ex3_9]; rfl) (by decide) [(3, .int x3_9), (1, .int v3_1), (2, .int r_8), (0, .ref (ad 40 0))] rfl ?_
            refine k_goto (pc := 48) C 7 dX10_findWrong_48 (by decide) ?_
            refine k_sub [3, 1, 2, 0] [(0, .ref (ad 40 0)), (1, .int v3_1), (2, .int r_8), (3, .int x3_9)] rfl ?_
            exact ih_1 v3_1 r_8 x3_9 S_8 (Nat.lt_of_lt_of_le hw.2 (Nat.le_of_lt_succ hn_1)) hw.1
          · have hw := hw.2 q_7
            refine k_goto (pc := 34) C 45 dX10_findWrong_34 (by decide) ?_
            obtain ⟨x3_10, ex3_10⟩ : ∃ y : Int32, y = v3_1 + 1 := ⟨_, rfl⟩
            have hw := hw x3_10 ex3_10
            refine k_iinc (v := x3_10) (j := 3) (pc := 45) C dX10_findWrong_45 rfl (by rw [ex3_10]; rfl) (by decide) [(3, .int x3_10), (0, .ref (ad 40 0)), (1, .int v1_1), (2, .int v2_1)] rfl ?_
            refine k_goto (pc := 48) C 7 dX10_findWrong_48 (by decide) ?_
            refine k_sub [1, 2, 3, 0] [(0, .ref (ad 40 0)), (1, .int v1_1), (2, .int v2_1), (3, .int x3_10)] rfl ?_
            exact ih_1 v1_1 v2_1 x3_10 S_6 (Nat.lt_of_lt_of_le hw.2 (Nat.le_of_lt_succ hn_1)) hw.1
  exact L_1 (μ_1 0 15 0 S + 1) 0 15 0 S (Nat.lt_succ_self _) hi_1
def wp_X10_wrong (a1 : Int32) (S : Sg) (Q : Int32 → Sg → Prop) : Prop :=
  ((¬ a1 = 0 → ((¬ a1 = 1 → Q (-1) S) ∧ (a1 = 1 → wp_X10_findWrong S (fun r_3 S_3 => Q r_3 S_3)))) ∧ (a1 = 0 → wp_X10_findWrong S (fun r_4 S_4 => wp_X10_ones r_4 S_4 (fun r_5 S_5 => Q r_5 S_5))))
set_option maxHeartbeats 4000000 in
set_option maxRecDepth 100000 in
theorem ct_X10_wrong (l : Launch) (D : va_G) (cA : Nat → ClassId) (ad : Nat → Nat → Nat) (a1 : Int32) (S : Sg) (Q : Int32 → Sg → Prop) (hw : wp_X10_wrong a1 S Q) : CtI l yX10_wrong wsX10_wrong (mkR 2 50) D cA ad [.ref (ad 40 0), .int a1] S Q := by
  refine ct_ofI (cc := cX10_wrong) (nL := 2) (by decide) rfl (Nat.le_of_ble_eq_true rfl) ?_
  intro p e s m args below meth c A Q C hret
  unfold wp_X10_wrong at hw
  have C : Cx p s m args c cX10_wrong 2 wsX10_wrong RX10 D cA A := C
  change KK p l e (mkR 2 50) s m args below meth c 2 D cA ad A Q 0 [(0, .ref (ad 40 0)), (1, .int a1)] [] S
  refine k_iload_n (pc := 0) C dX10_wrong_0 1 rfl rfl ?_
  refine k_if_ne (pc := 1) C 15 dX10_wrong_1 (by decide) (fun q_1 => ?_) (fun q_1 => ?_)
  · have hw := hw.1 q_1
    refine k_iload_n (pc := 15) C dX10_wrong_15 1 rfl rfl ?_
    refine k_iconst (v := 1) (pc := 16) C dX10_wrong_16 (by decide) ?_
    refine k_icmp_ne (pc := 17) C 27 dX10_wrong_17 (by decide) (fun q_2 => ?_) (fun q_2 => ?_)
    · have hw := hw.1 q_2
      refine k_iconst (v := (-1)) (pc := 27) C dX10_wrong_27 (by decide) ?_
      exact hret _ _ _ _ dX10_wrong_28 hw
    · have hw := hw.2 q_2
      refine k_aload_n (pc := 20) C dX10_wrong_20 0 rfl rfl ?_
      refine k_callVi (pc := 21) C (ct_X10_findWrong l D cA ad  S _ hw) (cwV 0 C.2.2.2.2.1 gX10_wrong_X10_findWrong rfl rfl rfl (by decide +kernel) ⟨Nat.le_of_ble_eq_true rfl, Nat.le_of_ble_eq_true rfl⟩) hm_40 (cel_40 cA ad S 0) rfl rfl rfl rfl (Nat.le_of_ble_eq_true rfl) dX10_wrong_21 (fun r_3 S_3 hw => ?_)
      refine k_goto (pc := 24) C 28 dX10_wrong_24 (by decide) ?_
      exact hret _ _ _ _ dX10_wrong_28 hw
  · have hw := hw.2 q_1
    refine k_aload_n (pc := 4) C dX10_wrong_4 0 rfl rfl ?_
    refine k_aload_n (pc := 5) C dX10_wrong_5 0 rfl rfl ?_
    refine k_callVi (pc := 6) C (ct_X10_findWrong l D cA ad  S _ hw) (cwV 0 C.2.2.2.2.1 gX10_wrong_X10_findWrong rfl rfl rfl (by decide +kernel) ⟨Nat.le_of_ble_eq_true rfl, Nat.le_of_ble_eq_true rfl⟩) hm_40 (cel_40 cA ad S 0) rfl rfl rfl rfl (Nat.le_of_ble_eq_true rfl) dX10_wrong_6 (fun r_4 S_4 hw => ?_)
    refine k_callVi (pc := 9) C (ct_X10_ones l D cA ad r_4 S_4 _ hw) (cwV 1 C.2.2.2.2.1 gX10_wrong_X10_ones rfl rfl rfl (by decide +kernel) ⟨Nat.le_of_ble_eq_true rfl, Nat.le_of_ble_eq_true rfl⟩) hm_40 (cel_40 cA ad S_4 0) rfl rfl rfl rfl (Nat.le_of_ble_eq_true rfl) dX10_wrong_9 (fun r_5 S_5 hw => ?_)
    refine k_goto (pc := 12) C 28 dX10_wrong_12 (by decide) ?_
    exact hret _ _ _ _ dX10_wrong_28 hw
def wp_X10_height (a1 : Int32) (S : Sg) (Q : Int64 → Sg → Prop) : Prop :=
  wp_X10_isMark a1 S (fun r_1 S_1 => (∃ J_2 : Int32 → Sg → Prop, (∀ (t0_2 : Int32) (S_2 : Sg), J_2 t0_2 S_2 → (∀ S_3 : Sg, S_3 = uI S_2 40 0 0 t0_2 → (((gI S_3 40 0 0) ≤ 0 → wp_X10_findWrong S_3 (fun r_5 S_5 => wp_X10_agree r_5 S_5 (fun r_6 S_6 => (∃ J_7 : Int32 → Sg → Prop, (∀ (t0_7 : Int32) (S_7 : Sg), J_7 t0_7 S_7 → (∀ S_8 : Sg, S_8 = uI S_7 40 0 0 t0_7 → (((gI S_8 40 0 0) ≤ 0 → (vp_in a1 10 ∧ (vp_in 0 10 ∧ Q ((gL S_8 63 0 (Int32.toNatClampNeg a1)) - (gL S_8 63 0 (Int32.toNatClampNeg 0))) S_8))) ∧ (¬ (gI S_8 40 0 0) ≤ 0 → Q 0 S_8)))) ∧ (∃ J_12 : Sg → Prop, (∀ (S_12 : Sg), J_12 S_12 → J_7 2 S_12) ∧ ((r_6 = 0 → J_12 S_6) ∧ (¬ r_6 = 0 → (vp_in a1 10 ∧ (vp_in 0 10 ∧ ((¬ (gA S_6 62 0 (Int32.toNatClampNeg a1)) = (gA S_6 62 0 (Int32.toNatClampNeg 0)) → J_12 S_6) ∧ ((gA S_6 62 0 (Int32.toNatClampNeg a1)) = (gA S_6 62 0 (Int32.toNatClampNeg 0)) → J_7 0 S_6))))))))))) ∧ (¬ (gI S_3 40 0 0) ≤ 0 → Q 0 S_3)))) ∧ ((r_1 = 0 → J_2 1 S_1) ∧ (¬ r_1 = 0 → J_2 0 S_1))))
set_option maxHeartbeats 4000000 in
set_option maxRecDepth 100000 in
theorem ct_X10_height (l : Launch) (D : va_G) (cA : Nat → ClassId) (ad : Nat → Nat → Nat) (a1 : Int32) (S : Sg) (Q : Int64 → Sg → Prop) (hw : wp_X10_height a1 S Q) : CtL l yX10_height wsX10_height (mkR 2 50) D cA ad [.ref (ad 40 0), .int a1] S Q := by
  refine ct_ofL (cc := cX10_height) (nL := 3) (by decide) rfl (Nat.le_of_ble_eq_true rfl) ?_
  intro p e s m args below meth c A Q C hret
  unfold wp_X10_height at hw
  have C : Cx p s m args c cX10_height 3 wsX10_height RX10 D cA A := C
  have hin : ∀ w ∈ u_ws RX10 TX10 33, w ∈ wsX10_height := fun w h => List.mem_cons_of_mem _ (List.mem_append_right _ h)
  have f7 : Cond.fieldLink RX10 7 "CreepBoardModel" "thrown" "I" ∈ wsX10_height := by decide +kernel
  have f93 : Cond.fieldLink RX10 93 "CreepBoardModel" "above" "[J" ∈ wsX10_height := by decide +kernel
  have f90 : Cond.fieldLink RX10 90 "CreepBoardModel" "group" "[I" ∈ wsX10_height := by decide +kernel
  change KK p l e (mkR 2 50) s m args below meth c 3 D cA ad A Q 0 [(0, .ref (ad 40 0)), (1, .int a1)] [] S
  refine k_aload_n (pc := 0) C dX10_height_0 0 rfl rfl ?_
  refine k_aload_n (pc := 1) C dX10_height_1 0 rfl rfl ?_
  refine k_iload_n (pc := 2) C dX10_height_2 1 rfl rfl ?_
  refine k_callVi (pc := 3) C (ct_X10_isMark l D cA ad a1 S _ hw) (cwV 1 C.2.2.2.2.1 gX10_height_X10_isMark rfl rfl rfl (by decide +kernel) ⟨Nat.le_of_ble_eq_true rfl, Nat.le_of_ble_eq_true rfl⟩) hm_40 (cel_40 cA ad S 0) rfl rfl rfl rfl (Nat.le_of_ble_eq_true rfl) dX10_height_3 (fun r_1 S_1 hw => ?_)
  obtain ⟨J_2, hj_2, hw⟩ := hw
  have j_2 : ∀ (t0_2 : Int32) (S_2 : Sg), J_2 t0_2 S_2 → KK p l e (mkR 2 50) s m args below meth c 3 D cA ad A Q 14 [(0, .ref (ad 40 0)), (1, .int a1)] [.int t0_2, .ref (ad 40 0)] S_2 := by
    intro t0_2 S_2 hw
    have hw := hj_2 t0_2 S_2 hw
    refine k_put (S' := uI S_2 40 0 0 t0_2) (j := 0) (ty := .int) (pc := 14) C hin tyX10 tyX10_ok nmX10 hm_40 (cel_40 cA ad S_2 0) rfl (by decide) f7 (fun _ h => h) rfl (by decide +kernel) rfl rfl (Nat.le_of_ble_eq_true rfl) rfl rfl (fun a b h => cel_uI h) dX10_height_14 ?_
    refine k_nameS (fun S_3 eS_3 => ?_)
    have hw := hw S_3 eS_3
    refine k_aload_n (pc := 17) C dX10_height_17 0 rfl rfl ?_
    refine k_get (j := 0) (pc := 18) C hin hm_40 (cel_40 cA ad S_3 0) rfl (by decide) f7 (fun _ h => h) rfl dX10_height_18 ?_
    refine k_if_le (pc := 21) C 26 dX10_height_21 (by decide) (fun q_4 => ?_) (fun q_4 => ?_)
    · have hw := hw.1 q_4
      refine k_aload_n (pc := 26) C dX10_height_26 0 rfl rfl ?_
      refine k_aload_n (pc := 27) C dX10_height_27 0 rfl rfl ?_
      refine k_callVi (pc := 28) C (ct_X10_findWrong l D cA ad  S_3 _ hw) (cwV 0 C.2.2.2.2.1 gX10_height_X10_findWrong rfl rfl rfl (by decide +kernel) ⟨Nat.le_of_ble_eq_true rfl, Nat.le_of_ble_eq_true rfl⟩) hm_40 (cel_40 cA ad S_3 0) rfl rfl rfl rfl (Nat.le_of_ble_eq_true rfl) dX10_height_28 (fun r_5 S_5 hw => ?_)
      refine k_callVi (pc := 31) C (ct_X10_agree l D cA ad r_5 S_5 _ hw) (cwV 1 C.2.2.2.2.1 gX10_height_X10_agree rfl rfl rfl (by decide +kernel) ⟨Nat.le_of_ble_eq_true rfl, Nat.le_of_ble_eq_true rfl⟩) hm_40 (cel_40 cA ad S_5 0) rfl rfl rfl rfl (Nat.le_of_ble_eq_true rfl) dX10_height_31 (fun r_6 S_6 hw => ?_)
      refine k_istore_n (pc := 34) C dX10_height_34 rfl (by decide) [(2, .int r_6), (0, .ref (ad 40 0)), (1, .int a1)] rfl ?_
      refine k_aload_n (pc := 35) C dX10_height_35 1 rfl rfl ?_
      refine k_iload_n (pc := 36) C dX10_height_36 0 rfl rfl ?_
      obtain ⟨J_7, hj_7, hw⟩ := hw
      have j_7 : ∀ (t0_7 : Int32) (S_7 : Sg), J_7 t0_7 S_7 → KK p l e (mkR 2 50) s m args below meth c 3 D cA ad A Q 60 [(0, .ref (ad 40 0)), (1, .int a1)] [.int t0_7, .ref (ad 40 0)] S_7 := by
        intro t0_7 S_7 hw
        have hw := hj_7 t0_7 S_7 hw
        refine k_put (S' := uI S_7 40 0 0 t0_7) (j := 0) (ty := .int) (pc := 60) C hin tyX10 tyX10_ok nmX10 hm_40 (cel_40 cA ad S_7 0) rfl (by decide) f7 (fun _ h => h) rfl (by decide +kernel) rfl rfl (Nat.le_of_ble_eq_true rfl) rfl rfl (fun a b h => cel_uI h) dX10_height_60 ?_
        refine k_nameS (fun S_8 eS_8 => ?_)
        have hw := hw S_8 eS_8
        refine k_aload_n (pc := 63) C dX10_height_63 0 rfl rfl ?_
        refine k_get (j := 0) (pc := 64) C hin hm_40 (cel_40 cA ad S_8 0) rfl (by decide) f7 (fun _ h => h) rfl dX10_height_64 ?_
        refine k_if_le (pc := 67) C 74 dX10_height_67 (by decide) (fun q_9 => ?_) (fun q_9 => ?_)
        · have hw := hw.1 q_9
          refine k_aload_n (pc := 74) C dX10_height_74 0 rfl rfl ?_
          refine k_get (j := 27) (pc := 75) C hin hm_40 (cel_40 cA ad S_8 0) rfl (by decide) f93 (fun _ h => h) rfl dX10_height_75 ?_
          refine k_iload_n (pc := 78) C dX10_height_78 1 rfl rfl ?_
          obtain ⟨h_10, hw⟩ := hw
          refine k_lald (pc := 79) C hm_63 (cel_63 cA ad S_8 0) h_10 dX10_height_79 ?_
          refine k_aload_n (pc := 80) C dX10_height_80 0 rfl rfl ?_
          refine k_get (j := 27) (pc := 81) C hin hm_40 (cel_40 cA ad S_8 0) rfl (by decide) f93 (fun _ h => h) rfl dX10_height_81 ?_
          refine k_iconst (v := 0) (pc := 84) C dX10_height_84 (by decide) ?_
          obtain ⟨h_11, hw⟩ := hw
          refine k_lald (pc := 85) C hm_63 (cel_63 cA ad S_8 0) h_11 dX10_height_85 ?_
          refine k_lsub (pc := 86) C dX10_height_86 ?_
          exact hret _ _ _ _ dX10_height_87 hw
        · have hw := hw.2 q_9
          refine k_lconst (v := 0) (pc := 70) C dX10_height_70 (by decide) ?_
          refine k_goto (pc := 71) C 87 dX10_height_71 (by decide) ?_
          exact hret _ _ _ _ dX10_height_87 hw
      obtain ⟨J_12, hj_12, hw⟩ := hw
      have j_12 : ∀ (S_12 : Sg), J_12 S_12 → KK p l e (mkR 2 50) s m args below meth c 3 D cA ad A Q 59 [(0, .ref (ad 40 0)), (1, .int a1)] [.ref (ad 40 0)] S_12 := by
        intro S_12 hw
        have hw := hj_12 S_12 hw
        refine k_iconst (v := 2) (pc := 59) C dX10_height_59 (by decide) ?_
        refine k_sub [0, 1] [(0, .ref (ad 40 0)), (1, .int a1)] rfl ?_
        exact j_7 2 S_12 hw
      refine k_if_eq (pc := 37) C 59 dX10_height_37 (by decide) (fun q_13 => ?_) (fun q_13 => ?_)
      · have hw := hw.1 q_13
        refine k_sub [1, 2] [(0, .ref (ad 40 0)), (1, .int a1)] rfl ?_
        exact j_12 S_6 hw
      · have hw := hw.2 q_13
        refine k_aload_n (pc := 40) C dX10_height_40 1 rfl rfl ?_
        refine k_get (j := 26) (pc := 41) C hin hm_40 (cel_40 cA ad S_6 0) rfl (by decide) f90 (fun _ h => h) rfl dX10_height_41 ?_
        refine k_iload_n (pc := 44) C dX10_height_44 2 rfl rfl ?_
        obtain ⟨h_14, hw⟩ := hw
        refine k_iald (pc := 45) C hm_62 (cel_62 cA ad S_6 0) h_14 dX10_height_45 ?_
        refine k_aload_n (pc := 46) C dX10_height_46 1 rfl rfl ?_
        refine k_get (j := 26) (pc := 47) C hin hm_40 (cel_40 cA ad S_6 0) rfl (by decide) f90 (fun _ h => h) rfl dX10_height_47 ?_
        refine k_iconst (v := 0) (pc := 50) C dX10_height_50 (by decide) ?_
        obtain ⟨h_15, hw⟩ := hw
        refine k_iald (pc := 51) C hm_62 (cel_62 cA ad S_6 0) h_15 dX10_height_51 ?_
        refine k_icmp_ne (pc := 52) C 59 dX10_height_52 (by decide) (fun q_16 => ?_) (fun q_16 => ?_)
        · have hw := hw.1 q_16
          refine k_sub [1, 2] [(0, .ref (ad 40 0)), (1, .int a1)] rfl ?_
          exact j_12 S_6 hw
        · have hw := hw.2 q_16
          refine k_iconst (v := 0) (pc := 55) C dX10_height_55 (by decide) ?_
          refine k_goto (pc := 56) C 60 dX10_height_56 (by decide) ?_
          refine k_sub [1, 2] [(0, .ref (ad 40 0)), (1, .int a1)] rfl ?_
          exact j_7 0 S_6 hw
    · have hw := hw.2 q_4
      refine k_lconst (v := 0) (pc := 24) C dX10_height_24 (by decide) ?_
      exact hret _ _ _ _ dX10_height_25 hw
  refine k_if_eq (pc := 6) C 13 dX10_height_6 (by decide) (fun q_17 => ?_) (fun q_17 => ?_)
  · have hw := hw.1 q_17
    refine k_iconst (v := 1) (pc := 13) C dX10_height_13 (by decide) ?_
    refine k_sub [0, 1] [(0, .ref (ad 40 0)), (1, .int a1)] rfl ?_
    exact j_2 1 S_1 hw
  · have hw := hw.2 q_17
    refine k_iconst (v := 0) (pc := 9) C dX10_height_9 (by decide) ?_
    refine k_goto (pc := 10) C 14 dX10_height_10 (by decide) ?_
    refine k_sub [0, 1] [(0, .ref (ad 40 0)), (1, .int a1)] rfl ?_
    exact j_2 0 S_1 hw
def wp_X10_readingsOf (a1 : Int32) (S : Sg) (Q : Int32 → Sg → Prop) : Prop :=
  (∃ (I_1 : Int32 → Int32 → Sg → Prop) (μ_1 : Int32 → Int32 → Sg → Nat), I_1 0 0 S ∧ ∀ (v2_1 : Int32) (v3_1 : Int32) (S_1 : Sg), I_1 v2_1 v3_1 S_1 → ((40 ≤ v3_1 → Q v2_1 S_1) ∧ (¬ 40 ≤ v3_1 → wp_X10_spot a1 v3_1 S_1 (fun r_3 S_3 => (vp_in r_3 400 ∧ (((gA S_3 47 0 (Int32.toNatClampNeg r_3)) = 0 → (∀ x2_6 : Int32, x2_6 = (v2_1 + 0) → (∀ x3_7 : Int32, x3_7 = v3_1 + 1 → (I_1 x2_6 x3_7 S_3 ∧ μ_1 x2_6 x3_7 S_3 < μ_1 v2_1 v3_1 S_1)))) ∧ (¬ (gA S_3 47 0 (Int32.toNatClampNeg r_3)) = 0 → (∀ x2_8 : Int32, x2_8 = (v2_1 + 1) → (∀ x3_9 : Int32, x3_9 = v3_1 + 1 → (I_1 x2_8 x3_9 S_3 ∧ μ_1 x2_8 x3_9 S_3 < μ_1 v2_1 v3_1 S_1))))))))))
set_option maxHeartbeats 4000000 in
set_option maxRecDepth 100000 in
theorem ct_X10_readingsOf (l : Launch) (D : va_G) (cA : Nat → ClassId) (ad : Nat → Nat → Nat) (a1 : Int32) (S : Sg) (Q : Int32 → Sg → Prop) (hw : wp_X10_readingsOf a1 S Q) : CtI l yX10_readingsOf wsX10_readingsOf (mkR 1 22) D cA ad [.ref (ad 40 0), .int a1] S Q := by
  refine ct_ofI (cc := cX10_readingsOf) (nL := 4) (by decide) rfl (Nat.le_of_ble_eq_true rfl) ?_
  intro p e s m args below meth c A Q C hret
  unfold wp_X10_readingsOf at hw
  have C : Cx p s m args c cX10_readingsOf 4 wsX10_readingsOf RX10 D cA A := C
  have hin : ∀ w ∈ u_ws RX10 TX10 33, w ∈ wsX10_readingsOf := fun w h => List.mem_cons_of_mem _ (List.mem_append_right _ h)
  have f35 : Cond.fieldLink RX10 35 "CreepBoardModel" "isRead" "[Z" ∈ wsX10_readingsOf := by decide +kernel
  change KK p l e (mkR 1 22) s m args below meth c 4 D cA ad A Q 0 [(0, .ref (ad 40 0)), (1, .int a1)] [] S
  refine k_iconst (v := 0) (pc := 0) C dX10_readingsOf_0 (by decide) ?_
  refine k_istore_n (pc := 1) C dX10_readingsOf_1 rfl (by decide) [(2, .int 0), (0, .ref (ad 40 0)), (1, .int a1)] rfl ?_
  refine k_iconst (v := 0) (pc := 2) C dX10_readingsOf_2 (by decide) ?_
  refine k_istore_n (pc := 3) C dX10_readingsOf_3 rfl (by decide) [(3, .int 0), (2, .int 0), (0, .ref (ad 40 0)), (1, .int a1)] rfl ?_
  refine k_sub [2, 3, 1, 0] [(0, .ref (ad 40 0)), (1, .int a1), (2, .int 0), (3, .int 0)] rfl ?_
  obtain ⟨I_1, μ_1, hi_1, hw⟩ := hw
  have L_1 : ∀ (n : Nat) (v2_1 : Int32) (v3_1 : Int32) (S_1 : Sg), μ_1 v2_1 v3_1 S_1 < n → I_1 v2_1 v3_1 S_1 → KK p l e (mkR 1 22) s m args below meth c 4 D cA ad A Q 4 [(0, .ref (ad 40 0)), (1, .int a1), (2, .int v2_1), (3, .int v3_1)] [] S_1 := by
    intro n
    induction n with
    | zero => intro v2_1 v3_1 S_1 h; exact absurd h (Nat.not_lt_zero _)
    | succ n ih_1 =>
      intro v2_1 v3_1 S_1 hn_1 hi_1
      have hw := hw v2_1 v3_1 S_1 hi_1
      refine k_iload_n (pc := 4) C dX10_readingsOf_4 3 rfl rfl ?_
      refine k_bipush (v := 40) (pc := 5) C dX10_readingsOf_5 (by decide) ?_
      refine k_icmp_ge (pc := 7) C 38 dX10_readingsOf_7 (by decide) (fun q_2 => ?_) (fun q_2 => ?_)
      · have hw := hw.1 q_2
        refine k_iload_n (pc := 38) C dX10_readingsOf_38 2 rfl rfl ?_
        exact hret _ _ _ _ dX10_readingsOf_39 hw
      · have hw := hw.2 q_2
        refine k_iload_n (pc := 10) C dX10_readingsOf_10 2 rfl rfl ?_
        refine k_aload_n (pc := 11) C dX10_readingsOf_11 0 rfl rfl ?_
        refine k_get (j := 8) (pc := 12) C hin hm_40 (cel_40 cA ad S_1 0) rfl (by decide) f35 (fun _ h => h) rfl dX10_readingsOf_12 ?_
        refine k_aload_n (pc := 15) C dX10_readingsOf_15 0 rfl rfl ?_
        refine k_iload_n (pc := 16) C dX10_readingsOf_16 1 rfl rfl ?_
        refine k_iload_n (pc := 17) C dX10_readingsOf_17 3 rfl rfl ?_
        refine k_callVi (pc := 18) C (ct_X10_spot l D cA ad a1 v3_1 S_1 _ hw) (cwV 2 C.2.2.2.2.1 gX10_readingsOf_X10_spot rfl rfl rfl (by decide +kernel) ⟨Nat.le_of_ble_eq_true rfl, Nat.le_of_ble_eq_true rfl⟩) hm_40 (cel_40 cA ad S_1 0) rfl rfl rfl rfl (Nat.le_of_ble_eq_true rfl) dX10_readingsOf_18 (fun r_3 S_3 hw => ?_)
        obtain ⟨h_4, hw⟩ := hw
        refine k_zald (pc := 21) C hm_47 (cel_47 cA ad S_3 0) h_4 dX10_readingsOf_21 ?_
        refine k_if_eq (pc := 22) C 29 dX10_readingsOf_22 (by decide) (fun q_5 => ?_) (fun q_5 => ?_)
        · have hw := hw.1 q_5
          refine k_iconst (v := 0) (pc := 29) C dX10_readingsOf_29 (by decide) ?_
          refine k_iadd (pc := 30) C dX10_readingsOf_30 ?_
          refine k_topi (fun x2_6 ex2_6 => ?_)
          have hw := hw x2_6 ex2_6
          refine k_istore_n (pc := 31) C dX10_readingsOf_31 rfl (by decide) [(2, .int x2_6), (0, .ref (ad 40 0)), (1, .int a1), (3, .int v3_1)] rfl ?_
          obtain ⟨x3_7, ex3_7⟩ : ∃ y : Int32, y = v3_1 + 1 := ⟨_, rfl⟩
          have hw := hw x3_7 ex3_7
          refine k_iinc (v := x3_7) (j := 3) (pc := 32) C dX10_readingsOf_32 rfl (by rw [ex3_7]; rfl) (by decide) [(3, .int x3_7), (2, .int x2_6), (0, .ref (ad 40 0)), (1, .int a1)] rfl ?_
          refine k_goto (pc := 35) C 4 dX10_readingsOf_35 (by decide) ?_
          refine k_sub [2, 3, 1, 0] [(0, .ref (ad 40 0)), (1, .int a1), (2, .int x2_6), (3, .int x3_7)] rfl ?_
          exact ih_1 x2_6 x3_7 S_3 (Nat.lt_of_lt_of_le hw.2 (Nat.le_of_lt_succ hn_1)) hw.1
        · have hw := hw.2 q_5
          refine k_iconst (v := 1) (pc := 25) C dX10_readingsOf_25 (by decide) ?_
          refine k_goto (pc := 26) C 30 dX10_readingsOf_26 (by decide) ?_
          refine k_iadd (pc := 30) C dX10_readingsOf_30 ?_
          refine k_topi (fun x2_8 ex2_8 => ?_)
          have hw := hw x2_8 ex2_8
          refine k_istore_n (pc := 31) C dX10_readingsOf_31 rfl (by decide) [(2, .int x2_8), (0, .ref (ad 40 0)), (1, .int a1), (3, .int v3_1)] rfl ?_
          obtain ⟨x3_9, ex3_9⟩ : ∃ y : Int32, y = v3_1 + 1 := ⟨_, rfl⟩
          have hw := hw x3_9 ex3_9
          refine k_iinc (v := x3_9) (j := 3) (pc := 32) C dX10_readingsOf_32 rfl (by rw [ex3_9]; rfl) (by decide) [(3, .int x3_9), (2, .int x2_8), (0, .ref (ad 40 0)), (1, .int a1)] rfl ?_
          refine k_goto (pc := 35) C 4 dX10_readingsOf_35 (by decide) ?_
          refine k_sub [2, 3, 1, 0] [(0, .ref (ad 40 0)), (1, .int a1), (2, .int x2_8), (3, .int x3_9)] rfl ?_
          exact ih_1 x2_8 x3_9 S_3 (Nat.lt_of_lt_of_le hw.2 (Nat.le_of_lt_succ hn_1)) hw.1
  exact L_1 (μ_1 0 0 S + 1) 0 0 S (Nat.lt_succ_self _) hi_1
def wp_X10_count (a1 : Int32) (S : Sg) (Q : Int32 → Sg → Prop) : Prop :=
  ((a1 = 0 → Q (gI S 40 0 1) S) ∧ ((a1 = 1 → (∃ (I_1 : Int32 → Int32 → Sg → Prop) (μ_1 : Int32 → Int32 → Sg → Nat), I_1 0 0 S ∧ ∀ (v2_1 : Int32) (v3_1 : Int32) (S_1 : Sg), I_1 v2_1 v3_1 S_1 → (((gI S_1 40 0 1) ≤ v3_1 → Q v2_1 S_1) ∧ (¬ (gI S_1 40 0 1) ≤ v3_1 → ((¬ a1 = 1 → (vp_in v3_1 10 ∧ (∀ x2_5 : Int32, x2_5 = (v2_1 + (gA S_1 46 0 (Int32.toNatClampNeg v3_1))) → (∀ x3_6 : Int32, x3_6 = v3_1 + 1 → (I_1 x2_5 x3_6 S_1 ∧ μ_1 x2_5 x3_6 S_1 < μ_1 v2_1 v3_1 S_1))))) ∧ (a1 = 1 → wp_X10_readingsOf v3_1 S_1 (fun r_7 S_7 => (∀ x2_8 : Int32, x2_8 = (v2_1 + r_7) → (∀ x3_9 : Int32, x3_9 = v3_1 + 1 → (I_1 x2_8 x3_9 S_7 ∧ μ_1 x2_8 x3_9 S_7 < μ_1 v2_1 v3_1 S_1)))))))))) ∧ ((a1 = 2 → (∃ (I_10 : Int32 → Int32 → Sg → Prop) (μ_10 : Int32 → Int32 → Sg → Nat), I_10 0 0 S ∧ ∀ (v2_10 : Int32) (v3_10 : Int32) (S_10 : Sg), I_10 v2_10 v3_10 S_10 → (((gI S_10 40 0 1) ≤ v3_10 → Q v2_10 S_10) ∧ (¬ (gI S_10 40 0 1) ≤ v3_10 → ((¬ a1 = 1 → (vp_in v3_10 10 ∧ (∀ x2_14 : Int32, x2_14 = (v2_10 + (gA S_10 46 0 (Int32.toNatClampNeg v3_10))) → (∀ x3_15 : Int32, x3_15 = v3_10 + 1 → (I_10 x2_14 x3_15 S_10 ∧ μ_10 x2_14 x3_15 S_10 < μ_10 v2_10 v3_10 S_10))))) ∧ (a1 = 1 → wp_X10_readingsOf v3_10 S_10 (fun r_16 S_16 => (∀ x2_17 : Int32, x2_17 = (v2_10 + r_16) → (∀ x3_18 : Int32, x3_18 = v3_10 + 1 → (I_10 x2_17 x3_18 S_16 ∧ μ_10 x2_17 x3_18 S_16 < μ_10 v2_10 v3_10 S_10)))))))))) ∧ ((a1 = 3 → Q (gI S 40 0 22) S) ∧ ((a1 = 4 → Q (gI S 40 0 17) S) ∧ (((¬ a1 = 0 ∧ ¬ a1 = 1 ∧ ¬ a1 = 2 ∧ ¬ a1 = 3 ∧ ¬ a1 = 4) → Q (-1) S)))))))
set_option maxHeartbeats 4000000 in
set_option maxRecDepth 100000 in
theorem ct_X10_count (l : Launch) (D : va_G) (cA : Nat → ClassId) (ad : Nat → Nat → Nat) (a1 : Int32) (S : Sg) (Q : Int32 → Sg → Prop) (hw : wp_X10_count a1 S Q) : CtI l yX10_count wsX10_count (mkR 2 45) D cA ad [.ref (ad 40 0), .int a1] S Q := by
  refine ct_ofI (cc := cX10_count) (nL := 4) (by decide) rfl (Nat.le_of_ble_eq_true rfl) ?_
  intro p e s m args below meth c A Q C hret
  unfold wp_X10_count at hw
  have C : Cx p s m args c cX10_count 4 wsX10_count RX10 D cA A := C
  have hin : ∀ w ∈ u_ws RX10 TX10 33, w ∈ wsX10_count := fun w h => List.mem_cons_of_mem _ (List.mem_append_right _ h)
  have f13 : Cond.fieldLink RX10 13 "CreepBoardModel" "marks" "I" ∈ wsX10_count := by decide +kernel
  have f32 : Cond.fieldLink RX10 32 "CreepBoardModel" "steps" "[I" ∈ wsX10_count := by decide +kernel
  have f78 : Cond.fieldLink RX10 78 "CreepBoardModel" "lines" "I" ∈ wsX10_count := by decide +kernel
  have f63 : Cond.fieldLink RX10 63 "CreepBoardModel" "tolerance" "I" ∈ wsX10_count := by decide +kernel
  change KK p l e (mkR 2 45) s m args below meth c 4 D cA ad A Q 0 [(0, .ref (ad 40 0)), (1, .int a1)] [] S
  refine k_iconst (v := 0) (pc := 0) C dX10_count_0 (by decide) ?_
  refine k_istore_n (pc := 1) C dX10_count_1 rfl (by decide) [(2, .int 0), (0, .ref (ad 40 0)), (1, .int a1)] rfl ?_
  refine k_iload_n (pc := 2) C dX10_count_2 2 rfl rfl ?_
  by_cases q_3_0 : a1 = 0
  · have hw := hw.1 q_3_0
    refine k_tblIn (off := 33) (pc := 3) C 36 dX10_count_3 q_3_0 (by decide) (by decide) (by decide) (by decide) ?_
    refine k_aload_n (pc := 36) C dX10_count_36 1 rfl rfl ?_
    refine k_get (j := 1) (pc := 37) C hin hm_40 (cel_40 cA ad S 0) rfl (by decide) f13 (fun _ h => h) rfl dX10_count_37 ?_
    exact hret _ _ _ _ dX10_count_40 hw
  replace hw := hw.2
  by_cases q_3_1 : a1 = 1
  · have hw := hw.1 q_3_1
    refine k_tblIn (off := 38) (pc := 3) C 41 dX10_count_3 q_3_1 (by decide) (by decide) (by decide) (by decide) ?_
    refine k_iconst (v := 0) (pc := 41) C dX10_count_41 (by decide) ?_
    refine k_istore_n (pc := 42) C dX10_count_42 rfl (by decide) [(3, .int 0), (2, .int 0), (0, .ref (ad 40 0)), (1, .int a1)] rfl ?_
    refine k_sub [2, 3, 1, 0] [(0, .ref (ad 40 0)), (1, .int a1), (2, .int 0), (3, .int 0)] rfl ?_
    obtain ⟨I_1, μ_1, hi_1, hw⟩ := hw
    have L_1 : ∀ (n : Nat) (v2_1 : Int32) (v3_1 : Int32) (S_1 : Sg), μ_1 v2_1 v3_1 S_1 < n → I_1 v2_1 v3_1 S_1 → KK p l e (mkR 2 45) s m args below meth c 4 D cA ad A Q 43 [(0, .ref (ad 40 0)), (1, .int a1), (2, .int v2_1), (3, .int v3_1)] [] S_1 := by
      intro n
      induction n with
      | zero => intro v2_1 v3_1 S_1 h; exact absurd h (Nat.not_lt_zero _)
      | succ n ih_1 =>
        intro v2_1 v3_1 S_1 hn_1 hi_1
        have hw := hw v2_1 v3_1 S_1 hi_1
        refine k_iload_n (pc := 43) C dX10_count_43 3 rfl rfl ?_
        refine k_aload_n (pc := 44) C dX10_count_44 0 rfl rfl ?_
        refine k_get (j := 1) (pc := 45) C hin hm_40 (cel_40 cA ad S_1 0) rfl (by decide) f13 (fun _ h => h) rfl dX10_count_45 ?_
        refine k_icmp_ge (pc := 48) C 79 dX10_count_48 (by decide) (fun q_2 => ?_) (fun q_2 => ?_)
        · have hw := hw.1 q_2
          refine k_iload_n (pc := 79) C dX10_count_79 2 rfl rfl ?_
          exact hret _ _ _ _ dX10_count_80 hw
        · have hw := hw.2 q_2
          refine k_iload_n (pc := 51) C dX10_count_51 2 rfl rfl ?_
          refine k_iload_n (pc := 52) C dX10_count_52 1 rfl rfl ?_
          refine k_iconst (v := 1) (pc := 53) C dX10_count_53 (by decide) ?_
          refine k_icmp_ne (pc := 54) C 65 dX10_count_54 (by decide) (fun q_3 => ?_) (fun q_3 => ?_)
          · have hw := hw.1 q_3
            refine k_aload_n (pc := 65) C dX10_count_65 0 rfl rfl ?_
            refine k_get (j := 7) (pc := 66) C hin hm_40 (cel_40 cA ad S_1 0) rfl (by decide) f32 (fun _ h => h) rfl dX10_count_66 ?_
            refine k_iload_n (pc := 69) C dX10_count_69 3 rfl rfl ?_
            obtain ⟨h_4, hw⟩ := hw
            refine k_iald (pc := 70) C hm_46 (cel_46 cA ad S_1 0) h_4 dX10_count_70 ?_
            refine k_iadd (pc := 71) C dX10_count_71 ?_
            refine k_topi (fun x2_5 ex2_5 => ?_)
            have hw := hw x2_5 ex2_5
            refine k_istore_n (pc := 72) C dX10_count_72 rfl (by decide) [(2, .int x2_5), (0, .ref (ad 40 0)), (1, .int a1), (3, .int v3_1)] rfl ?_
            obtain ⟨x3_6, ex3_6⟩ : ∃ y : Int32, y = v3_1 + 1 := ⟨_, rfl⟩
            have hw := hw x3_6 ex3_6
            refine k_iinc (v := x3_6) (j := 3) (pc := 73) C dX10_count_73 rfl (by rw [ex3_6]; rfl) (by decide) [(3, .int x3_6), (2, .int x2_5), (0, .ref (ad 40 0)), (1, .int a1)] rfl ?_
            refine k_goto (pc := 76) C 43 dX10_count_76 (by decide) ?_
            refine k_sub [2, 3, 1, 0] [(0, .ref (ad 40 0)), (1, .int a1), (2, .int x2_5), (3, .int x3_6)] rfl ?_
            exact ih_1 x2_5 x3_6 S_1 (Nat.lt_of_lt_of_le hw.2 (Nat.le_of_lt_succ hn_1)) hw.1
          · have hw := hw.2 q_3
            refine k_aload_n (pc := 57) C dX10_count_57 0 rfl rfl ?_
            refine k_iload_n (pc := 58) C dX10_count_58 3 rfl rfl ?_
            refine k_callVi (pc := 59) C (ct_X10_readingsOf l D cA ad v3_1 S_1 _ hw) (cwV 1 C.2.2.2.2.1 gX10_count_X10_readingsOf rfl rfl rfl (by decide +kernel) ⟨Nat.le_of_ble_eq_true rfl, Nat.le_of_ble_eq_true rfl⟩) hm_40 (cel_40 cA ad S_1 0) rfl rfl rfl rfl (Nat.le_of_ble_eq_true rfl) dX10_count_59 (fun r_7 S_7 hw => ?_)
            refine k_goto (pc := 62) C 71 dX10_count_62 (by decide) ?_
            refine k_iadd (pc := 71) C dX10_count_71 ?_
            refine k_topi (fun x2_8 ex2_8 => ?_)
            have hw := hw x2_8 ex2_8
            refine k_istore_n (pc := 72) C dX10_count_72 rfl (by decide) [(2, .int x2_8), (0, .ref (ad 40 0)), (1, .int a1), (3, .int v3_1)] rfl ?_
            obtain ⟨x3_9, ex3_9⟩ : ∃ y : Int32, y = v3_1 + 1 := ⟨_, rfl⟩
            have hw := hw x3_9 ex3_9
            refine k_iinc (v := x3_9) (j := 3) (pc := 73) C dX10_count_73 rfl (by rw [ex3_9]; rfl) (by decide) [(3, .int x3_9), (2, .int x2_8), (0, .ref (ad 40 0)), (1, .int a1)] rfl ?_
            refine k_goto (pc := 76) C 43 dX10_count_76 (by decide) ?_
            refine k_sub [2, 3, 1, 0] [(0, .ref (ad 40 0)), (1, .int a1), (2, .int x2_8), (3, .int x3_9)] rfl ?_
            exact ih_1 x2_8 x3_9 S_7 (Nat.lt_of_lt_of_le hw.2 (Nat.le_of_lt_succ hn_1)) hw.1
    exact L_1 (μ_1 0 0 S + 1) 0 0 S (Nat.lt_succ_self _) hi_1
  replace hw := hw.2
  by_cases q_3_2 : a1 = 2
  · have hw := hw.1 q_3_2
    refine k_tblIn (off := 38) (pc := 3) C 41 dX10_count_3 q_3_2 (by decide) (by decide) (by decide) (by decide) ?_
    refine k_iconst (v := 0) (pc := 41) C dX10_count_41 (by decide) ?_
    refine k_istore_n (pc := 42) C dX10_count_42 rfl (by decide) [(3, .int 0), (2, .int 0), (0, .ref (ad 40 0)), (1, .int a1)] rfl ?_
    refine k_sub [2, 3, 1, 0] [(0, .ref (ad 40 0)), (1, .int a1), (2, .int 0), (3, .int 0)] rfl ?_
    obtain ⟨I_10, μ_10, hi_10, hw⟩ := hw
    have L_10 : ∀ (n : Nat) (v2_10 : Int32) (v3_10 : Int32) (S_10 : Sg), μ_10 v2_10 v3_10 S_10 < n → I_10 v2_10 v3_10 S_10 → KK p l e (mkR 2 45) s m args below meth c 4 D cA ad A Q 43 [(0, .ref (ad 40 0)), (1, .int a1), (2, .int v2_10), (3, .int v3_10)] [] S_10 := by
      intro n
      induction n with
      | zero => intro v2_10 v3_10 S_10 h; exact absurd h (Nat.not_lt_zero _)
      | succ n ih_10 =>
        intro v2_10 v3_10 S_10 hn_10 hi_10
        have hw := hw v2_10 v3_10 S_10 hi_10
        refine k_iload_n (pc := 43) C dX10_count_43 3 rfl rfl ?_
        refine k_aload_n (pc := 44) C dX10_count_44 0 rfl rfl ?_
        refine k_get (j := 1) (pc := 45) C hin hm_40 (cel_40 cA ad S_10 0) rfl (by decide) f13 (fun _ h => h) rfl dX10_count_45 ?_
        refine k_icmp_ge (pc := 48) C 79 dX10_count_48 (by decide) (fun q_11 => ?_) (fun q_11 => ?_)
        · have hw := hw.1 q_11
          refine k_iload_n (pc := 79) C dX10_count_79 2 rfl rfl ?_
          exact hret _ _ _ _ dX10_count_80 hw
        · have hw := hw.2 q_11
          refine k_iload_n (pc := 51) C dX10_count_51 2 rfl rfl ?_
          refine k_iload_n (pc := 52) C dX10_count_52 1 rfl rfl ?_
          refine k_iconst (v := 1) (pc := 53) C dX10_count_53 (by decide) ?_
          refine k_icmp_ne (pc := 54) C 65 dX10_count_54 (by decide) (fun q_12 => ?_) (fun q_12 => ?_)
          · have hw := hw.1 q_12
            refine k_aload_n (pc := 65) C dX10_count_65 0 rfl rfl ?_
            refine k_get (j := 7) (pc := 66) C hin hm_40 (cel_40 cA ad S_10 0) rfl (by decide) f32 (fun _ h => h) rfl dX10_count_66 ?_
            refine k_iload_n (pc := 69) C dX10_count_69 3 rfl rfl ?_
            obtain ⟨h_13, hw⟩ := hw
            refine k_iald (pc := 70) C hm_46 (cel_46 cA ad S_10 0) h_13 dX10_count_70 ?_
            refine k_iadd (pc := 71) C dX10_count_71 ?_
            refine k_topi (fun x2_14 ex2_14 => ?_)
            have hw := hw x2_14 ex2_14
            refine k_istore_n (pc := 72) C dX10_count_72 rfl (by decide) [(2, .int x2_14), (0, .ref (ad 40 0)), (1, .int a1), (3, .int v3_10)] rfl ?_
            obtain ⟨x3_15, ex3_15⟩ : ∃ y : Int32, y = v3_10 + 1 := ⟨_, rfl⟩
            have hw := hw x3_15 ex3_15
            refine k_iinc (v := x3_15) (j := 3) (pc := 73) C dX10_count_73 rfl (by rw [ex3_15]; rfl) (by decide) [(3, .int x3_15), (2, .int x2_14), (0, .ref (ad 40 0)), (1, .int a1)] rfl ?_
            refine k_goto (pc := 76) C 43 dX10_count_76 (by decide) ?_
            refine k_sub [2, 3, 1, 0] [(0, .ref (ad 40 0)), (1, .int a1), (2, .int x2_14), (3, .int x3_15)] rfl ?_
            exact ih_10 x2_14 x3_15 S_10 (Nat.lt_of_lt_of_le hw.2 (Nat.le_of_lt_succ hn_10)) hw.1
          · have hw := hw.2 q_12
            refine k_aload_n (pc := 57) C dX10_count_57 0 rfl rfl ?_
            refine k_iload_n (pc := 58) C dX10_count_58 3 rfl rfl ?_
            refine k_callVi (pc := 59) C (ct_X10_readingsOf l D cA ad v3_10 S_10 _ hw) (cwV 1 C.2.2.2.2.1 gX10_count_X10_readingsOf rfl rfl rfl (by decide +kernel) ⟨Nat.le_of_ble_eq_true rfl, Nat.le_of_ble_eq_true rfl⟩) hm_40 (cel_40 cA ad S_10 0) rfl rfl rfl rfl (Nat.le_of_ble_eq_true rfl) dX10_count_59 (fun r_16 S_16 hw => ?_)
            refine k_goto (pc := 62) C 71 dX10_count_62 (by decide) ?_
            refine k_iadd (pc := 71) C dX10_count_71 ?_
            refine k_topi (fun x2_17 ex2_17 => ?_)
            have hw := hw x2_17 ex2_17
            refine k_istore_n (pc := 72) C dX10_count_72 rfl (by decide) [(2, .int x2_17), (0, .ref (ad 40 0)), (1, .int a1), (3, .int v3_10)] rfl ?_
            obtain ⟨x3_18, ex3_18⟩ : ∃ y : Int32, y = v3_10 + 1 := ⟨_, rfl⟩
            have hw := hw x3_18 ex3_18
            refine k_iinc (v := x3_18) (j := 3) (pc := 73) C dX10_count_73 rfl (by rw [ex3_18]; rfl) (by decide) [(3, .int x3_18), (2, .int x2_17), (0, .ref (ad 40 0)), (1, .int a1)] rfl ?_
            refine k_goto (pc := 76) C 43 dX10_count_76 (by decide) ?_
            refine k_sub [2, 3, 1, 0] [(0, .ref (ad 40 0)), (1, .int a1), (2, .int x2_17), (3, .int x3_18)] rfl ?_
            exact ih_10 x2_17 x3_18 S_16 (Nat.lt_of_lt_of_le hw.2 (Nat.le_of_lt_succ hn_10)) hw.1
    exact L_10 (μ_10 0 0 S + 1) 0 0 S (Nat.lt_succ_self _) hi_10
  replace hw := hw.2
  by_cases q_3_3 : a1 = 3
  · have hw := hw.1 q_3_3
    refine k_tblIn (off := 78) (pc := 3) C 81 dX10_count_3 q_3_3 (by decide) (by decide) (by decide) (by decide) ?_
    refine k_aload_n (pc := 81) C dX10_count_81 1 rfl rfl ?_
    refine k_get (j := 22) (pc := 82) C hin hm_40 (cel_40 cA ad S 0) rfl (by decide) f78 (fun _ h => h) rfl dX10_count_82 ?_
    exact hret _ _ _ _ dX10_count_85 hw
  replace hw := hw.2
  by_cases q_3_4 : a1 = 4
  · have hw := hw.1 q_3_4
    refine k_tblIn (off := 83) (pc := 3) C 86 dX10_count_3 q_3_4 (by decide) (by decide) (by decide) (by decide) ?_
    refine k_aload_n (pc := 86) C dX10_count_86 1 rfl rfl ?_
    refine k_get (j := 17) (pc := 87) C hin hm_40 (cel_40 cA ad S 0) rfl (by decide) f63 (fun _ h => h) rfl dX10_count_87 ?_
    exact hret _ _ _ _ dX10_count_90 hw
  replace hw := hw.2
  have z_3_0 := lv_neT q_3_0 (a := 0) (by decide)
  have z_3_1 := lv_neT q_3_1 (a := 1) (by decide)
  have z_3_2 := lv_neT q_3_2 (a := 2) (by decide)
  have z_3_3 := lv_neT q_3_3 (a := 3) (by decide)
  have z_3_4 := lv_neT q_3_4 (a := 4) (by decide)
  refine k_tblOut (pc := 3) C 91 dX10_count_3 (by omega) (by decide) ?_
  have hw := hw ⟨q_3_0, q_3_1, q_3_2, q_3_3, q_3_4⟩
  refine k_iconst (v := (-1)) (pc := 91) C dX10_count_91 (by decide) ?_
  exact hret _ _ _ _ dX10_count_92 hw
def wp_X10_isShelf (a1 : Int32) (S : Sg) (Q : Int32 → Sg → Prop) : Prop :=
  wp_X10_in a1 0 7 S (fun r_1 S_1 => (narrow .boolean (.int r_1) = .int r_1 ∧ Q r_1 S_1))
set_option maxHeartbeats 4000000 in
set_option maxRecDepth 100000 in
theorem ct_X10_isShelf (l : Launch) (D : va_G) (cA : Nat → ClassId) (ad : Nat → Nat → Nat) (a1 : Int32) (S : Sg) (Q : Int32 → Sg → Prop) (hw : wp_X10_isShelf a1 S Q) : CtI l yX10_isShelf wsX10_isShelf (mkR 1 23) D cA ad [.ref (ad 40 0), .int a1] S Q := by
  refine ct_ofZ (cc := cX10_isShelf) (nL := 2) (by decide) rfl (Nat.le_of_ble_eq_true rfl) ?_
  intro p e s m args below meth c A Q C hret
  unfold wp_X10_isShelf at hw
  have C : Cx p s m args c cX10_isShelf 2 wsX10_isShelf RX10 D cA A := C
  change KK p l e (mkR 1 23) s m args below meth c 2 D cA ad A Q 0 [(0, .ref (ad 40 0)), (1, .int a1)] [] S
  refine k_aload_n (pc := 0) C dX10_isShelf_0 0 rfl rfl ?_
  refine k_iload_n (pc := 1) C dX10_isShelf_1 1 rfl rfl ?_
  refine k_iconst (v := 0) (pc := 2) C dX10_isShelf_2 (by decide) ?_
  refine k_bipush (v := 7) (pc := 3) C dX10_isShelf_3 (by decide) ?_
  refine k_callVi (pc := 5) C (ct_X10_in l D cA ad a1 0 7 S _ hw) (cwV 3 C.2.2.2.2.1 gX10_isShelf_X10_in rfl rfl rfl (by decide +kernel) ⟨Nat.le_of_ble_eq_true rfl, Nat.le_of_ble_eq_true rfl⟩) hm_40 (cel_40 cA ad S 0) rfl rfl rfl rfl (Nat.le_of_ble_eq_true rfl) dX10_isShelf_5 (fun r_1 S_1 hw => ?_)
  exact hret _ _ _ _ dX10_isShelf_8 hw.1 hw.2
def wp_X10_wipe (a1 : Int32) (S : Sg) (Q : Sg → Prop) : Prop :=
  (∃ (I_1 : Int32 → Sg → Prop) (μ_1 : Int32 → Sg → Nat), I_1 0 S ∧ ∀ (v2_1 : Int32) (S_1 : Sg), I_1 v2_1 S_1 → ((60 ≤ v2_1 → Q S_1) ∧ (¬ 60 ≤ v2_1 → (vp_in ((60 * a1) + v2_1) 480 ∧ ∀ S_4 : Sg, S_4 = uL S_1 67 0 (Int32.toNatClampNeg ((60 * a1) + v2_1)) 0 → (∀ x2_5 : Int32, x2_5 = v2_1 + 1 → (I_1 x2_5 S_4 ∧ μ_1 x2_5 S_4 < μ_1 v2_1 S_1))))))
set_option maxHeartbeats 4000000 in
set_option maxRecDepth 100000 in
theorem ct_X10_wipe (l : Launch) (D : va_G) (cA : Nat → ClassId) (ad : Nat → Nat → Nat) (a1 : Int32) (S : Sg) (Q : Sg → Prop) (hw : wp_X10_wipe a1 S Q) : CtV l yX10_wipe wsX10_wipe (mkR 0 0) D cA ad [.ref (ad 40 0), .int a1] S Q := by
  refine ct_ofV (cc := cX10_wipe) (nL := 3) (by decide) rfl (Nat.le_of_ble_eq_true rfl) ?_
  intro p e s m args below meth c A Q C hret
  unfold wp_X10_wipe at hw
  have C : Cx p s m args c cX10_wipe 3 wsX10_wipe RX10 D cA A := C
  have hin : ∀ w ∈ u_ws RX10 TX10 33, w ∈ wsX10_wipe := fun w h => List.mem_cons_of_mem _ (List.mem_append_right _ h)
  have f106 : Cond.fieldLink RX10 106 "CreepBoardModel" "item" "[J" ∈ wsX10_wipe := by decide +kernel
  change KK p l e (mkR 0 0) s m args below meth c 3 D cA ad A Q 0 [(0, .ref (ad 40 0)), (1, .int a1)] [] S
  refine k_iconst (v := 0) (pc := 0) C dX10_wipe_0 (by decide) ?_
  refine k_istore_n (pc := 1) C dX10_wipe_1 rfl (by decide) [(2, .int 0), (0, .ref (ad 40 0)), (1, .int a1)] rfl ?_
  refine k_sub [1, 2, 0] [(0, .ref (ad 40 0)), (1, .int a1), (2, .int 0)] rfl ?_
  obtain ⟨I_1, μ_1, hi_1, hw⟩ := hw
  have L_1 : ∀ (n : Nat) (v2_1 : Int32) (S_1 : Sg), μ_1 v2_1 S_1 < n → I_1 v2_1 S_1 → KK p l e (mkR 0 0) s m args below meth c 3 D cA ad A Q 2 [(0, .ref (ad 40 0)), (1, .int a1), (2, .int v2_1)] [] S_1 := by
    intro n
    induction n with
    | zero => intro v2_1 S_1 h; exact absurd h (Nat.not_lt_zero _)
    | succ n ih_1 =>
      intro v2_1 S_1 hn_1 hi_1
      have hw := hw v2_1 S_1 hi_1
      refine k_iload_n (pc := 2) C dX10_wipe_2 2 rfl rfl ?_
      refine k_bipush (v := 60) (pc := 3) C dX10_wipe_3 (by decide) ?_
      refine k_icmp_ge (pc := 5) C 26 dX10_wipe_5 (by decide) (fun q_2 => ?_) (fun q_2 => ?_)
      · have hw := hw.1 q_2
        exact hret _ _ _ dX10_wipe_26 hw
      · have hw := hw.2 q_2
        refine k_aload_n (pc := 8) C dX10_wipe_8 0 rfl rfl ?_
        refine k_get (j := 31) (pc := 9) C hin hm_40 (cel_40 cA ad S_1 0) rfl (by decide) f106 (fun _ h => h) rfl dX10_wipe_9 ?_
        refine k_bipush (v := 60) (pc := 12) C dX10_wipe_12 (by decide) ?_
        refine k_iload_n (pc := 14) C dX10_wipe_14 1 rfl rfl ?_
        refine k_imul (pc := 15) C dX10_wipe_15 ?_
        refine k_iload_n (pc := 16) C dX10_wipe_16 2 rfl rfl ?_
        refine k_iadd (pc := 17) C dX10_wipe_17 ?_
        refine k_lconst (v := 0) (pc := 18) C dX10_wipe_18 (by decide) ?_
        obtain ⟨h_3, hw⟩ := hw
        refine k_last (pc := 19) C hm_67 (fun S => cel_67 cA ad S 0) h_3 dX10_wipe_19 ?_
        refine k_nameS (fun S_4 eS_4 => ?_)
        have hw := hw S_4 eS_4
        obtain ⟨x2_5, ex2_5⟩ : ∃ y : Int32, y = v2_1 + 1 := ⟨_, rfl⟩
        have hw := hw x2_5 ex2_5
        refine k_iinc (v := x2_5) (j := 2) (pc := 20) C dX10_wipe_20 rfl (by rw [ex2_5]; rfl) (by decide) [(2, .int x2_5), (0, .ref (ad 40 0)), (1, .int a1)] rfl ?_
        refine k_goto (pc := 23) C 2 dX10_wipe_23 (by decide) ?_
        refine k_sub [1, 2, 0] [(0, .ref (ad 40 0)), (1, .int a1), (2, .int x2_5)] rfl ?_
        exact ih_1 x2_5 S_4 (Nat.lt_of_lt_of_le hw.2 (Nat.le_of_lt_succ hn_1)) hw.1
  exact L_1 (μ_1 0 S + 1) 0 S (Nat.lt_succ_self _) hi_1
def wp_X10_keep (a1 : Int32) (a2 : Int32) (a3 : Int32) (S : Sg) (Q : Int32 → Sg → Prop) : Prop :=
  wp_X10_isShelf a1 S (fun r_1 S_1 => (∃ J_2 : Int32 → Sg → Prop, (∀ (t0_2 : Int32) (S_2 : Sg), J_2 t0_2 S_2 → ((¬ t0_2 = 0 → (vp_in a1 8 ∧ ∀ S_5 : Sg, S_5 = uA S_2 64 0 (Int32.toNatClampNeg a1) a2 → (vp_in a1 8 ∧ ∀ S_7 : Sg, S_7 = uA S_5 65 0 (Int32.toNatClampNeg a1) a3 → wp_X10_wipe a1 S_7 (fun S_8 => (vp_in a1 8 ∧ ∀ S_10 : Sg, S_10 = uA S_8 66 0 (Int32.toNatClampNeg a1) 0 → (∃ (I_11 : Int32 → Sg → Prop) (μ_11 : Int32 → Sg → Nat), I_11 0 S_10 ∧ ∀ (v5_11 : Int32) (S_11 : Sg), I_11 v5_11 S_11 → ((40 ≤ v5_11 → Q 0 S_11) ∧ (¬ 40 ≤ v5_11 → ((a2 ≤ 1 → Q 0 S_11) ∧ (¬ a2 ≤ 1 → wp_X10_isCleared a3 v5_11 S_11 (fun r_14 S_14 => ((¬ r_14 = 0 → (vp_in a1 8 ∧ (∃ J_17 : Int64 → Sg → Prop, (∀ (t0_17 : Int64) (S_17 : Sg), J_17 t0_17 S_17 → (vp_in ((60 * a1) + (gA S_14 66 0 (Int32.toNatClampNeg a1))) 480 ∧ ∀ S_19 : Sg, S_19 = uL S_17 67 0 (Int32.toNatClampNeg ((60 * a1) + (gA S_14 66 0 (Int32.toNatClampNeg a1)))) t0_17 → (vp_in a1 8 ∧ (vp_in a1 8 ∧ ∀ S_22 : Sg, S_22 = uA S_19 66 0 (Int32.toNatClampNeg a1) ((gA S_19 66 0 (Int32.toNatClampNeg a1)) + 1) → (∀ x5_23 : Int32, x5_23 = v5_11 + 1 → (I_11 x5_23 S_22 ∧ μ_11 x5_23 S_22 < μ_11 v5_11 S_11)))))) ∧ ((¬ a2 = 3 → wp_X10_clear a3 v5_11 0 S_14 (fun r_25 S_25 => J_17 r_25 S_25)) ∧ (a2 = 3 → J_17 (Int32.toInt64 v5_11) S_14))))) ∧ (r_14 = 0 → (∀ x5_26 : Int32, x5_26 = v5_11 + 1 → (I_11 x5_26 S_14 ∧ μ_11 x5_26 S_14 < μ_11 v5_11 S_11))))))))))))))) ∧ (t0_2 = 0 → Q (-1) S_2))) ∧ (∃ J_27 : Sg → Prop, (∀ (S_27 : Sg), J_27 S_27 → J_2 0 S_27) ∧ ((r_1 = 0 → J_27 S_1) ∧ (¬ r_1 = 0 → (∃ J_29 : Sg → Prop, (∀ (S_29 : Sg), J_29 S_29 → J_2 1 S_29) ∧ ((a2 = 0 → J_29 S_1) ∧ (¬ a2 = 0 → (∃ J_31 : Sg → Prop, (∀ (S_31 : Sg), J_31 S_31 → wp_X10_isMark a3 S_31 (fun r_32 S_32 => ((r_32 = 0 → J_27 S_32) ∧ (¬ r_32 = 0 → J_29 S_32)))) ∧ ((a2 = 1 → J_31 S_1) ∧ (¬ a2 = 1 → ((a2 = 3 → J_31 S_1) ∧ (¬ a2 = 3 → ((¬ a2 = 4 → J_27 S_1) ∧ (a2 = 4 → J_31 S_1)))))))))))))))
set_option maxHeartbeats 4000000 in
set_option maxRecDepth 100000 in
theorem ct_X10_keep (l : Launch) (D : va_G) (cA : Nat → ClassId) (ad : Nat → Nat → Nat) (a1 : Int32) (a2 : Int32) (a3 : Int32) (S : Sg) (Q : Int32 → Sg → Prop) (hw : wp_X10_keep a1 a2 a3 S Q) : CtI l yX10_keep wsX10_keep (mkR 3 74) D cA ad [.ref (ad 40 0), .int a1, .int a2, .int a3] S Q := by
  refine ct_ofI (cc := cX10_keep) (nL := 6) (by decide) rfl (Nat.le_of_ble_eq_true rfl) ?_
  intro p e s m args below meth c A Q C hret
  unfold wp_X10_keep at hw
  have C : Cx p s m args c cX10_keep 6 wsX10_keep RX10 D cA A := C
  have hin : ∀ w ∈ u_ws RX10 TX10 33, w ∈ wsX10_keep := fun w h => List.mem_cons_of_mem _ (List.mem_append_right _ h)
  have f97 : Cond.fieldLink RX10 97 "CreepBoardModel" "held" "[I" ∈ wsX10_keep := by decide +kernel
  have f100 : Cond.fieldLink RX10 100 "CreepBoardModel" "heldMark" "[I" ∈ wsX10_keep := by decide +kernel
  have f103 : Cond.fieldLink RX10 103 "CreepBoardModel" "size" "[I" ∈ wsX10_keep := by decide +kernel
  have f106 : Cond.fieldLink RX10 106 "CreepBoardModel" "item" "[J" ∈ wsX10_keep := by decide +kernel
  change KK p l e (mkR 3 74) s m args below meth c 6 D cA ad A Q 0 [(0, .ref (ad 40 0)), (1, .int a1), (2, .int a2), (3, .int a3)] [] S
  refine k_aload_n (pc := 0) C dX10_keep_0 0 rfl rfl ?_
  refine k_iload_n (pc := 1) C dX10_keep_1 1 rfl rfl ?_
  refine k_callVi (pc := 2) C (ct_X10_isShelf l D cA ad a1 S _ hw) (cwV 1 C.2.2.2.2.1 gX10_keep_X10_isShelf rfl rfl rfl (by decide +kernel) ⟨Nat.le_of_ble_eq_true rfl, Nat.le_of_ble_eq_true rfl⟩) hm_40 (cel_40 cA ad S 0) rfl rfl rfl rfl (Nat.le_of_ble_eq_true rfl) dX10_keep_2 (fun r_1 S_1 hw => ?_)
  obtain ⟨J_2, hj_2, hw⟩ := hw
  have j_2 : ∀ (t0_2 : Int32) (S_2 : Sg), J_2 t0_2 S_2 → KK p l e (mkR 3 74) s m args below meth c 6 D cA ad A Q 40 [(0, .ref (ad 40 0)), (1, .int a1), (2, .int a2), (3, .int a3)] [.int t0_2] S_2 := by
    intro t0_2 S_2 hw
    have hw := hj_2 t0_2 S_2 hw
    refine k_istore (pc := 40) C dX10_keep_40 (by decide) [(4, .int t0_2), (0, .ref (ad 40 0)), (1, .int a1), (2, .int a2), (3, .int a3)] rfl ?_
    refine k_iload (pc := 42) C dX10_keep_42 0 rfl ?_
    refine k_if_ne (pc := 44) C 49 dX10_keep_44 (by decide) (fun q_3 => ?_) (fun q_3 => ?_)
    · have hw := hw.1 q_3
      refine k_aload_n (pc := 49) C dX10_keep_49 1 rfl rfl ?_
      refine k_get (j := 28) (pc := 50) C hin hm_40 (cel_40 cA ad S_2 0) rfl (by decide) f97 (fun _ h => h) rfl dX10_keep_50 ?_
      refine k_iload_n (pc := 53) C dX10_keep_53 2 rfl rfl ?_
      refine k_iload_n (pc := 54) C dX10_keep_54 3 rfl rfl ?_
      obtain ⟨h_4, hw⟩ := hw
      refine k_iast (pc := 55) C hm_64 (fun S => cel_64 cA ad S 0) h_4 dX10_keep_55 ?_
      refine k_nameS (fun S_5 eS_5 => ?_)
      have hw := hw S_5 eS_5
      refine k_aload_n (pc := 56) C dX10_keep_56 1 rfl rfl ?_
      refine k_get (j := 29) (pc := 57) C hin hm_40 (cel_40 cA ad S_5 0) rfl (by decide) f100 (fun _ h => h) rfl dX10_keep_57 ?_
      refine k_iload_n (pc := 60) C dX10_keep_60 2 rfl rfl ?_
      refine k_iload_n (pc := 61) C dX10_keep_61 4 rfl rfl ?_
      obtain ⟨h_6, hw⟩ := hw
      refine k_iast (pc := 62) C hm_65 (fun S => cel_65 cA ad S 0) h_6 dX10_keep_62 ?_
      refine k_nameS (fun S_7 eS_7 => ?_)
      have hw := hw S_7 eS_7
      refine k_aload_n (pc := 63) C dX10_keep_63 1 rfl rfl ?_
      refine k_iload_n (pc := 64) C dX10_keep_64 2 rfl rfl ?_
      refine k_callVv (pc := 65) C (ct_X10_wipe l D cA ad a1 S_7 _ hw) (cwV 1 C.2.2.2.2.1 gX10_keep_X10_wipe rfl rfl rfl (by decide +kernel) ⟨Nat.le_of_ble_eq_true rfl, Nat.le_of_ble_eq_true rfl⟩) hm_40 (cel_40 cA ad S_7 0) rfl rfl rfl rfl (Nat.le_of_ble_eq_true rfl) dX10_keep_65 (fun S_8 hw => ?_)
      refine k_aload_n (pc := 68) C dX10_keep_68 1 rfl rfl ?_
      refine k_get (j := 30) (pc := 69) C hin hm_40 (cel_40 cA ad S_8 0) rfl (by decide) f103 (fun _ h => h) rfl dX10_keep_69 ?_
      refine k_iload_n (pc := 72) C dX10_keep_72 2 rfl rfl ?_
      refine k_iconst (v := 0) (pc := 73) C dX10_keep_73 (by decide) ?_
      obtain ⟨h_9, hw⟩ := hw
      refine k_iast (pc := 74) C hm_66 (fun S => cel_66 cA ad S 0) h_9 dX10_keep_74 ?_
      refine k_nameS (fun S_10 eS_10 => ?_)
      have hw := hw S_10 eS_10
      refine k_iconst (v := 0) (pc := 75) C dX10_keep_75 (by decide) ?_
      refine k_istore (pc := 76) C dX10_keep_76 (by decide) [(5, .int 0), (4, .int t0_2), (0, .ref (ad 40 0)), (1, .int a1), (2, .int a2), (3, .int a3)] rfl ?_
      refine k_sub [2, 3, 4, 5, 0] [(0, .ref (ad 40 0)), (1, .int a1), (2, .int a2), (3, .int a3), (5, .int 0)] rfl ?_
      obtain ⟨I_11, μ_11, hi_11, hw⟩ := hw
      have L_11 : ∀ (n : Nat) (v5_11 : Int32) (S_11 : Sg), μ_11 v5_11 S_11 < n → I_11 v5_11 S_11 → KK p l e (mkR 3 74) s m args below meth c 6 D cA ad A Q 78 [(0, .ref (ad 40 0)), (1, .int a1), (2, .int a2), (3, .int a3), (5, .int v5_11)] [] S_11 := by
        intro n
        induction n with
        | zero => intro v5_11 S_11 h; exact absurd h (Nat.not_lt_zero _)
        | succ n ih_11 =>
          intro v5_11 S_11 hn_11 hi_11
          have hw := hw v5_11 S_11 hi_11
          refine k_iload (pc := 78) C dX10_keep_78 4 rfl ?_
          refine k_bipush (v := 40) (pc := 80) C dX10_keep_80 (by decide) ?_
          refine k_icmp_ge (pc := 82) C 154 dX10_keep_82 (by decide) (fun q_12 => ?_) (fun q_12 => ?_)
          · have hw := hw.1 q_12
            refine k_iconst (v := 0) (pc := 154) C dX10_keep_154 (by decide) ?_
            exact hret _ _ _ _ dX10_keep_155 hw
          · have hw := hw.2 q_12
            refine k_iload_n (pc := 85) C dX10_keep_85 2 rfl rfl ?_
            refine k_iconst (v := 1) (pc := 86) C dX10_keep_86 (by decide) ?_
            refine k_icmp_le (pc := 87) C 154 dX10_keep_87 (by decide) (fun q_13 => ?_) (fun q_13 => ?_)
            · have hw := hw.1 q_13
              refine k_iconst (v := 0) (pc := 154) C dX10_keep_154 (by decide) ?_
              exact hret _ _ _ _ dX10_keep_155 hw
            · have hw := hw.2 q_13
              refine k_aload_n (pc := 90) C dX10_keep_90 0 rfl rfl ?_
              refine k_iload_n (pc := 91) C dX10_keep_91 3 rfl rfl ?_
              refine k_iload (pc := 92) C dX10_keep_92 4 rfl ?_
              refine k_callVi (pc := 94) C (ct_X10_isCleared l D cA ad a3 v5_11 S_11 _ hw) (cwV 2 C.2.2.2.2.1 gX10_keep_X10_isCleared rfl rfl rfl (by decide +kernel) ⟨Nat.le_of_ble_eq_true rfl, Nat.le_of_ble_eq_true rfl⟩) hm_40 (cel_40 cA ad S_11 0) rfl rfl rfl rfl (Nat.le_of_ble_eq_true rfl) dX10_keep_94 (fun r_14 S_14 hw => ?_)
              refine k_if_ne (pc := 97) C 103 dX10_keep_97 (by decide) (fun q_15 => ?_) (fun q_15 => ?_)
              · have hw := hw.1 q_15
                refine k_aload_n (pc := 103) C dX10_keep_103 0 rfl rfl ?_
                refine k_get (j := 31) (pc := 104) C hin hm_40 (cel_40 cA ad S_14 0) rfl (by decide) f106 (fun _ h => h) rfl dX10_keep_104 ?_
                refine k_bipush (v := 60) (pc := 107) C dX10_keep_107 (by decide) ?_
                refine k_iload_n (pc := 109) C dX10_keep_109 1 rfl rfl ?_
                refine k_imul (pc := 110) C dX10_keep_110 ?_
                refine k_aload_n (pc := 111) C dX10_keep_111 0 rfl rfl ?_
                refine k_get (j := 30) (pc := 112) C hin hm_40 (cel_40 cA ad S_14 0) rfl (by decide) f103 (fun _ h => h) rfl dX10_keep_112 ?_
                refine k_iload_n (pc := 115) C dX10_keep_115 1 rfl rfl ?_
                obtain ⟨h_16, hw⟩ := hw
                refine k_iald (pc := 116) C hm_66 (cel_66 cA ad S_14 0) h_16 dX10_keep_116 ?_
                refine k_iadd (pc := 117) C dX10_keep_117 ?_
                refine k_iload_n (pc := 118) C dX10_keep_118 2 rfl rfl ?_
                refine k_iconst (v := 3) (pc := 119) C dX10_keep_119 (by decide) ?_
                obtain ⟨J_17, hj_17, hw⟩ := hw
                have j_17 : ∀ (t0_17 : Int64) (S_17 : Sg), J_17 t0_17 S_17 → KK p l e (mkR 3 74) s m args below meth c 6 D cA ad A Q 137 [(0, .ref (ad 40 0)), (1, .int a1), (2, .int a2), (3, .int a3), (5, .int v5_11)] [.long t0_17, .int ((60 * a1) + (gA S_14 66 0 (Int32.toNatClampNeg a1))), .ref (ad 67 0)] S_17 := by
                  intro t0_17 S_17 hw
                  have hw := hj_17 t0_17 S_17 hw
                  obtain ⟨h_18, hw⟩ := hw
                  refine k_last (pc := 137) C hm_67 (fun S => cel_67 cA ad S 0) h_18 dX10_keep_137 ?_
                  refine k_nameS (fun S_19 eS_19 => ?_)
                  have hw := hw S_19 eS_19
                  refine k_aload_n (pc := 138) C dX10_keep_138 0 rfl rfl ?_
                  refine k_get (j := 30) (pc := 139) C hin hm_40 (cel_40 cA ad S_19 0) rfl (by decide) f103 (fun _ h => h) rfl dX10_keep_139 ?_
                  refine k_iload_n (pc := 142) C dX10_keep_142 1 rfl rfl ?_
                  refine k_dup2 (pc := 143) C dX10_keep_143 rfl rfl ?_
                  obtain ⟨h_20, hw⟩ := hw
                  refine k_iald (pc := 144) C hm_66 (cel_66 cA ad S_19 0) h_20 dX10_keep_144 ?_
                  refine k_iconst (v := 1) (pc := 145) C dX10_keep_145 (by decide) ?_
                  refine k_iadd (pc := 146) C dX10_keep_146 ?_
                  obtain ⟨h_21, hw⟩ := hw
                  refine k_iast (pc := 147) C hm_66 (fun S => cel_66 cA ad S 0) h_21 dX10_keep_147 ?_
                  refine k_nameS (fun S_22 eS_22 => ?_)
                  have hw := hw S_22 eS_22
                  obtain ⟨x5_23, ex5_23⟩ : ∃ y : Int32, y = v5_11 + 1 := ⟨_, rfl⟩
                  have hw := hw x5_23 ex5_23
                  refine k_iinc (v := x5_23) (j := 4) (pc := 148) C dX10_keep_148 rfl (by rw [ex5_23]; rfl) (by decide) [(5, .int x5_23), (0, .ref (ad 40 0)), (1, .int a1), (2, .int a2), (3, .int a3)] rfl ?_
                  refine k_goto (pc := 151) C 78 dX10_keep_151 (by decide) ?_
                  refine k_sub [1, 2, 3, 4, 0] [(0, .ref (ad 40 0)), (1, .int a1), (2, .int a2), (3, .int a3), (5, .int x5_23)] rfl ?_
                  exact ih_11 x5_23 S_22 (Nat.lt_of_lt_of_le hw.2 (Nat.le_of_lt_succ hn_11)) hw.1
                refine k_icmp_ne (pc := 120) C 129 dX10_keep_120 (by decide) (fun q_24 => ?_) (fun q_24 => ?_)
                · have hw := hw.1 q_24
                  refine k_aload_n (pc := 129) C dX10_keep_129 0 rfl rfl ?_
                  refine k_iload_n (pc := 130) C dX10_keep_130 3 rfl rfl ?_
                  refine k_iload (pc := 131) C dX10_keep_131 4 rfl ?_
                  refine k_iconst (v := 0) (pc := 133) C dX10_keep_133 (by decide) ?_
                  refine k_callVl (pc := 134) C (ct_X10_clear l D cA ad a3 v5_11 0 S_14 _ hw) (cwV 3 C.2.2.2.2.1 gX10_keep_X10_clear rfl rfl rfl (by decide +kernel) ⟨Nat.le_of_ble_eq_true rfl, Nat.le_of_ble_eq_true rfl⟩) hm_40 (cel_40 cA ad S_14 0) rfl rfl rfl rfl (Nat.le_of_ble_eq_true rfl) dX10_keep_134 (fun r_25 S_25 hw => ?_)
                  refine k_sub [0, 1, 2, 3, 4] [(0, .ref (ad 40 0)), (1, .int a1), (2, .int a2), (3, .int a3), (5, .int v5_11)] rfl ?_
                  exact j_17 r_25 S_25 hw
                · have hw := hw.2 q_24
                  refine k_iload (pc := 123) C dX10_keep_123 4 rfl ?_
                  refine k_i2l (pc := 125) C dX10_keep_125 ?_
                  refine k_goto (pc := 126) C 137 dX10_keep_126 (by decide) ?_
                  refine k_sub [0, 1, 2, 3, 4] [(0, .ref (ad 40 0)), (1, .int a1), (2, .int a2), (3, .int a3), (5, .int v5_11)] rfl ?_
                  exact j_17 (Int32.toInt64 v5_11) S_14 hw
              · have hw := hw.2 q_15
                refine k_goto (pc := 100) C 148 dX10_keep_100 (by decide) ?_
                obtain ⟨x5_26, ex5_26⟩ : ∃ y : Int32, y = v5_11 + 1 := ⟨_, rfl⟩
                have hw := hw x5_26 ex5_26
                refine k_iinc (v := x5_26) (j := 4) (pc := 148) C dX10_keep_148 rfl (by rw [ex5_26]; rfl) (by decide) [(5, .int x5_26), (0, .ref (ad 40 0)), (1, .int a1), (2, .int a2), (3, .int a3)] rfl ?_
                refine k_goto (pc := 151) C 78 dX10_keep_151 (by decide) ?_
                refine k_sub [1, 2, 3, 4, 0] [(0, .ref (ad 40 0)), (1, .int a1), (2, .int a2), (3, .int a3), (5, .int x5_26)] rfl ?_
                exact ih_11 x5_26 S_14 (Nat.lt_of_lt_of_le hw.2 (Nat.le_of_lt_succ hn_11)) hw.1
      exact L_11 (μ_11 0 S_10 + 1) 0 S_10 (Nat.lt_succ_self _) hi_11
    · have hw := hw.2 q_3
      refine k_iconst (v := (-1)) (pc := 47) C dX10_keep_47 (by decide) ?_
      exact hret _ _ _ _ dX10_keep_48 hw
  obtain ⟨J_27, hj_27, hw⟩ := hw
  have j_27 : ∀ (S_27 : Sg), J_27 S_27 → KK p l e (mkR 3 74) s m args below meth c 6 D cA ad A Q 39 [(0, .ref (ad 40 0)), (1, .int a1), (2, .int a2), (3, .int a3)] [] S_27 := by
    intro S_27 hw
    have hw := hj_27 S_27 hw
    refine k_iconst (v := 0) (pc := 39) C dX10_keep_39 (by decide) ?_
    refine k_sub [0, 1, 2, 3] [(0, .ref (ad 40 0)), (1, .int a1), (2, .int a2), (3, .int a3)] rfl ?_
    exact j_2 0 S_27 hw
  refine k_if_eq (pc := 5) C 39 dX10_keep_5 (by decide) (fun q_28 => ?_) (fun q_28 => ?_)
  · have hw := hw.1 q_28
    refine k_sub [0, 1, 2, 3] [(0, .ref (ad 40 0)), (1, .int a1), (2, .int a2), (3, .int a3)] rfl ?_
    exact j_27 S_1 hw
  · have hw := hw.2 q_28
    refine k_iload_n (pc := 8) C dX10_keep_8 2 rfl rfl ?_
    obtain ⟨J_29, hj_29, hw⟩ := hw
    have j_29 : ∀ (S_29 : Sg), J_29 S_29 → KK p l e (mkR 3 74) s m args below meth c 6 D cA ad A Q 35 [(0, .ref (ad 40 0)), (1, .int a1), (2, .int a2), (3, .int a3)] [] S_29 := by
      intro S_29 hw
      have hw := hj_29 S_29 hw
      refine k_iconst (v := 1) (pc := 35) C dX10_keep_35 (by decide) ?_
      refine k_goto (pc := 36) C 40 dX10_keep_36 (by decide) ?_
      refine k_sub [0, 1, 2, 3] [(0, .ref (ad 40 0)), (1, .int a1), (2, .int a2), (3, .int a3)] rfl ?_
      exact j_2 1 S_29 hw
    refine k_if_eq (pc := 9) C 35 dX10_keep_9 (by decide) (fun q_30 => ?_) (fun q_30 => ?_)
    · have hw := hw.1 q_30
      refine k_sub [0, 1, 2, 3] [(0, .ref (ad 40 0)), (1, .int a1), (2, .int a2), (3, .int a3)] rfl ?_
      exact j_29 S_1 hw
    · have hw := hw.2 q_30
      refine k_iload_n (pc := 12) C dX10_keep_12 2 rfl rfl ?_
      refine k_iconst (v := 1) (pc := 13) C dX10_keep_13 (by decide) ?_
      obtain ⟨J_31, hj_31, hw⟩ := hw
      have j_31 : ∀ (S_31 : Sg), J_31 S_31 → KK p l e (mkR 3 74) s m args below meth c 6 D cA ad A Q 27 [(0, .ref (ad 40 0)), (1, .int a1), (2, .int a2), (3, .int a3)] [] S_31 := by
        intro S_31 hw
        have hw := hj_31 S_31 hw
        refine k_aload_n (pc := 27) C dX10_keep_27 0 rfl rfl ?_
        refine k_iload_n (pc := 28) C dX10_keep_28 3 rfl rfl ?_
        refine k_callVi (pc := 29) C (ct_X10_isMark l D cA ad a3 S_31 _ hw) (cwV 1 C.2.2.2.2.1 gX10_keep_X10_isMark rfl rfl rfl (by decide +kernel) ⟨Nat.le_of_ble_eq_true rfl, Nat.le_of_ble_eq_true rfl⟩) hm_40 (cel_40 cA ad S_31 0) rfl rfl rfl rfl (Nat.le_of_ble_eq_true rfl) dX10_keep_29 (fun r_32 S_32 hw => ?_)
        refine k_if_eq (pc := 32) C 39 dX10_keep_32 (by decide) (fun q_33 => ?_) (fun q_33 => ?_)
        · have hw := hw.1 q_33
          refine k_sub [0, 1, 2, 3] [(0, .ref (ad 40 0)), (1, .int a1), (2, .int a2), (3, .int a3)] rfl ?_
          exact j_27 S_32 hw
        · have hw := hw.2 q_33
          refine k_sub [0, 1, 2, 3] [(0, .ref (ad 40 0)), (1, .int a1), (2, .int a2), (3, .int a3)] rfl ?_
          exact j_29 S_32 hw
      refine k_icmp_eq (pc := 14) C 27 dX10_keep_14 (by decide) (fun q_34 => ?_) (fun q_34 => ?_)
      · have hw := hw.1 q_34
        refine k_sub [0, 1, 2, 3] [(0, .ref (ad 40 0)), (1, .int a1), (2, .int a2), (3, .int a3)] rfl ?_
        exact j_31 S_1 hw
      · have hw := hw.2 q_34
        refine k_iload_n (pc := 17) C dX10_keep_17 2 rfl rfl ?_
        refine k_iconst (v := 3) (pc := 18) C dX10_keep_18 (by decide) ?_
        refine k_icmp_eq (pc := 19) C 27 dX10_keep_19 (by decide) (fun q_35 => ?_) (fun q_35 => ?_)
        · have hw := hw.1 q_35
          refine k_sub [0, 1, 2, 3] [(0, .ref (ad 40 0)), (1, .int a1), (2, .int a2), (3, .int a3)] rfl ?_
          exact j_31 S_1 hw
        · have hw := hw.2 q_35
          refine k_iload_n (pc := 22) C dX10_keep_22 2 rfl rfl ?_
          refine k_iconst (v := 4) (pc := 23) C dX10_keep_23 (by decide) ?_
          refine k_icmp_ne (pc := 24) C 39 dX10_keep_24 (by decide) (fun q_36 => ?_) (fun q_36 => ?_)
          · have hw := hw.1 q_36
            refine k_sub [0, 1, 2, 3] [(0, .ref (ad 40 0)), (1, .int a1), (2, .int a2), (3, .int a3)] rfl ?_
            exact j_27 S_1 hw
          · have hw := hw.2 q_36
            refine k_sub [0, 1, 2, 3] [(0, .ref (ad 40 0)), (1, .int a1), (2, .int a2), (3, .int a3)] rfl ?_
            exact j_31 S_1 hw
