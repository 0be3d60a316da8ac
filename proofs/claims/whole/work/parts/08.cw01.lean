def wp_X6_holds (k : Nat) (S : Sg) (Q : Int32 → Sg → Prop) : Prop :=
  (k < 8 ∧ Q (gI S 24 k 1) S)
set_option maxHeartbeats 4000000 in
set_option maxRecDepth 100000 in
theorem ct_X6_holds (l : Launch) (D : va_G) (cA : Nat → ClassId) (ad : Nat → Nat → Nat) (k : Nat) (S : Sg) (Q : Int32 → Sg → Prop) (hw : wp_X6_holds k S Q) : CtI l yX6_holds wsX6_holds (mkR 0 0) D cA ad [.ref (ad 24 k)] S Q := by
  refine ct_ofI (cc := cX6_holds) (nL := 1) (by decide) rfl (Nat.le_of_ble_eq_true rfl) ?_
  intro p e s m args below meth c A Q C hret
  unfold wp_X6_holds at hw
  have C : Cx p s m args c cX6_holds 1 wsX6_holds RX6 D cA A := C
  have hin6 : ∀ w ∈ u_ws RX6 TX6 4, w ∈ wsX6_holds := fun w h => List.mem_cons_of_mem _ (List.mem_append_right _ h)
  have f15 : Cond.fieldLink RX6 15 "CreepBoard$Shelf" "holds" "I" ∈ wsX6_holds := by decide +kernel
  change KK p l e (mkR 0 0) s m args below meth c 1 D cA ad A Q 0 [(0, .ref (ad 24 k))] [] S
  refine k_aload_n (pc := 0) C dX6_holds_0 0 rfl rfl ?_
  obtain ⟨h_1, hw⟩ := hw
  refine k_get (j := 1) (pc := 1) C hin6 (ids_shelf h_1 (Or.inl rfl)) (cel_24 cA ad S k) rfl (by decide) f15 (fun _ h => h) rfl dX6_holds_1 ?_
  exact hret _ _ _ _ dX6_holds_4 hw
def wp_X6_holdsRow (k : Nat) (S : Sg) (Q : Int32 → Sg → Prop) : Prop :=
  (k < 8 ∧ (((gI S 24 k 1) = 3 → Q 1 S) ∧ (¬ (gI S 24 k 1) = 3 → ((¬ (gI S 24 k 1) = 4 → Q 0 S) ∧ ((gI S 24 k 1) = 4 → Q 1 S)))))
set_option maxHeartbeats 4000000 in
set_option maxRecDepth 100000 in
theorem ct_X6_holdsRow (l : Launch) (D : va_G) (cA : Nat → ClassId) (ad : Nat → Nat → Nat) (k : Nat) (S : Sg) (Q : Int32 → Sg → Prop) (hw : wp_X6_holdsRow k S Q) : CtI l yX6_holdsRow wsX6_holdsRow (mkR 0 0) D cA ad [.ref (ad 24 k)] S Q := by
  refine ct_ofZ (cc := cX6_holdsRow) (nL := 1) (by decide) rfl (Nat.le_of_ble_eq_true rfl) ?_
  intro p e s m args below meth c A Q C hret
  unfold wp_X6_holdsRow at hw
  have C : Cx p s m args c cX6_holdsRow 1 wsX6_holdsRow RX6 D cA A := C
  have hin6 : ∀ w ∈ u_ws RX6 TX6 4, w ∈ wsX6_holdsRow := fun w h => List.mem_cons_of_mem _ (List.mem_append_right _ h)
  have f15 : Cond.fieldLink RX6 15 "CreepBoard$Shelf" "holds" "I" ∈ wsX6_holdsRow := by decide +kernel
  change KK p l e (mkR 0 0) s m args below meth c 1 D cA ad A Q 0 [(0, .ref (ad 24 k))] [] S
  refine k_aload_n (pc := 0) C dX6_holdsRow_0 0 rfl rfl ?_
  obtain ⟨h_1, hw⟩ := hw
  refine k_get (j := 1) (pc := 1) C hin6 (ids_shelf h_1 (Or.inl rfl)) (cel_24 cA ad S k) rfl (by decide) f15 (fun _ h => h) rfl dX6_holdsRow_1 ?_
  refine k_iconst (v := 3) (pc := 4) C dX6_holdsRow_4 (by decide) ?_
  refine k_icmp_eq (pc := 5) C 16 dX6_holdsRow_5 (by decide) (fun q_2 => ?_) (fun q_2 => ?_)
  · have hw := hw.1 q_2
    refine k_iconst (v := 1) (pc := 16) C dX6_holdsRow_16 (by decide) ?_
    refine k_goto (pc := 17) C 21 dX6_holdsRow_17 (by decide) ?_
    exact hret _ _ _ _ dX6_holdsRow_21 rfl hw
  · have hw := hw.2 q_2
    refine k_aload_n (pc := 8) C dX6_holdsRow_8 0 rfl rfl ?_
    refine k_get (j := 1) (pc := 9) C hin6 (ids_shelf h_1 (Or.inl rfl)) (cel_24 cA ad S k) rfl (by decide) f15 (fun _ h => h) rfl dX6_holdsRow_9 ?_
    refine k_iconst (v := 4) (pc := 12) C dX6_holdsRow_12 (by decide) ?_
    refine k_icmp_ne (pc := 13) C 20 dX6_holdsRow_13 (by decide) (fun q_3 => ?_) (fun q_3 => ?_)
    · have hw := hw.1 q_3
      refine k_iconst (v := 0) (pc := 20) C dX6_holdsRow_20 (by decide) ?_
      exact hret _ _ _ _ dX6_holdsRow_21 rfl hw
    · have hw := hw.2 q_3
      refine k_iconst (v := 1) (pc := 16) C dX6_holdsRow_16 (by decide) ?_
      refine k_goto (pc := 17) C 21 dX6_holdsRow_17 (by decide) ?_
      exact hret _ _ _ _ dX6_holdsRow_21 rfl hw
def wp_X6_size (k : Nat) (S : Sg) (Q : Int32 → Sg → Prop) : Prop :=
  (k < 8 ∧ Q (gI S 24 k 2) S)
set_option maxHeartbeats 4000000 in
set_option maxRecDepth 100000 in
theorem ct_X6_size (l : Launch) (D : va_G) (cA : Nat → ClassId) (ad : Nat → Nat → Nat) (k : Nat) (S : Sg) (Q : Int32 → Sg → Prop) (hw : wp_X6_size k S Q) : CtI l yX6_size wsX6_size (mkR 0 0) D cA ad [.ref (ad 24 k)] S Q := by
  refine ct_ofI (cc := cX6_size) (nL := 1) (by decide) rfl (Nat.le_of_ble_eq_true rfl) ?_
  intro p e s m args below meth c A Q C hret
  unfold wp_X6_size at hw
  have C : Cx p s m args c cX6_size 1 wsX6_size RX6 D cA A := C
  have hin6 : ∀ w ∈ u_ws RX6 TX6 4, w ∈ wsX6_size := fun w h => List.mem_cons_of_mem _ (List.mem_append_right _ h)
  have f19 : Cond.fieldLink RX6 19 "CreepBoard$Shelf" "size" "I" ∈ wsX6_size := by decide +kernel
  change KK p l e (mkR 0 0) s m args below meth c 1 D cA ad A Q 0 [(0, .ref (ad 24 k))] [] S
  refine k_aload_n (pc := 0) C dX6_size_0 0 rfl rfl ?_
  obtain ⟨h_1, hw⟩ := hw
  refine k_get (j := 2) (pc := 1) C hin6 (ids_shelf h_1 (Or.inl rfl)) (cel_24 cA ad S k) rfl (by decide) f19 (fun _ h => h) rfl dX6_size_1 ?_
  exact hret _ _ _ _ dX6_size_4 hw
def wp_X6_heldMark (k : Nat) (S : Sg) (Q : Option Nat → Sg → Prop) : Prop :=
  (k < 8 ∧ Q (sM S k) S)
set_option maxHeartbeats 4000000 in
set_option maxRecDepth 100000 in
theorem ct_X6_heldMark (l : Launch) (D : va_G) (cA : Nat → ClassId) (ad : Nat → Nat → Nat) (k : Nat) (S : Sg) (Q : Option Nat → Sg → Prop) (hw : wp_X6_heldMark k S Q) : CtQ 26 l yX6_heldMark wsX6_heldMark (mkR 0 0) D cA ad [.ref (ad 24 k)] S Q := by
  refine ct_ofQ (cc := cX6_heldMark) (nL := 1) (by decide) rfl (Nat.le_of_ble_eq_true rfl) ?_
  intro p e s m args below meth c A Q C hret
  unfold wp_X6_heldMark at hw
  have C : Cx p s m args c cX6_heldMark 1 wsX6_heldMark RX6 D cA A := C
  have hin6 : ∀ w ∈ u_ws RX6 TX6 4, w ∈ wsX6_heldMark := fun w h => List.mem_cons_of_mem _ (List.mem_append_right _ h)
  have f22 : Cond.fieldLink RX6 22 "CreepBoard$Shelf" "mark" "LCreepBoard$Mark;" ∈ wsX6_heldMark := by decide +kernel
  change KK p l e (mkR 0 0) s m args below meth c 1 D cA ad A Q 0 [(0, .ref (ad 24 k))] [] S
  refine k_aload_n (pc := 0) C dX6_heldMark_0 0 rfl rfl ?_
  obtain ⟨h_1, hw⟩ := hw
  refine k_get (j := 3) (pc := 1) C hin6 (ids_shelf h_1 (Or.inl rfl)) (cel_24 cA ad S k) rfl (by decide) f22 (fun _ h => h) rfl dX6_heldMark_1 ?_
  exact hret _ _ (sM S k) _ dX6_heldMark_4 hw
def wp_X6_valueAt (k : Nat) (a1 : Int32) (S : Sg) (Q : Int64 → Sg → Prop) : Prop :=
  (k < 8 ∧ (vp_in a1 60 ∧ Q (gL S 25 k (Int32.toNatClampNeg a1)) S))
set_option maxHeartbeats 4000000 in
set_option maxRecDepth 100000 in
theorem ct_X6_valueAt (l : Launch) (D : va_G) (cA : Nat → ClassId) (ad : Nat → Nat → Nat) (k : Nat) (a1 : Int32) (S : Sg) (Q : Int64 → Sg → Prop) (hw : wp_X6_valueAt k a1 S Q) : CtL l yX6_valueAt wsX6_valueAt (mkR 0 0) D cA ad [.ref (ad 24 k), .int a1] S Q := by
  refine ct_ofL (cc := cX6_valueAt) (nL := 2) (by decide) rfl (Nat.le_of_ble_eq_true rfl) ?_
  intro p e s m args below meth c A Q C hret
  unfold wp_X6_valueAt at hw
  have C : Cx p s m args c cX6_valueAt 2 wsX6_valueAt RX6 D cA A := C
  have hin6 : ∀ w ∈ u_ws RX6 TX6 4, w ∈ wsX6_valueAt := fun w h => List.mem_cons_of_mem _ (List.mem_append_right _ h)
  have f9 : Cond.fieldLink RX6 9 "CreepBoard$Shelf" "row" "[J" ∈ wsX6_valueAt := by decide +kernel
  change KK p l e (mkR 0 0) s m args below meth c 2 D cA ad A Q 0 [(0, .ref (ad 24 k)), (1, .int a1)] [] S
  refine k_aload_n (pc := 0) C dX6_valueAt_0 0 rfl rfl ?_
  obtain ⟨h_1, hw⟩ := hw
  refine k_get (j := 0) (pc := 1) C hin6 (ids_shelf h_1 (Or.inl rfl)) (cel_24 cA ad S k) rfl (by decide) f9 (fun _ h => h) rfl dX6_valueAt_1 ?_
  refine k_iload_n (pc := 4) C dX6_valueAt_4 1 rfl rfl ?_
  obtain ⟨h_2, hw⟩ := hw
  refine k_lald (pc := 5) C (ids_shelf h_1 (Or.inr rfl)) (cel_25 cA ad S k) h_2 dX6_valueAt_5 ?_
  exact hret _ _ _ _ dX6_valueAt_6 hw
def wp_X6_clear (k : Nat) (S : Sg) (Q : Sg → Prop) : Prop :=
  (k < 8 ∧ (∀ S_1 : Sg, S_1 = uI S 24 k 1 0 → (∀ S_3 : Sg, S_3 = uI S_1 24 k 2 0 → (∀ S_4 : Sg, S_4 = uH S_3 k none → Q S_4))))
set_option maxHeartbeats 4000000 in
set_option maxRecDepth 100000 in
theorem ct_X6_clear (l : Launch) (D : va_G) (cA : Nat → ClassId) (ad : Nat → Nat → Nat) (k : Nat) (S : Sg) (Q : Sg → Prop) (hw : wp_X6_clear k S Q) : CtV l yX6_clear wsX6_clear (mkR 0 0) D cA ad [.ref (ad 24 k)] S Q := by
  refine ct_ofV (cc := cX6_clear) (nL := 1) (by decide) rfl (Nat.le_of_ble_eq_true rfl) ?_
  intro p e s m args below meth c A Q C hret
  unfold wp_X6_clear at hw
  have C : Cx p s m args c cX6_clear 1 wsX6_clear RX6 D cA A := C
  have hin6 : ∀ w ∈ u_ws RX6 TX6 4, w ∈ wsX6_clear := fun w h => List.mem_cons_of_mem _ (List.mem_append_right _ h)
  have f15 : Cond.fieldLink RX6 15 "CreepBoard$Shelf" "holds" "I" ∈ wsX6_clear := by decide +kernel
  have f19 : Cond.fieldLink RX6 19 "CreepBoard$Shelf" "size" "I" ∈ wsX6_clear := by decide +kernel
  have f22 : Cond.fieldLink RX6 22 "CreepBoard$Shelf" "mark" "LCreepBoard$Mark;" ∈ wsX6_clear := by decide +kernel
  change KK p l e (mkR 0 0) s m args below meth c 1 D cA ad A Q 0 [(0, .ref (ad 24 k))] [] S
  refine k_aload_n (pc := 0) C dX6_clear_0 0 rfl rfl ?_
  refine k_iconst (v := 0) (pc := 1) C dX6_clear_1 (by decide) ?_
  obtain ⟨h_2, hw⟩ := hw
  refine k_put (S' := uI S 24 k 1 0) (j := 1) (ty := .int) (pc := 2) C hin6 tyX6 tyX6_ok nmX6 (ids_shelf h_2 (Or.inl rfl)) (cel_24 cA ad S k) rfl (by decide) f15 (fun _ h => h) rfl (by decide +kernel) rfl rfl (Nat.le_of_ble_eq_true rfl) rfl ((cel_24 cA ad (uI S 24 k 1 0) k).trans (by rw [gI_same]; rfl)) (fun a b h => cel_uI h) dX6_clear_2 ?_
  refine k_nameS (fun S_1 eS_1 => ?_)
  have hw := hw S_1 eS_1
  refine k_aload_n (pc := 5) C dX6_clear_5 0 rfl rfl ?_
  refine k_iconst (v := 0) (pc := 6) C dX6_clear_6 (by decide) ?_
  refine k_put (S' := uI S_1 24 k 2 0) (j := 2) (ty := .int) (pc := 7) C hin6 tyX6 tyX6_ok nmX6 (ids_shelf h_2 (Or.inl rfl)) (cel_24 cA ad S_1 k) rfl (by decide) f19 (fun _ h => h) rfl (by decide +kernel) rfl rfl (Nat.le_of_ble_eq_true rfl) rfl ((cel_24 cA ad (uI S_1 24 k 2 0) k).trans (by rw [gI_same]; rfl)) (fun a b h => cel_uI h) dX6_clear_7 ?_
  refine k_nameS (fun S_3 eS_3 => ?_)
  have hw := hw S_3 eS_3
  refine k_aload_n (pc := 10) C dX6_clear_10 0 rfl rfl ?_
  refine k_null (pc := 11) C dX6_clear_11 ?_
  refine k_put (S' := uH S_3 k none) (j := 3) (ty := (.object "CreepBoard$Mark")) (pc := 12) C hin6 tyX6 tyX6_ok nmX6 (ids_shelf h_2 (Or.inl rfl)) (cel_24 cA ad S_3 k) rfl (by decide) f22 (fun _ h => h) rfl (by decide +kernel) rfl rfl (Nat.le_of_ble_eq_true rfl) rfl ((cel_24 cA ad (uH S_3 k none) k).trans (by rw [sM_same]; rfl)) (fun a b h => cel_uH h) dX6_clear_12 ?_
  refine k_nameS (fun S_4 eS_4 => ?_)
  have hw := hw S_4 eS_4
  exact hret _ _ _ dX6_clear_15 hw
def wp_X6_holdMark (k : Nat) (k1 : Nat) (S : Sg) (Q : Sg → Prop) : Prop :=
  (k < 8 ∧ wp_X6_clear k S (fun S_1 => (∀ S_3 : Sg, S_3 = uI S_1 24 k 1 1 → (∀ S_4 : Sg, S_4 = uH S_3 k (some k1) → Q S_4))))
set_option maxHeartbeats 4000000 in
set_option maxRecDepth 100000 in
theorem ct_X6_holdMark (l : Launch) (D : va_G) (cA : Nat → ClassId) (ad : Nat → Nat → Nat) (k : Nat) (k1 : Nat) (S : Sg) (Q : Sg → Prop) (hw : wp_X6_holdMark k k1 S Q) : CtV l yX6_holdMark wsX6_holdMark (mkR 1 20) D cA ad [.ref (ad 24 k), .ref (ad 26 k1)] S Q := by
  refine ct_ofV (cc := cX6_holdMark) (nL := 2) (by decide) rfl (Nat.le_of_ble_eq_true rfl) ?_
  intro p e s m args below meth c A Q C hret
  unfold wp_X6_holdMark at hw
  have C : Cx p s m args c cX6_holdMark 2 wsX6_holdMark RX6 D cA A := C
  have hin6 : ∀ w ∈ u_ws RX6 TX6 4, w ∈ wsX6_holdMark := fun w h => List.mem_cons_of_mem _ (List.mem_append_right _ h)
  have f15 : Cond.fieldLink RX6 15 "CreepBoard$Shelf" "holds" "I" ∈ wsX6_holdMark := by decide +kernel
  have f22 : Cond.fieldLink RX6 22 "CreepBoard$Shelf" "mark" "LCreepBoard$Mark;" ∈ wsX6_holdMark := by decide +kernel
  change KK p l e (mkR 1 20) s m args below meth c 2 D cA ad A Q 0 [(0, .ref (ad 24 k)), (1, .ref (ad 26 k1))] [] S
  refine k_aload_n (pc := 0) C dX6_holdMark_0 0 rfl rfl ?_
  obtain ⟨h_2, hw⟩ := hw
  refine k_afterV (pc := 1) C (wp_X6_clear k S) hw (fun post hw => by
      exact rn_V C (ct_X6_clear l D cA ad k S post hw) (cwV 0 C.2.2.2.2.1 gX6_holdMark_X6_clear rfl rfl rfl (by decide +kernel) ⟨Nat.le_of_ble_eq_true rfl, Nat.le_of_ble_eq_true rfl⟩) (ids_shelf h_2 (Or.inl rfl)) (cel_24 cA ad S k) rfl rfl rfl rfl (Nat.le_of_ble_eq_true rfl) dX6_holdMark_1) (fun S_1 hw => ?_)
  refine k_aload_n (pc := 4) C dX6_holdMark_4 0 rfl rfl ?_
  refine k_iconst (v := 1) (pc := 5) C dX6_holdMark_5 (by decide) ?_
  refine k_put (S' := uI S_1 24 k 1 1) (j := 1) (ty := .int) (pc := 6) C hin6 tyX6 tyX6_ok nmX6 (ids_shelf h_2 (Or.inl rfl)) (cel_24 cA ad S_1 k) rfl (by decide) f15 (fun _ h => h) rfl (by decide +kernel) rfl rfl (Nat.le_of_ble_eq_true rfl) rfl ((cel_24 cA ad (uI S_1 24 k 1 1) k).trans (by rw [gI_same]; rfl)) (fun a b h => cel_uI h) dX6_holdMark_6 ?_
  refine k_nameS (fun S_3 eS_3 => ?_)
  have hw := hw S_3 eS_3
  refine k_aload_n (pc := 9) C dX6_holdMark_9 0 rfl rfl ?_
  refine k_aload_n (pc := 10) C dX6_holdMark_10 1 rfl rfl ?_
  refine k_put (S' := uH S_3 k (some k1)) (j := 3) (ty := (.object "CreepBoard$Mark")) (pc := 11) C hin6 tyX6 tyX6_ok nmX6 (ids_shelf h_2 (Or.inl rfl)) (cel_24 cA ad S_3 k) rfl (by decide) f22 (fun _ h => h) rfl (by decide +kernel) rfl rfl (Nat.le_of_ble_eq_true rfl) rfl ((cel_24 cA ad (uH S_3 k (some k1)) k).trans (by rw [sM_same]; rfl)) (fun a b h => cel_uH h) dX6_holdMark_11 ?_
  refine k_nameS (fun S_4 eS_4 => ?_)
  have hw := hw S_4 eS_4
  exact hret _ _ _ dX6_holdMark_14 hw
def wp_X6_holdNoughts (k : Nat) (a1 : Int32) (a2 : Int32) (S : Sg) (Q : Sg → Prop) : Prop :=
  (k < 8 ∧ wp_X6_clear k S (fun S_1 => (∀ S_3 : Sg, S_3 = uI S_1 24 k 1 a1 → (∀ S_4 : Sg, S_4 = uI S_3 24 k 2 a2 → (∃ (I_5 : Int32 → Sg → Prop) (μ_5 : Int32 → Sg → Nat), I_5 0 S_4 ∧ ∀ (v3_5 : Int32) (S_5 : Sg), I_5 v3_5 S_5 → ((a2 ≤ v3_5 → Q S_5) ∧ (¬ a2 ≤ v3_5 → ((60 ≤ v3_5 → Q S_5) ∧ (¬ 60 ≤ v3_5 → (vp_in v3_5 60 ∧ (∀ S_9 : Sg, S_9 = uL S_5 25 k (Int32.toNatClampNeg v3_5) 0 → (∀ x3_10 : Int32, x3_10 = v3_5 + 1 → (I_5 x3_10 S_9 ∧ μ_5 x3_10 S_9 < μ_5 v3_5 S_5)))))))))))))
set_option maxHeartbeats 4000000 in
set_option maxRecDepth 100000 in
theorem ct_X6_holdNoughts (l : Launch) (D : va_G) (cA : Nat → ClassId) (ad : Nat → Nat → Nat) (k : Nat) (a1 : Int32) (a2 : Int32) (S : Sg) (Q : Sg → Prop) (hw : wp_X6_holdNoughts k a1 a2 S Q) : CtV l yX6_holdNoughts wsX6_holdNoughts (mkR 1 20) D cA ad [.ref (ad 24 k), .int a1, .int a2] S Q := by
  refine ct_ofV (cc := cX6_holdNoughts) (nL := 4) (by decide) rfl (Nat.le_of_ble_eq_true rfl) ?_
  intro p e s m args below meth c A Q C hret
  unfold wp_X6_holdNoughts at hw
  have C : Cx p s m args c cX6_holdNoughts 4 wsX6_holdNoughts RX6 D cA A := C
  have hin6 : ∀ w ∈ u_ws RX6 TX6 4, w ∈ wsX6_holdNoughts := fun w h => List.mem_cons_of_mem _ (List.mem_append_right _ h)
  have f15 : Cond.fieldLink RX6 15 "CreepBoard$Shelf" "holds" "I" ∈ wsX6_holdNoughts := by decide +kernel
  have f19 : Cond.fieldLink RX6 19 "CreepBoard$Shelf" "size" "I" ∈ wsX6_holdNoughts := by decide +kernel
  have f9 : Cond.fieldLink RX6 9 "CreepBoard$Shelf" "row" "[J" ∈ wsX6_holdNoughts := by decide +kernel
  change KK p l e (mkR 1 20) s m args below meth c 4 D cA ad A Q 0 [(0, .ref (ad 24 k)), (1, .int a1), (2, .int a2)] [] S
  refine k_aload_n (pc := 0) C dX6_holdNoughts_0 0 rfl rfl ?_
  obtain ⟨h_2, hw⟩ := hw
  refine k_afterV (pc := 1) C (wp_X6_clear k S) hw (fun post hw => by
      exact rn_V C (ct_X6_clear l D cA ad k S post hw) (cwV 0 C.2.2.2.2.1 gX6_holdNoughts_X6_clear rfl rfl rfl (by decide +kernel) ⟨Nat.le_of_ble_eq_true rfl, Nat.le_of_ble_eq_true rfl⟩) (ids_shelf h_2 (Or.inl rfl)) (cel_24 cA ad S k) rfl rfl rfl rfl (Nat.le_of_ble_eq_true rfl) dX6_holdNoughts_1) (fun S_1 hw => ?_)
  refine k_aload_n (pc := 4) C dX6_holdNoughts_4 0 rfl rfl ?_
  refine k_iload_n (pc := 5) C dX6_holdNoughts_5 1 rfl rfl ?_
  refine k_put (S' := uI S_1 24 k 1 a1) (j := 1) (ty := .int) (pc := 6) C hin6 tyX6 tyX6_ok nmX6 (ids_shelf h_2 (Or.inl rfl)) (cel_24 cA ad S_1 k) rfl (by decide) f15 (fun _ h => h) rfl (by decide +kernel) rfl rfl (Nat.le_of_ble_eq_true rfl) rfl ((cel_24 cA ad (uI S_1 24 k 1 a1) k).trans (by rw [gI_same]; rfl)) (fun a b h => cel_uI h) dX6_holdNoughts_6 ?_
  refine k_nameS (fun S_3 eS_3 => ?_)
  have hw := hw S_3 eS_3
  refine k_aload_n (pc := 9) C dX6_holdNoughts_9 0 rfl rfl ?_
  refine k_iload_n (pc := 10) C dX6_holdNoughts_10 2 rfl rfl ?_
  refine k_put (S' := uI S_3 24 k 2 a2) (j := 2) (ty := .int) (pc := 11) C hin6 tyX6 tyX6_ok nmX6 (ids_shelf h_2 (Or.inl rfl)) (cel_24 cA ad S_3 k) rfl (by decide) f19 (fun _ h => h) rfl (by decide +kernel) rfl rfl (Nat.le_of_ble_eq_true rfl) rfl ((cel_24 cA ad (uI S_3 24 k 2 a2) k).trans (by rw [gI_same]; rfl)) (fun a b h => cel_uI h) dX6_holdNoughts_11 ?_
  refine k_nameS (fun S_4 eS_4 => ?_)
  have hw := hw S_4 eS_4
  refine k_iconst (v := 0) (pc := 14) C dX6_holdNoughts_14 (by decide) ?_
  refine k_istore_n (pc := 15) C dX6_holdNoughts_15 rfl (by decide) [(3, .int 0), (0, .ref (ad 24 k)), (1, .int a1), (2, .int a2)] rfl ?_
  refine k_sub [1, 3, 0] [(0, .ref (ad 24 k)), (2, .int a2), (3, .int 0)] rfl ?_
  obtain ⟨I_5, μ_5, hi_5, hw⟩ := hw
  have L_5 : ∀ (n : Nat) (v3_5 : Int32) (S_5 : Sg), μ_5 v3_5 S_5 < n → I_5 v3_5 S_5 → KK p l e (mkR 1 20) s m args below meth c 4 D cA ad A Q 16 [(0, .ref (ad 24 k)), (2, .int a2), (3, .int v3_5)] [] S_5 := by
    intro n
    induction n with
    | zero => intro v3_5 S_5 h; exact absurd h (Nat.not_lt_zero _)
    | succ n ih_5 =>
      intro v3_5 S_5 hn_5 hi_5
      have hw := hw v3_5 S_5 hi_5
      refine k_iload_n (pc := 16) C dX6_holdNoughts_16 2 rfl rfl ?_
      refine k_iload_n (pc := 17) C dX6_holdNoughts_17 1 rfl rfl ?_
      refine k_icmp_ge (pc := 18) C 40 dX6_holdNoughts_18 (by decide) (fun q_6 => ?_) (fun q_6 => ?_)
      · have hw := hw.1 q_6
        exact hret _ _ _ dX6_holdNoughts_40 hw
      · have hw := hw.2 q_6
        refine k_iload_n (pc := 21) C dX6_holdNoughts_21 2 rfl rfl ?_
        refine k_bipush (v := 60) (pc := 22) C dX6_holdNoughts_22 (by decide) ?_
        refine k_icmp_ge (pc := 24) C 40 dX6_holdNoughts_24 (by decide) (fun q_7 => ?_) (fun q_7 => ?_)
        · have hw := hw.1 q_7
          exact hret _ _ _ dX6_holdNoughts_40 hw
        · have hw := hw.2 q_7
          refine k_aload_n (pc := 27) C dX6_holdNoughts_27 0 rfl rfl ?_
          refine k_get (j := 0) (pc := 28) C hin6 (ids_shelf h_2 (Or.inl rfl)) (cel_24 cA ad S_5 k) rfl (by decide) f9 (fun _ h => h) rfl dX6_holdNoughts_28 ?_
          refine k_iload_n (pc := 31) C dX6_holdNoughts_31 2 rfl rfl ?_
          refine k_lconst (v := 0) (pc := 32) C dX6_holdNoughts_32 (by decide) ?_
          obtain ⟨h_8, hw⟩ := hw
          refine k_last (pc := 33) C (ids_shelf h_2 (Or.inr rfl)) (fun S => cel_25 cA ad S k) h_8 dX6_holdNoughts_33 ?_
          refine k_nameS (fun S_9 eS_9 => ?_)
          have hw := hw S_9 eS_9
          obtain ⟨x3_10, ex3_10⟩ : ∃ y : Int32, y = v3_5 + 1 := ⟨_, rfl⟩
          have hw := hw x3_10 ex3_10
          refine k_iinc (v := x3_10) (j := 2) (pc := 34) C dX6_holdNoughts_34 rfl (by rw [ex3_10]; rfl) (by decide) [(3, .int x3_10), (0, .ref (ad 24 k)), (2, .int a2)] rfl ?_
          refine k_goto (pc := 37) C 16 dX6_holdNoughts_37 (by decide) ?_
          refine k_sub [1, 2, 0] [(0, .ref (ad 24 k)), (2, .int a2), (3, .int x3_10)] rfl ?_
          exact ih_5 x3_10 S_9 (Nat.lt_of_lt_of_le hw.2 (Nat.le_of_lt_succ hn_5)) hw.1
  exact L_5 (μ_5 0 S_4 + 1) 0 S_4 (Nat.lt_succ_self _) hi_5
def wp_X6_holdSeries (k : Nat) (a2 : Int32) (S : Sg) (Q : Sg → Prop) : Prop :=
  wp_X5_size S (fun r_1 S_1 => (k < 8 ∧ wp_X6_holdNoughts k a2 r_1 S_1 (fun S_2 => (∃ (I_4 : Int32 → Sg → Prop) (μ_4 : Int32 → Sg → Nat), I_4 0 S_2 ∧ ∀ (v3_4 : Int32) (S_4 : Sg), I_4 v3_4 S_4 → wp_X5_size S_4 (fun r_5 S_5 => ((r_5 ≤ v3_4 → Q S_5) ∧ (¬ r_5 ≤ v3_4 → ((60 ≤ v3_4 → Q S_5) ∧ (¬ 60 ≤ v3_4 → ((¬ a2 = 3 → wp_X5_valueAt v3_4 S_5 (fun r_9 S_9 => (vp_in v3_4 60 ∧ (∀ S_11 : Sg, S_11 = uL S_9 25 k (Int32.toNatClampNeg v3_4) r_9 → (∀ x3_12 : Int32, x3_12 = v3_4 + 1 → (I_4 x3_12 S_11 ∧ μ_4 x3_12 S_11 < μ_4 v3_4 S_4)))))) ∧ (a2 = 3 → wp_X5_epochAt v3_4 S_5 (fun r_13 S_13 => (vp_in v3_4 60 ∧ (∀ S_15 : Sg, S_15 = uL S_13 25 k (Int32.toNatClampNeg v3_4) (Int32.toInt64 r_13) → (∀ x3_16 : Int32, x3_16 = v3_4 + 1 → (I_4 x3_16 S_15 ∧ μ_4 x3_16 S_15 < μ_4 v3_4 S_4))))))))))))))))
set_option maxHeartbeats 4000000 in
set_option maxRecDepth 100000 in
theorem ct_X6_holdSeries (l : Launch) (D : va_G) (cA : Nat → ClassId) (ad : Nat → Nat → Nat) (k : Nat) (a2 : Int32) (S : Sg) (Q : Sg → Prop) (hw : wp_X6_holdSeries k a2 S Q) : CtV l yX6_holdSeries wsX6_holdSeries (mkR 2 43) D cA ad [.ref (ad 24 k), .ref (ad 3 0), .int a2] S Q := by
  refine ct_ofV (cc := cX6_holdSeries) (nL := 4) (by decide) rfl (Nat.le_of_ble_eq_true rfl) ?_
  intro p e s m args below meth c A Q C hret
  unfold wp_X6_holdSeries at hw
  have C : Cx p s m args c cX6_holdSeries 4 wsX6_holdSeries RX6 D cA A := C
  have hin6 : ∀ w ∈ u_ws RX6 TX6 4, w ∈ wsX6_holdSeries := fun w h => List.mem_cons_of_mem _ (List.mem_append_left _ (List.mem_append_right _ h))
  have f9 : Cond.fieldLink RX6 9 "CreepBoard$Shelf" "row" "[J" ∈ wsX6_holdSeries := by decide +kernel
  change KK p l e (mkR 2 43) s m args below meth c 4 D cA ad A Q 0 [(0, .ref (ad 24 k)), (1, .ref (ad 3 0)), (2, .int a2)] [] S
  refine k_aload_n (pc := 0) C dX6_holdSeries_0 0 rfl rfl ?_
  refine k_iload_n (pc := 1) C dX6_holdSeries_1 2 rfl rfl ?_
  refine k_aload_n (pc := 2) C dX6_holdSeries_2 1 rfl rfl ?_
  refine k_afterI (pc := 3) C (wp_X5_size S) hw (fun post hw => by
      exact rn_V C (ct_X5_size l D cA ad S post hw) (cwV 0 C.2.2.2.2.1 gX6_holdSeries_X5_size rfl rfl rfl (by decide +kernel) ⟨Nat.le_of_ble_eq_true rfl, Nat.le_of_ble_eq_true rfl⟩) hm_3 (cel_3 cA ad S 0) rfl rfl rfl rfl (Nat.le_of_ble_eq_true rfl) dX6_holdSeries_3) (fun r_1 S_1 hw => ?_)
  obtain ⟨h_3, hw⟩ := hw
  refine k_afterV (pc := 6) C (wp_X6_holdNoughts k a2 r_1 S_1) hw (fun post hw => by
      exact rn_V C (ct_X6_holdNoughts l D cA ad k a2 r_1 S_1 post hw) (cwV 2 C.2.2.2.2.1 gX6_holdSeries_X6_holdNoughts rfl rfl rfl (by decide +kernel) ⟨Nat.le_of_ble_eq_true rfl, Nat.le_of_ble_eq_true rfl⟩) (ids_shelf h_3 (Or.inl rfl)) (cel_24 cA ad S_1 k) rfl rfl rfl rfl (Nat.le_of_ble_eq_true rfl) dX6_holdSeries_6) (fun S_2 hw => ?_)
  refine k_iconst (v := 0) (pc := 9) C dX6_holdSeries_9 (by decide) ?_
  refine k_istore_n (pc := 10) C dX6_holdSeries_10 rfl (by decide) [(3, .int 0), (0, .ref (ad 24 k)), (1, .ref (ad 3 0)), (2, .int a2)] rfl ?_
  refine k_sub [1, 2, 3, 0] [(0, .ref (ad 24 k)), (1, .ref (ad 3 0)), (2, .int a2), (3, .int 0)] rfl ?_
  obtain ⟨I_4, μ_4, hi_4, hw⟩ := hw
  have L_4 : ∀ (n : Nat) (v3_4 : Int32) (S_4 : Sg), μ_4 v3_4 S_4 < n → I_4 v3_4 S_4 → KK p l e (mkR 2 43) s m args below meth c 4 D cA ad A Q 11 [(0, .ref (ad 24 k)), (1, .ref (ad 3 0)), (2, .int a2), (3, .int v3_4)] [] S_4 := by
    intro n
    induction n with
    | zero => intro v3_4 S_4 h; exact absurd h (Nat.not_lt_zero _)
    | succ n ih_4 =>
      intro v3_4 S_4 hn_4 hi_4
      have hw := hw v3_4 S_4 hi_4
      refine k_iload_n (pc := 11) C dX6_holdSeries_11 3 rfl rfl ?_
      refine k_aload_n (pc := 12) C dX6_holdSeries_12 1 rfl rfl ?_
      refine k_afterI (pc := 13) C (wp_X5_size S_4) hw (fun post hw => by
          exact rn_V C (ct_X5_size l D cA ad S_4 post hw) (cwV 0 C.2.2.2.2.1 gX6_holdSeries_X5_size rfl rfl rfl (by decide +kernel) ⟨Nat.le_of_ble_eq_true rfl, Nat.le_of_ble_eq_true rfl⟩) hm_3 (cel_3 cA ad S_4 0) rfl rfl rfl rfl (Nat.le_of_ble_eq_true rfl) dX6_holdSeries_13) (fun r_5 S_5 hw => ?_)
      refine k_icmp_ge (pc := 16) C 56 dX6_holdSeries_16 (by decide) (fun q_6 => ?_) (fun q_6 => ?_)
      · have hw := hw.1 q_6
        exact hret _ _ _ dX6_holdSeries_56 hw
      · have hw := hw.2 q_6
        refine k_iload_n (pc := 19) C dX6_holdSeries_19 3 rfl rfl ?_
        refine k_bipush (v := 60) (pc := 20) C dX6_holdSeries_20 (by decide) ?_
        refine k_icmp_ge (pc := 22) C 56 dX6_holdSeries_22 (by decide) (fun q_7 => ?_) (fun q_7 => ?_)
        · have hw := hw.1 q_7
          exact hret _ _ _ dX6_holdSeries_56 hw
        · have hw := hw.2 q_7
          refine k_aload_n (pc := 25) C dX6_holdSeries_25 0 rfl rfl ?_
          refine k_get (j := 0) (pc := 26) C hin6 (ids_shelf h_3 (Or.inl rfl)) (cel_24 cA ad S_5 k) rfl (by decide) f9 (fun _ h => h) rfl dX6_holdSeries_26 ?_
          refine k_iload_n (pc := 29) C dX6_holdSeries_29 3 rfl rfl ?_
          refine k_iload_n (pc := 30) C dX6_holdSeries_30 2 rfl rfl ?_
          refine k_iconst (v := 3) (pc := 31) C dX6_holdSeries_31 (by decide) ?_
          refine k_icmp_ne (pc := 32) C 44 dX6_holdSeries_32 (by decide) (fun q_8 => ?_) (fun q_8 => ?_)
          · have hw := hw.1 q_8
            refine k_aload_n (pc := 44) C dX6_holdSeries_44 1 rfl rfl ?_
            refine k_iload_n (pc := 45) C dX6_holdSeries_45 3 rfl rfl ?_
            refine k_afterL (pc := 46) C (wp_X5_valueAt v3_4 S_5) hw (fun post hw => by
                exact rn_V C (ct_X5_valueAt l D cA ad v3_4 S_5 post hw) (cwV 1 C.2.2.2.2.1 gX6_holdSeries_X5_valueAt rfl rfl rfl (by decide +kernel) ⟨Nat.le_of_ble_eq_true rfl, Nat.le_of_ble_eq_true rfl⟩) hm_3 (cel_3 cA ad S_5 0) rfl rfl rfl rfl (Nat.le_of_ble_eq_true rfl) dX6_holdSeries_46) (fun r_9 S_9 hw => ?_)
            obtain ⟨h_10, hw⟩ := hw
            refine k_last (pc := 49) C (ids_shelf h_3 (Or.inr rfl)) (fun S => cel_25 cA ad S k) h_10 dX6_holdSeries_49 ?_
            refine k_nameS (fun S_11 eS_11 => ?_)
            have hw := hw S_11 eS_11
            obtain ⟨x3_12, ex3_12⟩ : ∃ y : Int32, y = v3_4 + 1 := ⟨_, rfl⟩
            have hw := hw x3_12 ex3_12
            refine k_iinc (v := x3_12) (j := 3) (pc := 50) C dX6_holdSeries_50 rfl (by rw [ex3_12]; rfl) (by decide) [(3, .int x3_12), (0, .ref (ad 24 k)), (1, .ref (ad 3 0)), (2, .int a2)] rfl ?_
            refine k_goto (pc := 53) C 11 dX6_holdSeries_53 (by decide) ?_
            refine k_sub [1, 2, 3, 0] [(0, .ref (ad 24 k)), (1, .ref (ad 3 0)), (2, .int a2), (3, .int x3_12)] rfl ?_
            exact ih_4 x3_12 S_11 (Nat.lt_of_lt_of_le hw.2 (Nat.le_of_lt_succ hn_4)) hw.1
          · have hw := hw.2 q_8
            refine k_aload_n (pc := 35) C dX6_holdSeries_35 1 rfl rfl ?_
            refine k_iload_n (pc := 36) C dX6_holdSeries_36 3 rfl rfl ?_
            refine k_afterI (pc := 37) C (wp_X5_epochAt v3_4 S_5) hw (fun post hw => by
                exact rn_V C (ct_X5_epochAt l D cA ad v3_4 S_5 post hw) (cwV 1 C.2.2.2.2.1 gX6_holdSeries_X5_epochAt rfl rfl rfl (by decide +kernel) ⟨Nat.le_of_ble_eq_true rfl, Nat.le_of_ble_eq_true rfl⟩) hm_3 (cel_3 cA ad S_5 0) rfl rfl rfl rfl (Nat.le_of_ble_eq_true rfl) dX6_holdSeries_37) (fun r_13 S_13 hw => ?_)
            refine k_i2l (pc := 40) C dX6_holdSeries_40 ?_
            refine k_goto (pc := 41) C 49 dX6_holdSeries_41 (by decide) ?_
            obtain ⟨h_14, hw⟩ := hw
            refine k_last (pc := 49) C (ids_shelf h_3 (Or.inr rfl)) (fun S => cel_25 cA ad S k) h_14 dX6_holdSeries_49 ?_
            refine k_nameS (fun S_15 eS_15 => ?_)
            have hw := hw S_15 eS_15
            obtain ⟨x3_16, ex3_16⟩ : ∃ y : Int32, y = v3_4 + 1 := ⟨_, rfl⟩
            have hw := hw x3_16 ex3_16
            refine k_iinc (v := x3_16) (j := 3) (pc := 50) C dX6_holdSeries_50 rfl (by rw [ex3_16]; rfl) (by decide) [(3, .int x3_16), (0, .ref (ad 24 k)), (1, .ref (ad 3 0)), (2, .int a2)] rfl ?_
            refine k_goto (pc := 53) C 11 dX6_holdSeries_53 (by decide) ?_
            refine k_sub [1, 2, 3, 0] [(0, .ref (ad 24 k)), (1, .ref (ad 3 0)), (2, .int a2), (3, .int x3_16)] rfl ?_
            exact ih_4 x3_16 S_15 (Nat.lt_of_lt_of_le hw.2 (Nat.le_of_lt_succ hn_4)) hw.1
  exact L_4 (μ_4 0 S_2 + 1) 0 S_2 (Nat.lt_succ_self _) hi_4
def wp_X6_hasPlaces (k : Nat) (a1 : Int32) (a2 : Int32) (S : Sg) (Q : Int32 → Sg → Prop) : Prop :=
  ((a1 < 0 → Q 0 S) ∧ (¬ a1 < 0 → ((a2 < 0 → Q 0 S) ∧ (¬ a2 < 0 → (k < 8 ∧ ((((gI S 24 k 2) - a2) < a1 → Q 0 S) ∧ (¬ ((gI S 24 k 2) - a2) < a1 → Q 1 S)))))))
set_option maxHeartbeats 4000000 in
set_option maxRecDepth 100000 in
theorem ct_X6_hasPlaces (l : Launch) (D : va_G) (cA : Nat → ClassId) (ad : Nat → Nat → Nat) (k : Nat) (a1 : Int32) (a2 : Int32) (S : Sg) (Q : Int32 → Sg → Prop) (hw : wp_X6_hasPlaces k a1 a2 S Q) : CtI l yX6_hasPlaces wsX6_hasPlaces (mkR 0 0) D cA ad [.ref (ad 24 k), .int a1, .int a2] S Q := by
  refine ct_ofZ (cc := cX6_hasPlaces) (nL := 3) (by decide) rfl (Nat.le_of_ble_eq_true rfl) ?_
  intro p e s m args below meth c A Q C hret
  unfold wp_X6_hasPlaces at hw
  have C : Cx p s m args c cX6_hasPlaces 3 wsX6_hasPlaces RX6 D cA A := C
  have hin6 : ∀ w ∈ u_ws RX6 TX6 4, w ∈ wsX6_hasPlaces := fun w h => List.mem_cons_of_mem _ (List.mem_append_right _ h)
  have f19 : Cond.fieldLink RX6 19 "CreepBoard$Shelf" "size" "I" ∈ wsX6_hasPlaces := by decide +kernel
  change KK p l e (mkR 0 0) s m args below meth c 3 D cA ad A Q 0 [(0, .ref (ad 24 k)), (1, .int a1), (2, .int a2)] [] S
  refine k_iload_n (pc := 0) C dX6_hasPlaces_0 1 rfl rfl ?_
  refine k_if_lt (pc := 1) C 22 dX6_hasPlaces_1 (by decide) (fun q_1 => ?_) (fun q_1 => ?_)
  · have hw := hw.1 q_1
    refine k_iconst (v := 0) (pc := 22) C dX6_hasPlaces_22 (by decide) ?_
    exact hret _ _ _ _ dX6_hasPlaces_23 rfl hw
  · have hw := hw.2 q_1
    refine k_iload_n (pc := 4) C dX6_hasPlaces_4 2 rfl rfl ?_
    refine k_if_lt (pc := 5) C 22 dX6_hasPlaces_5 (by decide) (fun q_2 => ?_) (fun q_2 => ?_)
    · have hw := hw.1 q_2
      refine k_iconst (v := 0) (pc := 22) C dX6_hasPlaces_22 (by decide) ?_
      exact hret _ _ _ _ dX6_hasPlaces_23 rfl hw
    · have hw := hw.2 q_2
      refine k_iload_n (pc := 8) C dX6_hasPlaces_8 1 rfl rfl ?_
      refine k_aload_n (pc := 9) C dX6_hasPlaces_9 0 rfl rfl ?_
      obtain ⟨h_3, hw⟩ := hw
      refine k_get (j := 2) (pc := 10) C hin6 (ids_shelf h_3 (Or.inl rfl)) (cel_24 cA ad S k) rfl (by decide) f19 (fun _ h => h) rfl dX6_hasPlaces_10 ?_
      refine k_iload_n (pc := 13) C dX6_hasPlaces_13 2 rfl rfl ?_
      refine k_isub (pc := 14) C dX6_hasPlaces_14 ?_
      refine k_icmp_gt (pc := 15) C 22 dX6_hasPlaces_15 (by decide) (fun q_4 => ?_) (fun q_4 => ?_)
      · have hw := hw.1 q_4
        refine k_iconst (v := 0) (pc := 22) C dX6_hasPlaces_22 (by decide) ?_
        exact hret _ _ _ _ dX6_hasPlaces_23 rfl hw
      · have hw := hw.2 q_4
        refine k_iconst (v := 1) (pc := 18) C dX6_hasPlaces_18 (by decide) ?_
        refine k_goto (pc := 19) C 23 dX6_hasPlaces_19 (by decide) ?_
        exact hret _ _ _ _ dX6_hasPlaces_23 rfl hw
def wp_X6_copyPlaces (k : Nat) (a1 : Int32) (k2 : Nat) (a3 : Int32) (a4 : Int32) (S : Sg) (Q : Sg → Prop) : Prop :=
  (k < 8 ∧ (k2 < 8 ∧ ((¬ a1 < 0 ∧ ¬ a3 < 0 ∧ ¬ a4 < 0 ∧ Int32.toNatClampNeg a1 + Int32.toNatClampNeg a4 ≤ 60 ∧ Int32.toNatClampNeg a3 + Int32.toNatClampNeg a4 ≤ 60) ∧ (∀ S_3 : Sg, S_3 = uLr S 25 k2 (va_cpy (gL S 25 k) (gL S 25 k2) (Int32.toNatClampNeg a1) (Int32.toNatClampNeg a3) (Int32.toNatClampNeg a4)) → Q S_3))))
set_option maxHeartbeats 4000000 in
set_option maxRecDepth 100000 in
theorem ct_X6_copyPlaces (l : Launch) (D : va_G) (cA : Nat → ClassId) (ad : Nat → Nat → Nat) (k : Nat) (a1 : Int32) (k2 : Nat) (a3 : Int32) (a4 : Int32) (S : Sg) (Q : Sg → Prop) (hw : wp_X6_copyPlaces k a1 k2 a3 a4 S Q) : CtV l yX6_copyPlaces wsX6_copyPlaces (mkR 1 60) D cA ad [.ref (ad 24 k), .int a1, .ref (ad 24 k2), .int a3, .int a4] S Q := by
  refine ct_ofV (cc := cX6_copyPlaces) (nL := 5) (by decide) rfl (Nat.le_of_ble_eq_true rfl) ?_
  intro p e s m args below meth c A Q C hret
  unfold wp_X6_copyPlaces at hw
  have C : Cx p s m args c cX6_copyPlaces 5 wsX6_copyPlaces RX6 D cA A := C
  have hin6 : ∀ w ∈ u_ws RX6 TX6 4, w ∈ wsX6_copyPlaces := fun w h => List.mem_cons_of_mem _ (List.mem_append_right _ h)
  have f9 : Cond.fieldLink RX6 9 "CreepBoard$Shelf" "row" "[J" ∈ wsX6_copyPlaces := by decide +kernel
  have ac0 : Cond.methodLink RX6 46 arraycopyName ∈ wsX6_copyPlaces := by decide +kernel
  have ac1 : Cond.native arraycopyName ∈ wsX6_copyPlaces := by decide +kernel
  have ac2 : Cond.static arraycopyName ∈ wsX6_copyPlaces := by decide +kernel
  have ac3 : Cond.initialized "java/lang/System" ∈ wsX6_copyPlaces := by decide +kernel
  change KK p l e (mkR 1 60) s m args below meth c 5 D cA ad A Q 0 [(0, .ref (ad 24 k)), (1, .int a1), (2, .ref (ad 24 k2)), (3, .int a3), (4, .int a4)] [] S
  refine k_aload_n (pc := 0) C dX6_copyPlaces_0 0 rfl rfl ?_
  obtain ⟨h_1, hw⟩ := hw
  refine k_get (j := 0) (pc := 1) C hin6 (ids_shelf h_1 (Or.inl rfl)) (cel_24 cA ad S k) rfl (by decide) f9 (fun _ h => h) rfl dX6_copyPlaces_1 ?_
  refine k_iload_n (pc := 4) C dX6_copyPlaces_4 1 rfl rfl ?_
  refine k_aload_n (pc := 5) C dX6_copyPlaces_5 2 rfl rfl ?_
  obtain ⟨h_2, hw⟩ := hw
  refine k_get (j := 0) (pc := 6) C hin6 (ids_shelf h_2 (Or.inl rfl)) (cel_24 cA ad S k2) rfl (by decide) f9 (fun _ h => h) rfl dX6_copyPlaces_6 ?_
  refine k_iload_n (pc := 9) C dX6_copyPlaces_9 3 rfl rfl ?_
  refine k_iload (pc := 10) C dX6_copyPlaces_10 4 rfl ?_
  obtain ⟨⟨y1_3, y2_3, y3_3, y4_3, y5_3⟩, hw⟩ := hw
  refine k_copyl (pc := 12) C ac0 ac1 ac2 ac3 (ids_shelf h_1 (Or.inr rfl)) (cel_25 cA ad S k) (ids_shelf h_2 (Or.inr rfl)) (fun S => cel_25 cA ad S k2) y1_3 y2_3 y3_3 y4_3 y5_3 ⟨Nat.le_of_ble_eq_true rfl, Nat.le_of_ble_eq_true rfl⟩ dX6_copyPlaces_12 ?_
  refine k_nameS (fun S_3 eS_3 => ?_)
  have hw := hw S_3 eS_3
  exact hret _ _ _ dX6_copyPlaces_15 hw
def wp_X7_forget (S : Sg) (Q : Sg → Prop) : Prop :=
  (∀ S_1 : Sg, S_1 = uI S 11 0 5 0 → Q S_1)
set_option maxHeartbeats 4000000 in
set_option maxRecDepth 100000 in
theorem ct_X7_forget (l : Launch) (D : va_G) (cA : Nat → ClassId) (ad : Nat → Nat → Nat) (S : Sg) (Q : Sg → Prop) (hw : wp_X7_forget  S Q) : CtV l yX7_forget wsX7_forget (mkR 0 0) D cA ad [.ref (ad 11 0)] S Q := by
  refine ct_ofV (cc := cX7_forget) (nL := 1) (by decide) rfl (Nat.le_of_ble_eq_true rfl) ?_
  intro p e s m args below meth c A Q C hret
  unfold wp_X7_forget at hw
  have C : Cx p s m args c cX7_forget 1 wsX7_forget RX7 D cA A := C
  have hin7 : ∀ w ∈ u_ws RX7 TX7 6, w ∈ wsX7_forget := fun w h => List.mem_cons_of_mem _ (List.mem_append_right _ h)
  have f18 : Cond.fieldLink RX7 18 "CreepBoard$SlipFinder" "known" "Z" ∈ wsX7_forget := by decide +kernel
  change KK p l e (mkR 0 0) s m args below meth c 1 D cA ad A Q 0 [(0, .ref (ad 11 0))] [] S
  refine k_aload_n (pc := 0) C dX7_forget_0 0 rfl rfl ?_
  refine k_iconst (v := 0) (pc := 1) C dX7_forget_1 (by decide) ?_
  refine k_put (S' := uI S 11 0 5 0) (j := 5) (ty := .boolean) (pc := 2) C hin7 tyX7 tyX7_ok nmX7 hm_11 (cel_11 cA ad S 0) rfl (by decide) f18 (fun _ h => h) rfl (by decide +kernel) rfl rfl (Nat.le_of_ble_eq_true rfl) rfl rfl (fun a b h => cel_uI h) dX7_forget_2 ?_
  refine k_nameS (fun S_1 eS_1 => ?_)
  have hw := hw S_1 eS_1
  exact hret _ _ _ dX7_forget_5 hw
def wp_X7_fitCount (S : Sg) (Q : Int32 → Sg → Prop) : Prop :=
  Q (gI S 11 0 2) S
set_option maxHeartbeats 4000000 in
set_option maxRecDepth 100000 in
theorem ct_X7_fitCount (l : Launch) (D : va_G) (cA : Nat → ClassId) (ad : Nat → Nat → Nat) (S : Sg) (Q : Int32 → Sg → Prop) (hw : wp_X7_fitCount  S Q) : CtI l yX7_fitCount wsX7_fitCount (mkR 0 0) D cA ad [.ref (ad 11 0)] S Q := by
  refine ct_ofI (cc := cX7_fitCount) (nL := 1) (by decide) rfl (Nat.le_of_ble_eq_true rfl) ?_
  intro p e s m args below meth c A Q C hret
  unfold wp_X7_fitCount at hw
  have C : Cx p s m args c cX7_fitCount 1 wsX7_fitCount RX7 D cA A := C
  have hin7 : ∀ w ∈ u_ws RX7 TX7 6, w ∈ wsX7_fitCount := fun w h => List.mem_cons_of_mem _ (List.mem_append_right _ h)
  have f22 : Cond.fieldLink RX7 22 "CreepBoard$SlipFinder" "fitCount" "I" ∈ wsX7_fitCount := by decide +kernel
  change KK p l e (mkR 0 0) s m args below meth c 1 D cA ad A Q 0 [(0, .ref (ad 11 0))] [] S
  refine k_aload_n (pc := 0) C dX7_fitCount_0 0 rfl rfl ?_
  refine k_get (j := 2) (pc := 1) C hin7 hm_11 (cel_11 cA ad S 0) rfl (by decide) f22 (fun _ h => h) rfl dX7_fitCount_1 ?_
  exact hret _ _ _ _ dX7_fitCount_4 hw
def wp_X7_leastOf (a1 : Int32) (S : Sg) (Q : Int32 → Sg → Prop) : Prop :=
  (vp_in a1 3 ∧ Q (gA S 12 0 (Int32.toNatClampNeg a1)) S)
set_option maxHeartbeats 4000000 in
set_option maxRecDepth 100000 in
theorem ct_X7_leastOf (l : Launch) (D : va_G) (cA : Nat → ClassId) (ad : Nat → Nat → Nat) (a1 : Int32) (S : Sg) (Q : Int32 → Sg → Prop) (hw : wp_X7_leastOf a1 S Q) : CtI l yX7_leastOf wsX7_leastOf (mkR 0 0) D cA ad [.ref (ad 11 0), .int a1] S Q := by
  refine ct_ofI (cc := cX7_leastOf) (nL := 2) (by decide) rfl (Nat.le_of_ble_eq_true rfl) ?_
  intro p e s m args below meth c A Q C hret
  unfold wp_X7_leastOf at hw
  have C : Cx p s m args c cX7_leastOf 2 wsX7_leastOf RX7 D cA A := C
  have hin7 : ∀ w ∈ u_ws RX7 TX7 6, w ∈ wsX7_leastOf := fun w h => List.mem_cons_of_mem _ (List.mem_append_right _ h)
  have f9 : Cond.fieldLink RX7 9 "CreepBoard$SlipFinder" "least" "[I" ∈ wsX7_leastOf := by decide +kernel
  change KK p l e (mkR 0 0) s m args below meth c 2 D cA ad A Q 0 [(0, .ref (ad 11 0)), (1, .int a1)] [] S
  refine k_aload_n (pc := 0) C dX7_leastOf_0 0 rfl rfl ?_
  refine k_get (j := 0) (pc := 1) C hin7 hm_11 (cel_11 cA ad S 0) rfl (by decide) f9 (fun _ h => h) rfl dX7_leastOf_1 ?_
  refine k_iload_n (pc := 4) C dX7_leastOf_4 1 rfl rfl ?_
  obtain ⟨h_1, hw⟩ := hw
  refine k_iald (pc := 5) C hm_12 (cel_12 cA ad S 0) h_1 dX7_leastOf_5 ?_
  exact hret _ _ _ _ dX7_leastOf_6 hw
def wp_X7_greatestOf (a1 : Int32) (S : Sg) (Q : Int32 → Sg → Prop) : Prop :=
  (vp_in a1 3 ∧ Q (gA S 13 0 (Int32.toNatClampNeg a1)) S)
set_option maxHeartbeats 4000000 in
set_option maxRecDepth 100000 in
theorem ct_X7_greatestOf (l : Launch) (D : va_G) (cA : Nat → ClassId) (ad : Nat → Nat → Nat) (a1 : Int32) (S : Sg) (Q : Int32 → Sg → Prop) (hw : wp_X7_greatestOf a1 S Q) : CtI l yX7_greatestOf wsX7_greatestOf (mkR 0 0) D cA ad [.ref (ad 11 0), .int a1] S Q := by
  refine ct_ofI (cc := cX7_greatestOf) (nL := 2) (by decide) rfl (Nat.le_of_ble_eq_true rfl) ?_
  intro p e s m args below meth c A Q C hret
  unfold wp_X7_greatestOf at hw
  have C : Cx p s m args c cX7_greatestOf 2 wsX7_greatestOf RX7 D cA A := C
  have hin7 : ∀ w ∈ u_ws RX7 TX7 6, w ∈ wsX7_greatestOf := fun w h => List.mem_cons_of_mem _ (List.mem_append_right _ h)
  have f15 : Cond.fieldLink RX7 15 "CreepBoard$SlipFinder" "greatest" "[I" ∈ wsX7_greatestOf := by decide +kernel
  change KK p l e (mkR 0 0) s m args below meth c 2 D cA ad A Q 0 [(0, .ref (ad 11 0)), (1, .int a1)] [] S
  refine k_aload_n (pc := 0) C dX7_greatestOf_0 0 rfl rfl ?_
  refine k_get (j := 1) (pc := 1) C hin7 hm_11 (cel_11 cA ad S 0) rfl (by decide) f15 (fun _ h => h) rfl dX7_greatestOf_1 ?_
  refine k_iload_n (pc := 4) C dX7_greatestOf_4 1 rfl rfl ?_
  obtain ⟨h_1, hw⟩ := hw
  refine k_iald (pc := 5) C hm_13 (cel_13 cA ad S 0) h_1 dX7_greatestOf_5 ?_
  exact hret _ _ _ _ dX7_greatestOf_6 hw
def wp_X7_narrow (a1 : Int32) (a2 : Int32) (a3 : Int32) (S : Sg) (Q : Sg → Prop) : Prop :=
  ((¬ a2 = 0 → (∀ x4_2 : Int32, x4_2 = (if 0 ≤ a2 then a2 else 0 - a2) → (∃ J_3 : Int32 → Sg → Prop, (∀ (t0_3 : Int32) (S_3 : Sg), J_3 t0_3 S_3 → wp_J9_floorDiv_7cf53 (a3 - t0_3) x4_2 S_3 (fun r_4 S_4 => (∀ S_5 : Sg, S_5 = uI S_4 11 0 3 (if (gI S_3 11 0 3) < (-r_4) then (-r_4) else (gI S_3 11 0 3)) → wp_J9_floorDiv_7cf53 (a3 + t0_3) x4_2 S_5 (fun r_6 S_6 => (∀ S_7 : Sg, S_7 = uI S_6 11 0 4 (if r_6 < (gI S_5 11 0 4) then r_6 else (gI S_5 11 0 4)) → Q S_7))))) ∧ ((0 ≤ a2 → J_3 a1 S) ∧ (¬ 0 ≤ a2 → J_3 (-a1) S))))) ∧ (a2 = 0 → ((a3 < a1 → (∀ S_10 : Sg, S_10 = uI S 11 0 4 (-1) → Q S_10)) ∧ (¬ a3 < a1 → (((-a3) ≤ a1 → Q S) ∧ (¬ (-a3) ≤ a1 → (∀ S_12 : Sg, S_12 = uI S 11 0 4 (-1) → Q S_12)))))))
set_option maxHeartbeats 4000000 in
set_option maxRecDepth 100000 in
theorem ct_X7_narrow (l : Launch) (D : va_G) (cA : Nat → ClassId) (ad : Nat → Nat → Nat) (a1 : Int32) (a2 : Int32) (a3 : Int32) (S : Sg) (Q : Sg → Prop) (hw : wp_X7_narrow a1 a2 a3 S Q) : CtV l yX7_narrow wsX7_narrow (mkR 1 22) D cA ad [.ref (ad 11 0), .int a1, .int a2, .int a3] S Q := by
  refine ct_ofV (cc := cX7_narrow) (nL := 6) (by decide) rfl (Nat.le_of_ble_eq_true rfl) ?_
  intro p e s m args below meth c A Q C hret
  unfold wp_X7_narrow at hw
  have C : Cx p s m args c cX7_narrow 6 wsX7_narrow RX7 D cA A := C
  have hin7 : ∀ w ∈ u_ws RX7 TX7 6, w ∈ wsX7_narrow := fun w h => List.mem_cons_of_mem _ (List.mem_append_right _ h)
  have m49 : Cond.methodLink RX7 49 Lib.Math.abs.name ∈ wsX7_narrow := by decide +kernel
  have m49s : Cond.static Lib.Math.abs.name ∈ wsX7_narrow := by decide +kernel
  have mini : Cond.initialized "java/lang/Math" ∈ wsX7_narrow := by decide +kernel
  have m49c : Cond.code Lib.Math.abs.name Lib.Math.abs.code 1 (some .int) ∈ wsX7_narrow := by decide +kernel
  have f26 : Cond.fieldLink RX7 26 "CreepBoard$SlipFinder" "low" "I" ∈ wsX7_narrow := by decide +kernel
  have m58 : Cond.methodLink RX7 58 Lib.Math.max.name ∈ wsX7_narrow := by decide +kernel
  have m58s : Cond.static Lib.Math.max.name ∈ wsX7_narrow := by decide +kernel
  have m58c : Cond.code Lib.Math.max.name Lib.Math.max.code 2 (some .int) ∈ wsX7_narrow := by decide +kernel
  have f29 : Cond.fieldLink RX7 29 "CreepBoard$SlipFinder" "high" "I" ∈ wsX7_narrow := by decide +kernel
  have m61 : Cond.methodLink RX7 61 Lib.Math.min.name ∈ wsX7_narrow := by decide +kernel
  have m61s : Cond.static Lib.Math.min.name ∈ wsX7_narrow := by decide +kernel
  have m61c : Cond.code Lib.Math.min.name Lib.Math.min.code 2 (some .int) ∈ wsX7_narrow := by decide +kernel
  change KK p l e (mkR 1 22) s m args below meth c 6 D cA ad A Q 0 [(0, .ref (ad 11 0)), (1, .int a1), (2, .int a2), (3, .int a3)] [] S
  refine k_iload_n (pc := 0) C dX7_narrow_0 2 rfl rfl ?_
  refine k_if_ne (pc := 1) C 21 dX7_narrow_1 (by decide) (fun q_1 => ?_) (fun q_1 => ?_)
  · have hw := hw.1 q_1
    refine k_iload_n (pc := 21) C dX7_narrow_21 2 rfl rfl ?_
    refine k_mabs (pc := 22) C m49 m49s mini m49c ⟨Nat.le_of_ble_eq_true rfl, Nat.le_of_ble_eq_true rfl⟩ dX7_narrow_22 ?_
    refine k_topi (fun x4_2 ex4_2 => ?_)
    have hw := hw x4_2 ex4_2
    refine k_istore (pc := 25) C dX7_narrow_25 (by decide) [(4, .int x4_2), (0, .ref (ad 11 0)), (1, .int a1), (2, .int a2), (3, .int a3)] rfl ?_
    refine k_iload_n (pc := 27) C dX7_narrow_27 3 rfl rfl ?_
    obtain ⟨J_3, hj_3, hw⟩ := hw
    have j_3 : ∀ (t0_3 : Int32) (S_3 : Sg), J_3 t0_3 S_3 → KK p l e (mkR 1 22) s m args below meth c 6 D cA ad A Q 37 [(0, .ref (ad 11 0)), (3, .int a3), (4, .int x4_2)] [.int t0_3] S_3 := by
      intro t0_3 S_3 hw
      have hw := hj_3 t0_3 S_3 hw
      refine k_istore (pc := 37) C dX7_narrow_37 (by decide) [(5, .int t0_3), (0, .ref (ad 11 0)), (3, .int a3), (4, .int x4_2)] rfl ?_
      refine k_aload_n (pc := 39) C dX7_narrow_39 1 rfl rfl ?_
      refine k_aload_n (pc := 40) C dX7_narrow_40 1 rfl rfl ?_
      refine k_get (j := 3) (pc := 41) C hin7 hm_11 (cel_11 cA ad S_3 0) rfl (by decide) f26 (fun _ h => h) rfl dX7_narrow_41 ?_
      refine k_iload_n (pc := 44) C dX7_narrow_44 2 rfl rfl ?_
      refine k_iload (pc := 45) C dX7_narrow_45 0 rfl ?_
      refine k_isub (pc := 47) C dX7_narrow_47 ?_
      refine k_iload (pc := 48) C dX7_narrow_48 3 rfl ?_
      refine k_afterI (pc := 50) C (wp_J9_floorDiv_7cf53 (a3 - t0_3) x4_2 S_3) hw (fun post hw => by
          exact rn_S C (ct_J9_floorDiv_7cf53 l D cA ad (a3 - t0_3) x4_2 S_3 post hw) (va_cwS 2 C.2.2.2.2.1 gX7_narrow_J9_floorDiv_7cf53 rfl rfl rfl (by decide +kernel) ⟨Nat.le_of_ble_eq_true rfl, Nat.le_of_ble_eq_true rfl⟩) rfl rfl (Nat.le_of_ble_eq_true rfl) dX7_narrow_50) (fun r_4 S_4 hw => ?_)
      refine k_ineg (pc := 53) C dX7_narrow_53 ?_
      refine k_mmax (pc := 54) C m58 m58s mini m58c ⟨Nat.le_of_ble_eq_true rfl, Nat.le_of_ble_eq_true rfl⟩ dX7_narrow_54 ?_
      refine k_put (S' := uI S_4 11 0 3 (if (gI S_3 11 0 3) < (-r_4) then (-r_4) else (gI S_3 11 0 3))) (j := 3) (ty := .int) (pc := 57) C hin7 tyX7 tyX7_ok nmX7 hm_11 (cel_11 cA ad S_4 0) rfl (by decide) f26 (fun _ h => h) rfl (by decide +kernel) rfl rfl (Nat.le_of_ble_eq_true rfl) rfl rfl (fun a b h => cel_uI h) dX7_narrow_57 ?_
      refine k_nameS (fun S_5 eS_5 => ?_)
      have hw := hw S_5 eS_5
      refine k_aload_n (pc := 60) C dX7_narrow_60 1 rfl rfl ?_
      refine k_aload_n (pc := 61) C dX7_narrow_61 1 rfl rfl ?_
      refine k_get (j := 4) (pc := 62) C hin7 hm_11 (cel_11 cA ad S_5 0) rfl (by decide) f29 (fun _ h => h) rfl dX7_narrow_62 ?_
      refine k_iload_n (pc := 65) C dX7_narrow_65 2 rfl rfl ?_
      refine k_iload (pc := 66) C dX7_narrow_66 0 rfl ?_
      refine k_iadd (pc := 68) C dX7_narrow_68 ?_
      refine k_iload (pc := 69) C dX7_narrow_69 3 rfl ?_
      refine k_afterI (pc := 71) C (wp_J9_floorDiv_7cf53 (a3 + t0_3) x4_2 S_5) hw (fun post hw => by
          exact rn_S C (ct_J9_floorDiv_7cf53 l D cA ad (a3 + t0_3) x4_2 S_5 post hw) (va_cwS 2 C.2.2.2.2.1 gX7_narrow_J9_floorDiv_7cf53 rfl rfl rfl (by decide +kernel) ⟨Nat.le_of_ble_eq_true rfl, Nat.le_of_ble_eq_true rfl⟩) rfl rfl (Nat.le_of_ble_eq_true rfl) dX7_narrow_71) (fun r_6 S_6 hw => ?_)
      refine k_mmin (pc := 74) C m61 m61s mini m61c ⟨Nat.le_of_ble_eq_true rfl, Nat.le_of_ble_eq_true rfl⟩ dX7_narrow_74 ?_
      refine k_put (S' := uI S_6 11 0 4 (if r_6 < (gI S_5 11 0 4) then r_6 else (gI S_5 11 0 4))) (j := 4) (ty := .int) (pc := 77) C hin7 tyX7 tyX7_ok nmX7 hm_11 (cel_11 cA ad S_6 0) rfl (by decide) f29 (fun _ h => h) rfl (by decide +kernel) rfl rfl (Nat.le_of_ble_eq_true rfl) rfl rfl (fun a b h => cel_uI h) dX7_narrow_77 ?_
      refine k_nameS (fun S_7 eS_7 => ?_)
      have hw := hw S_7 eS_7
      exact hret _ _ _ dX7_narrow_80 hw
    refine k_if_ge (pc := 28) C 36 dX7_narrow_28 (by decide) (fun q_8 => ?_) (fun q_8 => ?_)
    · have hw := hw.1 q_8
      refine k_iload_n (pc := 36) C dX7_narrow_36 2 rfl rfl ?_
      refine k_sub [1, 4, 0] [(0, .ref (ad 11 0)), (3, .int a3), (4, .int x4_2)] rfl ?_
      exact j_3 a1 S hw
    · have hw := hw.2 q_8
      refine k_iload_n (pc := 31) C dX7_narrow_31 2 rfl rfl ?_
      refine k_ineg (pc := 32) C dX7_narrow_32 ?_
      refine k_goto (pc := 33) C 37 dX7_narrow_33 (by decide) ?_
      refine k_sub [1, 4, 0] [(0, .ref (ad 11 0)), (3, .int a3), (4, .int x4_2)] rfl ?_
      exact j_3 (-a1) S hw
  · have hw := hw.2 q_1
    refine k_iload_n (pc := 4) C dX7_narrow_4 1 rfl rfl ?_
    refine k_iload_n (pc := 5) C dX7_narrow_5 3 rfl rfl ?_
    refine k_icmp_gt (pc := 6) C 15 dX7_narrow_6 (by decide) (fun q_9 => ?_) (fun q_9 => ?_)
    · have hw := hw.1 q_9
      refine k_aload_n (pc := 15) C dX7_narrow_15 0 rfl rfl ?_
      refine k_iconst (v := (-1)) (pc := 16) C dX7_narrow_16 (by decide) ?_
      refine k_put (S' := uI S 11 0 4 (-1)) (j := 4) (ty := .int) (pc := 17) C hin7 tyX7 tyX7_ok nmX7 hm_11 (cel_11 cA ad S 0) rfl (by decide) f29 (fun _ h => h) rfl (by decide +kernel) rfl rfl (Nat.le_of_ble_eq_true rfl) rfl rfl (fun a b h => cel_uI h) dX7_narrow_17 ?_
      refine k_nameS (fun S_10 eS_10 => ?_)
      have hw := hw S_10 eS_10
      exact hret _ _ _ dX7_narrow_20 hw
    · have hw := hw.2 q_9
      refine k_iload_n (pc := 9) C dX7_narrow_9 1 rfl rfl ?_
      refine k_iload_n (pc := 10) C dX7_narrow_10 3 rfl rfl ?_
      refine k_ineg (pc := 11) C dX7_narrow_11 ?_
      refine k_icmp_ge (pc := 12) C 20 dX7_narrow_12 (by decide) (fun q_11 => ?_) (fun q_11 => ?_)
      · have hw := hw.1 q_11
        exact hret _ _ _ dX7_narrow_20 hw
      · have hw := hw.2 q_11
        refine k_aload_n (pc := 15) C dX7_narrow_15 0 rfl rfl ?_
        refine k_iconst (v := (-1)) (pc := 16) C dX7_narrow_16 (by decide) ?_
        refine k_put (S' := uI S 11 0 4 (-1)) (j := 4) (ty := .int) (pc := 17) C hin7 tyX7 tyX7_ok nmX7 hm_11 (cel_11 cA ad S 0) rfl (by decide) f29 (fun _ h => h) rfl (by decide +kernel) rfl rfl (Nat.le_of_ble_eq_true rfl) rfl rfl (fun a b h => cel_uI h) dX7_narrow_17 ?_
        refine k_nameS (fun S_12 eS_12 => ?_)
        have hw := hw S_12 eS_12
        exact hret _ _ _ dX7_narrow_20 hw
def wp_X7_widen (a1 : Int32) (a2 : Int32) (a3 : Int32) (S : Sg) (Q : Sg → Prop) : Prop :=
  (vp_in a1 3 ∧ (vp_in a1 3 ∧ (∀ S_3 : Sg, S_3 = uA S 12 0 (Int32.toNatClampNeg a1) (if a2 < (gA S 12 0 (Int32.toNatClampNeg a1)) then a2 else (gA S 12 0 (Int32.toNatClampNeg a1))) → (vp_in a1 3 ∧ (vp_in a1 3 ∧ (∀ S_6 : Sg, S_6 = uA S_3 13 0 (Int32.toNatClampNeg a1) (if (gA S_3 13 0 (Int32.toNatClampNeg a1)) < a3 then a3 else (gA S_3 13 0 (Int32.toNatClampNeg a1))) → Q S_6))))))
set_option maxHeartbeats 4000000 in
set_option maxRecDepth 100000 in
theorem ct_X7_widen (l : Launch) (D : va_G) (cA : Nat → ClassId) (ad : Nat → Nat → Nat) (a1 : Int32) (a2 : Int32) (a3 : Int32) (S : Sg) (Q : Sg → Prop) (hw : wp_X7_widen a1 a2 a3 S Q) : CtV l yX7_widen wsX7_widen (mkR 1 21) D cA ad [.ref (ad 11 0), .int a1, .int a2, .int a3] S Q := by
  refine ct_ofV (cc := cX7_widen) (nL := 4) (by decide) rfl (Nat.le_of_ble_eq_true rfl) ?_
  intro p e s m args below meth c A Q C hret
  unfold wp_X7_widen at hw
  have C : Cx p s m args c cX7_widen 4 wsX7_widen RX7 D cA A := C
  have hin7 : ∀ w ∈ u_ws RX7 TX7 6, w ∈ wsX7_widen := fun w h => List.mem_cons_of_mem _ (List.mem_append_right _ h)
  have f9 : Cond.fieldLink RX7 9 "CreepBoard$SlipFinder" "least" "[I" ∈ wsX7_widen := by decide +kernel
  have m61 : Cond.methodLink RX7 61 Lib.Math.min.name ∈ wsX7_widen := by decide +kernel
  have m61s : Cond.static Lib.Math.min.name ∈ wsX7_widen := by decide +kernel
  have mini : Cond.initialized "java/lang/Math" ∈ wsX7_widen := by decide +kernel
  have m61c : Cond.code Lib.Math.min.name Lib.Math.min.code 2 (some .int) ∈ wsX7_widen := by decide +kernel
  have f15 : Cond.fieldLink RX7 15 "CreepBoard$SlipFinder" "greatest" "[I" ∈ wsX7_widen := by decide +kernel
  have m58 : Cond.methodLink RX7 58 Lib.Math.max.name ∈ wsX7_widen := by decide +kernel
  have m58s : Cond.static Lib.Math.max.name ∈ wsX7_widen := by decide +kernel
  have m58c : Cond.code Lib.Math.max.name Lib.Math.max.code 2 (some .int) ∈ wsX7_widen := by decide +kernel
  change KK p l e (mkR 1 21) s m args below meth c 4 D cA ad A Q 0 [(0, .ref (ad 11 0)), (1, .int a1), (2, .int a2), (3, .int a3)] [] S
  refine k_aload_n (pc := 0) C dX7_widen_0 0 rfl rfl ?_
  refine k_get (j := 0) (pc := 1) C hin7 hm_11 (cel_11 cA ad S 0) rfl (by decide) f9 (fun _ h => h) rfl dX7_widen_1 ?_
  refine k_iload_n (pc := 4) C dX7_widen_4 1 rfl rfl ?_
  refine k_aload_n (pc := 5) C dX7_widen_5 0 rfl rfl ?_
  refine k_get (j := 0) (pc := 6) C hin7 hm_11 (cel_11 cA ad S 0) rfl (by decide) f9 (fun _ h => h) rfl dX7_widen_6 ?_
  refine k_iload_n (pc := 9) C dX7_widen_9 1 rfl rfl ?_
  obtain ⟨h_1, hw⟩ := hw
  refine k_iald (pc := 10) C hm_12 (cel_12 cA ad S 0) h_1 dX7_widen_10 ?_
  refine k_iload_n (pc := 11) C dX7_widen_11 2 rfl rfl ?_
  refine k_mmin (pc := 12) C m61 m61s mini m61c ⟨Nat.le_of_ble_eq_true rfl, Nat.le_of_ble_eq_true rfl⟩ dX7_widen_12 ?_
  obtain ⟨h_2, hw⟩ := hw
  refine k_iast (pc := 15) C hm_12 (fun S => cel_12 cA ad S 0) h_2 dX7_widen_15 ?_
  refine k_nameS (fun S_3 eS_3 => ?_)
  have hw := hw S_3 eS_3
  refine k_aload_n (pc := 16) C dX7_widen_16 0 rfl rfl ?_
  refine k_get (j := 1) (pc := 17) C hin7 hm_11 (cel_11 cA ad S_3 0) rfl (by decide) f15 (fun _ h => h) rfl dX7_widen_17 ?_
  refine k_iload_n (pc := 20) C dX7_widen_20 1 rfl rfl ?_
  refine k_aload_n (pc := 21) C dX7_widen_21 0 rfl rfl ?_
  refine k_get (j := 1) (pc := 22) C hin7 hm_11 (cel_11 cA ad S_3 0) rfl (by decide) f15 (fun _ h => h) rfl dX7_widen_22 ?_
  refine k_iload_n (pc := 25) C dX7_widen_25 1 rfl rfl ?_
  obtain ⟨h_4, hw⟩ := hw
  refine k_iald (pc := 26) C hm_13 (cel_13 cA ad S_3 0) h_4 dX7_widen_26 ?_
  refine k_iload_n (pc := 27) C dX7_widen_27 3 rfl rfl ?_
  refine k_mmax (pc := 28) C m58 m58s mini m58c ⟨Nat.le_of_ble_eq_true rfl, Nat.le_of_ble_eq_true rfl⟩ dX7_widen_28 ?_
  obtain ⟨h_5, hw⟩ := hw
  refine k_iast (pc := 31) C hm_13 (fun S => cel_13 cA ad S 0) h_5 dX7_widen_31 ?_
  refine k_nameS (fun S_6 eS_6 => ?_)
  have hw := hw S_6 eS_6
  exact hret _ _ _ dX7_widen_32 hw
def wp_X7_takeIn (a1 : Int32) (a2 : Int32) (S : Sg) (Q : Sg → Prop) : Prop :=
  (((gI S 11 0 3) ≤ (gI S 11 0 4) → (∀ S_2 : Sg, S_2 = uI S 11 0 2 ((gI S 11 0 2) + (((gI S 11 0 4) - (gI S 11 0 3)) + 1)) → wp_X7_widen 0 a1 a1 S_2 (fun S_3 => wp_X7_widen 1 a2 a2 S_3 (fun S_4 => wp_X7_widen 2 (gI S_4 11 0 3) (gI S_4 11 0 4) S_4 (fun S_5 => Q S_5))))) ∧ (¬ (gI S 11 0 3) ≤ (gI S 11 0 4) → Q S))
set_option maxHeartbeats 4000000 in
set_option maxRecDepth 100000 in
theorem ct_X7_takeIn (l : Launch) (D : va_G) (cA : Nat → ClassId) (ad : Nat → Nat → Nat) (a1 : Int32) (a2 : Int32) (S : Sg) (Q : Sg → Prop) (hw : wp_X7_takeIn a1 a2 S Q) : CtV l yX7_takeIn wsX7_takeIn (mkR 2 44) D cA ad [.ref (ad 11 0), .int a1, .int a2] S Q := by
  refine ct_ofV (cc := cX7_takeIn) (nL := 3) (by decide) rfl (Nat.le_of_ble_eq_true rfl) ?_
  intro p e s m args below meth c A Q C hret
  unfold wp_X7_takeIn at hw
  have C : Cx p s m args c cX7_takeIn 3 wsX7_takeIn RX7 D cA A := C
  have hin7 : ∀ w ∈ u_ws RX7 TX7 6, w ∈ wsX7_takeIn := fun w h => List.mem_cons_of_mem _ (List.mem_append_right _ h)
  have f26 : Cond.fieldLink RX7 26 "CreepBoard$SlipFinder" "low" "I" ∈ wsX7_takeIn := by decide +kernel
  have f29 : Cond.fieldLink RX7 29 "CreepBoard$SlipFinder" "high" "I" ∈ wsX7_takeIn := by decide +kernel
  have f22 : Cond.fieldLink RX7 22 "CreepBoard$SlipFinder" "fitCount" "I" ∈ wsX7_takeIn := by decide +kernel
  change KK p l e (mkR 2 44) s m args below meth c 3 D cA ad A Q 0 [(0, .ref (ad 11 0)), (1, .int a1), (2, .int a2)] [] S
  refine k_aload_n (pc := 0) C dX7_takeIn_0 0 rfl rfl ?_
  refine k_get (j := 3) (pc := 1) C hin7 hm_11 (cel_11 cA ad S 0) rfl (by decide) f26 (fun _ h => h) rfl dX7_takeIn_1 ?_
  refine k_aload_n (pc := 4) C dX7_takeIn_4 0 rfl rfl ?_
  refine k_get (j := 4) (pc := 5) C hin7 hm_11 (cel_11 cA ad S 0) rfl (by decide) f29 (fun _ h => h) rfl dX7_takeIn_5 ?_
  refine k_icmp_le (pc := 8) C 12 dX7_takeIn_8 (by decide) (fun q_1 => ?_) (fun q_1 => ?_)
  · have hw := hw.1 q_1
    refine k_aload_n (pc := 12) C dX7_takeIn_12 0 rfl rfl ?_
    refine k_dup (pc := 13) C dX7_takeIn_13 rfl ?_
    refine k_get (j := 2) (pc := 14) C hin7 hm_11 (cel_11 cA ad S 0) rfl (by decide) f22 (fun _ h => h) rfl dX7_takeIn_14 ?_
    refine k_aload_n (pc := 17) C dX7_takeIn_17 0 rfl rfl ?_
    refine k_get (j := 4) (pc := 18) C hin7 hm_11 (cel_11 cA ad S 0) rfl (by decide) f29 (fun _ h => h) rfl dX7_takeIn_18 ?_
    refine k_aload_n (pc := 21) C dX7_takeIn_21 0 rfl rfl ?_
    refine k_get (j := 3) (pc := 22) C hin7 hm_11 (cel_11 cA ad S 0) rfl (by decide) f26 (fun _ h => h) rfl dX7_takeIn_22 ?_
    refine k_isub (pc := 25) C dX7_takeIn_25 ?_
    refine k_iconst (v := 1) (pc := 26) C dX7_takeIn_26 (by decide) ?_
    refine k_iadd (pc := 27) C dX7_takeIn_27 ?_
    refine k_iadd (pc := 28) C dX7_takeIn_28 ?_
    refine k_put (S' := uI S 11 0 2 ((gI S 11 0 2) + (((gI S 11 0 4) - (gI S 11 0 3)) + 1))) (j := 2) (ty := .int) (pc := 29) C hin7 tyX7 tyX7_ok nmX7 hm_11 (cel_11 cA ad S 0) rfl (by decide) f22 (fun _ h => h) rfl (by decide +kernel) rfl rfl (Nat.le_of_ble_eq_true rfl) rfl rfl (fun a b h => cel_uI h) dX7_takeIn_29 ?_
    refine k_nameS (fun S_2 eS_2 => ?_)
    have hw := hw S_2 eS_2
    refine k_aload_n (pc := 32) C dX7_takeIn_32 0 rfl rfl ?_
    refine k_iconst (v := 0) (pc := 33) C dX7_takeIn_33 (by decide) ?_
    refine k_iload_n (pc := 34) C dX7_takeIn_34 1 rfl rfl ?_
    refine k_iload_n (pc := 35) C dX7_takeIn_35 1 rfl rfl ?_
    refine k_afterV (pc := 36) C (wp_X7_widen 0 a1 a1 S_2) hw (fun post hw => by
        exact rn_V C (ct_X7_widen l D cA ad 0 a1 a1 S_2 post hw) (cwV 3 C.2.2.2.2.1 gX7_takeIn_X7_widen rfl rfl rfl (by decide +kernel) ⟨Nat.le_of_ble_eq_true rfl, Nat.le_of_ble_eq_true rfl⟩) hm_11 (cel_11 cA ad S_2 0) rfl rfl rfl rfl (Nat.le_of_ble_eq_true rfl) dX7_takeIn_36) (fun S_3 hw => ?_)
    refine k_aload_n (pc := 39) C dX7_takeIn_39 0 rfl rfl ?_
    refine k_iconst (v := 1) (pc := 40) C dX7_takeIn_40 (by decide) ?_
    refine k_iload_n (pc := 41) C dX7_takeIn_41 2 rfl rfl ?_
    refine k_iload_n (pc := 42) C dX7_takeIn_42 2 rfl rfl ?_
    refine k_afterV (pc := 43) C (wp_X7_widen 1 a2 a2 S_3) hw (fun post hw => by
        exact rn_V C (ct_X7_widen l D cA ad 1 a2 a2 S_3 post hw) (cwV 3 C.2.2.2.2.1 gX7_takeIn_X7_widen rfl rfl rfl (by decide +kernel) ⟨Nat.le_of_ble_eq_true rfl, Nat.le_of_ble_eq_true rfl⟩) hm_11 (cel_11 cA ad S_3 0) rfl rfl rfl rfl (Nat.le_of_ble_eq_true rfl) dX7_takeIn_43) (fun S_4 hw => ?_)
    refine k_aload_n (pc := 46) C dX7_takeIn_46 0 rfl rfl ?_
    refine k_iconst (v := 2) (pc := 47) C dX7_takeIn_47 (by decide) ?_
    refine k_aload_n (pc := 48) C dX7_takeIn_48 0 rfl rfl ?_
    refine k_get (j := 3) (pc := 49) C hin7 hm_11 (cel_11 cA ad S_4 0) rfl (by decide) f26 (fun _ h => h) rfl dX7_takeIn_49 ?_
    refine k_aload_n (pc := 52) C dX7_takeIn_52 0 rfl rfl ?_
    refine k_get (j := 4) (pc := 53) C hin7 hm_11 (cel_11 cA ad S_4 0) rfl (by decide) f29 (fun _ h => h) rfl dX7_takeIn_53 ?_
    refine k_afterV (pc := 56) C (wp_X7_widen 2 (gI S_4 11 0 3) (gI S_4 11 0 4) S_4) hw (fun post hw => by
        exact rn_V C (ct_X7_widen l D cA ad 2 (gI S_4 11 0 3) (gI S_4 11 0 4) S_4 post hw) (cwV 3 C.2.2.2.2.1 gX7_takeIn_X7_widen rfl rfl rfl (by decide +kernel) ⟨Nat.le_of_ble_eq_true rfl, Nat.le_of_ble_eq_true rfl⟩) hm_11 (cel_11 cA ad S_4 0) rfl rfl rfl rfl (Nat.le_of_ble_eq_true rfl) dX7_takeIn_56) (fun S_5 hw => ?_)
    exact hret _ _ _ dX7_takeIn_59 hw
  · have hw := hw.2 q_1
    exact hret _ _ _ dX7_takeIn_11 hw
def wp_X7_find (a2 : Int32) (a3 : Int32) (S : Sg) (Q : Sg → Prop) : Prop :=
  (((gI S 11 0 5) = 0 → (∀ S_2 : Sg, S_2 = uI S 11 0 2 0 → (∃ (I_3 : Int32 → Sg → Prop) (μ_3 : Int32 → Sg → Nat), I_3 0 S_2 ∧ ∀ (v4_3 : Int32) (S_3 : Sg), I_3 v4_3 S_3 → ((3 ≤ v4_3 → (∃ (I_5 : Int32 → Sg → Prop) (μ_5 : Int32 → Sg → Nat), I_5 0 S_3 ∧ ∀ (v4_5 : Int32) (S_5 : Sg), I_5 v4_5 S_5 → ((15 < v4_5 → (∀ S_7 : Sg, S_7 = uI S_5 11 0 5 1 → Q S_7)) ∧ (¬ 15 < v4_5 → (∃ (I_8 : Int32 → Sg → Prop) (μ_8 : Int32 → Sg → Nat), I_8 0 S_5 ∧ ∀ (v5_8 : Int32) (S_8 : Sg), I_8 v5_8 S_8 → ((15 < v5_8 → (∀ x4_10 : Int32, x4_10 = v4_5 + 1 → (I_5 x4_10 S_8 ∧ μ_5 x4_10 S_8 < μ_5 v4_5 S_5))) ∧ (¬ 15 < v5_8 → (∀ S_11 : Sg, S_11 = uI S_8 11 0 3 0 → (∀ S_12 : Sg, S_12 = uI S_11 11 0 4 15 → (∃ (I_13 : Int32 → Sg → Prop) (μ_13 : Int32 → Sg → Nat), I_13 0 S_12 ∧ ∀ (v6_13 : Int32) (S_13 : Sg), I_13 v6_13 S_13 → ((a2 ≤ v6_13 → wp_X7_takeIn v4_5 v5_8 S_13 (fun S_15 => (∀ x5_16 : Int32, x5_16 = v5_8 + 1 → (I_8 x5_16 S_15 ∧ μ_8 x5_16 S_15 < μ_8 v5_8 S_8)))) ∧ (¬ a2 ≤ v6_13 → ((10 ≤ v6_13 → wp_X7_takeIn v4_5 v5_8 S_13 (fun S_18 => (∀ x5_19 : Int32, x5_19 = v5_8 + 1 → (I_8 x5_19 S_18 ∧ μ_8 x5_19 S_18 < μ_8 v5_8 S_8)))) ∧ (¬ 10 ≤ v6_13 → (((gI S_13 11 0 4) < (gI S_13 11 0 3) → wp_X7_takeIn v4_5 v5_8 S_13 (fun S_21 => (∀ x5_22 : Int32, x5_22 = v5_8 + 1 → (I_8 x5_22 S_21 ∧ μ_8 x5_22 S_21 < μ_8 v5_8 S_8)))) ∧ (¬ (gI S_13 11 0 4) < (gI S_13 11 0 3) → (vp_in v6_13 10 ∧ (((Int32.toNatClampNeg v6_13) < nM S_13 → wp_X3_speed (Int32.toNatClampNeg v6_13) 0 S_13 (fun r_25 S_25 => ((Int32.toNatClampNeg v6_13) < nM S_25 ∧ wp_X3_greenOf (Int32.toNatClampNeg v6_13) 0 S_25 (fun r_26 S_26 => ((Int32.toNatClampNeg v6_13) < nM S_26 ∧ wp_X3_greenOf (Int32.toNatClampNeg v6_13) 1 S_26 (fun r_28 S_28 => ((Int32.toNatClampNeg v6_13) < nM S_28 ∧ wp_X3_greenOf (Int32.toNatClampNeg v6_13) 2 S_28 (fun r_30 S_30 => wp_X7_narrow ((r_25 - (r_26 * v4_5)) - (r_28 * v5_8)) r_30 a3 S_30 (fun S_32 => (∀ x6_33 : Int32, x6_33 = v6_13 + 1 → (I_13 x6_33 S_32 ∧ μ_13 x6_33 S_32 < μ_13 v6_13 S_13))))))))))) ∧ (¬ (Int32.toNatClampNeg v6_13) < nM S_13 → (∀ x6_34 : Int32, x6_34 = v6_13 + 1 → (I_13 x6_34 S_13 ∧ μ_13 x6_34 S_13 < μ_13 v6_13 S_13))))))))))))))))))))) ∧ (¬ 3 ≤ v4_3 → (vp_in v4_3 3 ∧ (∀ S_36 : Sg, S_36 = uA S_3 12 0 (Int32.toNatClampNeg v4_3) 15 → (vp_in v4_3 3 ∧ (∀ S_38 : Sg, S_38 = uA S_36 13 0 (Int32.toNatClampNeg v4_3) 0 → (∀ x4_39 : Int32, x4_39 = v4_3 + 1 → (I_3 x4_39 S_38 ∧ μ_3 x4_39 S_38 < μ_3 v4_3 S_3))))))))))) ∧ (¬ (gI S 11 0 5) = 0 → Q S))
set_option maxHeartbeats 4000000 in
set_option maxRecDepth 100000 in
theorem ct_X7_find (l : Launch) (D : va_G) (cA : Nat → ClassId) (ad : Nat → Nat → Nat) (a2 : Int32) (a3 : Int32) (S : Sg) (Q : Sg → Prop) (hw : wp_X7_find a2 a3 S Q) : CtV l yX7_find wsX7_find (mkR 3 66) D cA ad [.ref (ad 11 0), .ref (ad 1 0), .int a2, .int a3] S Q := by
  refine ct_ofV (cc := cX7_find) (nL := 8) (by decide) rfl (Nat.le_of_ble_eq_true rfl) ?_
  intro p e s m args below meth c A Q C hret
  unfold wp_X7_find at hw
  have C : Cx p s m args c cX7_find 8 wsX7_find RX7 D cA A := C
  have hin7 : ∀ w ∈ u_ws RX7 TX7 6, w ∈ wsX7_find := fun w h => List.mem_cons_of_mem _ (List.mem_append_left _ (List.mem_append_left _ (List.mem_append_left _ (List.mem_append_left _ (List.mem_append_right _ h)))))
  have f18 : Cond.fieldLink RX7 18 "CreepBoard$SlipFinder" "known" "Z" ∈ wsX7_find := by decide +kernel
  have f22 : Cond.fieldLink RX7 22 "CreepBoard$SlipFinder" "fitCount" "I" ∈ wsX7_find := by decide +kernel
  have f26 : Cond.fieldLink RX7 26 "CreepBoard$SlipFinder" "low" "I" ∈ wsX7_find := by decide +kernel
  have f29 : Cond.fieldLink RX7 29 "CreepBoard$SlipFinder" "high" "I" ∈ wsX7_find := by decide +kernel
  have f9 : Cond.fieldLink RX7 9 "CreepBoard$SlipFinder" "least" "[I" ∈ wsX7_find := by decide +kernel
  have f15 : Cond.fieldLink RX7 15 "CreepBoard$SlipFinder" "greatest" "[I" ∈ wsX7_find := by decide +kernel
  change KK p l e (mkR 3 66) s m args below meth c 8 D cA ad A Q 0 [(0, .ref (ad 11 0)), (1, .ref (ad 1 0)), (2, .int a2), (3, .int a3)] [] S
  refine k_aload_n (pc := 0) C dX7_find_0 0 rfl rfl ?_
  refine k_get (j := 5) (pc := 1) C hin7 hm_11 (cel_11 cA ad S 0) rfl (by decide) f18 (fun _ h => h) rfl dX7_find_1 ?_
  refine k_if_eq (pc := 4) C 8 dX7_find_4 (by decide) (fun q_1 => ?_) (fun q_1 => ?_)
  · have hw := hw.1 q_1
    refine k_aload_n (pc := 8) C dX7_find_8 0 rfl rfl ?_
    refine k_iconst (v := 0) (pc := 9) C dX7_find_9 (by decide) ?_
    refine k_put (S' := uI S 11 0 2 0) (j := 2) (ty := .int) (pc := 10) C hin7 tyX7 tyX7_ok nmX7 hm_11 (cel_11 cA ad S 0) rfl (by decide) f22 (fun _ h => h) rfl (by decide +kernel) rfl rfl (Nat.le_of_ble_eq_true rfl) rfl rfl (fun a b h => cel_uI h) dX7_find_10 ?_
    refine k_nameS (fun S_2 eS_2 => ?_)
    have hw := hw S_2 eS_2
    refine k_iconst (v := 0) (pc := 13) C dX7_find_13 (by decide) ?_
    refine k_istore (pc := 14) C dX7_find_14 (by decide) [(4, .int 0), (0, .ref (ad 11 0)), (1, .ref (ad 1 0)), (2, .int a2), (3, .int a3)] rfl ?_
    refine k_sub [1, 2, 3, 4, 0] [(0, .ref (ad 11 0)), (1, .ref (ad 1 0)), (2, .int a2), (3, .int a3), (4, .int 0)] rfl ?_
    obtain ⟨I_3, μ_3, hi_3, hw⟩ := hw
    have L_3 : ∀ (n : Nat) (v4_3 : Int32) (S_3 : Sg), μ_3 v4_3 S_3 < n → I_3 v4_3 S_3 → KK p l e (mkR 3 66) s m args below meth c 8 D cA ad A Q 16 [(0, .ref (ad 11 0)), (1, .ref (ad 1 0)), (2, .int a2), (3, .int a3), (4, .int v4_3)] [] S_3 := by
      intro n
      induction n with
      | zero => intro v4_3 S_3 h; exact absurd h (Nat.not_lt_zero _)
      | succ n ih_3 =>
        intro v4_3 S_3 hn_3 hi_3
        have hw := hw v4_3 S_3 hi_3
        refine k_iload (pc := 16) C dX7_find_16 4 rfl ?_
        refine k_iconst (v := 3) (pc := 18) C dX7_find_18 (by decide) ?_
        refine k_icmp_ge (pc := 19) C 45 dX7_find_19 (by decide) (fun q_4 => ?_) (fun q_4 => ?_)
        · have hw := hw.1 q_4
          refine k_iconst (v := 0) (pc := 45) C dX7_find_45 (by decide) ?_
          refine k_istore (pc := 46) C dX7_find_46 (by decide) [(4, .int 0), (0, .ref (ad 11 0)), (1, .ref (ad 1 0)), (2, .int a2), (3, .int a3)] rfl ?_
          refine k_sub [1, 2, 3, 4, 0] [(0, .ref (ad 11 0)), (1, .ref (ad 1 0)), (2, .int a2), (3, .int a3), (4, .int 0)] rfl ?_
          obtain ⟨I_5, μ_5, hi_5, hw⟩ := hw
          have L_5 : ∀ (n : Nat) (v4_5 : Int32) (S_5 : Sg), μ_5 v4_5 S_5 < n → I_5 v4_5 S_5 → KK p l e (mkR 3 66) s m args below meth c 8 D cA ad A Q 48 [(0, .ref (ad 11 0)), (1, .ref (ad 1 0)), (2, .int a2), (3, .int a3), (4, .int v4_5)] [] S_5 := by
            intro n
            induction n with
            | zero => intro v4_5 S_5 h; exact absurd h (Nat.not_lt_zero _)
            | succ n ih_5 =>
              intro v4_5 S_5 hn_5 hi_5
              have hw := hw v4_5 S_5 hi_5
              refine k_iload (pc := 48) C dX7_find_48 4 rfl ?_
              refine k_bipush (v := 15) (pc := 50) C dX7_find_50 (by decide) ?_
              refine k_icmp_gt (pc := 52) C 177 dX7_find_52 (by decide) (fun q_6 => ?_) (fun q_6 => ?_)
              · have hw := hw.1 q_6
                refine k_aload_n (pc := 177) C dX7_find_177 0 rfl rfl ?_
                refine k_iconst (v := 1) (pc := 178) C dX7_find_178 (by decide) ?_
                refine k_put (S' := uI S_5 11 0 5 1) (j := 5) (ty := .boolean) (pc := 179) C hin7 tyX7 tyX7_ok nmX7 hm_11 (cel_11 cA ad S_5 0) rfl (by decide) f18 (fun _ h => h) rfl (by decide +kernel) rfl rfl (Nat.le_of_ble_eq_true rfl) rfl rfl (fun a b h => cel_uI h) dX7_find_179 ?_
                refine k_nameS (fun S_7 eS_7 => ?_)
                have hw := hw S_7 eS_7
                exact hret _ _ _ dX7_find_182 hw
              · have hw := hw.2 q_6
                refine k_iconst (v := 0) (pc := 55) C dX7_find_55 (by decide) ?_
                refine k_istore (pc := 56) C dX7_find_56 (by decide) [(5, .int 0), (0, .ref (ad 11 0)), (1, .ref (ad 1 0)), (2, .int a2), (3, .int a3), (4, .int v4_5)] rfl ?_
                refine k_sub [1, 2, 3, 4, 5, 0] [(0, .ref (ad 11 0)), (1, .ref (ad 1 0)), (2, .int a2), (3, .int a3), (4, .int v4_5), (5, .int 0)] rfl ?_
                obtain ⟨I_8, μ_8, hi_8, hw⟩ := hw
                have L_8 : ∀ (n : Nat) (v5_8 : Int32) (S_8 : Sg), μ_8 v5_8 S_8 < n → I_8 v5_8 S_8 → KK p l e (mkR 3 66) s m args below meth c 8 D cA ad A Q 58 [(0, .ref (ad 11 0)), (1, .ref (ad 1 0)), (2, .int a2), (3, .int a3), (4, .int v4_5), (5, .int v5_8)] [] S_8 := by
                  intro n
                  induction n with
                  | zero => intro v5_8 S_8 h; exact absurd h (Nat.not_lt_zero _)
                  | succ n ih_8 =>
                    intro v5_8 S_8 hn_8 hi_8
                    have hw := hw v5_8 S_8 hi_8
                    refine k_iload (pc := 58) C dX7_find_58 5 rfl ?_
                    refine k_bipush (v := 15) (pc := 60) C dX7_find_60 (by decide) ?_
                    refine k_icmp_gt (pc := 62) C 171 dX7_find_62 (by decide) (fun q_9 => ?_) (fun q_9 => ?_)
                    · have hw := hw.1 q_9
                      obtain ⟨x4_10, ex4_10⟩ : ∃ y : Int32, y = v4_5 + 1 := ⟨_, rfl⟩
                      have hw := hw x4_10 ex4_10
                      refine k_iinc (v := x4_10) (j := 4) (pc := 171) C dX7_find_171 rfl (by rw [ex4_10]; rfl) (by decide) [(4, .int x4_10), (0, .ref (ad 11 0)), (1, .ref (ad 1 0)), (2, .int a2), (3, .int a3), (5, .int v5_8)] rfl ?_
                      refine k_goto (pc := 174) C 48 dX7_find_174 (by decide) ?_
                      refine k_sub [1, 2, 3, 4, 0] [(0, .ref (ad 11 0)), (1, .ref (ad 1 0)), (2, .int a2), (3, .int a3), (4, .int x4_10)] rfl ?_
                      exact ih_5 x4_10 S_8 (Nat.lt_of_lt_of_le hw.2 (Nat.le_of_lt_succ hn_5)) hw.1
                    · have hw := hw.2 q_9
                      refine k_aload_n (pc := 65) C dX7_find_65 0 rfl rfl ?_
                      refine k_iconst (v := 0) (pc := 66) C dX7_find_66 (by decide) ?_
                      refine k_put (S' := uI S_8 11 0 3 0) (j := 3) (ty := .int) (pc := 67) C hin7 tyX7 tyX7_ok nmX7 hm_11 (cel_11 cA ad S_8 0) rfl (by decide) f26 (fun _ h => h) rfl (by decide +kernel) rfl rfl (Nat.le_of_ble_eq_true rfl) rfl rfl (fun a b h => cel_uI h) dX7_find_67 ?_
                      refine k_nameS (fun S_11 eS_11 => ?_)
                      have hw := hw S_11 eS_11
                      refine k_aload_n (pc := 70) C dX7_find_70 0 rfl rfl ?_
                      refine k_bipush (v := 15) (pc := 71) C dX7_find_71 (by decide) ?_
                      refine k_put (S' := uI S_11 11 0 4 15) (j := 4) (ty := .int) (pc := 73) C hin7 tyX7 tyX7_ok nmX7 hm_11 (cel_11 cA ad S_11 0) rfl (by decide) f29 (fun _ h => h) rfl (by decide +kernel) rfl rfl (Nat.le_of_ble_eq_true rfl) rfl rfl (fun a b h => cel_uI h) dX7_find_73 ?_
                      refine k_nameS (fun S_12 eS_12 => ?_)
                      have hw := hw S_12 eS_12
                      refine k_iconst (v := 0) (pc := 76) C dX7_find_76 (by decide) ?_
                      refine k_istore (pc := 77) C dX7_find_77 (by decide) [(6, .int 0), (0, .ref (ad 11 0)), (1, .ref (ad 1 0)), (2, .int a2), (3, .int a3), (4, .int v4_5), (5, .int v5_8)] rfl ?_
                      refine k_sub [1, 2, 3, 4, 5, 6, 0] [(0, .ref (ad 11 0)), (1, .ref (ad 1 0)), (2, .int a2), (3, .int a3), (4, .int v4_5), (5, .int v5_8), (6, .int 0)] rfl ?_
                      obtain ⟨I_13, μ_13, hi_13, hw⟩ := hw
                      have L_13 : ∀ (n : Nat) (v6_13 : Int32) (S_13 : Sg), μ_13 v6_13 S_13 < n → I_13 v6_13 S_13 → KK p l e (mkR 3 66) s m args below meth c 8 D cA ad A Q 79 [(0, .ref (ad 11 0)), (1, .ref (ad 1 0)), (2, .int a2), (3, .int a3), (4, .int v4_5), (5, .int v5_8), (6, .int v6_13)] [] S_13 := by
                        intro n
                        induction n with
                        | zero => intro v6_13 S_13 h; exact absurd h (Nat.not_lt_zero _)
                        | succ n ih_13 =>
                          intro v6_13 S_13 hn_13 hi_13
                          have hw := hw v6_13 S_13 hi_13
                          refine k_iload (pc := 79) C dX7_find_79 6 rfl ?_
                          refine k_iload_n (pc := 81) C dX7_find_81 2 rfl rfl ?_
                          refine k_icmp_ge (pc := 82) C 157 dX7_find_82 (by decide) (fun q_14 => ?_) (fun q_14 => ?_)
                          · have hw := hw.1 q_14
                            refine k_aload_n (pc := 157) C dX7_find_157 0 rfl rfl ?_
                            refine k_iload (pc := 158) C dX7_find_158 4 rfl ?_
                            refine k_iload (pc := 160) C dX7_find_160 5 rfl ?_
                            refine k_afterV (pc := 162) C (wp_X7_takeIn v4_5 v5_8 S_13) hw (fun post hw => by
                                exact rn_V C (ct_X7_takeIn l D cA ad v4_5 v5_8 S_13 post hw) (cwV 2 C.2.2.2.2.1 gX7_find_X7_takeIn rfl rfl rfl (by decide +kernel) ⟨Nat.le_of_ble_eq_true rfl, Nat.le_of_ble_eq_true rfl⟩) hm_11 (cel_11 cA ad S_13 0) rfl rfl rfl rfl (Nat.le_of_ble_eq_true rfl) dX7_find_162) (fun S_15 hw => ?_)
                            obtain ⟨x5_16, ex5_16⟩ : ∃ y : Int32, y = v5_8 + 1 := ⟨_, rfl⟩
                            have hw := hw x5_16 ex5_16
                            refine k_iinc (v := x5_16) (j := 5) (pc := 165) C dX7_find_165 rfl (by rw [ex5_16]; rfl) (by decide) [(5, .int x5_16), (0, .ref (ad 11 0)), (1, .ref (ad 1 0)), (2, .int a2), (3, .int a3), (4, .int v4_5), (6, .int v6_13)] rfl ?_
                            refine k_goto (pc := 168) C 58 dX7_find_168 (by decide) ?_
                            refine k_sub [1, 2, 3, 4, 5, 0] [(0, .ref (ad 11 0)), (1, .ref (ad 1 0)), (2, .int a2), (3, .int a3), (4, .int v4_5), (5, .int x5_16)] rfl ?_
                            exact ih_8 x5_16 S_15 (Nat.lt_of_lt_of_le hw.2 (Nat.le_of_lt_succ hn_8)) hw.1
                          · have hw := hw.2 q_14
                            refine k_iload (pc := 85) C dX7_find_85 6 rfl ?_
                            refine k_bipush (v := 10) (pc := 87) C dX7_find_87 (by decide) ?_
                            refine k_icmp_ge (pc := 89) C 157 dX7_find_89 (by decide) (fun q_17 => ?_) (fun q_17 => ?_)
                            · have hw := hw.1 q_17
                              refine k_aload_n (pc := 157) C dX7_find_157 0 rfl rfl ?_
                              refine k_iload (pc := 158) C dX7_find_158 4 rfl ?_
                              refine k_iload (pc := 160) C dX7_find_160 5 rfl ?_
                              refine k_afterV (pc := 162) C (wp_X7_takeIn v4_5 v5_8 S_13) hw (fun post hw => by
                                  exact rn_V C (ct_X7_takeIn l D cA ad v4_5 v5_8 S_13 post hw) (cwV 2 C.2.2.2.2.1 gX7_find_X7_takeIn rfl rfl rfl (by decide +kernel) ⟨Nat.le_of_ble_eq_true rfl, Nat.le_of_ble_eq_true rfl⟩) hm_11 (cel_11 cA ad S_13 0) rfl rfl rfl rfl (Nat.le_of_ble_eq_true rfl) dX7_find_162) (fun S_18 hw => ?_)
                              obtain ⟨x5_19, ex5_19⟩ : ∃ y : Int32, y = v5_8 + 1 := ⟨_, rfl⟩
                              have hw := hw x5_19 ex5_19
                              refine k_iinc (v := x5_19) (j := 5) (pc := 165) C dX7_find_165 rfl (by rw [ex5_19]; rfl) (by decide) [(5, .int x5_19), (0, .ref (ad 11 0)), (1, .ref (ad 1 0)), (2, .int a2), (3, .int a3), (4, .int v4_5), (6, .int v6_13)] rfl ?_
                              refine k_goto (pc := 168) C 58 dX7_find_168 (by decide) ?_
                              refine k_sub [1, 2, 3, 4, 5, 0] [(0, .ref (ad 11 0)), (1, .ref (ad 1 0)), (2, .int a2), (3, .int a3), (4, .int v4_5), (5, .int x5_19)] rfl ?_
                              exact ih_8 x5_19 S_18 (Nat.lt_of_lt_of_le hw.2 (Nat.le_of_lt_succ hn_8)) hw.1
                            · have hw := hw.2 q_17
                              refine k_aload_n (pc := 92) C dX7_find_92 0 rfl rfl ?_
                              refine k_get (j := 3) (pc := 93) C hin7 hm_11 (cel_11 cA ad S_13 0) rfl (by decide) f26 (fun _ h => h) rfl dX7_find_93 ?_
                              refine k_aload_n (pc := 96) C dX7_find_96 0 rfl rfl ?_
                              refine k_get (j := 4) (pc := 97) C hin7 hm_11 (cel_11 cA ad S_13 0) rfl (by decide) f29 (fun _ h => h) rfl dX7_find_97 ?_
                              refine k_icmp_gt (pc := 100) C 157 dX7_find_100 (by decide) (fun q_20 => ?_) (fun q_20 => ?_)
                              · have hw := hw.1 q_20
                                refine k_aload_n (pc := 157) C dX7_find_157 0 rfl rfl ?_
                                refine k_iload (pc := 158) C dX7_find_158 4 rfl ?_
                                refine k_iload (pc := 160) C dX7_find_160 5 rfl ?_
                                refine k_afterV (pc := 162) C (wp_X7_takeIn v4_5 v5_8 S_13) hw (fun post hw => by
                                    exact rn_V C (ct_X7_takeIn l D cA ad v4_5 v5_8 S_13 post hw) (cwV 2 C.2.2.2.2.1 gX7_find_X7_takeIn rfl rfl rfl (by decide +kernel) ⟨Nat.le_of_ble_eq_true rfl, Nat.le_of_ble_eq_true rfl⟩) hm_11 (cel_11 cA ad S_13 0) rfl rfl rfl rfl (Nat.le_of_ble_eq_true rfl) dX7_find_162) (fun S_21 hw => ?_)
                                obtain ⟨x5_22, ex5_22⟩ : ∃ y : Int32, y = v5_8 + 1 := ⟨_, rfl⟩
                                have hw := hw x5_22 ex5_22
                                refine k_iinc (v := x5_22) (j := 5) (pc := 165) C dX7_find_165 rfl (by rw [ex5_22]; rfl) (by decide) [(5, .int x5_22), (0, .ref (ad 11 0)), (1, .ref (ad 1 0)), (2, .int a2), (3, .int a3), (4, .int v4_5), (6, .int v6_13)] rfl ?_
                                refine k_goto (pc := 168) C 58 dX7_find_168 (by decide) ?_
                                refine k_sub [1, 2, 3, 4, 5, 0] [(0, .ref (ad 11 0)), (1, .ref (ad 1 0)), (2, .int a2), (3, .int a3), (4, .int v4_5), (5, .int x5_22)] rfl ?_
                                exact ih_8 x5_22 S_21 (Nat.lt_of_lt_of_le hw.2 (Nat.le_of_lt_succ hn_8)) hw.1
                              · have hw := hw.2 q_20
                                refine k_aload_n (pc := 103) C dX7_find_103 1 rfl rfl ?_
                                refine k_iload (pc := 104) C dX7_find_104 6 rfl ?_
                                obtain ⟨h_23, hw⟩ := hw
                                refine k_ald1 (pc := 106) C h_23 dX7_find_106 (fun g_24 => ?_) (fun g_24 => ?_)
                                · have hw := hw.1 g_24
                                  refine k_astore (pc := 107) C dX7_find_107 (by decide) [(7, .ref (ad 26 (Int32.toNatClampNeg v6_13))), (0, .ref (ad 11 0)), (1, .ref (ad 1 0)), (2, .int a2), (3, .int a3), (4, .int v4_5), (5, .int v5_8), (6, .int v6_13)] rfl ?_
                                  refine k_aload (pc := 109) C dX7_find_109 0 rfl ?_
                                  refine k_ifnull (pc := 111) C dX7_find_111 ?_
                                  refine k_aload_n (pc := 114) C dX7_find_114 1 rfl rfl ?_
                                  refine k_aload (pc := 115) C dX7_find_115 0 rfl ?_
                                  refine k_iconst (v := 0) (pc := 117) C dX7_find_117 (by decide) ?_
                                  refine k_afterI (pc := 118) C (wp_X3_speed (Int32.toNatClampNeg v6_13) 0 S_13) hw (fun post hw => by
                                      rcases kd4 S_13 (Int32.toNatClampNeg v6_13) with h | h | h | h
                                      · exact rn_V C (ct_X3_speed l D cA ad (Int32.toNatClampNeg v6_13) 0 S_13 post hw) (cwV 1 C.2.2.2.2.1 gX7_find_X3_speed rfl rfl rfl (by decide +kernel) ⟨Nat.le_of_ble_eq_true rfl, Nat.le_of_ble_eq_true rfl⟩) (mm_26 g_24) (celM_0 h) rfl rfl rfl rfl (Nat.le_of_ble_eq_true rfl) dX7_find_118
                                      · exact rn_U C (ct_X3_speed l D cA ad (Int32.toNatClampNeg v6_13) 0 S_13 post hw) (va_cwU 1 C.2.2.2.2.1 gX7_find_X3_speed_u32X4 rfl rfl rfl rfl (by decide +kernel) ⟨Nat.le_of_ble_eq_true rfl, Nat.le_of_ble_eq_true rfl⟩) (mm_26 g_24) (celM_1 h) rfl rfl rfl rfl (Nat.le_of_ble_eq_true rfl) dX7_find_118
                                      · exact rn_U C (ct_X3_speed l D cA ad (Int32.toNatClampNeg v6_13) 0 S_13 post hw) (va_cwU 1 C.2.2.2.2.1 gX7_find_X3_speed_u32X8 rfl rfl rfl rfl (by decide +kernel) ⟨Nat.le_of_ble_eq_true rfl, Nat.le_of_ble_eq_true rfl⟩) (mm_26 g_24) (celM_2 h) rfl rfl rfl rfl (Nat.le_of_ble_eq_true rfl) dX7_find_118
                                      · exact rn_U C (ct_X3_speed l D cA ad (Int32.toNatClampNeg v6_13) 0 S_13 post hw) (va_cwU 1 C.2.2.2.2.1 gX7_find_X3_speed_u32X1 rfl rfl rfl rfl (by decide +kernel) ⟨Nat.le_of_ble_eq_true rfl, Nat.le_of_ble_eq_true rfl⟩) (mm_26 g_24) (celM_3 h) rfl rfl rfl rfl (Nat.le_of_ble_eq_true rfl) dX7_find_118) (fun r_25 S_25 hw => ?_)
                                  refine k_aload (pc := 121) C dX7_find_121 0 rfl ?_
                                  refine k_iconst (v := 0) (pc := 123) C dX7_find_123 (by decide) ?_
                                  obtain ⟨h_27, hw⟩ := hw
                                  refine k_afterI (pc := 124) C (wp_X3_greenOf (Int32.toNatClampNeg v6_13) 0 S_25) hw (fun post hw => by
                                      rcases kd4 S_25 (Int32.toNatClampNeg v6_13) with h | h | h | h
                                      · exact rn_V C (ct_X3_greenOf l D cA ad (Int32.toNatClampNeg v6_13) 0 S_25 post hw) (cwV 1 C.2.2.2.2.1 gX7_find_X3_greenOf rfl rfl rfl (by decide +kernel) ⟨Nat.le_of_ble_eq_true rfl, Nat.le_of_ble_eq_true rfl⟩) (mm_26 h_27) (celM_0 h) rfl rfl rfl rfl (Nat.le_of_ble_eq_true rfl) dX7_find_124
                                      · exact rn_U C (ct_X3_greenOf l D cA ad (Int32.toNatClampNeg v6_13) 0 S_25 post hw) (va_cwU 1 C.2.2.2.2.1 gX7_find_X3_greenOf_u38X4 rfl rfl rfl rfl (by decide +kernel) ⟨Nat.le_of_ble_eq_true rfl, Nat.le_of_ble_eq_true rfl⟩) (mm_26 h_27) (celM_1 h) rfl rfl rfl rfl (Nat.le_of_ble_eq_true rfl) dX7_find_124
                                      · exact rn_U C (ct_X3_greenOf l D cA ad (Int32.toNatClampNeg v6_13) 0 S_25 post hw) (va_cwU 1 C.2.2.2.2.1 gX7_find_X3_greenOf_u38X8 rfl rfl rfl rfl (by decide +kernel) ⟨Nat.le_of_ble_eq_true rfl, Nat.le_of_ble_eq_true rfl⟩) (mm_26 h_27) (celM_2 h) rfl rfl rfl rfl (Nat.le_of_ble_eq_true rfl) dX7_find_124
                                      · exact rn_U C (ct_X3_greenOf l D cA ad (Int32.toNatClampNeg v6_13) 0 S_25 post hw) (va_cwU 1 C.2.2.2.2.1 gX7_find_X3_greenOf_u38X1 rfl rfl rfl rfl (by decide +kernel) ⟨Nat.le_of_ble_eq_true rfl, Nat.le_of_ble_eq_true rfl⟩) (mm_26 h_27) (celM_3 h) rfl rfl rfl rfl (Nat.le_of_ble_eq_true rfl) dX7_find_124) (fun r_26 S_26 hw => ?_)
                                  refine k_iload (pc := 127) C dX7_find_127 5 rfl ?_
                                  refine k_imul (pc := 129) C dX7_find_129 ?_
                                  refine k_isub (pc := 130) C dX7_find_130 ?_
                                  refine k_aload (pc := 131) C dX7_find_131 0 rfl ?_
                                  refine k_iconst (v := 1) (pc := 133) C dX7_find_133 (by decide) ?_
                                  obtain ⟨h_29, hw⟩ := hw
                                  refine k_afterI (pc := 134) C (wp_X3_greenOf (Int32.toNatClampNeg v6_13) 1 S_26) hw (fun post hw => by
                                      rcases kd4 S_26 (Int32.toNatClampNeg v6_13) with h | h | h | h
                                      · exact rn_V C (ct_X3_greenOf l D cA ad (Int32.toNatClampNeg v6_13) 1 S_26 post hw) (cwV 1 C.2.2.2.2.1 gX7_find_X3_greenOf rfl rfl rfl (by decide +kernel) ⟨Nat.le_of_ble_eq_true rfl, Nat.le_of_ble_eq_true rfl⟩) (mm_26 h_29) (celM_0 h) rfl rfl rfl rfl (Nat.le_of_ble_eq_true rfl) dX7_find_134
                                      · exact rn_U C (ct_X3_greenOf l D cA ad (Int32.toNatClampNeg v6_13) 1 S_26 post hw) (va_cwU 1 C.2.2.2.2.1 gX7_find_X3_greenOf_u38X4 rfl rfl rfl rfl (by decide +kernel) ⟨Nat.le_of_ble_eq_true rfl, Nat.le_of_ble_eq_true rfl⟩) (mm_26 h_29) (celM_1 h) rfl rfl rfl rfl (Nat.le_of_ble_eq_true rfl) dX7_find_134
                                      · exact rn_U C (ct_X3_greenOf l D cA ad (Int32.toNatClampNeg v6_13) 1 S_26 post hw) (va_cwU 1 C.2.2.2.2.1 gX7_find_X3_greenOf_u38X8 rfl rfl rfl rfl (by decide +kernel) ⟨Nat.le_of_ble_eq_true rfl, Nat.le_of_ble_eq_true rfl⟩) (mm_26 h_29) (celM_2 h) rfl rfl rfl rfl (Nat.le_of_ble_eq_true rfl) dX7_find_134
                                      · exact rn_U C (ct_X3_greenOf l D cA ad (Int32.toNatClampNeg v6_13) 1 S_26 post hw) (va_cwU 1 C.2.2.2.2.1 gX7_find_X3_greenOf_u38X1 rfl rfl rfl rfl (by decide +kernel) ⟨Nat.le_of_ble_eq_true rfl, Nat.le_of_ble_eq_true rfl⟩) (mm_26 h_29) (celM_3 h) rfl rfl rfl rfl (Nat.le_of_ble_eq_true rfl) dX7_find_134) (fun r_28 S_28 hw => ?_)
                                  refine k_iload (pc := 137) C dX7_find_137 6 rfl ?_
                                  refine k_imul (pc := 139) C dX7_find_139 ?_
                                  refine k_isub (pc := 140) C dX7_find_140 ?_
                                  refine k_aload (pc := 141) C dX7_find_141 0 rfl ?_
                                  refine k_iconst (v := 2) (pc := 143) C dX7_find_143 (by decide) ?_
                                  obtain ⟨h_31, hw⟩ := hw
                                  refine k_afterI (pc := 144) C (wp_X3_greenOf (Int32.toNatClampNeg v6_13) 2 S_28) hw (fun post hw => by
                                      rcases kd4 S_28 (Int32.toNatClampNeg v6_13) with h | h | h | h
                                      · exact rn_V C (ct_X3_greenOf l D cA ad (Int32.toNatClampNeg v6_13) 2 S_28 post hw) (cwV 1 C.2.2.2.2.1 gX7_find_X3_greenOf rfl rfl rfl (by decide +kernel) ⟨Nat.le_of_ble_eq_true rfl, Nat.le_of_ble_eq_true rfl⟩) (mm_26 h_31) (celM_0 h) rfl rfl rfl rfl (Nat.le_of_ble_eq_true rfl) dX7_find_144
                                      · exact rn_U C (ct_X3_greenOf l D cA ad (Int32.toNatClampNeg v6_13) 2 S_28 post hw) (va_cwU 1 C.2.2.2.2.1 gX7_find_X3_greenOf_u38X4 rfl rfl rfl rfl (by decide +kernel) ⟨Nat.le_of_ble_eq_true rfl, Nat.le_of_ble_eq_true rfl⟩) (mm_26 h_31) (celM_1 h) rfl rfl rfl rfl (Nat.le_of_ble_eq_true rfl) dX7_find_144
                                      · exact rn_U C (ct_X3_greenOf l D cA ad (Int32.toNatClampNeg v6_13) 2 S_28 post hw) (va_cwU 1 C.2.2.2.2.1 gX7_find_X3_greenOf_u38X8 rfl rfl rfl rfl (by decide +kernel) ⟨Nat.le_of_ble_eq_true rfl, Nat.le_of_ble_eq_true rfl⟩) (mm_26 h_31) (celM_2 h) rfl rfl rfl rfl (Nat.le_of_ble_eq_true rfl) dX7_find_144
                                      · exact rn_U C (ct_X3_greenOf l D cA ad (Int32.toNatClampNeg v6_13) 2 S_28 post hw) (va_cwU 1 C.2.2.2.2.1 gX7_find_X3_greenOf_u38X1 rfl rfl rfl rfl (by decide +kernel) ⟨Nat.le_of_ble_eq_true rfl, Nat.le_of_ble_eq_true rfl⟩) (mm_26 h_31) (celM_3 h) rfl rfl rfl rfl (Nat.le_of_ble_eq_true rfl) dX7_find_144) (fun r_30 S_30 hw => ?_)
                                  refine k_iload_n (pc := 147) C dX7_find_147 4 rfl rfl ?_
                                  refine k_afterV (pc := 148) C (wp_X7_narrow ((r_25 - (r_26 * v4_5)) - (r_28 * v5_8)) r_30 a3 S_30) hw (fun post hw => by
                                      exact rn_V C (ct_X7_narrow l D cA ad ((r_25 - (r_26 * v4_5)) - (r_28 * v5_8)) r_30 a3 S_30 post hw) (cwV 3 C.2.2.2.2.1 gX7_find_X7_narrow rfl rfl rfl (by decide +kernel) ⟨Nat.le_of_ble_eq_true rfl, Nat.le_of_ble_eq_true rfl⟩) hm_11 (cel_11 cA ad S_30 0) rfl rfl rfl rfl (Nat.le_of_ble_eq_true rfl) dX7_find_148) (fun S_32 hw => ?_)
                                  obtain ⟨x6_33, ex6_33⟩ : ∃ y : Int32, y = v6_13 + 1 := ⟨_, rfl⟩
                                  have hw := hw x6_33 ex6_33
                                  refine k_iinc (v := x6_33) (j := 7) (pc := 151) C dX7_find_151 rfl (by rw [ex6_33]; rfl) (by decide) [(6, .int x6_33), (7, .ref (ad 26 (Int32.toNatClampNeg v6_13))), (0, .ref (ad 11 0)), (1, .ref (ad 1 0)), (2, .int a2), (3, .int a3), (4, .int v4_5), (5, .int v5_8)] rfl ?_
                                  refine k_goto (pc := 154) C 79 dX7_find_154 (by decide) ?_
                                  refine k_sub [2, 3, 4, 5, 6, 7, 0] [(0, .ref (ad 11 0)), (1, .ref (ad 1 0)), (2, .int a2), (3, .int a3), (4, .int v4_5), (5, .int v5_8), (6, .int x6_33)] rfl ?_
                                  exact ih_13 x6_33 S_32 (Nat.lt_of_lt_of_le hw.2 (Nat.le_of_lt_succ hn_13)) hw.1
                                · have hw := hw.2 g_24
                                  refine k_astoreN (pc := 107) C dX7_find_107 (by decide) [(7, .null), (0, .ref (ad 11 0)), (1, .ref (ad 1 0)), (2, .int a2), (3, .int a3), (4, .int v4_5), (5, .int v5_8), (6, .int v6_13)] rfl ?_
                                  refine k_aloadN (pc := 109) C dX7_find_109 0 rfl ?_
                                  refine k_ifnullN (pc := 111) C 151 dX7_find_111 (by decide) ?_
                                  obtain ⟨x6_34, ex6_34⟩ : ∃ y : Int32, y = v6_13 + 1 := ⟨_, rfl⟩
                                  have hw := hw x6_34 ex6_34
                                  refine k_iinc (v := x6_34) (j := 7) (pc := 151) C dX7_find_151 rfl (by rw [ex6_34]; rfl) (by decide) [(6, .int x6_34), (7, .null), (0, .ref (ad 11 0)), (1, .ref (ad 1 0)), (2, .int a2), (3, .int a3), (4, .int v4_5), (5, .int v5_8)] rfl ?_
                                  refine k_goto (pc := 154) C 79 dX7_find_154 (by decide) ?_
                                  refine k_sub [2, 3, 4, 5, 6, 7, 0] [(0, .ref (ad 11 0)), (1, .ref (ad 1 0)), (2, .int a2), (3, .int a3), (4, .int v4_5), (5, .int v5_8), (6, .int x6_34)] rfl ?_
                                  exact ih_13 x6_34 S_13 (Nat.lt_of_lt_of_le hw.2 (Nat.le_of_lt_succ hn_13)) hw.1
                      exact L_13 (μ_13 0 S_12 + 1) 0 S_12 (Nat.lt_succ_self _) hi_13
                exact L_8 (μ_8 0 S_5 + 1) 0 S_5 (Nat.lt_succ_self _) hi_8
          exact L_5 (μ_5 0 S_3 + 1) 0 S_3 (Nat.lt_succ_self _) hi_5
        · have hw := hw.2 q_4
          refine k_aload_n (pc := 22) C dX7_find_22 0 rfl rfl ?_
          refine k_get (j := 0) (pc := 23) C hin7 hm_11 (cel_11 cA ad S_3 0) rfl (by decide) f9 (fun _ h => h) rfl dX7_find_23 ?_
          refine k_iload (pc := 26) C dX7_find_26 4 rfl ?_
          refine k_bipush (v := 15) (pc := 28) C dX7_find_28 (by decide) ?_
          obtain ⟨h_35, hw⟩ := hw
          refine k_iast (pc := 30) C hm_12 (fun S => cel_12 cA ad S 0) h_35 dX7_find_30 ?_
          refine k_nameS (fun S_36 eS_36 => ?_)
          have hw := hw S_36 eS_36
          refine k_aload_n (pc := 31) C dX7_find_31 0 rfl rfl ?_
          refine k_get (j := 1) (pc := 32) C hin7 hm_11 (cel_11 cA ad S_36 0) rfl (by decide) f15 (fun _ h => h) rfl dX7_find_32 ?_
          refine k_iload (pc := 35) C dX7_find_35 4 rfl ?_
          refine k_iconst (v := 0) (pc := 37) C dX7_find_37 (by decide) ?_
          obtain ⟨h_37, hw⟩ := hw
          refine k_iast (pc := 38) C hm_13 (fun S => cel_13 cA ad S 0) h_37 dX7_find_38 ?_
          refine k_nameS (fun S_38 eS_38 => ?_)
          have hw := hw S_38 eS_38
          obtain ⟨x4_39, ex4_39⟩ : ∃ y : Int32, y = v4_3 + 1 := ⟨_, rfl⟩
          have hw := hw x4_39 ex4_39
          refine k_iinc (v := x4_39) (j := 4) (pc := 39) C dX7_find_39 rfl (by rw [ex4_39]; rfl) (by decide) [(4, .int x4_39), (0, .ref (ad 11 0)), (1, .ref (ad 1 0)), (2, .int a2), (3, .int a3)] rfl ?_
          refine k_goto (pc := 42) C 16 dX7_find_42 (by decide) ?_
          refine k_sub [1, 2, 3, 4, 0] [(0, .ref (ad 11 0)), (1, .ref (ad 1 0)), (2, .int a2), (3, .int a3), (4, .int x4_39)] rfl ?_
          exact ih_3 x4_39 S_38 (Nat.lt_of_lt_of_le hw.2 (Nat.le_of_lt_succ hn_3)) hw.1
    exact L_3 (μ_3 0 S_2 + 1) 0 S_2 (Nat.lt_succ_self _) hi_3
  · have hw := hw.2 q_1
    exact hret _ _ _ dX7_find_7 hw
def wp_X0_forget (S : Sg) (Q : Sg → Prop) : Prop :=
  (∀ S_1 : Sg, S_1 = uI S 6 0 5 0 → Q S_1)
set_option maxHeartbeats 4000000 in
set_option maxRecDepth 100000 in
theorem ct_X0_forget (l : Launch) (D : va_G) (cA : Nat → ClassId) (ad : Nat → Nat → Nat) (S : Sg) (Q : Sg → Prop) (hw : wp_X0_forget  S Q) : CtV l yX0_forget wsX0_forget (mkR 0 0) D cA ad [.ref (ad 6 0)] S Q := by
  refine ct_ofV (cc := cX0_forget) (nL := 1) (by decide) rfl (Nat.le_of_ble_eq_true rfl) ?_
  intro p e s m args below meth c A Q C hret
  unfold wp_X0_forget at hw
  have C : Cx p s m args c cX0_forget 1 wsX0_forget RX0 D cA A := C
  have hin0 : ∀ w ∈ u_ws RX0 TX0 6, w ∈ wsX0_forget := fun w h => List.mem_cons_of_mem _ (List.mem_append_right _ h)
  have f25 : Cond.fieldLink RX0 25 "CreepBoard$BlockFinder" "known" "Z" ∈ wsX0_forget := by decide +kernel
  change KK p l e (mkR 0 0) s m args below meth c 1 D cA ad A Q 0 [(0, .ref (ad 6 0))] [] S
  refine k_aload_n (pc := 0) C dX0_forget_0 0 rfl rfl ?_
  refine k_iconst (v := 0) (pc := 1) C dX0_forget_1 (by decide) ?_
  refine k_put (S' := uI S 6 0 5 0) (j := 5) (ty := .boolean) (pc := 2) C hin0 tyX0 tyX0_ok nmX0 hm_6 (cel_6 cA ad S 0) rfl (by decide) f25 (fun _ h => h) rfl (by decide +kernel) rfl rfl (Nat.le_of_ble_eq_true rfl) rfl rfl (fun a b h => cel_uI h) dX0_forget_2 ?_
  refine k_nameS (fun S_1 eS_1 => ?_)
  have hw := hw S_1 eS_1
  exact hret _ _ _ dX0_forget_5 hw
def wp_X0_blockCount (S : Sg) (Q : Int32 → Sg → Prop) : Prop :=
  Q (gI S 6 0 4) S
set_option maxHeartbeats 4000000 in
set_option maxRecDepth 100000 in
theorem ct_X0_blockCount (l : Launch) (D : va_G) (cA : Nat → ClassId) (ad : Nat → Nat → Nat) (S : Sg) (Q : Int32 → Sg → Prop) (hw : wp_X0_blockCount  S Q) : CtI l yX0_blockCount wsX0_blockCount (mkR 0 0) D cA ad [.ref (ad 6 0)] S Q := by
  refine ct_ofI (cc := cX0_blockCount) (nL := 1) (by decide) rfl (Nat.le_of_ble_eq_true rfl) ?_
  intro p e s m args below meth c A Q C hret
  unfold wp_X0_blockCount at hw
  have C : Cx p s m args c cX0_blockCount 1 wsX0_blockCount RX0 D cA A := C
  have hin0 : ∀ w ∈ u_ws RX0 TX0 6, w ∈ wsX0_blockCount := fun w h => List.mem_cons_of_mem _ (List.mem_append_right _ h)
  have f29 : Cond.fieldLink RX0 29 "CreepBoard$BlockFinder" "blockCount" "I" ∈ wsX0_blockCount := by decide +kernel
  change KK p l e (mkR 0 0) s m args below meth c 1 D cA ad A Q 0 [(0, .ref (ad 6 0))] [] S
  refine k_aload_n (pc := 0) C dX0_blockCount_0 0 rfl rfl ?_
  refine k_get (j := 4) (pc := 1) C hin0 hm_6 (cel_6 cA ad S 0) rfl (by decide) f29 (fun _ h => h) rfl dX0_blockCount_1 ?_
  exact hret _ _ _ _ dX0_blockCount_4 hw
def wp_X0_blockWith (a1 : Int32) (S : Sg) (Q : Int32 → Sg → Prop) : Prop :=
  (vp_in a1 10 ∧ Q (gA S 10 0 (Int32.toNatClampNeg a1)) S)
set_option maxHeartbeats 4000000 in
set_option maxRecDepth 100000 in
theorem ct_X0_blockWith (l : Launch) (D : va_G) (cA : Nat → ClassId) (ad : Nat → Nat → Nat) (a1 : Int32) (S : Sg) (Q : Int32 → Sg → Prop) (hw : wp_X0_blockWith a1 S Q) : CtI l yX0_blockWith wsX0_blockWith (mkR 0 0) D cA ad [.ref (ad 6 0), .int a1] S Q := by
  refine ct_ofI (cc := cX0_blockWith) (nL := 2) (by decide) rfl (Nat.le_of_ble_eq_true rfl) ?_
  intro p e s m args below meth c A Q C hret
  unfold wp_X0_blockWith at hw
  have C : Cx p s m args c cX0_blockWith 2 wsX0_blockWith RX0 D cA A := C
  have hin0 : ∀ w ∈ u_ws RX0 TX0 6, w ∈ wsX0_blockWith := fun w h => List.mem_cons_of_mem _ (List.mem_append_right _ h)
  have f22 : Cond.fieldLink RX0 22 "CreepBoard$BlockFinder" "blockOfMark" "[I" ∈ wsX0_blockWith := by decide +kernel
  change KK p l e (mkR 0 0) s m args below meth c 2 D cA ad A Q 0 [(0, .ref (ad 6 0)), (1, .int a1)] [] S
  refine k_aload_n (pc := 0) C dX0_blockWith_0 0 rfl rfl ?_
  refine k_get (j := 3) (pc := 1) C hin0 hm_6 (cel_6 cA ad S 0) rfl (by decide) f22 (fun _ h => h) rfl dX0_blockWith_1 ?_
  refine k_iload_n (pc := 4) C dX0_blockWith_4 1 rfl rfl ?_
  obtain ⟨h_1, hw⟩ := hw
  refine k_iald (pc := 5) C hm_10 (cel_10 cA ad S 0) h_1 dX0_blockWith_5 ?_
  exact hret _ _ _ _ dX0_blockWith_6 hw
def wp_X0_turnAsOne (a1 : Int32) (S : Sg) (Q : Int32 → Sg → Prop) : Prop :=
  (∃ (I_1 : (Option Nat) → Int64 → Int64 → Int32 → Sg → Prop) (μ_1 : (Option Nat) → Int64 → Int64 → Int32 → Sg → Nat), I_1 none 0 0 0 S ∧ ∀ (v2_1 : (Option Nat)) (v3_1 : Int64) (v5_1 : Int64) (v7_1 : Int32) (S_1 : Sg), I_1 v2_1 v3_1 v5_1 v7_1 S_1 → ((10 ≤ v7_1 → Q 1 S_1) ∧ (¬ 10 ≤ v7_1 → (vp_in v7_1 10 ∧ (((Int32.toNatClampNeg v7_1) < nM S_1 → ((((a1 >>> (v7_1 &&& 31)) &&& 1) = 0 → (∀ x7_6 : Int32, x7_6 = v7_1 + 1 → (I_1 v2_1 v3_1 v5_1 x7_6 S_1 ∧ μ_1 v2_1 v3_1 v5_1 x7_6 S_1 < μ_1 v2_1 v3_1 v5_1 v7_1 S_1))) ∧ (¬ ((a1 >>> (v7_1 &&& 31)) &&& 1) = 0 → ((v2_1 = none → wp_X3_placeX (Int32.toNatClampNeg v7_1) S_1 (fun r_8 S_8 => ((Int32.toNatClampNeg v7_1) < nM S_8 ∧ wp_X3_placeX (Int32.toNatClampNeg v7_1) S_8 (fun r_9 S_9 => (∀ x9_11 : Int64, x9_11 = (Int32.toInt64 (r_8 - r_9)) → ((Int32.toNatClampNeg v7_1) < nM S_9 ∧ wp_X3_placeY (Int32.toNatClampNeg v7_1) S_9 (fun r_12 S_12 => ((Int32.toNatClampNeg v7_1) < nM S_12 ∧ wp_X3_placeY (Int32.toNatClampNeg v7_1) S_12 (fun r_14 S_14 => (∀ x11_16 : Int64, x11_16 = (Int32.toInt64 (r_12 - r_14)) → ((Int32.toNatClampNeg v7_1) < nM S_14 ∧ wp_X3_speed (Int32.toNatClampNeg v7_1) 0 S_14 (fun r_17 S_17 => ((Int32.toNatClampNeg v7_1) < nM S_17 ∧ wp_X3_speed (Int32.toNatClampNeg v7_1) 0 S_17 (fun r_19 S_19 => (∀ x13_21 : Int64, x13_21 = (Int32.toInt64 (r_17 - r_19)) → ((Int32.toNatClampNeg v7_1) < nM S_19 ∧ wp_X3_speed (Int32.toNatClampNeg v7_1) 1 S_19 (fun r_22 S_22 => ((Int32.toNatClampNeg v7_1) < nM S_22 ∧ wp_X3_speed (Int32.toNatClampNeg v7_1) 1 S_22 (fun r_24 S_24 => (∀ x15_26 : Int64, x15_26 = (Int32.toInt64 (r_22 - r_24)) → (∃ J_27 : Int64 → Int64 → Sg → Prop, (∀ (v3_27 : Int64) (v5_27 : Int64) (S_27 : Sg), J_27 v3_27 v5_27 S_27 → ((¬ v5_27 = 0 → ((¬ (x13_21 * v5_27) = ((-v3_27) * x11_16) → Q 0 S_27) ∧ ((x13_21 * v5_27) = ((-v3_27) * x11_16) → (((x15_26 * v5_27) = (v3_27 * x9_11) → (∀ x7_31 : Int32, x7_31 = v7_1 + 1 → (I_1 (some (Int32.toNatClampNeg v7_1)) v3_27 v5_27 x7_31 S_27 ∧ μ_1 (some (Int32.toNatClampNeg v7_1)) v3_27 v5_27 x7_31 S_27 < μ_1 v2_1 v3_1 v5_1 v7_1 S_1))) ∧ (¬ (x15_26 * v5_27) = (v3_27 * x9_11) → Q 0 S_27))))) ∧ (v5_27 = 0 → ((¬ x13_21 = 0 → Q 0 S_27) ∧ (x13_21 = 0 → ((x15_26 = 0 → (∀ x7_34 : Int32, x7_34 = v7_1 + 1 → (I_1 (some (Int32.toNatClampNeg v7_1)) v3_27 v5_27 x7_34 S_27 ∧ μ_1 (some (Int32.toNatClampNeg v7_1)) v3_27 v5_27 x7_34 S_27 < μ_1 v2_1 v3_1 v5_1 v7_1 S_1))) ∧ (¬ x15_26 = 0 → Q 0 S_27))))))) ∧ ((¬ v5_1 = 0 → J_27 v3_1 v5_1 S_24) ∧ (v5_1 = 0 → (∀ x5_36 : Int64, x5_36 = ((x9_11 * x9_11) + (x11_16 * x11_16)) → (∀ x3_37 : Int64, x3_37 = ((x15_26 * x9_11) - (x13_21 * x11_16)) → J_27 x3_37 x5_36 S_24))))))))))))))))))))))))) ∧ (∀ j_7 : Nat, v2_1 = some j_7 → wp_X3_placeX (Int32.toNatClampNeg v7_1) S_1 (fun r_38 S_38 => (j_7 < nM S_38 ∧ wp_X3_placeX j_7 S_38 (fun r_39 S_39 => (∀ x9_41 : Int64, x9_41 = (Int32.toInt64 (r_38 - r_39)) → ((Int32.toNatClampNeg v7_1) < nM S_39 ∧ wp_X3_placeY (Int32.toNatClampNeg v7_1) S_39 (fun r_42 S_42 => (j_7 < nM S_42 ∧ wp_X3_placeY j_7 S_42 (fun r_44 S_44 => (∀ x11_46 : Int64, x11_46 = (Int32.toInt64 (r_42 - r_44)) → ((Int32.toNatClampNeg v7_1) < nM S_44 ∧ wp_X3_speed (Int32.toNatClampNeg v7_1) 0 S_44 (fun r_47 S_47 => (j_7 < nM S_47 ∧ wp_X3_speed j_7 0 S_47 (fun r_49 S_49 => (∀ x13_51 : Int64, x13_51 = (Int32.toInt64 (r_47 - r_49)) → ((Int32.toNatClampNeg v7_1) < nM S_49 ∧ wp_X3_speed (Int32.toNatClampNeg v7_1) 1 S_49 (fun r_52 S_52 => (j_7 < nM S_52 ∧ wp_X3_speed j_7 1 S_52 (fun r_54 S_54 => (∀ x15_56 : Int64, x15_56 = (Int32.toInt64 (r_52 - r_54)) → (∃ J_57 : Int64 → Int64 → Sg → Prop, (∀ (v3_57 : Int64) (v5_57 : Int64) (S_57 : Sg), J_57 v3_57 v5_57 S_57 → ((¬ v5_57 = 0 → ((¬ (x13_51 * v5_57) = ((-v3_57) * x11_46) → Q 0 S_57) ∧ ((x13_51 * v5_57) = ((-v3_57) * x11_46) → (((x15_56 * v5_57) = (v3_57 * x9_41) → (∀ x7_61 : Int32, x7_61 = v7_1 + 1 → (I_1 (some j_7) v3_57 v5_57 x7_61 S_57 ∧ μ_1 (some j_7) v3_57 v5_57 x7_61 S_57 < μ_1 v2_1 v3_1 v5_1 v7_1 S_1))) ∧ (¬ (x15_56 * v5_57) = (v3_57 * x9_41) → Q 0 S_57))))) ∧ (v5_57 = 0 → ((¬ x13_51 = 0 → Q 0 S_57) ∧ (x13_51 = 0 → ((x15_56 = 0 → (∀ x7_64 : Int32, x7_64 = v7_1 + 1 → (I_1 (some j_7) v3_57 v5_57 x7_64 S_57 ∧ μ_1 (some j_7) v3_57 v5_57 x7_64 S_57 < μ_1 v2_1 v3_1 v5_1 v7_1 S_1))) ∧ (¬ x15_56 = 0 → Q 0 S_57))))))) ∧ ((¬ v5_1 = 0 → J_57 v3_1 v5_1 S_54) ∧ (v5_1 = 0 → (∀ x5_66 : Int64, x5_66 = ((x9_41 * x9_41) + (x11_46 * x11_46)) → (∀ x3_67 : Int64, x3_67 = ((x15_56 * x9_41) - (x13_51 * x11_46)) → J_57 x3_67 x5_66 S_54))))))))))))))))))))))))))))) ∧ (¬ (Int32.toNatClampNeg v7_1) < nM S_1 → ((((a1 >>> (v7_1 &&& 31)) &&& 1) = 0 → (∀ x7_69 : Int32, x7_69 = v7_1 + 1 → (I_1 v2_1 v3_1 v5_1 x7_69 S_1 ∧ μ_1 v2_1 v3_1 v5_1 x7_69 S_1 < μ_1 v2_1 v3_1 v5_1 v7_1 S_1))) ∧ (¬ ((a1 >>> (v7_1 &&& 31)) &&& 1) = 0 → (∀ x7_70 : Int32, x7_70 = v7_1 + 1 → (I_1 v2_1 v3_1 v5_1 x7_70 S_1 ∧ μ_1 v2_1 v3_1 v5_1 x7_70 S_1 < μ_1 v2_1 v3_1 v5_1 v7_1 S_1))))))))))
set_option maxHeartbeats 4000000 in
set_option maxRecDepth 100000 in
theorem ct_X0_turnAsOne (l : Launch) (D : va_G) (cA : Nat → ClassId) (ad : Nat → Nat → Nat) (a1 : Int32) (S : Sg) (Q : Int32 → Sg → Prop) (hw : wp_X0_turnAsOne a1 S Q) : CtI l yX0_turnAsOne wsX0_turnAsOne (mkR 1 21) D cA ad [.ref (ad 1 0), .int a1] S Q := by
  refine ct_ofZ (cc := cX0_turnAsOne) (nL := 17) (by decide) rfl (Nat.le_of_ble_eq_true rfl) ?_
  intro p e s m args below meth c A Q C hret
  unfold wp_X0_turnAsOne at hw
  have C : Cx p s m args c cX0_turnAsOne 17 wsX0_turnAsOne RX0 D cA A := C
  change KK p l e (mkR 1 21) s m args below meth c 17 D cA ad A Q 0 [(0, .ref (ad 1 0)), (1, .int a1)] [] S
  refine k_null (pc := 0) C dX0_turnAsOne_0 ?_
  refine k_astore_nN (pc := 1) C dX0_turnAsOne_1 rfl (by decide) [(2, .null), (0, .ref (ad 1 0)), (1, .int a1)] rfl ?_
  refine k_lconst (v := 0) (pc := 2) C dX0_turnAsOne_2 (by decide) ?_
  refine k_lstore_n (pc := 3) C dX0_turnAsOne_3 rfl (by decide) [(3, .long 0), (2, .null), (0, .ref (ad 1 0)), (1, .int a1)] rfl ?_
  refine k_lconst (v := 0) (pc := 4) C dX0_turnAsOne_4 (by decide) ?_
  refine k_lstore (pc := 5) C dX0_turnAsOne_5 (by decide) [(5, .long 0), (3, .long 0), (2, .null), (0, .ref (ad 1 0)), (1, .int a1)] rfl ?_
  refine k_iconst (v := 0) (pc := 7) C dX0_turnAsOne_7 (by decide) ?_
  refine k_istore (pc := 8) C dX0_turnAsOne_8 (by decide) [(7, .int 0), (5, .long 0), (3, .long 0), (2, .null), (0, .ref (ad 1 0)), (1, .int a1)] rfl ?_
  refine k_sub [4, 5, 3, 2, 1, 0] [(0, .ref (ad 1 0)), (1, .int a1), (2, .null), (3, .long 0), (5, .long 0), (7, .int 0)] rfl ?_
  obtain ⟨I_1, μ_1, hi_1, hw⟩ := hw
  have L_1 : ∀ (n : Nat) (v2_1 : (Option Nat)) (v3_1 : Int64) (v5_1 : Int64) (v7_1 : Int32) (S_1 : Sg), μ_1 v2_1 v3_1 v5_1 v7_1 S_1 < n → I_1 v2_1 v3_1 v5_1 v7_1 S_1 → KK p l e (mkR 1 21) s m args below meth c 17 D cA ad A Q 10 [(0, .ref (ad 1 0)), (1, .int a1), (2, (va_rf (Option.map (fun j => ad 26 j) v2_1))), (3, .long v3_1), (5, .long v5_1), (7, .int v7_1)] [] S_1 := by
    intro n
    induction n with
    | zero => intro v2_1 v3_1 v5_1 v7_1 S_1 h; exact absurd h (Nat.not_lt_zero _)
    | succ n ih_1 =>
      intro v2_1 v3_1 v5_1 v7_1 S_1 hn_1 hi_1
      have hw := hw v2_1 v3_1 v5_1 v7_1 S_1 hi_1
      refine k_iload (pc := 10) C dX0_turnAsOne_10 5 rfl ?_
      refine k_bipush (v := 10) (pc := 12) C dX0_turnAsOne_12 (by decide) ?_
      refine k_icmp_ge (pc := 14) C 194 dX0_turnAsOne_14 (by decide) (fun q_2 => ?_) (fun q_2 => ?_)
      · have hw := hw.1 q_2
        refine k_iconst (v := 1) (pc := 194) C dX0_turnAsOne_194 (by decide) ?_
        exact hret _ _ _ _ dX0_turnAsOne_195 rfl hw
      · have hw := hw.2 q_2
        refine k_aload_n (pc := 17) C dX0_turnAsOne_17 0 rfl rfl ?_
        refine k_iload (pc := 18) C dX0_turnAsOne_18 5 rfl ?_
        obtain ⟨h_3, hw⟩ := hw
        refine k_ald1 (pc := 20) C h_3 dX0_turnAsOne_20 (fun g_4 => ?_) (fun g_4 => ?_)
        · have hw := hw.1 g_4
          refine k_astore (pc := 21) C dX0_turnAsOne_21 (by decide) [(8, .ref (ad 26 (Int32.toNatClampNeg v7_1))), (0, .ref (ad 1 0)), (1, .int a1), (2, (va_rf (Option.map (fun j => ad 26 j) v2_1))), (3, .long v3_1), (5, .long v5_1), (7, .int v7_1)] rfl ?_
          refine k_iload_n (pc := 23) C dX0_turnAsOne_23 2 rfl rfl ?_
          refine k_iload (pc := 24) C dX0_turnAsOne_24 6 rfl ?_
          refine k_ishr (pc := 26) C dX0_turnAsOne_26 ?_
          refine k_iconst (v := 1) (pc := 27) C dX0_turnAsOne_27 (by decide) ?_
          refine k_iand (pc := 28) C dX0_turnAsOne_28 ?_
          refine k_if_eq (pc := 29) C 188 dX0_turnAsOne_29 (by decide) (fun q_5 => ?_) (fun q_5 => ?_)
          · have hw := hw.1 q_5
            obtain ⟨x7_6, ex7_6⟩ : ∃ y : Int32, y = v7_1 + 1 := ⟨_, rfl⟩
            have hw := hw x7_6 ex7_6
            refine k_iinc (v := x7_6) (j := 6) (pc := 188) C dX0_turnAsOne_188 rfl (by rw [ex7_6]; rfl) (by decide) [(7, .int x7_6), (8, .ref (ad 26 (Int32.toNatClampNeg v7_1))), (0, .ref (ad 1 0)), (1, .int a1), (2, (va_rf (Option.map (fun j => ad 26 j) v2_1))), (3, .long v3_1), (5, .long v5_1)] rfl ?_
            refine k_goto (pc := 191) C 10 dX0_turnAsOne_191 (by decide) ?_
            refine k_sub [2, 3, 4, 5, 6, 0] [(0, .ref (ad 1 0)), (1, .int a1), (2, (va_rf (Option.map (fun j => ad 26 j) v2_1))), (3, .long v3_1), (5, .long v5_1), (7, .int x7_6)] rfl ?_
            exact ih_1 v2_1 v3_1 v5_1 x7_6 S_1 (Nat.lt_of_lt_of_le hw.2 (Nat.le_of_lt_succ hn_1)) hw.1
          · have hw := hw.2 q_5
            refine k_aload (pc := 32) C dX0_turnAsOne_32 0 rfl ?_
            refine k_ifnonnull (pc := 34) C 40 dX0_turnAsOne_34 (by decide) ?_
            rcases v2_1 with _ | j_7
            · have hw := hw.1 rfl
              refine k_sub [0, 1, 2, 3, 4, 5, 6] [(8, .ref (ad 26 (Int32.toNatClampNeg v7_1))), (0, .ref (ad 1 0)), (1, .int a1), (2, .null), (3, .long v3_1), (5, .long v5_1), (7, .int v7_1)] rfl ?_
              refine k_aload_nN (pc := 40) C dX0_turnAsOne_40 3 rfl rfl ?_
              refine k_ifnonnullN (pc := 41) C dX0_turnAsOne_41 ?_
              refine k_aload (pc := 44) C dX0_turnAsOne_44 0 rfl ?_
              refine k_astore_n (pc := 46) C dX0_turnAsOne_46 rfl (by decide) [(2, .ref (ad 26 (Int32.toNatClampNeg v7_1))), (8, .ref (ad 26 (Int32.toNatClampNeg v7_1))), (0, .ref (ad 1 0)), (1, .int a1), (3, .long v3_1), (5, .long v5_1), (7, .int v7_1)] rfl ?_
              refine k_aload (pc := 47) C dX0_turnAsOne_47 1 rfl ?_
              refine k_afterI (pc := 49) C (wp_X3_placeX (Int32.toNatClampNeg v7_1) S_1) hw (fun post hw => by
                  rcases kd4 S_1 (Int32.toNatClampNeg v7_1) with h | h | h | h
                  · exact rn_V C (ct_X3_placeX l D cA ad (Int32.toNatClampNeg v7_1) S_1 post hw) (cwV 0 C.2.2.2.2.1 gX0_turnAsOne_X3_placeX rfl rfl rfl (by decide +kernel) ⟨Nat.le_of_ble_eq_true rfl, Nat.le_of_ble_eq_true rfl⟩) (mm_26 g_4) (celM_0 h) rfl rfl rfl rfl (Nat.le_of_ble_eq_true rfl) dX0_turnAsOne_49
                  · exact rn_U C (ct_X3_placeX l D cA ad (Int32.toNatClampNeg v7_1) S_1 post hw) (va_cwU 0 C.2.2.2.2.1 gX0_turnAsOne_X3_placeX_u45X4 rfl rfl rfl rfl (by decide +kernel) ⟨Nat.le_of_ble_eq_true rfl, Nat.le_of_ble_eq_true rfl⟩) (mm_26 g_4) (celM_1 h) rfl rfl rfl rfl (Nat.le_of_ble_eq_true rfl) dX0_turnAsOne_49
                  · exact rn_U C (ct_X3_placeX l D cA ad (Int32.toNatClampNeg v7_1) S_1 post hw) (va_cwU 0 C.2.2.2.2.1 gX0_turnAsOne_X3_placeX_u45X8 rfl rfl rfl rfl (by decide +kernel) ⟨Nat.le_of_ble_eq_true rfl, Nat.le_of_ble_eq_true rfl⟩) (mm_26 g_4) (celM_2 h) rfl rfl rfl rfl (Nat.le_of_ble_eq_true rfl) dX0_turnAsOne_49
                  · exact rn_U C (ct_X3_placeX l D cA ad (Int32.toNatClampNeg v7_1) S_1 post hw) (va_cwU 0 C.2.2.2.2.1 gX0_turnAsOne_X3_placeX_u45X1 rfl rfl rfl rfl (by decide +kernel) ⟨Nat.le_of_ble_eq_true rfl, Nat.le_of_ble_eq_true rfl⟩) (mm_26 g_4) (celM_3 h) rfl rfl rfl rfl (Nat.le_of_ble_eq_true rfl) dX0_turnAsOne_49) (fun r_8 S_8 hw => ?_)
              refine k_aload_n (pc := 52) C dX0_turnAsOne_52 0 rfl rfl ?_
              obtain ⟨h_10, hw⟩ := hw
              refine k_afterI (pc := 53) C (wp_X3_placeX (Int32.toNatClampNeg v7_1) S_8) hw (fun post hw => by
                  rcases kd4 S_8 (Int32.toNatClampNeg v7_1) with h | h | h | h
                  · exact rn_V C (ct_X3_placeX l D cA ad (Int32.toNatClampNeg v7_1) S_8 post hw) (cwV 0 C.2.2.2.2.1 gX0_turnAsOne_X3_placeX rfl rfl rfl (by decide +kernel) ⟨Nat.le_of_ble_eq_true rfl, Nat.le_of_ble_eq_true rfl⟩) (mm_26 h_10) (celM_0 h) rfl rfl rfl rfl (Nat.le_of_ble_eq_true rfl) dX0_turnAsOne_53
                  · exact rn_U C (ct_X3_placeX l D cA ad (Int32.toNatClampNeg v7_1) S_8 post hw) (va_cwU 0 C.2.2.2.2.1 gX0_turnAsOne_X3_placeX_u45X4 rfl rfl rfl rfl (by decide +kernel) ⟨Nat.le_of_ble_eq_true rfl, Nat.le_of_ble_eq_true rfl⟩) (mm_26 h_10) (celM_1 h) rfl rfl rfl rfl (Nat.le_of_ble_eq_true rfl) dX0_turnAsOne_53
                  · exact rn_U C (ct_X3_placeX l D cA ad (Int32.toNatClampNeg v7_1) S_8 post hw) (va_cwU 0 C.2.2.2.2.1 gX0_turnAsOne_X3_placeX_u45X8 rfl rfl rfl rfl (by decide +kernel) ⟨Nat.le_of_ble_eq_true rfl, Nat.le_of_ble_eq_true rfl⟩) (mm_26 h_10) (celM_2 h) rfl rfl rfl rfl (Nat.le_of_ble_eq_true rfl) dX0_turnAsOne_53
                  · exact rn_U C (ct_X3_placeX l D cA ad (Int32.toNatClampNeg v7_1) S_8 post hw) (va_cwU 0 C.2.2.2.2.1 gX0_turnAsOne_X3_placeX_u45X1 rfl rfl rfl rfl (by decide +kernel) ⟨Nat.le_of_ble_eq_true rfl, Nat.le_of_ble_eq_true rfl⟩) (mm_26 h_10) (celM_3 h) rfl rfl rfl rfl (Nat.le_of_ble_eq_true rfl) dX0_turnAsOne_53) (fun r_9 S_9 hw => ?_)
              refine k_isub (pc := 56) C dX0_turnAsOne_56 ?_
              refine k_i2l (pc := 57) C dX0_turnAsOne_57 ?_
              refine k_topl (fun x9_11 ex9_11 => ?_)
              have hw := hw x9_11 ex9_11
              refine k_lstore (pc := 58) C dX0_turnAsOne_58 (by decide) [(9, .long x9_11), (2, .ref (ad 26 (Int32.toNatClampNeg v7_1))), (8, .ref (ad 26 (Int32.toNatClampNeg v7_1))), (0, .ref (ad 1 0)), (1, .int a1), (3, .long v3_1), (5, .long v5_1), (7, .int v7_1)] rfl ?_
              refine k_aload (pc := 60) C dX0_turnAsOne_60 2 rfl ?_
              obtain ⟨h_13, hw⟩ := hw
              refine k_afterI (pc := 62) C (wp_X3_placeY (Int32.toNatClampNeg v7_1) S_9) hw (fun post hw => by
                  rcases kd4 S_9 (Int32.toNatClampNeg v7_1) with h | h | h | h
                  · exact rn_V C (ct_X3_placeY l D cA ad (Int32.toNatClampNeg v7_1) S_9 post hw) (cwV 0 C.2.2.2.2.1 gX0_turnAsOne_X3_placeY rfl rfl rfl (by decide +kernel) ⟨Nat.le_of_ble_eq_true rfl, Nat.le_of_ble_eq_true rfl⟩) (mm_26 h_13) (celM_0 h) rfl rfl rfl rfl (Nat.le_of_ble_eq_true rfl) dX0_turnAsOne_62
                  · exact rn_U C (ct_X3_placeY l D cA ad (Int32.toNatClampNeg v7_1) S_9 post hw) (va_cwU 0 C.2.2.2.2.1 gX0_turnAsOne_X3_placeY_u51X4 rfl rfl rfl rfl (by decide +kernel) ⟨Nat.le_of_ble_eq_true rfl, Nat.le_of_ble_eq_true rfl⟩) (mm_26 h_13) (celM_1 h) rfl rfl rfl rfl (Nat.le_of_ble_eq_true rfl) dX0_turnAsOne_62
                  · exact rn_U C (ct_X3_placeY l D cA ad (Int32.toNatClampNeg v7_1) S_9 post hw) (va_cwU 0 C.2.2.2.2.1 gX0_turnAsOne_X3_placeY_u51X8 rfl rfl rfl rfl (by decide +kernel) ⟨Nat.le_of_ble_eq_true rfl, Nat.le_of_ble_eq_true rfl⟩) (mm_26 h_13) (celM_2 h) rfl rfl rfl rfl (Nat.le_of_ble_eq_true rfl) dX0_turnAsOne_62
                  · exact rn_U C (ct_X3_placeY l D cA ad (Int32.toNatClampNeg v7_1) S_9 post hw) (va_cwU 0 C.2.2.2.2.1 gX0_turnAsOne_X3_placeY_u51X1 rfl rfl rfl rfl (by decide +kernel) ⟨Nat.le_of_ble_eq_true rfl, Nat.le_of_ble_eq_true rfl⟩) (mm_26 h_13) (celM_3 h) rfl rfl rfl rfl (Nat.le_of_ble_eq_true rfl) dX0_turnAsOne_62) (fun r_12 S_12 hw => ?_)
              refine k_aload_n (pc := 65) C dX0_turnAsOne_65 1 rfl rfl ?_
              obtain ⟨h_15, hw⟩ := hw
              refine k_afterI (pc := 66) C (wp_X3_placeY (Int32.toNatClampNeg v7_1) S_12) hw (fun post hw => by
                  rcases kd4 S_12 (Int32.toNatClampNeg v7_1) with h | h | h | h
                  · exact rn_V C (ct_X3_placeY l D cA ad (Int32.toNatClampNeg v7_1) S_12 post hw) (cwV 0 C.2.2.2.2.1 gX0_turnAsOne_X3_placeY rfl rfl rfl (by decide +kernel) ⟨Nat.le_of_ble_eq_true rfl, Nat.le_of_ble_eq_true rfl⟩) (mm_26 h_15) (celM_0 h) rfl rfl rfl rfl (Nat.le_of_ble_eq_true rfl) dX0_turnAsOne_66
                  · exact rn_U C (ct_X3_placeY l D cA ad (Int32.toNatClampNeg v7_1) S_12 post hw) (va_cwU 0 C.2.2.2.2.1 gX0_turnAsOne_X3_placeY_u51X4 rfl rfl rfl rfl (by decide +kernel) ⟨Nat.le_of_ble_eq_true rfl, Nat.le_of_ble_eq_true rfl⟩) (mm_26 h_15) (celM_1 h) rfl rfl rfl rfl (Nat.le_of_ble_eq_true rfl) dX0_turnAsOne_66
                  · exact rn_U C (ct_X3_placeY l D cA ad (Int32.toNatClampNeg v7_1) S_12 post hw) (va_cwU 0 C.2.2.2.2.1 gX0_turnAsOne_X3_placeY_u51X8 rfl rfl rfl rfl (by decide +kernel) ⟨Nat.le_of_ble_eq_true rfl, Nat.le_of_ble_eq_true rfl⟩) (mm_26 h_15) (celM_2 h) rfl rfl rfl rfl (Nat.le_of_ble_eq_true rfl) dX0_turnAsOne_66
                  · exact rn_U C (ct_X3_placeY l D cA ad (Int32.toNatClampNeg v7_1) S_12 post hw) (va_cwU 0 C.2.2.2.2.1 gX0_turnAsOne_X3_placeY_u51X1 rfl rfl rfl rfl (by decide +kernel) ⟨Nat.le_of_ble_eq_true rfl, Nat.le_of_ble_eq_true rfl⟩) (mm_26 h_15) (celM_3 h) rfl rfl rfl rfl (Nat.le_of_ble_eq_true rfl) dX0_turnAsOne_66) (fun r_14 S_14 hw => ?_)
              refine k_isub (pc := 69) C dX0_turnAsOne_69 ?_
              refine k_i2l (pc := 70) C dX0_turnAsOne_70 ?_
              refine k_topl (fun x11_16 ex11_16 => ?_)
              have hw := hw x11_16 ex11_16
              refine k_lstore (pc := 71) C dX0_turnAsOne_71 (by decide) [(11, .long x11_16), (9, .long x9_11), (2, .ref (ad 26 (Int32.toNatClampNeg v7_1))), (8, .ref (ad 26 (Int32.toNatClampNeg v7_1))), (0, .ref (ad 1 0)), (1, .int a1), (3, .long v3_1), (5, .long v5_1), (7, .int v7_1)] rfl ?_
              refine k_aload (pc := 73) C dX0_turnAsOne_73 3 rfl ?_
              refine k_iconst (v := 0) (pc := 75) C dX0_turnAsOne_75 (by decide) ?_
              obtain ⟨h_18, hw⟩ := hw
              refine k_afterI (pc := 76) C (wp_X3_speed (Int32.toNatClampNeg v7_1) 0 S_14) hw (fun post hw => by
                  rcases kd4 S_14 (Int32.toNatClampNeg v7_1) with h | h | h | h
                  · exact rn_V C (ct_X3_speed l D cA ad (Int32.toNatClampNeg v7_1) 0 S_14 post hw) (cwV 1 C.2.2.2.2.1 gX0_turnAsOne_X3_speed rfl rfl rfl (by decide +kernel) ⟨Nat.le_of_ble_eq_true rfl, Nat.le_of_ble_eq_true rfl⟩) (mm_26 h_18) (celM_0 h) rfl rfl rfl rfl (Nat.le_of_ble_eq_true rfl) dX0_turnAsOne_76
                  · exact rn_U C (ct_X3_speed l D cA ad (Int32.toNatClampNeg v7_1) 0 S_14 post hw) (va_cwU 1 C.2.2.2.2.1 gX0_turnAsOne_X3_speed_u54X4 rfl rfl rfl rfl (by decide +kernel) ⟨Nat.le_of_ble_eq_true rfl, Nat.le_of_ble_eq_true rfl⟩) (mm_26 h_18) (celM_1 h) rfl rfl rfl rfl (Nat.le_of_ble_eq_true rfl) dX0_turnAsOne_76
                  · exact rn_U C (ct_X3_speed l D cA ad (Int32.toNatClampNeg v7_1) 0 S_14 post hw) (va_cwU 1 C.2.2.2.2.1 gX0_turnAsOne_X3_speed_u54X8 rfl rfl rfl rfl (by decide +kernel) ⟨Nat.le_of_ble_eq_true rfl, Nat.le_of_ble_eq_true rfl⟩) (mm_26 h_18) (celM_2 h) rfl rfl rfl rfl (Nat.le_of_ble_eq_true rfl) dX0_turnAsOne_76
                  · exact rn_U C (ct_X3_speed l D cA ad (Int32.toNatClampNeg v7_1) 0 S_14 post hw) (va_cwU 1 C.2.2.2.2.1 gX0_turnAsOne_X3_speed_u54X1 rfl rfl rfl rfl (by decide +kernel) ⟨Nat.le_of_ble_eq_true rfl, Nat.le_of_ble_eq_true rfl⟩) (mm_26 h_18) (celM_3 h) rfl rfl rfl rfl (Nat.le_of_ble_eq_true rfl) dX0_turnAsOne_76) (fun r_17 S_17 hw => ?_)
              refine k_aload_n (pc := 79) C dX0_turnAsOne_79 2 rfl rfl ?_
              refine k_iconst (v := 0) (pc := 80) C dX0_turnAsOne_80 (by decide) ?_
              obtain ⟨h_20, hw⟩ := hw
              refine k_afterI (pc := 81) C (wp_X3_speed (Int32.toNatClampNeg v7_1) 0 S_17) hw (fun post hw => by
                  rcases kd4 S_17 (Int32.toNatClampNeg v7_1) with h | h | h | h
                  · exact rn_V C (ct_X3_speed l D cA ad (Int32.toNatClampNeg v7_1) 0 S_17 post hw) (cwV 1 C.2.2.2.2.1 gX0_turnAsOne_X3_speed rfl rfl rfl (by decide +kernel) ⟨Nat.le_of_ble_eq_true rfl, Nat.le_of_ble_eq_true rfl⟩) (mm_26 h_20) (celM_0 h) rfl rfl rfl rfl (Nat.le_of_ble_eq_true rfl) dX0_turnAsOne_81
                  · exact rn_U C (ct_X3_speed l D cA ad (Int32.toNatClampNeg v7_1) 0 S_17 post hw) (va_cwU 1 C.2.2.2.2.1 gX0_turnAsOne_X3_speed_u54X4 rfl rfl rfl rfl (by decide +kernel) ⟨Nat.le_of_ble_eq_true rfl, Nat.le_of_ble_eq_true rfl⟩) (mm_26 h_20) (celM_1 h) rfl rfl rfl rfl (Nat.le_of_ble_eq_true rfl) dX0_turnAsOne_81
                  · exact rn_U C (ct_X3_speed l D cA ad (Int32.toNatClampNeg v7_1) 0 S_17 post hw) (va_cwU 1 C.2.2.2.2.1 gX0_turnAsOne_X3_speed_u54X8 rfl rfl rfl rfl (by decide +kernel) ⟨Nat.le_of_ble_eq_true rfl, Nat.le_of_ble_eq_true rfl⟩) (mm_26 h_20) (celM_2 h) rfl rfl rfl rfl (Nat.le_of_ble_eq_true rfl) dX0_turnAsOne_81
                  · exact rn_U C (ct_X3_speed l D cA ad (Int32.toNatClampNeg v7_1) 0 S_17 post hw) (va_cwU 1 C.2.2.2.2.1 gX0_turnAsOne_X3_speed_u54X1 rfl rfl rfl rfl (by decide +kernel) ⟨Nat.le_of_ble_eq_true rfl, Nat.le_of_ble_eq_true rfl⟩) (mm_26 h_20) (celM_3 h) rfl rfl rfl rfl (Nat.le_of_ble_eq_true rfl) dX0_turnAsOne_81) (fun r_19 S_19 hw => ?_)
              refine k_isub (pc := 84) C dX0_turnAsOne_84 ?_
              refine k_i2l (pc := 85) C dX0_turnAsOne_85 ?_
              refine k_topl (fun x13_21 ex13_21 => ?_)
              have hw := hw x13_21 ex13_21
              refine k_lstore (pc := 86) C dX0_turnAsOne_86 (by decide) [(13, .long x13_21), (11, .long x11_16), (9, .long x9_11), (2, .ref (ad 26 (Int32.toNatClampNeg v7_1))), (8, .ref (ad 26 (Int32.toNatClampNeg v7_1))), (0, .ref (ad 1 0)), (1, .int a1), (3, .long v3_1), (5, .long v5_1), (7, .int v7_1)] rfl ?_
              refine k_aload (pc := 88) C dX0_turnAsOne_88 4 rfl ?_
              refine k_iconst (v := 1) (pc := 90) C dX0_turnAsOne_90 (by decide) ?_
              obtain ⟨h_23, hw⟩ := hw
              refine k_afterI (pc := 91) C (wp_X3_speed (Int32.toNatClampNeg v7_1) 1 S_19) hw (fun post hw => by
                  rcases kd4 S_19 (Int32.toNatClampNeg v7_1) with h | h | h | h
                  · exact rn_V C (ct_X3_speed l D cA ad (Int32.toNatClampNeg v7_1) 1 S_19 post hw) (cwV 1 C.2.2.2.2.1 gX0_turnAsOne_X3_speed rfl rfl rfl (by decide +kernel) ⟨Nat.le_of_ble_eq_true rfl, Nat.le_of_ble_eq_true rfl⟩) (mm_26 h_23) (celM_0 h) rfl rfl rfl rfl (Nat.le_of_ble_eq_true rfl) dX0_turnAsOne_91
                  · exact rn_U C (ct_X3_speed l D cA ad (Int32.toNatClampNeg v7_1) 1 S_19 post hw) (va_cwU 1 C.2.2.2.2.1 gX0_turnAsOne_X3_speed_u54X4 rfl rfl rfl rfl (by decide +kernel) ⟨Nat.le_of_ble_eq_true rfl, Nat.le_of_ble_eq_true rfl⟩) (mm_26 h_23) (celM_1 h) rfl rfl rfl rfl (Nat.le_of_ble_eq_true rfl) dX0_turnAsOne_91
                  · exact rn_U C (ct_X3_speed l D cA ad (Int32.toNatClampNeg v7_1) 1 S_19 post hw) (va_cwU 1 C.2.2.2.2.1 gX0_turnAsOne_X3_speed_u54X8 rfl rfl rfl rfl (by decide +kernel) ⟨Nat.le_of_ble_eq_true rfl, Nat.le_of_ble_eq_true rfl⟩) (mm_26 h_23) (celM_2 h) rfl rfl rfl rfl (Nat.le_of_ble_eq_true rfl) dX0_turnAsOne_91
                  · exact rn_U C (ct_X3_speed l D cA ad (Int32.toNatClampNeg v7_1) 1 S_19 post hw) (va_cwU 1 C.2.2.2.2.1 gX0_turnAsOne_X3_speed_u54X1 rfl rfl rfl rfl (by decide +kernel) ⟨Nat.le_of_ble_eq_true rfl, Nat.le_of_ble_eq_true rfl⟩) (mm_26 h_23) (celM_3 h) rfl rfl rfl rfl (Nat.le_of_ble_eq_true rfl) dX0_turnAsOne_91) (fun r_22 S_22 hw => ?_)
              refine k_aload_n (pc := 94) C dX0_turnAsOne_94 3 rfl rfl ?_
              refine k_iconst (v := 1) (pc := 95) C dX0_turnAsOne_95 (by decide) ?_
              obtain ⟨h_25, hw⟩ := hw
              refine k_afterI (pc := 96) C (wp_X3_speed (Int32.toNatClampNeg v7_1) 1 S_22) hw (fun post hw => by
                  rcases kd4 S_22 (Int32.toNatClampNeg v7_1) with h | h | h | h
                  · exact rn_V C (ct_X3_speed l D cA ad (Int32.toNatClampNeg v7_1) 1 S_22 post hw) (cwV 1 C.2.2.2.2.1 gX0_turnAsOne_X3_speed rfl rfl rfl (by decide +kernel) ⟨Nat.le_of_ble_eq_true rfl, Nat.le_of_ble_eq_true rfl⟩) (mm_26 h_25) (celM_0 h) rfl rfl rfl rfl (Nat.le_of_ble_eq_true rfl) dX0_turnAsOne_96
                  · exact rn_U C (ct_X3_speed l D cA ad (Int32.toNatClampNeg v7_1) 1 S_22 post hw) (va_cwU 1 C.2.2.2.2.1 gX0_turnAsOne_X3_speed_u54X4 rfl rfl rfl rfl (by decide +kernel) ⟨Nat.le_of_ble_eq_true rfl, Nat.le_of_ble_eq_true rfl⟩) (mm_26 h_25) (celM_1 h) rfl rfl rfl rfl (Nat.le_of_ble_eq_true rfl) dX0_turnAsOne_96
                  · exact rn_U C (ct_X3_speed l D cA ad (Int32.toNatClampNeg v7_1) 1 S_22 post hw) (va_cwU 1 C.2.2.2.2.1 gX0_turnAsOne_X3_speed_u54X8 rfl rfl rfl rfl (by decide +kernel) ⟨Nat.le_of_ble_eq_true rfl, Nat.le_of_ble_eq_true rfl⟩) (mm_26 h_25) (celM_2 h) rfl rfl rfl rfl (Nat.le_of_ble_eq_true rfl) dX0_turnAsOne_96
                  · exact rn_U C (ct_X3_speed l D cA ad (Int32.toNatClampNeg v7_1) 1 S_22 post hw) (va_cwU 1 C.2.2.2.2.1 gX0_turnAsOne_X3_speed_u54X1 rfl rfl rfl rfl (by decide +kernel) ⟨Nat.le_of_ble_eq_true rfl, Nat.le_of_ble_eq_true rfl⟩) (mm_26 h_25) (celM_3 h) rfl rfl rfl rfl (Nat.le_of_ble_eq_true rfl) dX0_turnAsOne_96) (fun r_24 S_24 hw => ?_)
              refine k_isub (pc := 99) C dX0_turnAsOne_99 ?_
              refine k_i2l (pc := 100) C dX0_turnAsOne_100 ?_
              refine k_topl (fun x15_26 ex15_26 => ?_)
              have hw := hw x15_26 ex15_26
              refine k_lstore (pc := 101) C dX0_turnAsOne_101 (by decide) [(15, .long x15_26), (13, .long x13_21), (11, .long x11_16), (9, .long x9_11), (2, .ref (ad 26 (Int32.toNatClampNeg v7_1))), (8, .ref (ad 26 (Int32.toNatClampNeg v7_1))), (0, .ref (ad 1 0)), (1, .int a1), (3, .long v3_1), (5, .long v5_1), (7, .int v7_1)] rfl ?_
              refine k_lload (pc := 103) C dX0_turnAsOne_103 9 rfl ?_
              refine k_lconst (v := 0) (pc := 105) C dX0_turnAsOne_105 (by decide) ?_
              obtain ⟨J_27, hj_27, hw⟩ := hw
              have j_27 : ∀ (v3_27 : Int64) (v5_27 : Int64) (S_27 : Sg), J_27 v3_27 v5_27 S_27 → KK p l e (mkR 1 21) s m args below meth c 17 D cA ad A Q 135 [(0, .ref (ad 1 0)), (1, .int a1), (2, .ref (ad 26 (Int32.toNatClampNeg v7_1))), (3, .long v3_27), (5, .long v5_27), (7, .int v7_1), (9, .long x9_11), (11, .long x11_16), (13, .long x13_21), (15, .long x15_26)] [] S_27 := by
                intro v3_27 v5_27 S_27 hw
                have hw := hj_27 v3_27 v5_27 S_27 hw
                refine k_lload (pc := 135) C dX0_turnAsOne_135 4 rfl ?_
                refine k_lconst (v := 0) (pc := 137) C dX0_turnAsOne_137 (by decide) ?_
                refine k_lif_ne (pc := 138) C 159 dX0_turnAsOne_138 dX0_turnAsOne_139 (by decide) (fun q_28 => ?_) (fun q_28 => ?_)
                · have hw := hw.1 q_28
                  refine k_lload (pc := 159) C dX0_turnAsOne_159 8 rfl ?_
                  refine k_lload (pc := 161) C dX0_turnAsOne_161 4 rfl ?_
                  refine k_lmul (pc := 163) C dX0_turnAsOne_163 ?_
                  refine k_lload_n (pc := 164) C dX0_turnAsOne_164 3 rfl rfl ?_
                  refine k_lneg (pc := 165) C dX0_turnAsOne_165 ?_
                  refine k_lload (pc := 166) C dX0_turnAsOne_166 7 rfl ?_
                  refine k_lmul (pc := 168) C dX0_turnAsOne_168 ?_
                  refine k_lif_ne (pc := 169) C 186 dX0_turnAsOne_169 dX0_turnAsOne_170 (by decide) (fun q_29 => ?_) (fun q_29 => ?_)
                  · have hw := hw.1 q_29
                    refine k_iconst (v := 0) (pc := 186) C dX0_turnAsOne_186 (by decide) ?_
                    exact hret _ _ _ _ dX0_turnAsOne_187 rfl hw
                  · have hw := hw.2 q_29
                    refine k_lload (pc := 173) C dX0_turnAsOne_173 9 rfl ?_
                    refine k_lload (pc := 175) C dX0_turnAsOne_175 4 rfl ?_
                    refine k_lmul (pc := 177) C dX0_turnAsOne_177 ?_
                    refine k_lload_n (pc := 178) C dX0_turnAsOne_178 3 rfl rfl ?_
                    refine k_lload (pc := 179) C dX0_turnAsOne_179 6 rfl ?_
                    refine k_lmul (pc := 181) C dX0_turnAsOne_181 ?_
                    refine k_lif_eq (pc := 182) C 188 dX0_turnAsOne_182 dX0_turnAsOne_183 (by decide) (fun q_30 => ?_) (fun q_30 => ?_)
                    · have hw := hw.1 q_30
                      obtain ⟨x7_31, ex7_31⟩ : ∃ y : Int32, y = v7_1 + 1 := ⟨_, rfl⟩
                      have hw := hw x7_31 ex7_31
                      refine k_iinc (v := x7_31) (j := 5) (pc := 188) C dX0_turnAsOne_188 rfl (by rw [ex7_31]; rfl) (by decide) [(7, .int x7_31), (0, .ref (ad 1 0)), (1, .int a1), (2, .ref (ad 26 (Int32.toNatClampNeg v7_1))), (3, .long v3_27), (5, .long v5_27), (9, .long x9_11), (11, .long x11_16), (13, .long x13_21), (15, .long x15_26)] rfl ?_
                      refine k_goto (pc := 191) C 10 dX0_turnAsOne_191 (by decide) ?_
                      refine k_sub [1, 2, 3, 4, 5, 0] [(0, .ref (ad 1 0)), (1, .int a1), (2, .ref (ad 26 (Int32.toNatClampNeg v7_1))), (3, .long v3_27), (5, .long v5_27), (7, .int x7_31)] rfl ?_
                      exact ih_1 (some (Int32.toNatClampNeg v7_1)) v3_27 v5_27 x7_31 S_27 (Nat.lt_of_lt_of_le hw.2 (Nat.le_of_lt_succ hn_1)) hw.1
                    · have hw := hw.2 q_30
                      refine k_iconst (v := 0) (pc := 186) C dX0_turnAsOne_186 (by decide) ?_
                      exact hret _ _ _ _ dX0_turnAsOne_187 rfl hw
                · have hw := hw.2 q_28
                  refine k_lload (pc := 142) C dX0_turnAsOne_142 8 rfl ?_
                  refine k_lconst (v := 0) (pc := 144) C dX0_turnAsOne_144 (by decide) ?_
                  refine k_lif_ne (pc := 145) C 186 dX0_turnAsOne_145 dX0_turnAsOne_146 (by decide) (fun q_32 => ?_) (fun q_32 => ?_)
                  · have hw := hw.1 q_32
                    refine k_iconst (v := 0) (pc := 186) C dX0_turnAsOne_186 (by decide) ?_
                    exact hret _ _ _ _ dX0_turnAsOne_187 rfl hw
                  · have hw := hw.2 q_32
                    refine k_lload (pc := 149) C dX0_turnAsOne_149 9 rfl ?_
                    refine k_lconst (v := 0) (pc := 151) C dX0_turnAsOne_151 (by decide) ?_
                    refine k_lif_eq (pc := 152) C 188 dX0_turnAsOne_152 dX0_turnAsOne_153 (by decide) (fun q_33 => ?_) (fun q_33 => ?_)
                    · have hw := hw.1 q_33
                      obtain ⟨x7_34, ex7_34⟩ : ∃ y : Int32, y = v7_1 + 1 := ⟨_, rfl⟩
                      have hw := hw x7_34 ex7_34
                      refine k_iinc (v := x7_34) (j := 5) (pc := 188) C dX0_turnAsOne_188 rfl (by rw [ex7_34]; rfl) (by decide) [(7, .int x7_34), (0, .ref (ad 1 0)), (1, .int a1), (2, .ref (ad 26 (Int32.toNatClampNeg v7_1))), (3, .long v3_27), (5, .long v5_27), (9, .long x9_11), (11, .long x11_16), (13, .long x13_21), (15, .long x15_26)] rfl ?_
                      refine k_goto (pc := 191) C 10 dX0_turnAsOne_191 (by decide) ?_
                      refine k_sub [1, 2, 3, 4, 5, 0] [(0, .ref (ad 1 0)), (1, .int a1), (2, .ref (ad 26 (Int32.toNatClampNeg v7_1))), (3, .long v3_27), (5, .long v5_27), (7, .int x7_34)] rfl ?_
                      exact ih_1 (some (Int32.toNatClampNeg v7_1)) v3_27 v5_27 x7_34 S_27 (Nat.lt_of_lt_of_le hw.2 (Nat.le_of_lt_succ hn_1)) hw.1
                    · have hw := hw.2 q_33
                      refine k_goto (pc := 156) C 186 dX0_turnAsOne_156 (by decide) ?_
                      refine k_iconst (v := 0) (pc := 186) C dX0_turnAsOne_186 (by decide) ?_
                      exact hret _ _ _ _ dX0_turnAsOne_187 rfl hw
              refine k_lif_ne (pc := 106) C 135 dX0_turnAsOne_106 dX0_turnAsOne_107 (by decide) (fun q_35 => ?_) (fun q_35 => ?_)
              · have hw := hw.1 q_35
                refine k_sub [6, 7, 4, 8, 9, 10, 3, 2, 1, 0] [(0, .ref (ad 1 0)), (1, .int a1), (2, .ref (ad 26 (Int32.toNatClampNeg v7_1))), (3, .long v3_1), (5, .long v5_1), (7, .int v7_1), (9, .long x9_11), (11, .long x11_16), (13, .long x13_21), (15, .long x15_26)] rfl ?_
                exact j_27 v3_1 v5_1 S_24 hw
              · have hw := hw.2 q_35
                refine k_lload (pc := 110) C dX0_turnAsOne_110 3 rfl ?_
                refine k_lload (pc := 112) C dX0_turnAsOne_112 3 rfl ?_
                refine k_lmul (pc := 114) C dX0_turnAsOne_114 ?_
                refine k_lload (pc := 115) C dX0_turnAsOne_115 2 rfl ?_
                refine k_lload (pc := 117) C dX0_turnAsOne_117 2 rfl ?_
                refine k_lmul (pc := 119) C dX0_turnAsOne_119 ?_
                refine k_ladd (pc := 120) C dX0_turnAsOne_120 ?_
                refine k_topl (fun x5_36 ex5_36 => ?_)
                have hw := hw x5_36 ex5_36
                refine k_lstore (pc := 121) C dX0_turnAsOne_121 (by decide) [(5, .long x5_36), (15, .long x15_26), (13, .long x13_21), (11, .long x11_16), (9, .long x9_11), (2, .ref (ad 26 (Int32.toNatClampNeg v7_1))), (8, .ref (ad 26 (Int32.toNatClampNeg v7_1))), (0, .ref (ad 1 0)), (1, .int a1), (3, .long v3_1), (7, .int v7_1)] rfl ?_
                refine k_lload (pc := 123) C dX0_turnAsOne_123 1 rfl ?_
                refine k_lload (pc := 125) C dX0_turnAsOne_125 4 rfl ?_
                refine k_lmul (pc := 127) C dX0_turnAsOne_127 ?_
                refine k_lload (pc := 128) C dX0_turnAsOne_128 2 rfl ?_
                refine k_lload (pc := 130) C dX0_turnAsOne_130 3 rfl ?_
                refine k_lmul (pc := 132) C dX0_turnAsOne_132 ?_
                refine k_lsub (pc := 133) C dX0_turnAsOne_133 ?_
                refine k_topl (fun x3_37 ex3_37 => ?_)
                have hw := hw x3_37 ex3_37
                refine k_lstore_n (pc := 134) C dX0_turnAsOne_134 rfl (by decide) [(3, .long x3_37), (5, .long x5_36), (15, .long x15_26), (13, .long x13_21), (11, .long x11_16), (9, .long x9_11), (2, .ref (ad 26 (Int32.toNatClampNeg v7_1))), (8, .ref (ad 26 (Int32.toNatClampNeg v7_1))), (0, .ref (ad 1 0)), (1, .int a1), (7, .int v7_1)] rfl ?_
                refine k_sub [8, 9, 6, 0, 1, 10, 5, 4, 3, 2] [(0, .ref (ad 1 0)), (1, .int a1), (2, .ref (ad 26 (Int32.toNatClampNeg v7_1))), (3, .long x3_37), (5, .long x5_36), (7, .int v7_1), (9, .long x9_11), (11, .long x11_16), (13, .long x13_21), (15, .long x15_26)] rfl ?_
                exact j_27 x3_37 x5_36 S_24 hw
            · have hw := hw.2 j_7 rfl
              refine k_sub [0, 1, 2, 3, 4, 5, 6] [(8, .ref (ad 26 (Int32.toNatClampNeg v7_1))), (0, .ref (ad 1 0)), (1, .int a1), (2, .ref (ad 26 j_7)), (3, .long v3_1), (5, .long v5_1), (7, .int v7_1)] rfl ?_
              refine k_aload_n (pc := 40) C dX0_turnAsOne_40 3 rfl rfl ?_
              refine k_ifnonnull (pc := 41) C 47 dX0_turnAsOne_41 (by decide) ?_
              refine k_aload (pc := 47) C dX0_turnAsOne_47 0 rfl ?_
              refine k_afterI (pc := 49) C (wp_X3_placeX (Int32.toNatClampNeg v7_1) S_1) hw (fun post hw => by
                  rcases kd4 S_1 (Int32.toNatClampNeg v7_1) with h | h | h | h
                  · exact rn_V C (ct_X3_placeX l D cA ad (Int32.toNatClampNeg v7_1) S_1 post hw) (cwV 0 C.2.2.2.2.1 gX0_turnAsOne_X3_placeX rfl rfl rfl (by decide +kernel) ⟨Nat.le_of_ble_eq_true rfl, Nat.le_of_ble_eq_true rfl⟩) (mm_26 g_4) (celM_0 h) rfl rfl rfl rfl (Nat.le_of_ble_eq_true rfl) dX0_turnAsOne_49
                  · exact rn_U C (ct_X3_placeX l D cA ad (Int32.toNatClampNeg v7_1) S_1 post hw) (va_cwU 0 C.2.2.2.2.1 gX0_turnAsOne_X3_placeX_u45X4 rfl rfl rfl rfl (by decide +kernel) ⟨Nat.le_of_ble_eq_true rfl, Nat.le_of_ble_eq_true rfl⟩) (mm_26 g_4) (celM_1 h) rfl rfl rfl rfl (Nat.le_of_ble_eq_true rfl) dX0_turnAsOne_49
                  · exact rn_U C (ct_X3_placeX l D cA ad (Int32.toNatClampNeg v7_1) S_1 post hw) (va_cwU 0 C.2.2.2.2.1 gX0_turnAsOne_X3_placeX_u45X8 rfl rfl rfl rfl (by decide +kernel) ⟨Nat.le_of_ble_eq_true rfl, Nat.le_of_ble_eq_true rfl⟩) (mm_26 g_4) (celM_2 h) rfl rfl rfl rfl (Nat.le_of_ble_eq_true rfl) dX0_turnAsOne_49
                  · exact rn_U C (ct_X3_placeX l D cA ad (Int32.toNatClampNeg v7_1) S_1 post hw) (va_cwU 0 C.2.2.2.2.1 gX0_turnAsOne_X3_placeX_u45X1 rfl rfl rfl rfl (by decide +kernel) ⟨Nat.le_of_ble_eq_true rfl, Nat.le_of_ble_eq_true rfl⟩) (mm_26 g_4) (celM_3 h) rfl rfl rfl rfl (Nat.le_of_ble_eq_true rfl) dX0_turnAsOne_49) (fun r_38 S_38 hw => ?_)
              refine k_aload_n (pc := 52) C dX0_turnAsOne_52 3 rfl rfl ?_
              obtain ⟨h_40, hw⟩ := hw
              refine k_afterI (pc := 53) C (wp_X3_placeX j_7 S_38) hw (fun post hw => by
                  rcases kd4 S_38 j_7 with h | h | h | h
                  · exact rn_V C (ct_X3_placeX l D cA ad j_7 S_38 post hw) (cwV 0 C.2.2.2.2.1 gX0_turnAsOne_X3_placeX rfl rfl rfl (by decide +kernel) ⟨Nat.le_of_ble_eq_true rfl, Nat.le_of_ble_eq_true rfl⟩) (mm_26 h_40) (celM_0 h) rfl rfl rfl rfl (Nat.le_of_ble_eq_true rfl) dX0_turnAsOne_53
                  · exact rn_U C (ct_X3_placeX l D cA ad j_7 S_38 post hw) (va_cwU 0 C.2.2.2.2.1 gX0_turnAsOne_X3_placeX_u45X4 rfl rfl rfl rfl (by decide +kernel) ⟨Nat.le_of_ble_eq_true rfl, Nat.le_of_ble_eq_true rfl⟩) (mm_26 h_40) (celM_1 h) rfl rfl rfl rfl (Nat.le_of_ble_eq_true rfl) dX0_turnAsOne_53
                  · exact rn_U C (ct_X3_placeX l D cA ad j_7 S_38 post hw) (va_cwU 0 C.2.2.2.2.1 gX0_turnAsOne_X3_placeX_u45X8 rfl rfl rfl rfl (by decide +kernel) ⟨Nat.le_of_ble_eq_true rfl, Nat.le_of_ble_eq_true rfl⟩) (mm_26 h_40) (celM_2 h) rfl rfl rfl rfl (Nat.le_of_ble_eq_true rfl) dX0_turnAsOne_53
                  · exact rn_U C (ct_X3_placeX l D cA ad j_7 S_38 post hw) (va_cwU 0 C.2.2.2.2.1 gX0_turnAsOne_X3_placeX_u45X1 rfl rfl rfl rfl (by decide +kernel) ⟨Nat.le_of_ble_eq_true rfl, Nat.le_of_ble_eq_true rfl⟩) (mm_26 h_40) (celM_3 h) rfl rfl rfl rfl (Nat.le_of_ble_eq_true rfl) dX0_turnAsOne_53) (fun r_39 S_39 hw => ?_)
              refine k_isub (pc := 56) C dX0_turnAsOne_56 ?_
              refine k_i2l (pc := 57) C dX0_turnAsOne_57 ?_
              refine k_topl (fun x9_41 ex9_41 => ?_)
              have hw := hw x9_41 ex9_41
              refine k_lstore (pc := 58) C dX0_turnAsOne_58 (by decide) [(9, .long x9_41), (8, .ref (ad 26 (Int32.toNatClampNeg v7_1))), (0, .ref (ad 1 0)), (1, .int a1), (2, .ref (ad 26 j_7)), (3, .long v3_1), (5, .long v5_1), (7, .int v7_1)] rfl ?_
              refine k_aload (pc := 60) C dX0_turnAsOne_60 1 rfl ?_
              obtain ⟨h_43, hw⟩ := hw
              refine k_afterI (pc := 62) C (wp_X3_placeY (Int32.toNatClampNeg v7_1) S_39) hw (fun post hw => by
                  rcases kd4 S_39 (Int32.toNatClampNeg v7_1) with h | h | h | h
                  · exact rn_V C (ct_X3_placeY l D cA ad (Int32.toNatClampNeg v7_1) S_39 post hw) (cwV 0 C.2.2.2.2.1 gX0_turnAsOne_X3_placeY rfl rfl rfl (by decide +kernel) ⟨Nat.le_of_ble_eq_true rfl, Nat.le_of_ble_eq_true rfl⟩) (mm_26 h_43) (celM_0 h) rfl rfl rfl rfl (Nat.le_of_ble_eq_true rfl) dX0_turnAsOne_62
                  · exact rn_U C (ct_X3_placeY l D cA ad (Int32.toNatClampNeg v7_1) S_39 post hw) (va_cwU 0 C.2.2.2.2.1 gX0_turnAsOne_X3_placeY_u51X4 rfl rfl rfl rfl (by decide +kernel) ⟨Nat.le_of_ble_eq_true rfl, Nat.le_of_ble_eq_true rfl⟩) (mm_26 h_43) (celM_1 h) rfl rfl rfl rfl (Nat.le_of_ble_eq_true rfl) dX0_turnAsOne_62
                  · exact rn_U C (ct_X3_placeY l D cA ad (Int32.toNatClampNeg v7_1) S_39 post hw) (va_cwU 0 C.2.2.2.2.1 gX0_turnAsOne_X3_placeY_u51X8 rfl rfl rfl rfl (by decide +kernel) ⟨Nat.le_of_ble_eq_true rfl, Nat.le_of_ble_eq_true rfl⟩) (mm_26 h_43) (celM_2 h) rfl rfl rfl rfl (Nat.le_of_ble_eq_true rfl) dX0_turnAsOne_62
                  · exact rn_U C (ct_X3_placeY l D cA ad (Int32.toNatClampNeg v7_1) S_39 post hw) (va_cwU 0 C.2.2.2.2.1 gX0_turnAsOne_X3_placeY_u51X1 rfl rfl rfl rfl (by decide +kernel) ⟨Nat.le_of_ble_eq_true rfl, Nat.le_of_ble_eq_true rfl⟩) (mm_26 h_43) (celM_3 h) rfl rfl rfl rfl (Nat.le_of_ble_eq_true rfl) dX0_turnAsOne_62) (fun r_42 S_42 hw => ?_)
              refine k_aload_n (pc := 65) C dX0_turnAsOne_65 4 rfl rfl ?_
              obtain ⟨h_45, hw⟩ := hw
              refine k_afterI (pc := 66) C (wp_X3_placeY j_7 S_42) hw (fun post hw => by
                  rcases kd4 S_42 j_7 with h | h | h | h
                  · exact rn_V C (ct_X3_placeY l D cA ad j_7 S_42 post hw) (cwV 0 C.2.2.2.2.1 gX0_turnAsOne_X3_placeY rfl rfl rfl (by decide +kernel) ⟨Nat.le_of_ble_eq_true rfl, Nat.le_of_ble_eq_true rfl⟩) (mm_26 h_45) (celM_0 h) rfl rfl rfl rfl (Nat.le_of_ble_eq_true rfl) dX0_turnAsOne_66
                  · exact rn_U C (ct_X3_placeY l D cA ad j_7 S_42 post hw) (va_cwU 0 C.2.2.2.2.1 gX0_turnAsOne_X3_placeY_u51X4 rfl rfl rfl rfl (by decide +kernel) ⟨Nat.le_of_ble_eq_true rfl, Nat.le_of_ble_eq_true rfl⟩) (mm_26 h_45) (celM_1 h) rfl rfl rfl rfl (Nat.le_of_ble_eq_true rfl) dX0_turnAsOne_66
                  · exact rn_U C (ct_X3_placeY l D cA ad j_7 S_42 post hw) (va_cwU 0 C.2.2.2.2.1 gX0_turnAsOne_X3_placeY_u51X8 rfl rfl rfl rfl (by decide +kernel) ⟨Nat.le_of_ble_eq_true rfl, Nat.le_of_ble_eq_true rfl⟩) (mm_26 h_45) (celM_2 h) rfl rfl rfl rfl (Nat.le_of_ble_eq_true rfl) dX0_turnAsOne_66
                  · exact rn_U C (ct_X3_placeY l D cA ad j_7 S_42 post hw) (va_cwU 0 C.2.2.2.2.1 gX0_turnAsOne_X3_placeY_u51X1 rfl rfl rfl rfl (by decide +kernel) ⟨Nat.le_of_ble_eq_true rfl, Nat.le_of_ble_eq_true rfl⟩) (mm_26 h_45) (celM_3 h) rfl rfl rfl rfl (Nat.le_of_ble_eq_true rfl) dX0_turnAsOne_66) (fun r_44 S_44 hw => ?_)
              refine k_isub (pc := 69) C dX0_turnAsOne_69 ?_
              refine k_i2l (pc := 70) C dX0_turnAsOne_70 ?_
              refine k_topl (fun x11_46 ex11_46 => ?_)
              have hw := hw x11_46 ex11_46
              refine k_lstore (pc := 71) C dX0_turnAsOne_71 (by decide) [(11, .long x11_46), (9, .long x9_41), (8, .ref (ad 26 (Int32.toNatClampNeg v7_1))), (0, .ref (ad 1 0)), (1, .int a1), (2, .ref (ad 26 j_7)), (3, .long v3_1), (5, .long v5_1), (7, .int v7_1)] rfl ?_
              refine k_aload (pc := 73) C dX0_turnAsOne_73 2 rfl ?_
              refine k_iconst (v := 0) (pc := 75) C dX0_turnAsOne_75 (by decide) ?_
              obtain ⟨h_48, hw⟩ := hw
              refine k_afterI (pc := 76) C (wp_X3_speed (Int32.toNatClampNeg v7_1) 0 S_44) hw (fun post hw => by
                  rcases kd4 S_44 (Int32.toNatClampNeg v7_1) with h | h | h | h
                  · exact rn_V C (ct_X3_speed l D cA ad (Int32.toNatClampNeg v7_1) 0 S_44 post hw) (cwV 1 C.2.2.2.2.1 gX0_turnAsOne_X3_speed rfl rfl rfl (by decide +kernel) ⟨Nat.le_of_ble_eq_true rfl, Nat.le_of_ble_eq_true rfl⟩) (mm_26 h_48) (celM_0 h) rfl rfl rfl rfl (Nat.le_of_ble_eq_true rfl) dX0_turnAsOne_76
                  · exact rn_U C (ct_X3_speed l D cA ad (Int32.toNatClampNeg v7_1) 0 S_44 post hw) (va_cwU 1 C.2.2.2.2.1 gX0_turnAsOne_X3_speed_u54X4 rfl rfl rfl rfl (by decide +kernel) ⟨Nat.le_of_ble_eq_true rfl, Nat.le_of_ble_eq_true rfl⟩) (mm_26 h_48) (celM_1 h) rfl rfl rfl rfl (Nat.le_of_ble_eq_true rfl) dX0_turnAsOne_76
                  · exact rn_U C (ct_X3_speed l D cA ad (Int32.toNatClampNeg v7_1) 0 S_44 post hw) (va_cwU 1 C.2.2.2.2.1 gX0_turnAsOne_X3_speed_u54X8 rfl rfl rfl rfl (by decide +kernel) ⟨Nat.le_of_ble_eq_true rfl, Nat.le_of_ble_eq_true rfl⟩) (mm_26 h_48) (celM_2 h) rfl rfl rfl rfl (Nat.le_of_ble_eq_true rfl) dX0_turnAsOne_76
                  · exact rn_U C (ct_X3_speed l D cA ad (Int32.toNatClampNeg v7_1) 0 S_44 post hw) (va_cwU 1 C.2.2.2.2.1 gX0_turnAsOne_X3_speed_u54X1 rfl rfl rfl rfl (by decide +kernel) ⟨Nat.le_of_ble_eq_true rfl, Nat.le_of_ble_eq_true rfl⟩) (mm_26 h_48) (celM_3 h) rfl rfl rfl rfl (Nat.le_of_ble_eq_true rfl) dX0_turnAsOne_76) (fun r_47 S_47 hw => ?_)
              refine k_aload_n (pc := 79) C dX0_turnAsOne_79 5 rfl rfl ?_
              refine k_iconst (v := 0) (pc := 80) C dX0_turnAsOne_80 (by decide) ?_
              obtain ⟨h_50, hw⟩ := hw
              refine k_afterI (pc := 81) C (wp_X3_speed j_7 0 S_47) hw (fun post hw => by
                  rcases kd4 S_47 j_7 with h | h | h | h
                  · exact rn_V C (ct_X3_speed l D cA ad j_7 0 S_47 post hw) (cwV 1 C.2.2.2.2.1 gX0_turnAsOne_X3_speed rfl rfl rfl (by decide +kernel) ⟨Nat.le_of_ble_eq_true rfl, Nat.le_of_ble_eq_true rfl⟩) (mm_26 h_50) (celM_0 h) rfl rfl rfl rfl (Nat.le_of_ble_eq_true rfl) dX0_turnAsOne_81
                  · exact rn_U C (ct_X3_speed l D cA ad j_7 0 S_47 post hw) (va_cwU 1 C.2.2.2.2.1 gX0_turnAsOne_X3_speed_u54X4 rfl rfl rfl rfl (by decide +kernel) ⟨Nat.le_of_ble_eq_true rfl, Nat.le_of_ble_eq_true rfl⟩) (mm_26 h_50) (celM_1 h) rfl rfl rfl rfl (Nat.le_of_ble_eq_true rfl) dX0_turnAsOne_81
                  · exact rn_U C (ct_X3_speed l D cA ad j_7 0 S_47 post hw) (va_cwU 1 C.2.2.2.2.1 gX0_turnAsOne_X3_speed_u54X8 rfl rfl rfl rfl (by decide +kernel) ⟨Nat.le_of_ble_eq_true rfl, Nat.le_of_ble_eq_true rfl⟩) (mm_26 h_50) (celM_2 h) rfl rfl rfl rfl (Nat.le_of_ble_eq_true rfl) dX0_turnAsOne_81
                  · exact rn_U C (ct_X3_speed l D cA ad j_7 0 S_47 post hw) (va_cwU 1 C.2.2.2.2.1 gX0_turnAsOne_X3_speed_u54X1 rfl rfl rfl rfl (by decide +kernel) ⟨Nat.le_of_ble_eq_true rfl, Nat.le_of_ble_eq_true rfl⟩) (mm_26 h_50) (celM_3 h) rfl rfl rfl rfl (Nat.le_of_ble_eq_true rfl) dX0_turnAsOne_81) (fun r_49 S_49 hw => ?_)
              refine k_isub (pc := 84) C dX0_turnAsOne_84 ?_
              refine k_i2l (pc := 85) C dX0_turnAsOne_85 ?_
              refine k_topl (fun x13_51 ex13_51 => ?_)
              have hw := hw x13_51 ex13_51
              refine k_lstore (pc := 86) C dX0_turnAsOne_86 (by decide) [(13, .long x13_51), (11, .long x11_46), (9, .long x9_41), (8, .ref (ad 26 (Int32.toNatClampNeg v7_1))), (0, .ref (ad 1 0)), (1, .int a1), (2, .ref (ad 26 j_7)), (3, .long v3_1), (5, .long v5_1), (7, .int v7_1)] rfl ?_
              refine k_aload (pc := 88) C dX0_turnAsOne_88 3 rfl ?_
              refine k_iconst (v := 1) (pc := 90) C dX0_turnAsOne_90 (by decide) ?_
              obtain ⟨h_53, hw⟩ := hw
              refine k_afterI (pc := 91) C (wp_X3_speed (Int32.toNatClampNeg v7_1) 1 S_49) hw (fun post hw => by
                  rcases kd4 S_49 (Int32.toNatClampNeg v7_1) with h | h | h | h
                  · exact rn_V C (ct_X3_speed l D cA ad (Int32.toNatClampNeg v7_1) 1 S_49 post hw) (cwV 1 C.2.2.2.2.1 gX0_turnAsOne_X3_speed rfl rfl rfl (by decide +kernel) ⟨Nat.le_of_ble_eq_true rfl, Nat.le_of_ble_eq_true rfl⟩) (mm_26 h_53) (celM_0 h) rfl rfl rfl rfl (Nat.le_of_ble_eq_true rfl) dX0_turnAsOne_91
                  · exact rn_U C (ct_X3_speed l D cA ad (Int32.toNatClampNeg v7_1) 1 S_49 post hw) (va_cwU 1 C.2.2.2.2.1 gX0_turnAsOne_X3_speed_u54X4 rfl rfl rfl rfl (by decide +kernel) ⟨Nat.le_of_ble_eq_true rfl, Nat.le_of_ble_eq_true rfl⟩) (mm_26 h_53) (celM_1 h) rfl rfl rfl rfl (Nat.le_of_ble_eq_true rfl) dX0_turnAsOne_91
                  · exact rn_U C (ct_X3_speed l D cA ad (Int32.toNatClampNeg v7_1) 1 S_49 post hw) (va_cwU 1 C.2.2.2.2.1 gX0_turnAsOne_X3_speed_u54X8 rfl rfl rfl rfl (by decide +kernel) ⟨Nat.le_of_ble_eq_true rfl, Nat.le_of_ble_eq_true rfl⟩) (mm_26 h_53) (celM_2 h) rfl rfl rfl rfl (Nat.le_of_ble_eq_true rfl) dX0_turnAsOne_91
                  · exact rn_U C (ct_X3_speed l D cA ad (Int32.toNatClampNeg v7_1) 1 S_49 post hw) (va_cwU 1 C.2.2.2.2.1 gX0_turnAsOne_X3_speed_u54X1 rfl rfl rfl rfl (by decide +kernel) ⟨Nat.le_of_ble_eq_true rfl, Nat.le_of_ble_eq_true rfl⟩) (mm_26 h_53) (celM_3 h) rfl rfl rfl rfl (Nat.le_of_ble_eq_true rfl) dX0_turnAsOne_91) (fun r_52 S_52 hw => ?_)
              refine k_aload_n (pc := 94) C dX0_turnAsOne_94 6 rfl rfl ?_
              refine k_iconst (v := 1) (pc := 95) C dX0_turnAsOne_95 (by decide) ?_
              obtain ⟨h_55, hw⟩ := hw
              refine k_afterI (pc := 96) C (wp_X3_speed j_7 1 S_52) hw (fun post hw => by
                  rcases kd4 S_52 j_7 with h | h | h | h
                  · exact rn_V C (ct_X3_speed l D cA ad j_7 1 S_52 post hw) (cwV 1 C.2.2.2.2.1 gX0_turnAsOne_X3_speed rfl rfl rfl (by decide +kernel) ⟨Nat.le_of_ble_eq_true rfl, Nat.le_of_ble_eq_true rfl⟩) (mm_26 h_55) (celM_0 h) rfl rfl rfl rfl (Nat.le_of_ble_eq_true rfl) dX0_turnAsOne_96
                  · exact rn_U C (ct_X3_speed l D cA ad j_7 1 S_52 post hw) (va_cwU 1 C.2.2.2.2.1 gX0_turnAsOne_X3_speed_u54X4 rfl rfl rfl rfl (by decide +kernel) ⟨Nat.le_of_ble_eq_true rfl, Nat.le_of_ble_eq_true rfl⟩) (mm_26 h_55) (celM_1 h) rfl rfl rfl rfl (Nat.le_of_ble_eq_true rfl) dX0_turnAsOne_96
                  · exact rn_U C (ct_X3_speed l D cA ad j_7 1 S_52 post hw) (va_cwU 1 C.2.2.2.2.1 gX0_turnAsOne_X3_speed_u54X8 rfl rfl rfl rfl (by decide +kernel) ⟨Nat.le_of_ble_eq_true rfl, Nat.le_of_ble_eq_true rfl⟩) (mm_26 h_55) (celM_2 h) rfl rfl rfl rfl (Nat.le_of_ble_eq_true rfl) dX0_turnAsOne_96
                  · exact rn_U C (ct_X3_speed l D cA ad j_7 1 S_52 post hw) (va_cwU 1 C.2.2.2.2.1 gX0_turnAsOne_X3_speed_u54X1 rfl rfl rfl rfl (by decide +kernel) ⟨Nat.le_of_ble_eq_true rfl, Nat.le_of_ble_eq_true rfl⟩) (mm_26 h_55) (celM_3 h) rfl rfl rfl rfl (Nat.le_of_ble_eq_true rfl) dX0_turnAsOne_96) (fun r_54 S_54 hw => ?_)
              refine k_isub (pc := 99) C dX0_turnAsOne_99 ?_
              refine k_i2l (pc := 100) C dX0_turnAsOne_100 ?_
              refine k_topl (fun x15_56 ex15_56 => ?_)
              have hw := hw x15_56 ex15_56
              refine k_lstore (pc := 101) C dX0_turnAsOne_101 (by decide) [(15, .long x15_56), (13, .long x13_51), (11, .long x11_46), (9, .long x9_41), (8, .ref (ad 26 (Int32.toNatClampNeg v7_1))), (0, .ref (ad 1 0)), (1, .int a1), (2, .ref (ad 26 j_7)), (3, .long v3_1), (5, .long v5_1), (7, .int v7_1)] rfl ?_
              refine k_lload (pc := 103) C dX0_turnAsOne_103 9 rfl ?_
              refine k_lconst (v := 0) (pc := 105) C dX0_turnAsOne_105 (by decide) ?_
              obtain ⟨J_57, hj_57, hw⟩ := hw
              have j_57 : ∀ (v3_57 : Int64) (v5_57 : Int64) (S_57 : Sg), J_57 v3_57 v5_57 S_57 → KK p l e (mkR 1 21) s m args below meth c 17 D cA ad A Q 135 [(0, .ref (ad 1 0)), (1, .int a1), (2, .ref (ad 26 j_7)), (3, .long v3_57), (5, .long v5_57), (7, .int v7_1), (9, .long x9_41), (11, .long x11_46), (13, .long x13_51), (15, .long x15_56)] [] S_57 := by
                intro v3_57 v5_57 S_57 hw
                have hw := hj_57 v3_57 v5_57 S_57 hw
                refine k_lload (pc := 135) C dX0_turnAsOne_135 4 rfl ?_
                refine k_lconst (v := 0) (pc := 137) C dX0_turnAsOne_137 (by decide) ?_
                refine k_lif_ne (pc := 138) C 159 dX0_turnAsOne_138 dX0_turnAsOne_139 (by decide) (fun q_58 => ?_) (fun q_58 => ?_)
                · have hw := hw.1 q_58
                  refine k_lload (pc := 159) C dX0_turnAsOne_159 8 rfl ?_
                  refine k_lload (pc := 161) C dX0_turnAsOne_161 4 rfl ?_
                  refine k_lmul (pc := 163) C dX0_turnAsOne_163 ?_
                  refine k_lload_n (pc := 164) C dX0_turnAsOne_164 3 rfl rfl ?_
                  refine k_lneg (pc := 165) C dX0_turnAsOne_165 ?_
                  refine k_lload (pc := 166) C dX0_turnAsOne_166 7 rfl ?_
                  refine k_lmul (pc := 168) C dX0_turnAsOne_168 ?_
                  refine k_lif_ne (pc := 169) C 186 dX0_turnAsOne_169 dX0_turnAsOne_170 (by decide) (fun q_59 => ?_) (fun q_59 => ?_)
                  · have hw := hw.1 q_59
                    refine k_iconst (v := 0) (pc := 186) C dX0_turnAsOne_186 (by decide) ?_
                    exact hret _ _ _ _ dX0_turnAsOne_187 rfl hw
                  · have hw := hw.2 q_59
                    refine k_lload (pc := 173) C dX0_turnAsOne_173 9 rfl ?_
                    refine k_lload (pc := 175) C dX0_turnAsOne_175 4 rfl ?_
                    refine k_lmul (pc := 177) C dX0_turnAsOne_177 ?_
                    refine k_lload_n (pc := 178) C dX0_turnAsOne_178 3 rfl rfl ?_
                    refine k_lload (pc := 179) C dX0_turnAsOne_179 6 rfl ?_
                    refine k_lmul (pc := 181) C dX0_turnAsOne_181 ?_
                    refine k_lif_eq (pc := 182) C 188 dX0_turnAsOne_182 dX0_turnAsOne_183 (by decide) (fun q_60 => ?_) (fun q_60 => ?_)
                    · have hw := hw.1 q_60
                      obtain ⟨x7_61, ex7_61⟩ : ∃ y : Int32, y = v7_1 + 1 := ⟨_, rfl⟩
                      have hw := hw x7_61 ex7_61
                      refine k_iinc (v := x7_61) (j := 5) (pc := 188) C dX0_turnAsOne_188 rfl (by rw [ex7_61]; rfl) (by decide) [(7, .int x7_61), (0, .ref (ad 1 0)), (1, .int a1), (2, .ref (ad 26 j_7)), (3, .long v3_57), (5, .long v5_57), (9, .long x9_41), (11, .long x11_46), (13, .long x13_51), (15, .long x15_56)] rfl ?_
                      refine k_goto (pc := 191) C 10 dX0_turnAsOne_191 (by decide) ?_
                      refine k_sub [1, 2, 3, 4, 5, 0] [(0, .ref (ad 1 0)), (1, .int a1), (2, .ref (ad 26 j_7)), (3, .long v3_57), (5, .long v5_57), (7, .int x7_61)] rfl ?_
                      exact ih_1 (some j_7) v3_57 v5_57 x7_61 S_57 (Nat.lt_of_lt_of_le hw.2 (Nat.le_of_lt_succ hn_1)) hw.1
                    · have hw := hw.2 q_60
                      refine k_iconst (v := 0) (pc := 186) C dX0_turnAsOne_186 (by decide) ?_
                      exact hret _ _ _ _ dX0_turnAsOne_187 rfl hw
                · have hw := hw.2 q_58
                  refine k_lload (pc := 142) C dX0_turnAsOne_142 8 rfl ?_
                  refine k_lconst (v := 0) (pc := 144) C dX0_turnAsOne_144 (by decide) ?_
                  refine k_lif_ne (pc := 145) C 186 dX0_turnAsOne_145 dX0_turnAsOne_146 (by decide) (fun q_62 => ?_) (fun q_62 => ?_)
                  · have hw := hw.1 q_62
                    refine k_iconst (v := 0) (pc := 186) C dX0_turnAsOne_186 (by decide) ?_
                    exact hret _ _ _ _ dX0_turnAsOne_187 rfl hw
                  · have hw := hw.2 q_62
                    refine k_lload (pc := 149) C dX0_turnAsOne_149 9 rfl ?_
                    refine k_lconst (v := 0) (pc := 151) C dX0_turnAsOne_151 (by decide) ?_
                    refine k_lif_eq (pc := 152) C 188 dX0_turnAsOne_152 dX0_turnAsOne_153 (by decide) (fun q_63 => ?_) (fun q_63 => ?_)
                    · have hw := hw.1 q_63
                      obtain ⟨x7_64, ex7_64⟩ : ∃ y : Int32, y = v7_1 + 1 := ⟨_, rfl⟩
                      have hw := hw x7_64 ex7_64
                      refine k_iinc (v := x7_64) (j := 5) (pc := 188) C dX0_turnAsOne_188 rfl (by rw [ex7_64]; rfl) (by decide) [(7, .int x7_64), (0, .ref (ad 1 0)), (1, .int a1), (2, .ref (ad 26 j_7)), (3, .long v3_57), (5, .long v5_57), (9, .long x9_41), (11, .long x11_46), (13, .long x13_51), (15, .long x15_56)] rfl ?_
                      refine k_goto (pc := 191) C 10 dX0_turnAsOne_191 (by decide) ?_
                      refine k_sub [1, 2, 3, 4, 5, 0] [(0, .ref (ad 1 0)), (1, .int a1), (2, .ref (ad 26 j_7)), (3, .long v3_57), (5, .long v5_57), (7, .int x7_64)] rfl ?_
                      exact ih_1 (some j_7) v3_57 v5_57 x7_64 S_57 (Nat.lt_of_lt_of_le hw.2 (Nat.le_of_lt_succ hn_1)) hw.1
                    · have hw := hw.2 q_63
                      refine k_goto (pc := 156) C 186 dX0_turnAsOne_156 (by decide) ?_
                      refine k_iconst (v := 0) (pc := 186) C dX0_turnAsOne_186 (by decide) ?_
                      exact hret _ _ _ _ dX0_turnAsOne_187 rfl hw
              refine k_lif_ne (pc := 106) C 135 dX0_turnAsOne_106 dX0_turnAsOne_107 (by decide) (fun q_65 => ?_) (fun q_65 => ?_)
              · have hw := hw.1 q_65
                refine k_sub [5, 6, 7, 8, 9, 10, 3, 2, 1, 0] [(0, .ref (ad 1 0)), (1, .int a1), (2, .ref (ad 26 j_7)), (3, .long v3_1), (5, .long v5_1), (7, .int v7_1), (9, .long x9_41), (11, .long x11_46), (13, .long x13_51), (15, .long x15_56)] rfl ?_
                exact j_57 v3_1 v5_1 S_54 hw
              · have hw := hw.2 q_65
                refine k_lload (pc := 110) C dX0_turnAsOne_110 3 rfl ?_
                refine k_lload (pc := 112) C dX0_turnAsOne_112 3 rfl ?_
                refine k_lmul (pc := 114) C dX0_turnAsOne_114 ?_
                refine k_lload (pc := 115) C dX0_turnAsOne_115 2 rfl ?_
                refine k_lload (pc := 117) C dX0_turnAsOne_117 2 rfl ?_
                refine k_lmul (pc := 119) C dX0_turnAsOne_119 ?_
                refine k_ladd (pc := 120) C dX0_turnAsOne_120 ?_
                refine k_topl (fun x5_66 ex5_66 => ?_)
                have hw := hw x5_66 ex5_66
                refine k_lstore (pc := 121) C dX0_turnAsOne_121 (by decide) [(5, .long x5_66), (15, .long x15_56), (13, .long x13_51), (11, .long x11_46), (9, .long x9_41), (8, .ref (ad 26 (Int32.toNatClampNeg v7_1))), (0, .ref (ad 1 0)), (1, .int a1), (2, .ref (ad 26 j_7)), (3, .long v3_1), (7, .int v7_1)] rfl ?_
                refine k_lload (pc := 123) C dX0_turnAsOne_123 1 rfl ?_
                refine k_lload (pc := 125) C dX0_turnAsOne_125 4 rfl ?_
                refine k_lmul (pc := 127) C dX0_turnAsOne_127 ?_
                refine k_lload (pc := 128) C dX0_turnAsOne_128 2 rfl ?_
                refine k_lload (pc := 130) C dX0_turnAsOne_130 3 rfl ?_
                refine k_lmul (pc := 132) C dX0_turnAsOne_132 ?_
                refine k_lsub (pc := 133) C dX0_turnAsOne_133 ?_
                refine k_topl (fun x3_67 ex3_67 => ?_)
                have hw := hw x3_67 ex3_67
                refine k_lstore_n (pc := 134) C dX0_turnAsOne_134 rfl (by decide) [(3, .long x3_67), (5, .long x5_66), (15, .long x15_56), (13, .long x13_51), (11, .long x11_46), (9, .long x9_41), (8, .ref (ad 26 (Int32.toNatClampNeg v7_1))), (0, .ref (ad 1 0)), (1, .int a1), (2, .ref (ad 26 j_7)), (7, .int v7_1)] rfl ?_
                refine k_sub [7, 8, 9, 0, 1, 10, 5, 4, 3, 2] [(0, .ref (ad 1 0)), (1, .int a1), (2, .ref (ad 26 j_7)), (3, .long x3_67), (5, .long x5_66), (7, .int v7_1), (9, .long x9_41), (11, .long x11_46), (13, .long x13_51), (15, .long x15_56)] rfl ?_
                exact j_57 x3_67 x5_66 S_54 hw
        · have hw := hw.2 g_4
          refine k_astoreN (pc := 21) C dX0_turnAsOne_21 (by decide) [(8, .null), (0, .ref (ad 1 0)), (1, .int a1), (2, (va_rf (Option.map (fun j => ad 26 j) v2_1))), (3, .long v3_1), (5, .long v5_1), (7, .int v7_1)] rfl ?_
          refine k_iload_n (pc := 23) C dX0_turnAsOne_23 2 rfl rfl ?_
          refine k_iload (pc := 24) C dX0_turnAsOne_24 6 rfl ?_
          refine k_ishr (pc := 26) C dX0_turnAsOne_26 ?_
          refine k_iconst (v := 1) (pc := 27) C dX0_turnAsOne_27 (by decide) ?_
          refine k_iand (pc := 28) C dX0_turnAsOne_28 ?_
          refine k_if_eq (pc := 29) C 188 dX0_turnAsOne_29 (by decide) (fun q_68 => ?_) (fun q_68 => ?_)
          · have hw := hw.1 q_68
            obtain ⟨x7_69, ex7_69⟩ : ∃ y : Int32, y = v7_1 + 1 := ⟨_, rfl⟩
            have hw := hw x7_69 ex7_69
            refine k_iinc (v := x7_69) (j := 6) (pc := 188) C dX0_turnAsOne_188 rfl (by rw [ex7_69]; rfl) (by decide) [(7, .int x7_69), (8, .null), (0, .ref (ad 1 0)), (1, .int a1), (2, (va_rf (Option.map (fun j => ad 26 j) v2_1))), (3, .long v3_1), (5, .long v5_1)] rfl ?_
            refine k_goto (pc := 191) C 10 dX0_turnAsOne_191 (by decide) ?_
            refine k_sub [2, 3, 4, 5, 6, 0] [(0, .ref (ad 1 0)), (1, .int a1), (2, (va_rf (Option.map (fun j => ad 26 j) v2_1))), (3, .long v3_1), (5, .long v5_1), (7, .int x7_69)] rfl ?_
            exact ih_1 v2_1 v3_1 v5_1 x7_69 S_1 (Nat.lt_of_lt_of_le hw.2 (Nat.le_of_lt_succ hn_1)) hw.1
          · have hw := hw.2 q_68
            refine k_aloadN (pc := 32) C dX0_turnAsOne_32 0 rfl ?_
            refine k_ifnonnullN (pc := 34) C dX0_turnAsOne_34 ?_
            refine k_goto (pc := 37) C 188 dX0_turnAsOne_37 (by decide) ?_
            obtain ⟨x7_70, ex7_70⟩ : ∃ y : Int32, y = v7_1 + 1 := ⟨_, rfl⟩
            have hw := hw x7_70 ex7_70
            refine k_iinc (v := x7_70) (j := 6) (pc := 188) C dX0_turnAsOne_188 rfl (by rw [ex7_70]; rfl) (by decide) [(7, .int x7_70), (8, .null), (0, .ref (ad 1 0)), (1, .int a1), (2, (va_rf (Option.map (fun j => ad 26 j) v2_1))), (3, .long v3_1), (5, .long v5_1)] rfl ?_
            refine k_goto (pc := 191) C 10 dX0_turnAsOne_191 (by decide) ?_
            refine k_sub [2, 3, 4, 5, 6, 0] [(0, .ref (ad 1 0)), (1, .int a1), (2, (va_rf (Option.map (fun j => ad 26 j) v2_1))), (3, .long v3_1), (5, .long v5_1), (7, .int x7_70)] rfl ?_
            exact ih_1 v2_1 v3_1 v5_1 x7_70 S_1 (Nat.lt_of_lt_of_le hw.2 (Nat.le_of_lt_succ hn_1)) hw.1
  exact L_1 (μ_1 none 0 0 0 S + 1) none 0 0 0 S (Nat.lt_succ_self _) hi_1
def wp_X0_tellTurns (a2 : Int32) (S : Sg) (Q : Sg → Prop) : Prop :=
  (vp_in 0 1024 ∧ (∀ S_2 : Sg, S_2 = uA S 7 0 (Int32.toNatClampNeg 0) (vp_nar .boolean 1) → (∃ (I_3 : Int32 → Sg → Prop) (μ_3 : Int32 → Sg → Nat), I_3 1 S_2 ∧ ∀ (v3_3 : Int32) (S_3 : Sg), I_3 v3_3 S_3 → ((a2 < v3_3 → Q S_3) ∧ (¬ a2 < v3_3 → (vp_in (v3_3 &&& (v3_3 - 1)) 1024 ∧ (((gA S_3 7 0 (Int32.toNatClampNeg (v3_3 &&& (v3_3 - 1)))) = 0 → (vp_in v3_3 1024 ∧ (∀ S_8 : Sg, S_8 = uA S_3 7 0 (Int32.toNatClampNeg v3_3) (vp_nar .boolean 0) → (∀ x3_9 : Int32, x3_9 = v3_3 + 1 → (I_3 x3_9 S_8 ∧ μ_3 x3_9 S_8 < μ_3 v3_3 S_3))))) ∧ (¬ (gA S_3 7 0 (Int32.toNatClampNeg (v3_3 &&& (v3_3 - 1)))) = 0 → wp_X0_turnAsOne v3_3 S_3 (fun r_10 S_10 => ((r_10 = 0 → (vp_in v3_3 1024 ∧ (∀ S_13 : Sg, S_13 = uA S_10 7 0 (Int32.toNatClampNeg v3_3) (vp_nar .boolean 0) → (∀ x3_14 : Int32, x3_14 = v3_3 + 1 → (I_3 x3_14 S_13 ∧ μ_3 x3_14 S_13 < μ_3 v3_3 S_3))))) ∧ (¬ r_10 = 0 → (vp_in v3_3 1024 ∧ (∀ S_16 : Sg, S_16 = uA S_10 7 0 (Int32.toNatClampNeg v3_3) (vp_nar .boolean 1) → (∀ x3_17 : Int32, x3_17 = v3_3 + 1 → (I_3 x3_17 S_16 ∧ μ_3 x3_17 S_16 < μ_3 v3_3 S_3)))))))))))))))
set_option maxHeartbeats 4000000 in
set_option maxRecDepth 100000 in
theorem ct_X0_tellTurns (l : Launch) (D : va_G) (cA : Nat → ClassId) (ad : Nat → Nat → Nat) (a2 : Int32) (S : Sg) (Q : Sg → Prop) (hw : wp_X0_tellTurns a2 S Q) : CtV l yX0_tellTurns wsX0_tellTurns (mkR 2 57) D cA ad [.ref (ad 6 0), .ref (ad 1 0), .int a2] S Q := by
  refine ct_ofV (cc := cX0_tellTurns) (nL := 4) (by decide) rfl (Nat.le_of_ble_eq_true rfl) ?_
  intro p e s m args below meth c A Q C hret
  unfold wp_X0_tellTurns at hw
  have C : Cx p s m args c cX0_tellTurns 4 wsX0_tellTurns RX0 D cA A := C
  have hin0 : ∀ w ∈ u_ws RX0 TX0 6, w ∈ wsX0_tellTurns := fun w h => List.mem_cons_of_mem _ (List.mem_append_left _ (List.mem_append_left _ (List.mem_append_left _ (List.mem_append_left _ (List.mem_append_right _ h)))))
  have f9 : Cond.fieldLink RX0 9 "CreepBoard$BlockFinder" "turns" "[Z" ∈ wsX0_tellTurns := by decide +kernel
  change KK p l e (mkR 2 57) s m args below meth c 4 D cA ad A Q 0 [(0, .ref (ad 6 0)), (1, .ref (ad 1 0)), (2, .int a2)] [] S
  refine k_aload_n (pc := 0) C dX0_tellTurns_0 0 rfl rfl ?_
  refine k_get (j := 0) (pc := 1) C hin0 hm_6 (cel_6 cA ad S 0) rfl (by decide) f9 (fun _ h => h) rfl dX0_tellTurns_1 ?_
  refine k_iconst (v := 0) (pc := 4) C dX0_tellTurns_4 (by decide) ?_
  refine k_iconst (v := 1) (pc := 5) C dX0_tellTurns_5 (by decide) ?_
  obtain ⟨h_1, hw⟩ := hw
  refine k_zast (pc := 6) C hm_7 (fun S => cel_7 cA ad S 0) h_1 dX0_tellTurns_6 ?_
  refine k_nameS (fun S_2 eS_2 => ?_)
  have hw := hw S_2 eS_2
  refine k_iconst (v := 1) (pc := 7) C dX0_tellTurns_7 (by decide) ?_
  refine k_istore_n (pc := 8) C dX0_tellTurns_8 rfl (by decide) [(3, .int 1), (0, .ref (ad 6 0)), (1, .ref (ad 1 0)), (2, .int a2)] rfl ?_
  refine k_sub [1, 2, 3, 0] [(0, .ref (ad 6 0)), (1, .ref (ad 1 0)), (2, .int a2), (3, .int 1)] rfl ?_
  obtain ⟨I_3, μ_3, hi_3, hw⟩ := hw
  have L_3 : ∀ (n : Nat) (v3_3 : Int32) (S_3 : Sg), μ_3 v3_3 S_3 < n → I_3 v3_3 S_3 → KK p l e (mkR 2 57) s m args below meth c 4 D cA ad A Q 9 [(0, .ref (ad 6 0)), (1, .ref (ad 1 0)), (2, .int a2), (3, .int v3_3)] [] S_3 := by
    intro n
    induction n with
    | zero => intro v3_3 S_3 h; exact absurd h (Nat.not_lt_zero _)
    | succ n ih_3 =>
      intro v3_3 S_3 hn_3 hi_3
      have hw := hw v3_3 S_3 hi_3
      refine k_iload_n (pc := 9) C dX0_tellTurns_9 3 rfl rfl ?_
      refine k_iload_n (pc := 10) C dX0_tellTurns_10 2 rfl rfl ?_
      refine k_icmp_gt (pc := 11) C 52 dX0_tellTurns_11 (by decide) (fun q_4 => ?_) (fun q_4 => ?_)
      · have hw := hw.1 q_4
        exact hret _ _ _ dX0_tellTurns_52 hw
      · have hw := hw.2 q_4
        refine k_aload_n (pc := 14) C dX0_tellTurns_14 0 rfl rfl ?_
        refine k_get (j := 0) (pc := 15) C hin0 hm_6 (cel_6 cA ad S_3 0) rfl (by decide) f9 (fun _ h => h) rfl dX0_tellTurns_15 ?_
        refine k_iload_n (pc := 18) C dX0_tellTurns_18 3 rfl rfl ?_
        refine k_aload_n (pc := 19) C dX0_tellTurns_19 0 rfl rfl ?_
        refine k_get (j := 0) (pc := 20) C hin0 hm_6 (cel_6 cA ad S_3 0) rfl (by decide) f9 (fun _ h => h) rfl dX0_tellTurns_20 ?_
        refine k_iload_n (pc := 23) C dX0_tellTurns_23 3 rfl rfl ?_
        refine k_iload_n (pc := 24) C dX0_tellTurns_24 3 rfl rfl ?_
        refine k_iconst (v := 1) (pc := 25) C dX0_tellTurns_25 (by decide) ?_
        refine k_isub (pc := 26) C dX0_tellTurns_26 ?_
        refine k_iand (pc := 27) C dX0_tellTurns_27 ?_
        obtain ⟨h_5, hw⟩ := hw
        refine k_zald (pc := 28) C hm_7 (cel_7 cA ad S_3 0) h_5 dX0_tellTurns_28 ?_
        refine k_if_eq (pc := 29) C 44 dX0_tellTurns_29 (by decide) (fun q_6 => ?_) (fun q_6 => ?_)
        · have hw := hw.1 q_6
          refine k_iconst (v := 0) (pc := 44) C dX0_tellTurns_44 (by decide) ?_
          obtain ⟨h_7, hw⟩ := hw
          refine k_zast (pc := 45) C hm_7 (fun S => cel_7 cA ad S 0) h_7 dX0_tellTurns_45 ?_
          refine k_nameS (fun S_8 eS_8 => ?_)
          have hw := hw S_8 eS_8
          obtain ⟨x3_9, ex3_9⟩ : ∃ y : Int32, y = v3_3 + 1 := ⟨_, rfl⟩
          have hw := hw x3_9 ex3_9
          refine k_iinc (v := x3_9) (j := 3) (pc := 46) C dX0_tellTurns_46 rfl (by rw [ex3_9]; rfl) (by decide) [(3, .int x3_9), (0, .ref (ad 6 0)), (1, .ref (ad 1 0)), (2, .int a2)] rfl ?_
          refine k_goto (pc := 49) C 9 dX0_tellTurns_49 (by decide) ?_
          refine k_sub [1, 2, 3, 0] [(0, .ref (ad 6 0)), (1, .ref (ad 1 0)), (2, .int a2), (3, .int x3_9)] rfl ?_
          exact ih_3 x3_9 S_8 (Nat.lt_of_lt_of_le hw.2 (Nat.le_of_lt_succ hn_3)) hw.1
        · have hw := hw.2 q_6
          refine k_aload_n (pc := 32) C dX0_tellTurns_32 1 rfl rfl ?_
          refine k_iload_n (pc := 33) C dX0_tellTurns_33 3 rfl rfl ?_
          refine k_afterI (pc := 34) C (wp_X0_turnAsOne v3_3 S_3) hw (fun post hw => by
              exact rn_S C (ct_X0_turnAsOne l D cA ad v3_3 S_3 post hw) (va_cwS 2 C.2.2.2.2.1 gX0_tellTurns_X0_turnAsOne rfl rfl rfl (by decide +kernel) ⟨Nat.le_of_ble_eq_true rfl, Nat.le_of_ble_eq_true rfl⟩) rfl rfl (Nat.le_of_ble_eq_true rfl) dX0_tellTurns_34) (fun r_10 S_10 hw => ?_)
          refine k_if_eq (pc := 37) C 44 dX0_tellTurns_37 (by decide) (fun q_11 => ?_) (fun q_11 => ?_)
          · have hw := hw.1 q_11
            refine k_iconst (v := 0) (pc := 44) C dX0_tellTurns_44 (by decide) ?_
            obtain ⟨h_12, hw⟩ := hw
            refine k_zast (pc := 45) C hm_7 (fun S => cel_7 cA ad S 0) h_12 dX0_tellTurns_45 ?_
            refine k_nameS (fun S_13 eS_13 => ?_)
            have hw := hw S_13 eS_13
            obtain ⟨x3_14, ex3_14⟩ : ∃ y : Int32, y = v3_3 + 1 := ⟨_, rfl⟩
            have hw := hw x3_14 ex3_14
            refine k_iinc (v := x3_14) (j := 3) (pc := 46) C dX0_tellTurns_46 rfl (by rw [ex3_14]; rfl) (by decide) [(3, .int x3_14), (0, .ref (ad 6 0)), (1, .ref (ad 1 0)), (2, .int a2)] rfl ?_
            refine k_goto (pc := 49) C 9 dX0_tellTurns_49 (by decide) ?_
            refine k_sub [1, 2, 3, 0] [(0, .ref (ad 6 0)), (1, .ref (ad 1 0)), (2, .int a2), (3, .int x3_14)] rfl ?_
            exact ih_3 x3_14 S_13 (Nat.lt_of_lt_of_le hw.2 (Nat.le_of_lt_succ hn_3)) hw.1
          · have hw := hw.2 q_11
            refine k_iconst (v := 1) (pc := 40) C dX0_tellTurns_40 (by decide) ?_
            refine k_goto (pc := 41) C 45 dX0_tellTurns_41 (by decide) ?_
            obtain ⟨h_15, hw⟩ := hw
            refine k_zast (pc := 45) C hm_7 (fun S => cel_7 cA ad S 0) h_15 dX0_tellTurns_45 ?_
            refine k_nameS (fun S_16 eS_16 => ?_)
            have hw := hw S_16 eS_16
            obtain ⟨x3_17, ex3_17⟩ : ∃ y : Int32, y = v3_3 + 1 := ⟨_, rfl⟩
            have hw := hw x3_17 ex3_17
            refine k_iinc (v := x3_17) (j := 3) (pc := 46) C dX0_tellTurns_46 rfl (by rw [ex3_17]; rfl) (by decide) [(3, .int x3_17), (0, .ref (ad 6 0)), (1, .ref (ad 1 0)), (2, .int a2)] rfl ?_
            refine k_goto (pc := 49) C 9 dX0_tellTurns_49 (by decide) ?_
            refine k_sub [1, 2, 3, 0] [(0, .ref (ad 6 0)), (1, .ref (ad 1 0)), (2, .int a2), (3, .int x3_17)] rfl ?_
            exact ih_3 x3_17 S_16 (Nat.lt_of_lt_of_le hw.2 (Nat.le_of_lt_succ hn_3)) hw.1
  exact L_3 (μ_3 1 S_2 + 1) 1 S_2 (Nat.lt_succ_self _) hi_3
