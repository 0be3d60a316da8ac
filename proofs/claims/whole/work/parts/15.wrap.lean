theorem vp_01 : vp_in 0 1 := by rw [vp_in_iff]; decide
def wp_L_cleared (a1 : Int32) (a2 : Int32) (a3 : Int32) (S : Sg) (Q : Int32 → Sg → Prop) : Prop := wp_X9_cleared a1 a2 a3 S (fun r S' => ∀ S'' : Sg, S'' = uL S' 39 0 (Int32.toNatClampNeg 0) r → Q 0 S'') (fun E S' => (E = IAE ∧ Q 1 S') ∨ (E = ISE ∧ Q 2 S'))
set_option maxHeartbeats 4000000 in
set_option maxRecDepth 100000 in
theorem ct_L_cleared (l : Launch) (hst : l.stackTraces = false) (D : va_G) (cA : Nat → ClassId) (ad : Nat → Nat → Nat) (a1 : Int32) (a2 : Int32) (a3 : Int32) (S : Sg) (Q : Int32 → Sg → Prop) (hw : wp_L_cleared a1 a2 a3 S Q) : CtW l yL_cleared wsL_cleared (mkX 7 114) D cA ad [.ref (ad 0 0), .int a1, .int a2, .int a3, .ref (ad 39 0)] S Q := by
  refine ct_ofW (cc := cL_cleared) (nL := 6) (hh := [(0, 11, 14, 13), (0, 11, 18, 15)]) (by decide) rfl (Nat.le_of_ble_eq_true rfl) ?_
  intro p e s m args below meth c A Q C hE htab hret
  unfold wp_L_cleared at hw
  have C : Cx p s m args c cL_cleared 6 wsL_cleared RL D cA A := C
  have cl0 : Cond.classLink RL 13 IAE ∈ wsL_cleared := by decide +kernel
  have cl1 : Cond.classLink RL 15 ISE ∈ wsL_cleared := by decide +kernel
  change KC 0 0 p l e (mkX 7 114) s m args below meth c 6 D cA ad A Q 0 [(0, .ref (ad 0 0)), (1, .int a1), (2, .int a2), (3, .int a3), (4, .ref (ad 39 0))] [] S
  refine c_aload (pc := 0) C dL_cleared_0 4 rfl ?_
  refine c_iconst (v := 0) (pc := 2) C dL_cleared_2 (by decide) ?_
  refine c_aload_n (pc := 3) C dL_cleared_3 0 rfl rfl ?_
  refine c_iload_n (pc := 4) C dL_cleared_4 1 rfl rfl ?_
  refine c_iload_n (pc := 5) C dL_cleared_5 2 rfl rfl ?_
  refine c_iload_n (pc := 6) C dL_cleared_6 3 rfl rfl ?_
  refine c_callXl (pc := 7) C hE (ct_X9_cleared l hst D cA ad a1 a2 a3 S _ _ hw) (cwV 3 C.2.2.2.2.1 gL_cleared_X9_cleared rfl rfl rfl (by decide +kernel) ⟨Nat.le_of_ble_eq_true rfl, Nat.le_of_ble_eq_true rfl⟩) hm_0 (cel_0 cA ad S 0) rfl rfl rfl rfl (Nat.le_of_ble_eq_true rfl) ⟨Nat.le_refl _, Nat.le_refl _⟩ dL_cleared_7 (fun E S1 hx => ?_) (fun r S1 hw => ?_)
  · rcases hx with ⟨rfl, hx⟩ | ⟨rfl, hx⟩
    · refine c_catch (name := IAE) C [] ⟨0, 11, 14, 13⟩ [⟨0, 11, 18, 15⟩] htab (fun z hz => absurd hz List.not_mem_nil) (by decide) (by decide) cl0 hE.2.2.1 (fun q => ?_)
      refine c_astore (pc := 14) C dL_cleared_14 (by decide) [(5, .ref q), (0, .ref (ad 0 0)), (1, .int a1), (2, .int a2), (3, .int a3), (4, .ref (ad 39 0))] rfl ?_
      refine c_iconst (v := 1) (pc := 16) C dL_cleared_16 (by decide) ?_
      exact hret _ _ _ _ dL_cleared_17 hx
    · refine c_catch (name := ISE) C [⟨0, 11, 14, 13⟩] ⟨0, 11, 18, 15⟩ [] htab (fun z hz => ?_) (by decide) (by decide) cl1 hE.2.2.2.1 (fun q => ?_)
      · cases List.mem_singleton.mp hz
        exact Or.inr ⟨by decide, IAE, cl0, hE.2.2.2.2.2.2.2.1⟩
      · refine c_astore (pc := 18) C dL_cleared_18 (by decide) [(5, .ref q), (0, .ref (ad 0 0)), (1, .int a1), (2, .int a2), (3, .int a3), (4, .ref (ad 39 0))] rfl ?_
        refine c_iconst (v := 2) (pc := 20) C dL_cleared_20 (by decide) ?_
        exact hret _ _ _ _ dL_cleared_21 hx
  · refine c_last (pc := 10) C hm_39 (fun S => cel_39 cA ad S 0) vp_01 dL_cleared_10 ?_
    refine c_goto (pc := 11) C 22 dL_cleared_11 (by decide) ?_
    refine c_iconst (v := 0) (pc := 22) C dL_cleared_22 (by decide) ?_
    exact hret _ _ _ _ dL_cleared_23 (hw _ rfl)
def wp_L_rate (a1 : Int32) (a2 : Int32) (a3 : Int32) (S : Sg) (Q : Int32 → Sg → Prop) : Prop := wp_X9_rate a1 a2 a3 S (fun r S' => ∀ S'' : Sg, S'' = uL S' 39 0 (Int32.toNatClampNeg 0) r → Q 0 S'') (fun E S' => (E = IAE ∧ Q 1 S') ∨ (E = ISE ∧ Q 2 S'))
set_option maxHeartbeats 4000000 in
set_option maxRecDepth 100000 in
theorem ct_L_rate (l : Launch) (hst : l.stackTraces = false) (D : va_G) (cA : Nat → ClassId) (ad : Nat → Nat → Nat) (a1 : Int32) (a2 : Int32) (a3 : Int32) (S : Sg) (Q : Int32 → Sg → Prop) (hw : wp_L_rate a1 a2 a3 S Q) : CtW l yL_rate wsL_rate (mkX 7 117) D cA ad [.ref (ad 0 0), .int a1, .int a2, .int a3, .ref (ad 39 0)] S Q := by
  refine ct_ofW (cc := cL_rate) (nL := 6) (hh := [(0, 11, 14, 13), (0, 11, 18, 15)]) (by decide) rfl (Nat.le_of_ble_eq_true rfl) ?_
  intro p e s m args below meth c A Q C hE htab hret
  unfold wp_L_rate at hw
  have C : Cx p s m args c cL_rate 6 wsL_rate RL D cA A := C
  have cl0 : Cond.classLink RL 13 IAE ∈ wsL_rate := by decide +kernel
  have cl1 : Cond.classLink RL 15 ISE ∈ wsL_rate := by decide +kernel
  change KC 0 0 p l e (mkX 7 117) s m args below meth c 6 D cA ad A Q 0 [(0, .ref (ad 0 0)), (1, .int a1), (2, .int a2), (3, .int a3), (4, .ref (ad 39 0))] [] S
  refine c_aload (pc := 0) C dL_rate_0 4 rfl ?_
  refine c_iconst (v := 0) (pc := 2) C dL_rate_2 (by decide) ?_
  refine c_aload_n (pc := 3) C dL_rate_3 0 rfl rfl ?_
  refine c_iload_n (pc := 4) C dL_rate_4 1 rfl rfl ?_
  refine c_iload_n (pc := 5) C dL_rate_5 2 rfl rfl ?_
  refine c_iload_n (pc := 6) C dL_rate_6 3 rfl rfl ?_
  refine c_callXl (pc := 7) C hE (ct_X9_rate l hst D cA ad a1 a2 a3 S _ _ hw) (cwV 3 C.2.2.2.2.1 gL_rate_X9_rate rfl rfl rfl (by decide +kernel) ⟨Nat.le_of_ble_eq_true rfl, Nat.le_of_ble_eq_true rfl⟩) hm_0 (cel_0 cA ad S 0) rfl rfl rfl rfl (Nat.le_of_ble_eq_true rfl) ⟨Nat.le_refl _, Nat.le_refl _⟩ dL_rate_7 (fun E S1 hx => ?_) (fun r S1 hw => ?_)
  · rcases hx with ⟨rfl, hx⟩ | ⟨rfl, hx⟩
    · refine c_catch (name := IAE) C [] ⟨0, 11, 14, 13⟩ [⟨0, 11, 18, 15⟩] htab (fun z hz => absurd hz List.not_mem_nil) (by decide) (by decide) cl0 hE.2.2.1 (fun q => ?_)
      refine c_astore (pc := 14) C dL_rate_14 (by decide) [(5, .ref q), (0, .ref (ad 0 0)), (1, .int a1), (2, .int a2), (3, .int a3), (4, .ref (ad 39 0))] rfl ?_
      refine c_iconst (v := 1) (pc := 16) C dL_rate_16 (by decide) ?_
      exact hret _ _ _ _ dL_rate_17 hx
    · refine c_catch (name := ISE) C [⟨0, 11, 14, 13⟩] ⟨0, 11, 18, 15⟩ [] htab (fun z hz => ?_) (by decide) (by decide) cl1 hE.2.2.2.1 (fun q => ?_)
      · cases List.mem_singleton.mp hz
        exact Or.inr ⟨by decide, IAE, cl0, hE.2.2.2.2.2.2.2.1⟩
      · refine c_astore (pc := 18) C dL_rate_18 (by decide) [(5, .ref q), (0, .ref (ad 0 0)), (1, .int a1), (2, .int a2), (3, .int a3), (4, .ref (ad 39 0))] rfl ?_
        refine c_iconst (v := 2) (pc := 20) C dL_rate_20 (by decide) ?_
        exact hret _ _ _ _ dL_rate_21 hx
  · refine c_last (pc := 10) C hm_39 (fun S => cel_39 cA ad S 0) vp_01 dL_rate_10 ?_
    refine c_goto (pc := 11) C 22 dL_rate_11 (by decide) ?_
    refine c_iconst (v := 0) (pc := 22) C dL_rate_22 (by decide) ?_
    exact hret _ _ _ _ dL_rate_23 (hw _ rfl)
def wp_L_common (a1 : Int32) (a2 : Int32) (S : Sg) (Q : Int32 → Sg → Prop) : Prop := wp_X9_common a1 a2 S (fun r S' => ∀ S'' : Sg, S'' = uL S' 39 0 (Int32.toNatClampNeg 0) r → Q 0 S'') (fun E S' => (E = IAE ∧ Q 1 S') ∨ (E = ISE ∧ Q 2 S'))
set_option maxHeartbeats 4000000 in
set_option maxRecDepth 100000 in
theorem ct_L_common (l : Launch) (hst : l.stackTraces = false) (D : va_G) (cA : Nat → ClassId) (ad : Nat → Nat → Nat) (a1 : Int32) (a2 : Int32) (S : Sg) (Q : Int32 → Sg → Prop) (hw : wp_L_common a1 a2 S Q) : CtW l yL_common wsL_common (mkX 7 117) D cA ad [.ref (ad 0 0), .int a1, .int a2, .ref (ad 39 0)] S Q := by
  refine ct_ofW (cc := cL_common) (nL := 5) (hh := [(0, 9, 12, 13), (0, 9, 16, 15)]) (by decide) rfl (Nat.le_of_ble_eq_true rfl) ?_
  intro p e s m args below meth c A Q C hE htab hret
  unfold wp_L_common at hw
  have C : Cx p s m args c cL_common 5 wsL_common RL D cA A := C
  have cl0 : Cond.classLink RL 13 IAE ∈ wsL_common := by decide +kernel
  have cl1 : Cond.classLink RL 15 ISE ∈ wsL_common := by decide +kernel
  change KC 0 0 p l e (mkX 7 117) s m args below meth c 5 D cA ad A Q 0 [(0, .ref (ad 0 0)), (1, .int a1), (2, .int a2), (3, .ref (ad 39 0))] [] S
  refine c_aload_n (pc := 0) C dL_common_0 3 rfl rfl ?_
  refine c_iconst (v := 0) (pc := 1) C dL_common_1 (by decide) ?_
  refine c_aload_n (pc := 2) C dL_common_2 0 rfl rfl ?_
  refine c_iload_n (pc := 3) C dL_common_3 1 rfl rfl ?_
  refine c_iload_n (pc := 4) C dL_common_4 2 rfl rfl ?_
  refine c_callXl (pc := 5) C hE (ct_X9_common l hst D cA ad a1 a2 S _ _ hw) (cwV 2 C.2.2.2.2.1 gL_common_X9_common rfl rfl rfl (by decide +kernel) ⟨Nat.le_of_ble_eq_true rfl, Nat.le_of_ble_eq_true rfl⟩) hm_0 (cel_0 cA ad S 0) rfl rfl rfl rfl (Nat.le_of_ble_eq_true rfl) ⟨Nat.le_refl _, Nat.le_refl _⟩ dL_common_5 (fun E S1 hx => ?_) (fun r S1 hw => ?_)
  · rcases hx with ⟨rfl, hx⟩ | ⟨rfl, hx⟩
    · refine c_catch (name := IAE) C [] ⟨0, 9, 12, 13⟩ [⟨0, 9, 16, 15⟩] htab (fun z hz => absurd hz List.not_mem_nil) (by decide) (by decide) cl0 hE.2.2.1 (fun q => ?_)
      refine c_astore (pc := 12) C dL_common_12 (by decide) [(4, .ref q), (0, .ref (ad 0 0)), (1, .int a1), (2, .int a2), (3, .ref (ad 39 0))] rfl ?_
      refine c_iconst (v := 1) (pc := 14) C dL_common_14 (by decide) ?_
      exact hret _ _ _ _ dL_common_15 hx
    · refine c_catch (name := ISE) C [⟨0, 9, 12, 13⟩] ⟨0, 9, 16, 15⟩ [] htab (fun z hz => ?_) (by decide) (by decide) cl1 hE.2.2.2.1 (fun q => ?_)
      · cases List.mem_singleton.mp hz
        exact Or.inr ⟨by decide, IAE, cl0, hE.2.2.2.2.2.2.2.1⟩
      · refine c_astore (pc := 16) C dL_common_16 (by decide) [(4, .ref q), (0, .ref (ad 0 0)), (1, .int a1), (2, .int a2), (3, .ref (ad 39 0))] rfl ?_
        refine c_iconst (v := 2) (pc := 18) C dL_common_18 (by decide) ?_
        exact hret _ _ _ _ dL_common_19 hx
  · refine c_last (pc := 8) C hm_39 (fun S => cel_39 cA ad S 0) vp_01 dL_common_8 ?_
    refine c_goto (pc := 9) C 20 dL_common_9 (by decide) ?_
    refine c_iconst (v := 0) (pc := 20) C dL_common_20 (by decide) ?_
    exact hret _ _ _ _ dL_common_21 (hw _ rfl)
def wp_L_moves (a1 : Int32) (a2 : Int32) (S : Sg) (Q : Int32 → Sg → Prop) : Prop := wp_X9_moves a1 a2 S (fun r S' => ∀ S'' : Sg, S'' = uL S' 39 0 (Int32.toNatClampNeg 0) r → Q 0 S'') (fun E S' => E = IAE ∧ Q 1 S')
set_option maxHeartbeats 4000000 in
set_option maxRecDepth 100000 in
theorem ct_L_moves (l : Launch) (hst : l.stackTraces = false) (D : va_G) (cA : Nat → ClassId) (ad : Nat → Nat → Nat) (a1 : Int32) (a2 : Int32) (S : Sg) (Q : Int32 → Sg → Prop) (hw : wp_L_moves a1 a2 S Q) : CtW l yL_moves wsL_moves (mkX 7 113) D cA ad [.ref (ad 0 0), .int a1, .int a2, .ref (ad 39 0)] S Q := by
  refine ct_ofW (cc := cL_moves) (nL := 5) (hh := [(0, 9, 12, 13)]) (by decide) rfl (Nat.le_of_ble_eq_true rfl) ?_
  intro p e s m args below meth c A Q C hE htab hret
  unfold wp_L_moves at hw
  have C : Cx p s m args c cL_moves 5 wsL_moves RL D cA A := C
  have cl0 : Cond.classLink RL 13 IAE ∈ wsL_moves := by decide +kernel
  change KC 0 0 p l e (mkX 7 113) s m args below meth c 5 D cA ad A Q 0 [(0, .ref (ad 0 0)), (1, .int a1), (2, .int a2), (3, .ref (ad 39 0))] [] S
  refine c_aload_n (pc := 0) C dL_moves_0 3 rfl rfl ?_
  refine c_iconst (v := 0) (pc := 1) C dL_moves_1 (by decide) ?_
  refine c_aload_n (pc := 2) C dL_moves_2 0 rfl rfl ?_
  refine c_iload_n (pc := 3) C dL_moves_3 1 rfl rfl ?_
  refine c_iload_n (pc := 4) C dL_moves_4 2 rfl rfl ?_
  refine c_callXl (pc := 5) C hE (ct_X9_moves l hst D cA ad a1 a2 S _ _ hw) (cwV 2 C.2.2.2.2.1 gL_moves_X9_moves rfl rfl rfl (by decide +kernel) ⟨Nat.le_of_ble_eq_true rfl, Nat.le_of_ble_eq_true rfl⟩) hm_0 (cel_0 cA ad S 0) rfl rfl rfl rfl (Nat.le_of_ble_eq_true rfl) ⟨Nat.le_refl _, Nat.le_refl _⟩ dL_moves_5 (fun E S1 hx => ?_) (fun r S1 hw => ?_)
  · obtain ⟨rfl, hx⟩ := hx
    refine c_catch (name := IAE) C [] ⟨0, 9, 12, 13⟩ [] htab (fun z hz => absurd hz List.not_mem_nil) (by decide) (by decide) cl0 hE.2.2.1 (fun q => ?_)
    refine c_astore (pc := 12) C dL_moves_12 (by decide) [(4, .ref q), (0, .ref (ad 0 0)), (1, .int a1), (2, .int a2), (3, .ref (ad 39 0))] rfl ?_
    refine c_iconst (v := 1) (pc := 14) C dL_moves_14 (by decide) ?_
    exact hret _ _ _ _ dL_moves_15 hx
  · refine c_last (pc := 8) C hm_39 (fun S => cel_39 cA ad S 0) vp_01 dL_moves_8 ?_
    refine c_goto (pc := 9) C 16 dL_moves_9 (by decide) ?_
    refine c_iconst (v := 0) (pc := 16) C dL_moves_16 (by decide) ?_
    exact hret _ _ _ _ dL_moves_17 (hw _ rfl)
def wp_L_strain (a1 : Int32) (a2 : Int32) (a3 : Int32) (a4 : Int32) (a5 : Int32) (S : Sg) (Q : Int32 → Sg → Prop) : Prop := wp_X9_strain a1 a2 a3 a4 a5 S (fun r S' => ∀ S'' : Sg, S'' = uL S' 39 0 (Int32.toNatClampNeg 0) r → Q 0 S'') (fun E S' => (E = IAE ∧ Q 1 S') ∨ (E = ISE ∧ Q 2 S'))
set_option maxHeartbeats 4000000 in
set_option maxRecDepth 100000 in
theorem ct_L_strain (l : Launch) (hst : l.stackTraces = false) (D : va_G) (cA : Nat → ClassId) (ad : Nat → Nat → Nat) (a1 : Int32) (a2 : Int32) (a3 : Int32) (a4 : Int32) (a5 : Int32) (S : Sg) (Q : Int32 → Sg → Prop) (hw : wp_L_strain a1 a2 a3 a4 a5 S Q) : CtW l yL_strain wsL_strain (mkX 7 120) D cA ad [.ref (ad 0 0), .int a1, .int a2, .int a3, .int a4, .int a5, .ref (ad 39 0)] S Q := by
  refine ct_ofW (cc := cL_strain) (nL := 8) (hh := [(0, 15, 18, 13), (0, 15, 22, 15)]) (by decide) rfl (Nat.le_of_ble_eq_true rfl) ?_
  intro p e s m args below meth c A Q C hE htab hret
  unfold wp_L_strain at hw
  have C : Cx p s m args c cL_strain 8 wsL_strain RL D cA A := C
  have cl0 : Cond.classLink RL 13 IAE ∈ wsL_strain := by decide +kernel
  have cl1 : Cond.classLink RL 15 ISE ∈ wsL_strain := by decide +kernel
  change KC 0 0 p l e (mkX 7 120) s m args below meth c 8 D cA ad A Q 0 [(0, .ref (ad 0 0)), (1, .int a1), (2, .int a2), (3, .int a3), (4, .int a4), (5, .int a5), (6, .ref (ad 39 0))] [] S
  refine c_aload (pc := 0) C dL_strain_0 6 rfl ?_
  refine c_iconst (v := 0) (pc := 2) C dL_strain_2 (by decide) ?_
  refine c_aload_n (pc := 3) C dL_strain_3 0 rfl rfl ?_
  refine c_iload_n (pc := 4) C dL_strain_4 1 rfl rfl ?_
  refine c_iload_n (pc := 5) C dL_strain_5 2 rfl rfl ?_
  refine c_iload_n (pc := 6) C dL_strain_6 3 rfl rfl ?_
  refine c_iload (pc := 7) C dL_strain_7 4 rfl ?_
  refine c_iload (pc := 9) C dL_strain_9 5 rfl ?_
  refine c_callXl (pc := 11) C hE (ct_X9_strain l hst D cA ad a1 a2 a3 a4 a5 S _ _ hw) (cwV 5 C.2.2.2.2.1 gL_strain_X9_strain rfl rfl rfl (by decide +kernel) ⟨Nat.le_of_ble_eq_true rfl, Nat.le_of_ble_eq_true rfl⟩) hm_0 (cel_0 cA ad S 0) rfl rfl rfl rfl (Nat.le_of_ble_eq_true rfl) ⟨Nat.le_refl _, Nat.le_refl _⟩ dL_strain_11 (fun E S1 hx => ?_) (fun r S1 hw => ?_)
  · rcases hx with ⟨rfl, hx⟩ | ⟨rfl, hx⟩
    · refine c_catch (name := IAE) C [] ⟨0, 15, 18, 13⟩ [⟨0, 15, 22, 15⟩] htab (fun z hz => absurd hz List.not_mem_nil) (by decide) (by decide) cl0 hE.2.2.1 (fun q => ?_)
      refine c_astore (pc := 18) C dL_strain_18 (by decide) [(7, .ref q), (0, .ref (ad 0 0)), (1, .int a1), (2, .int a2), (3, .int a3), (4, .int a4), (5, .int a5), (6, .ref (ad 39 0))] rfl ?_
      refine c_iconst (v := 1) (pc := 20) C dL_strain_20 (by decide) ?_
      exact hret _ _ _ _ dL_strain_21 hx
    · refine c_catch (name := ISE) C [⟨0, 15, 18, 13⟩] ⟨0, 15, 22, 15⟩ [] htab (fun z hz => ?_) (by decide) (by decide) cl1 hE.2.2.2.1 (fun q => ?_)
      · cases List.mem_singleton.mp hz
        exact Or.inr ⟨by decide, IAE, cl0, hE.2.2.2.2.2.2.2.1⟩
      · refine c_astore (pc := 22) C dL_strain_22 (by decide) [(7, .ref q), (0, .ref (ad 0 0)), (1, .int a1), (2, .int a2), (3, .int a3), (4, .int a4), (5, .int a5), (6, .ref (ad 39 0))] rfl ?_
        refine c_iconst (v := 2) (pc := 24) C dL_strain_24 (by decide) ?_
        exact hret _ _ _ _ dL_strain_25 hx
  · refine c_last (pc := 14) C hm_39 (fun S => cel_39 cA ad S 0) vp_01 dL_strain_14 ?_
    refine c_goto (pc := 15) C 26 dL_strain_15 (by decide) ?_
    refine c_iconst (v := 0) (pc := 26) C dL_strain_26 (by decide) ?_
    exact hret _ _ _ _ dL_strain_27 (hw _ rfl)
def wp_L_height (a1 : Int32) (S : Sg) (Q : Int32 → Sg → Prop) : Prop := wp_X9_height a1 S (fun r S' => ∀ S'' : Sg, S'' = uL S' 39 0 (Int32.toNatClampNeg 0) r → Q 0 S'') (fun E S' => (E = IAE ∧ Q 1 S') ∨ (E = ISE ∧ Q 2 S'))
set_option maxHeartbeats 4000000 in
set_option maxRecDepth 100000 in
theorem ct_L_height (l : Launch) (hst : l.stackTraces = false) (D : va_G) (cA : Nat → ClassId) (ad : Nat → Nat → Nat) (a1 : Int32) (S : Sg) (Q : Int32 → Sg → Prop) (hw : wp_L_height a1 S Q) : CtW l yL_height wsL_height (mkX 21 582) D cA ad [.ref (ad 0 0), .int a1, .ref (ad 39 0)] S Q := by
  refine ct_ofW (cc := cL_height) (nL := 4) (hh := [(0, 8, 11, 13), (0, 8, 14, 15)]) (by decide) rfl (Nat.le_of_ble_eq_true rfl) ?_
  intro p e s m args below meth c A Q C hE htab hret
  unfold wp_L_height at hw
  have C : Cx p s m args c cL_height 4 wsL_height RL D cA A := C
  have cl0 : Cond.classLink RL 13 IAE ∈ wsL_height := by decide +kernel
  have cl1 : Cond.classLink RL 15 ISE ∈ wsL_height := by decide +kernel
  change KC 0 0 p l e (mkX 21 582) s m args below meth c 4 D cA ad A Q 0 [(0, .ref (ad 0 0)), (1, .int a1), (2, .ref (ad 39 0))] [] S
  refine c_aload_n (pc := 0) C dL_height_0 2 rfl rfl ?_
  refine c_iconst (v := 0) (pc := 1) C dL_height_1 (by decide) ?_
  refine c_aload_n (pc := 2) C dL_height_2 0 rfl rfl ?_
  refine c_iload_n (pc := 3) C dL_height_3 1 rfl rfl ?_
  refine c_callXl (pc := 4) C hE (ct_X9_height l hst D cA ad a1 S _ _ hw) (cwV 1 C.2.2.2.2.1 gL_height_X9_height rfl rfl rfl (by decide +kernel) ⟨Nat.le_of_ble_eq_true rfl, Nat.le_of_ble_eq_true rfl⟩) hm_0 (cel_0 cA ad S 0) rfl rfl rfl rfl (Nat.le_of_ble_eq_true rfl) ⟨Nat.le_refl _, Nat.le_refl _⟩ dL_height_4 (fun E S1 hx => ?_) (fun r S1 hw => ?_)
  · rcases hx with ⟨rfl, hx⟩ | ⟨rfl, hx⟩
    · refine c_catch (name := IAE) C [] ⟨0, 8, 11, 13⟩ [⟨0, 8, 14, 15⟩] htab (fun z hz => absurd hz List.not_mem_nil) (by decide) (by decide) cl0 hE.2.2.1 (fun q => ?_)
      refine c_astore_n (pc := 11) C dL_height_11 rfl (by decide) [(3, .ref q), (0, .ref (ad 0 0)), (1, .int a1), (2, .ref (ad 39 0))] rfl ?_
      refine c_iconst (v := 1) (pc := 12) C dL_height_12 (by decide) ?_
      exact hret _ _ _ _ dL_height_13 hx
    · refine c_catch (name := ISE) C [⟨0, 8, 11, 13⟩] ⟨0, 8, 14, 15⟩ [] htab (fun z hz => ?_) (by decide) (by decide) cl1 hE.2.2.2.1 (fun q => ?_)
      · cases List.mem_singleton.mp hz
        exact Or.inr ⟨by decide, IAE, cl0, hE.2.2.2.2.2.2.2.1⟩
      · refine c_astore_n (pc := 14) C dL_height_14 rfl (by decide) [(3, .ref q), (0, .ref (ad 0 0)), (1, .int a1), (2, .ref (ad 39 0))] rfl ?_
        refine c_iconst (v := 2) (pc := 15) C dL_height_15 (by decide) ?_
        exact hret _ _ _ _ dL_height_16 hx
  · refine c_last (pc := 7) C hm_39 (fun S => cel_39 cA ad S 0) vp_01 dL_height_7 ?_
    refine c_goto (pc := 8) C 17 dL_height_8 (by decide) ?_
    refine c_iconst (v := 0) (pc := 17) C dL_height_17 (by decide) ?_
    exact hret _ _ _ _ dL_height_18 (hw _ rfl)
def wp_L_element (a1 : Int32) (a2 : Int32) (S : Sg) (Q : Int32 → Sg → Prop) : Prop := wp_X9_element a1 a2 S (fun r S' => ∀ S'' : Sg, S'' = uL S' 39 0 (Int32.toNatClampNeg 0) r → Q 0 S'') (fun E S' => (E = IAE ∧ Q 1 S') ∨ (E = ISE ∧ Q 2 S'))
set_option maxHeartbeats 4000000 in
set_option maxRecDepth 100000 in
theorem ct_L_element (l : Launch) (hst : l.stackTraces = false) (D : va_G) (cA : Nat → ClassId) (ad : Nat → Nat → Nat) (a1 : Int32) (a2 : Int32) (S : Sg) (Q : Int32 → Sg → Prop) (hw : wp_L_element a1 a2 S Q) : CtW l yL_element wsL_element (mkX 7 113) D cA ad [.ref (ad 0 0), .int a1, .int a2, .ref (ad 39 0)] S Q := by
  refine ct_ofW (cc := cL_element) (nL := 5) (hh := [(0, 9, 12, 13), (0, 9, 16, 15)]) (by decide) rfl (Nat.le_of_ble_eq_true rfl) ?_
  intro p e s m args below meth c A Q C hE htab hret
  unfold wp_L_element at hw
  have C : Cx p s m args c cL_element 5 wsL_element RL D cA A := C
  have cl0 : Cond.classLink RL 13 IAE ∈ wsL_element := by decide +kernel
  have cl1 : Cond.classLink RL 15 ISE ∈ wsL_element := by decide +kernel
  change KC 0 0 p l e (mkX 7 113) s m args below meth c 5 D cA ad A Q 0 [(0, .ref (ad 0 0)), (1, .int a1), (2, .int a2), (3, .ref (ad 39 0))] [] S
  refine c_aload_n (pc := 0) C dL_element_0 3 rfl rfl ?_
  refine c_iconst (v := 0) (pc := 1) C dL_element_1 (by decide) ?_
  refine c_aload_n (pc := 2) C dL_element_2 0 rfl rfl ?_
  refine c_iload_n (pc := 3) C dL_element_3 1 rfl rfl ?_
  refine c_iload_n (pc := 4) C dL_element_4 2 rfl rfl ?_
  refine c_callXl (pc := 5) C hE (ct_X9_element l hst D cA ad a1 a2 S _ _ hw) (cwV 2 C.2.2.2.2.1 gL_element_X9_element rfl rfl rfl (by decide +kernel) ⟨Nat.le_of_ble_eq_true rfl, Nat.le_of_ble_eq_true rfl⟩) hm_0 (cel_0 cA ad S 0) rfl rfl rfl rfl (Nat.le_of_ble_eq_true rfl) ⟨Nat.le_refl _, Nat.le_refl _⟩ dL_element_5 (fun E S1 hx => ?_) (fun r S1 hw => ?_)
  · rcases hx with ⟨rfl, hx⟩ | ⟨rfl, hx⟩
    · refine c_catch (name := IAE) C [] ⟨0, 9, 12, 13⟩ [⟨0, 9, 16, 15⟩] htab (fun z hz => absurd hz List.not_mem_nil) (by decide) (by decide) cl0 hE.2.2.1 (fun q => ?_)
      refine c_astore (pc := 12) C dL_element_12 (by decide) [(4, .ref q), (0, .ref (ad 0 0)), (1, .int a1), (2, .int a2), (3, .ref (ad 39 0))] rfl ?_
      refine c_iconst (v := 1) (pc := 14) C dL_element_14 (by decide) ?_
      exact hret _ _ _ _ dL_element_15 hx
    · refine c_catch (name := ISE) C [⟨0, 9, 12, 13⟩] ⟨0, 9, 16, 15⟩ [] htab (fun z hz => ?_) (by decide) (by decide) cl1 hE.2.2.2.1 (fun q => ?_)
      · cases List.mem_singleton.mp hz
        exact Or.inr ⟨by decide, IAE, cl0, hE.2.2.2.2.2.2.2.1⟩
      · refine c_astore (pc := 16) C dL_element_16 (by decide) [(4, .ref q), (0, .ref (ad 0 0)), (1, .int a1), (2, .int a2), (3, .ref (ad 39 0))] rfl ?_
        refine c_iconst (v := 2) (pc := 18) C dL_element_18 (by decide) ?_
        exact hret _ _ _ _ dL_element_19 hx
  · refine c_last (pc := 8) C hm_39 (fun S => cel_39 cA ad S 0) vp_01 dL_element_8 ?_
    refine c_goto (pc := 9) C 20 dL_element_9 (by decide) ?_
    refine c_iconst (v := 0) (pc := 20) C dL_element_20 (by decide) ?_
    exact hret _ _ _ _ dL_element_21 (hw _ rfl)
