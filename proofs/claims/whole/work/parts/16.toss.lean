section
variable {p : Program} {l : Launch} {e : Env} {R : Room} {kc ks : Nat} {s : State} {m : MethodId} {args : Array Value} {below : List Frame} {meth : Method} {c : Code} {nL : Nat} {D : va_G} {cA : Nat → ClassId} {ad : Nat → Nat → Nat} {A : Nat → Prop} {Q : State → Prop} {cc : ByteArray} {Ts : List Cond} {own : String} {pc : Nat} {lv lv' : List (Nat × Value)} {st rest : List Value} {S : Sg}
theorem c_callXvU (C : Cx p s m args c cc nL Ts own D cA A) {x y : MethodName} {owner : String} {ws : List Cond} {rm : Room} {bytes : ByteArray} {maxL n index t k ci : Nat} {ret : Option FieldType} {As : List Value} {post : Sg → Prop} {X : String → Sg → Prop} {Cn : String} {fs : List Value} {q : vw_C} (hE : EX A s s.heap) (hM : CtX l y ws rm D cA ad (.ref (ad t k) :: As) S (fun B A => va_Qv post B A) X) (cw : va_CU R s args own Cn owner index x y bytes maxL ret ws rm 1 6 n) (hm : (t, k) ∈ ids (nM S)) (he : cel cA ad S t k = .inr (ci, fs)) (hcl : vwCl[ci]? = some q) (hCn : q.1 = Cn) (hn : As.length = n) (hst : st = As.reverse ++ .ref (ad t k) :: rest) (hW : (rest.map fun v => v.category).sum ≤ 8) (hR : kc + 1 ≤ R.cells ∧ ks + 6 ≤ R.slots) (d : decode cc pc = .ok (.invokevirtual index, 3)) (kx : ∀ (E : String) (S' : Sg), X E S' → KX (kc + 1) (ks + 6) p l e R s m args below meth c nL D cA ad A Q E pc lv rest S') (kk : ∀ (S' : Sg), post S' → KC (kc + 1) (ks + 6) p l e R s m args below meth c nL D cA ad A Q (pc + 3) lv rest S') : KC kc ks p l e R s m args below meth c nL D cA ad A Q pc lv st S := fun H locs ls hl hP hD hS => by
  subst hst
  obtain ⟨p0, -, hq⟩ := lW_get cA ad S hm
  rw [he] at hq
  have hF := lW_free hD hS C.2.2.2.2.2.2
  have hrecv := va_recv C.2.2.2.2.2.1 hP hcl hq
  rw [hCn] at hrecv
  refine vx_callv (vx_runU (As := As) (rest := rest) ⟨C.1, C.2.1, C.2.2.1, C.2.2.2.1, C.2.2.2.2.1⟩ (hM H.size) cw ⟨preX_blind, hrecv, fun U hU hW => ⟨rfl, by rw [hU], by rw [hU]; exact hP, va_K.moved hW.alike C.2.2.2.2.2.1, hD.weaken (fun _ _ _ _ => trivial), EX_at C hE hD hS hU hW⟩⟩ rfl hn hl.1 rfl (lv_room hW) d hR) hS (fun q _ h => hF q h) hF (fun q _ h => hF q h) (fun E ce q9 u t H1 locs1 ht hvm hw hB hz1 hk1 hS1 h1 h2 h3 => ?_) (fun S' t H1 locs1 ht hvm hw hB hz1 hk1 hS1 => ?_)
  · obtain ⟨rfl, hP1, hD1⟩ := hB
    rw [ht] at hP1
    exact kx _ u.1 hw H1 locs1 ls q9 ce hl hP1 (hD1.weaken (fun _ _ _ h => hF _ h)) hS1 h1 h2 h3
  · obtain ⟨hP1, hD1⟩ := hB
    rw [ht] at hP1
    exact kk S' hw H1 locs1 ls hl hP1 (hD1.weaken (fun _ _ _ h => hF _ h)) hS1
end
def wp_X9_toss (a1 : Int32) (S : Sg) (Q : Int32 → Sg → Prop) : Prop :=
  wp_X9_refusalOfMarkOn a1 S (fun r S1 => ((r = 0 → wp_X9_markOn a1 S1 (fun o S2 => (o = none → Q (-12) S2) ∧ (∀ j : Nat, o = some j → (j < nM S2 ∧ (((kM S2 j = 1 ∨ kM S2 j = 2) → wp_X4_fail j S2 (fun S3 => Q (-15) S3) (fun E S3 => E = ISE ∧ j < nM S3 ∧ wp_X3_number j S3 Q)) ∧ (¬ (kM S2 j = 1 ∨ kM S2 j = 2) → wp_X3_fail j S2 (fun S3 => Q (-15) S3))))))) ∧ (¬ r = 0 → Q r S1)))
set_option maxHeartbeats 4000000 in
set_option maxRecDepth 100000 in
theorem ct_X9_toss (l : Launch) (hst : l.stackTraces = false) (D : va_G) (cA : Nat → ClassId) (ad : Nat → Nat → Nat) (a1 : Int32) (S : Sg) (Q' : Int32 → Sg → Prop) (hw : wp_X9_toss a1 S Q') : CtW l yX9_toss wsX9_toss (mkX 7 110) D cA ad [.ref (ad 0 0), .int a1] S Q' := by
  refine ct_ofW (cc := cX9_toss) (nL := 5) (hh := [(25, 29, 32, 107)]) (by decide) rfl (Nat.le_of_ble_eq_true rfl) ?_
  intro p e s m args below meth c A Q C hE htab hret
  unfold wp_X9_toss at hw
  have C : Cx p s m args c cX9_toss 5 wsX9_toss RX9 D cA A := C
  have cl0 : Cond.classLink RX9 107 ISE ∈ wsX9_toss := by decide +kernel
  change KC 0 0 p l e (mkX 7 110) s m args below meth c 5 D cA ad A Q 0 [(0, .ref (ad 0 0)), (1, .int a1)] [] S
  refine c_aload_n (pc := 0) C dX9_toss_0 0 rfl rfl ?_
  refine c_iload_n (pc := 1) C dX9_toss_1 1 rfl rfl ?_
  refine c_afterI (pc := 2) C (wp_X9_refusalOfMarkOn a1 S) hw (fun post hw => rc_V C (ct_X9_refusalOfMarkOn l D cA ad a1 S post hw) (cwV 1 C.2.2.2.2.1 gX9_toss_X9_refusalOfMarkOn rfl rfl rfl (by decide +kernel) ⟨Nat.le_of_ble_eq_true rfl, Nat.le_of_ble_eq_true rfl⟩) hm_0 (cel_0 cA ad S 0) rfl rfl rfl rfl (Nat.le_of_ble_eq_true rfl) ⟨Nat.zero_le _, Nat.zero_le _⟩ dX9_toss_2) (fun r S1 hw => ?_)
  refine c_istore_n (pc := 5) C dX9_toss_5 rfl (by decide) [(2, .int r), (0, .ref (ad 0 0)), (1, .int a1)] rfl ?_
  refine c_iload_n (pc := 6) C dX9_toss_6 0 rfl rfl ?_
  refine c_if_eq (pc := 7) C 12 dX9_toss_7 (by decide) (fun q0 => ?_) (fun q0 => ?_)
  · have hw := hw.1 q0
    refine c_aload_n (pc := 12) C dX9_toss_12 1 rfl rfl ?_
    refine c_iload_n (pc := 13) C dX9_toss_13 2 rfl rfl ?_
    refine c_afterQ (pc := 14) C 26 (wp_X9_markOn a1 S1) hw (fun post hw => rc_V C (ct_X9_markOn l D cA ad a1 S1 post hw) (cwV 1 C.2.2.2.2.1 gX9_toss_X9_markOn rfl rfl rfl (by decide +kernel) ⟨Nat.le_of_ble_eq_true rfl, Nat.le_of_ble_eq_true rfl⟩) hm_0 (cel_0 cA ad S1 0) rfl rfl rfl rfl (Nat.le_of_ble_eq_true rfl) ⟨Nat.zero_le _, Nat.zero_le _⟩ dX9_toss_14) (fun S2 hw => ?_) (fun j S2 hw => ?_)
    · have hw := hw.1 rfl
      refine c_astore_nN (pc := 17) C dX9_toss_17 rfl (by decide) [(3, .null), (2, .int r), (0, .ref (ad 0 0)), (1, .int a1)] rfl ?_
      refine c_aload_nN (pc := 18) C dX9_toss_18 0 rfl rfl ?_
      refine c_ifnonnullN (pc := 19) C dX9_toss_19 ?_
      refine c_bipush (v := (-12)) (pc := 22) C dX9_toss_22 (by decide) ?_
      refine c_widen (k := 1) (n := 6) (Nat.zero_le _) (Nat.zero_le _) ?_
      exact hret _ _ _ _ dX9_toss_24 hw
    · obtain ⟨hj, hw⟩ := hw.2 j rfl
      refine c_astore_n (pc := 17) C dX9_toss_17 rfl (by decide) [(3, .ref (ad 26 j)), (2, .int r), (0, .ref (ad 0 0)), (1, .int a1)] rfl ?_
      refine c_aload_n (pc := 18) C dX9_toss_18 0 rfl rfl ?_
      refine c_ifnonnull (pc := 19) C 25 dX9_toss_19 (by decide) ?_
      refine c_aload_n (pc := 25) C dX9_toss_25 0 rfl rfl ?_
      have kend : ∀ S3 : Sg, Q' (-15) S3 → KC 1 6 p l e (mkX 7 110) s m args below meth c 5 D cA ad A Q 29 [(3, .ref (ad 26 j)), (2, .int r), (0, .ref (ad 0 0)), (1, .int a1)] [] S3 := by
        intro S3 hw
        refine c_goto (pc := 29) C 39 dX9_toss_29 (by decide) ?_
        refine c_bipush (v := (-15)) (pc := 39) C dX9_toss_39 (by decide) ?_
        exact hret _ _ _ _ dX9_toss_41 hw
      have kexc : ∀ (E : String) (S3 : Sg), (E = ISE ∧ j < nM S3 ∧ wp_X3_number j S3 Q') → KX 1 6 p l e (mkX 7 110) s m args below meth c 5 D cA ad A Q E 26 [(3, .ref (ad 26 j)), (2, .int r), (0, .ref (ad 0 0)), (1, .int a1)] [] S3 := by
        rintro E S3 ⟨rfl, hj3, hw⟩
        refine c_catch (name := ISE) C [] ⟨25, 29, 32, 107⟩ [] htab (fun z hz => absurd hz List.not_mem_nil) (by decide) (by decide) cl0 hE.2.2.2.1 (fun q => ?_)
        refine c_astore (pc := 32) C dX9_toss_32 (by decide) [(4, .ref q), (3, .ref (ad 26 j)), (2, .int r), (0, .ref (ad 0 0)), (1, .int a1)] rfl ?_
        refine c_aload_n (pc := 34) C dX9_toss_34 1 rfl rfl ?_
        refine c_afterI (pc := 35) C (wp_X3_number j S3) hw (fun post hw => by
          rcases kd4 S3 j with h | h | h | h
          · exact rc_V C (ct_X3_number l D cA ad j S3 post hw) (cwV 0 C.2.2.2.2.1 gX9_toss_X3_number rfl rfl rfl (by decide +kernel) ⟨Nat.le_of_ble_eq_true rfl, Nat.le_of_ble_eq_true rfl⟩) (mm_26 hj3) (celM_0 h) rfl rfl rfl rfl (Nat.le_of_ble_eq_true rfl) ⟨Nat.le_refl _, Nat.le_refl _⟩ dX9_toss_35
          · exact rc_U C (ct_X3_number l D cA ad j S3 post hw) (va_cwU 0 C.2.2.2.2.1 gX9_toss_X3_number_u302X4 rfl rfl rfl rfl (by decide +kernel) ⟨Nat.le_of_ble_eq_true rfl, Nat.le_of_ble_eq_true rfl⟩) (mm_26 hj3) (celM_1 h) rfl rfl rfl rfl (Nat.le_of_ble_eq_true rfl) ⟨Nat.le_refl _, Nat.le_refl _⟩ dX9_toss_35
          · exact rc_U C (ct_X3_number l D cA ad j S3 post hw) (va_cwU 0 C.2.2.2.2.1 gX9_toss_X3_number_u302X8 rfl rfl rfl rfl (by decide +kernel) ⟨Nat.le_of_ble_eq_true rfl, Nat.le_of_ble_eq_true rfl⟩) (mm_26 hj3) (celM_2 h) rfl rfl rfl rfl (Nat.le_of_ble_eq_true rfl) ⟨Nat.le_refl _, Nat.le_refl _⟩ dX9_toss_35
          · exact rc_U C (ct_X3_number l D cA ad j S3 post hw) (va_cwU 0 C.2.2.2.2.1 gX9_toss_X3_number_u302X1 rfl rfl rfl rfl (by decide +kernel) ⟨Nat.le_of_ble_eq_true rfl, Nat.le_of_ble_eq_true rfl⟩) (mm_26 hj3) (celM_3 h) rfl rfl rfl rfl (Nat.le_of_ble_eq_true rfl) ⟨Nat.le_refl _, Nat.le_refl _⟩ dX9_toss_35) (fun r9 S4 hw => ?_)
        exact hret _ _ _ _ dX9_toss_38 hw
      rcases kd4 S2 j with h | h | h | h
      · refine c_afterV (pc := 26) C (wp_X3_fail j S2) (hw.2 (by omega)) (fun post hw => rc_V C (ct_X3_fail l D cA ad j S2 post hw) (cwV 0 C.2.2.2.2.1 gX9_toss_X3_fail rfl rfl rfl (by decide +kernel) ⟨Nat.le_of_ble_eq_true rfl, Nat.le_of_ble_eq_true rfl⟩) (mm_26 hj) (celM_0 h) rfl rfl rfl rfl (Nat.le_of_ble_eq_true rfl) ⟨Nat.zero_le _, Nat.zero_le _⟩ dX9_toss_26) (fun S3 hw => ?_)
        exact c_widen (k := 1) (n := 6) (Nat.zero_le _) (Nat.zero_le _) (kend S3 hw)
      · exact c_callXvU (pc := 26) C hE (ct_X4_fail l hst D cA ad j S2 _ _ (hw.1 (by omega))) (va_cwO 0 C.2.2.2.2.1 gX9_toss_X4_fail_u299X4 rfl rfl rfl (b0 := cX3_fail) (m0 := 1) (r0 := none) (by decide +kernel) (by decide +kernel) ⟨Nat.le_of_ble_eq_true rfl, Nat.le_of_ble_eq_true rfl⟩) (mm_26 hj) (celM_1 h) rfl rfl rfl rfl (Nat.le_of_ble_eq_true rfl) ⟨Nat.le_refl _, Nat.le_refl _⟩ dX9_toss_26 kexc kend
      · exact c_callXvU (pc := 26) C hE (ct_X4_fail l hst D cA ad j S2 _ _ (hw.1 (by omega))) (va_cwO 0 C.2.2.2.2.1 gX9_toss_X4_fail_u299X8 rfl rfl rfl (b0 := cX3_fail) (m0 := 1) (r0 := none) (by decide +kernel) (by decide +kernel) ⟨Nat.le_of_ble_eq_true rfl, Nat.le_of_ble_eq_true rfl⟩) (mm_26 hj) (celM_2 h) rfl rfl rfl rfl (Nat.le_of_ble_eq_true rfl) ⟨Nat.le_refl _, Nat.le_refl _⟩ dX9_toss_26 kexc kend
      · refine c_afterV (pc := 26) C (wp_X3_fail j S2) (hw.2 (by omega)) (fun post hw => rc_U C (ct_X3_fail l D cA ad j S2 post hw) (va_cwU 0 C.2.2.2.2.1 gX9_toss_X3_fail_u299X1 rfl rfl rfl rfl (by decide +kernel) ⟨Nat.le_of_ble_eq_true rfl, Nat.le_of_ble_eq_true rfl⟩) (mm_26 hj) (celM_3 h) rfl rfl rfl rfl (Nat.le_of_ble_eq_true rfl) ⟨Nat.zero_le _, Nat.zero_le _⟩ dX9_toss_26) (fun S3 hw => ?_)
        exact c_widen (k := 1) (n := 6) (Nat.zero_le _) (Nat.zero_le _) (kend S3 hw)
  · have hw := hw.2 q0
    refine c_iload_n (pc := 10) C dX9_toss_10 0 rfl rfl ?_
    refine c_widen (k := 1) (n := 6) (Nat.zero_le _) (Nat.zero_le _) ?_
    exact hret _ _ _ _ dX9_toss_11 hw
