/-! the contract of mark -/
def EM (U : State) : Prop := va_AOA .int U ∧ va_Nw (.castable RX4 RX3) U ∧ va_Nw (.castable RX8 RX3) U ∧ va_Nw (.castable RX1 RX3) U
theorem EM.warm {s U : State} (hW : s.WarmedH U.vm) (h : EM s) : EM U := ⟨va_AOA.moved hW.alike h.1, va_Nw.warmC hW h.2.1, va_Nw.warmC hW h.2.2.1, va_Nw.warmC hW h.2.2.2⟩
abbrev preM (D : va_G) (cA : Nat → ClassId) (ad : Nat → Nat → Nat) (av : List Value) (S : Sg) (sz : Nat) : Array Value → State → Prop := va_Pc av (fun U => U.heap.size = sz ∧ va_P D vwCl (lW cA ad S) U.heap ∧ va_K D vwCl (tyl cA) U ∧ va_D (fun _ => True) (lW cA ad S) ∧ EM U)
theorem preM_blind {av : List Value} {sz : Nat} {D : va_G} {cA : Nat → ClassId} {ad : Nat → Nat → Nat} {S : Sg} : FrameBlind (preM D cA ad av S sz) := fun a U g mk q => by
  obtain ⟨q0, q1, qP, qK, qD, qE⟩ := q
  exact ⟨q0, q1, qP, va_K.moved (u := U) (U := U.calling g mk a) (Vm.Alike.refl U.vm) qK, qD, EM.warm (s := U) (U := U.calling g mk a) (State.WarmedH.refl U) qE⟩
def CtK (l : Launch) (y : MethodName) (ws : List Cond) (rm : Room) (D : va_G) (cA : Nat → ClassId) (ad : Nat → Nat → Nat) (av : List Value) (S : Sg) (post : Int32 → (Nat → Nat → Nat) × Sg → Prop) : Prop :=
  ∀ sz : Nat, Met l y ws rm (preM D cA ad av S sz) (va_Qi post (fun (u : (Nat → Nat → Nat) × Sg) t => va_P D vwCl (lW cA u.1 u.2) t.heap ∧ va_D (va_A (lW cA ad S) sz) (lW cA u.1 u.2)) (va_A (lW cA ad S) sz)) 11 172 (va_A (lW cA ad S) sz)
theorem ct_ofK {l : Launch} {y : MethodName} {ws ws' : List Cond} {rm : Room} {D : va_G} {cA : Nat → ClassId} {ad : Nat → Nat → Nat} {av : List Value} {S : Sg} {post : Int32 → (Nat → Nat → Nat) × Sg → Prop} {cc : ByteArray} {nL : Nat} (hy : plainName y.cls = true) (hw : ws = Cond.code y cc nL (some .int) :: ws') (hlen : (lg_sl av).length ≤ nL)
    (body : ∀ (p : Program) (e : Env) (s : State) (m : MethodId) (args : Array Value) (below : List Frame) (meth : Method) (c : Code) (A : Nat → Prop) (Q : State → Prop), Cx p s m args c cc nL ws y.cls D cA A → EM s →
      (∀ (pc : Nat) (lv : List (Nat × Value)) (v : Int32) (ad' : Nat → Nat → Nat) (S' : Sg), decode cc pc = .ok (.ireturn, 1) → post v (ad', S') → KC 11 172 p l e rm s m args below meth c nL D cA ad' A Q pc lv [.int v] S') → KC 0 0 p l e rm s m args below meth c nL D cA ad A Q 0 (lv_args 0 av) [] S) : CtK l y ws rm D cA ad av S post := by
  intro sz
  refine Met.ofW (cc := cc) (maxL := nL) (ret := some .int) hy hw ?_
  intro p e s m args below meth c s₁ B hml hv
  obtain ⟨rfl, hsz, hP, hK, hD0, hE⟩ := hv
  subst hsz
  have hD := hD0.self (sz := s.heap.size)
  generalize hAe : va_A (lW cA ad S) s.heap.size = A at hD ⊢
  have hA : ∀ q : Nat, s.heap.size ≤ q → A q := fun q h => by rw [← hAe]; exact Or.inr h
  have hl := lv_entry av (n := nL) hlen
  rw [lg_entry_eq]
  have C : Cx p s m av.toArray c cc nL ws y.cls D cA A := ⟨B.exec, B.bytes, hml, findClass_of_methodNamed B.named, atoms_spec (ws := ws) B.pre, hK, hA⟩
  exact body p e s m av.toArray below meth c A _ C hE (fun pc lv v ad' S' d q H locs ls hl hP hD hS => W.iret (v := v) C.1 C.2.1 B.returns (fun t ht hW => ⟨⟨v, (ad', S'), rfl, q, by rw [ht]; exact hP, hD⟩, hS.F ht⟩) hS.2.2 d B.notSynchronized) s.heap [] _ hl hP hD va_S.rf
theorem kdOf_lt (a : Int32) : kdOf a < 4 := by
  unfold kdOf
  split
  · decide
  · split
    · decide
    · split <;> decide
section
variable {p : Program} {l : Launch} {e : Env} {R : Room} {kc ks : Nat} {s : State} {m : MethodId} {args : Array Value} {below : List Frame} {meth : Method} {c : Code} {nL : Nat} {D : va_G} {cA : Nat → ClassId} {ad : Nat → Nat → Nat} {A : Nat → Prop} {Q : State → Prop} {cc : ByteArray} {Ts : List Cond} {own : String} {pc : Nat} {lv lv' : List (Nat × Value)} {st rest : List Value} {S : Sg}
theorem c_astM (C : Cx p s m args c cc nL Ts own D cA A) (hE : EM s) {kd : Nat} (hkd : kd < 4) {a1 a2 a3 i : Int32} {q : Nat} {a r1 r2 : Nat → Nat} {H : Heap} {locs : List Loc} {ls : Array Slot} (hs : ∀ d j, d < 8 → sM S d = some j → j < nM S) (hi : i = nI (nM S)) (hn : nM S < 10) (hP : va_P D vwCl (lW cA ad S ++ mkMk cA q (d1K kd a1 a2 a3 a) a r1 r2) H) (hD : va_D A (lW cA ad S ++ mkMk cA q (d1K kd a1 a2 a3 a) a r1 r2)) (hS : va_S A s.heap H locs) (hl : lv_has ls nL lv) (d : decode cc pc = .ok (.aastore, 1)) (kk : KC kc ks p l e R s m args below meth c nL D cA (adM ad (nM S) q a r1 r2) A Q (pc + 1) lv st (nwM S kd a1 a2 a3)) : W p l e R s m args below meth c H locs kc ks Q (F0 m pc ls (.ref q :: .int i :: .ref (ad 1 0) :: st)) := by
  obtain ⟨q0, hi0, hq⟩ := lW_get cA ad S (hm_1 (n := nM S))
  have hlt : q0 < (lW cA ad S).length := (List.getElem?_eq_some_iff.mp hq).1
  have hcl : i.toNatClampNeg = nM S := by rw [hi]; exact nI_clamp (by omega)
  have hin : vp_in i 10 := by rw [hi]; exact nI_in hn (by omega)
  have ha : (lW cA ad S ++ mkMk cA q (d1K kd a1 a2 a3 a) a r1 r2)[q0]? = some (ad 1 0, .inl (cA 3, 10, .inr (.inr (.inr (.inr (fun j => if j < nM S then some (ad 26 j) else none)))))) := by
    rw [List.getElem?_append_left hlt, hq]
    rfl
  have hv : (lW cA ad S ++ mkMk cA q (d1K kd a1 a2 a3 a) a r1 r2)[(lW cA ad S).length]? = some (q, .inr (d1K kd a1 a2 a3 a)) := by
    rw [List.getElem?_append_right (Nat.le_refl _), Nat.sub_self]
    rfl
  have kk' : ∀ (H1 : Heap) (locs1 : List Loc), va_P D vwCl ((lW cA ad S ++ mkMk cA q (d1K kd a1 a2 a3 a) a r1 r2).set q0 (ad 1 0, .inl (cA 3, 10, .inr (.inr (.inr (.inr (va_up (fun j => if j < nM S then some (ad 26 j) else none) i.toNatClampNeg (some q)))))))) H1 → va_D A ((lW cA ad S ++ mkMk cA q (d1K kd a1 a2 a3 a) a r1 r2).set q0 (ad 1 0, .inl (cA 3, 10, .inr (.inr (.inr (.inr (va_up (fun j => if j < nM S then some (ad 26 j) else none) i.toNatClampNeg (some q)))))))) → va_S A s.heap H1 locs1 → W p l e R s m args below meth c H1 locs1 kc ks Q (F0 m (pc + 1) ls st) := by
    intro H1 locs1 hP1 hD1 hS1
    rw [hcl] at hP1 hD1
    obtain ⟨hP2, hD2⟩ := lW_mark hkd hs hi0 hP1 hD1
    exact kk H1 locs1 ls hl hP2 hD2 hS1
  rcases (show kd = 0 ∨ kd = 1 ∨ kd = 2 ∨ kd = 3 by omega) with rfl | rfl | rfl | rfl
  · exact va_astq (r := (RX3, TX3, 11)) C.1 C.2.1 C.2.2.2.2.2.1 hP hD hS q0 3 (lW cA ad S).length 3 ha rfl hv rfl hin d kk'
  · exact va_astqO (E := "CreepBoard$Mark") (r := (RX4, TX4, 13)) C.1 C.2.1 C.2.2.2.2.2.1 hP hD hS q0 3 (lW cA ad S).length 4 ha rfl hE.2.1 hv rfl hin d kk'
  · exact va_astqO (E := "CreepBoard$Mark") (r := (RX8, TX8, 13)) C.1 C.2.1 C.2.2.2.2.2.1 hP hD hS q0 3 (lW cA ad S).length 8 ha rfl hE.2.2.1 hv rfl hin d kk'
  · exact va_astqO (E := "CreepBoard$Mark") (r := (RX1, TX1, 11)) C.1 C.2.1 C.2.2.2.2.2.1 hP hD hS q0 3 (lW cA ad S).length 1 ha rfl hE.2.2.2 hv rfl hin d kk'
end
def wp_X9_mark (a1 a2 a3 : Int32) (S : Sg) (Q : Int32 → Sg → Prop) : Prop :=
  (a1 < 0 → Q (-1) S) ∧ (¬ a1 < 0 → ((3 < a1 → Q (-1) S) ∧ (¬ 3 < a1 → wp_X9_within a2 1000 S (fun r S1 => (r = 0 → Q (-1) S1) ∧ (¬ r = 0 → wp_X9_within a3 1000 S1 (fun r2 S2 => (r2 = 0 → Q (-1) S2) ∧ (¬ r2 = 0 → ((¬ gI S2 0 0 6 < 10 → Q (-2) S2) ∧ (gI S2 0 0 6 < 10 → (gI S2 0 0 6 = nI (nM S2) ∧ nM S2 < 10 ∧ (∀ d j, d < 8 → sM S2 d = some j → j < nM S2) ∧ ∀ S3 : Sg, S3 = nwM S2 (kdOf a1) (gI S2 0 0 6) a2 a3 → ∀ S4 : Sg, S4 = uI S3 0 0 6 (gI S3 0 0 6 + 1) → wp_X9_forgetMotion S4 (fun S5 => Q (gI S5 0 0 6 - 1) S5)))))))))))
set_option maxHeartbeats 4000000 in
set_option maxRecDepth 100000 in
theorem ct_X9_mark (l : Launch) (D : va_G) (cA : Nat → ClassId) (ad : Nat → Nat → Nat) (a1 a2 a3 : Int32) (S : Sg) (Q' : Int32 → Sg → Prop) (hw : wp_X9_mark a1 a2 a3 S Q') : CtK l yX9_mark wsX9_mark { frames := 5, cells := 11, slots := 172, locals := 112 } D cA ad [.ref (ad 0 0), .int a1, .int a2, .int a3] S (fun r u => (u.1 0 0 = ad 0 0 ∧ u.1 39 0 = ad 39 0 ∧ u.1 40 0 = ad 40 0) ∧ Q' r u.2) := by
  refine ct_ofK (cc := cX9_mark) (nL := 4) (by decide) rfl (Nat.le_of_ble_eq_true rfl) ?_
  intro p e s m args below meth c A Q C hE hret
  unfold wp_X9_mark at hw
  have C : Cx p s m args c cX9_mark 4 wsX9_mark RX9 D cA A := C
  have hin9 : ∀ w ∈ u_ws RX9 TX9 8, w ∈ wsX9_mark := fun w h => List.mem_cons_of_mem _ (List.mem_append_left _ (List.mem_append_left _ (List.mem_append_left _ (List.mem_append_left _ (List.mem_append_left _ (List.mem_append_left _ (List.mem_append_right _ h)))))))
  have f54 : Cond.fieldLink RX9 54 "CreepBoard" "markCount" "I" ∈ wsX9_mark := by decide +kernel
  have f11 : Cond.fieldLink RX9 11 "CreepBoard" "marks" "[LCreepBoard$Mark;" ∈ wsX9_mark := by decide +kernel
  change KC 0 0 p l e _ s m args below meth c 4 D cA ad A Q 0 [(0, .ref (ad 0 0)), (1, .int a1), (2, .int a2), (3, .int a3)] [] S
  have kbad : ∀ S1 : Sg, Q' (-1) S1 → KC 0 0 p l e { frames := 5, cells := 11, slots := 172, locals := 112 } s m args below meth c 4 D cA ad A Q 29 [(0, .ref (ad 0 0)), (1, .int a1), (2, .int a2), (3, .int a3)] [] S1 := by
    intro S1 hw
    refine c_iconst (v := (-1)) (pc := 29) C dX9_mark_29 (by decide) ?_
    refine c_widen (k := 11) (n := 172) (Nat.zero_le _) (Nat.zero_le _) ?_
    exact hret _ _ _ _ _ dX9_mark_30 ⟨⟨rfl, rfl, rfl⟩, hw⟩
  refine c_iload_n (pc := 0) C dX9_mark_0 1 rfl rfl ?_
  refine c_if_lt (pc := 1) C 29 dX9_mark_1 (by decide) (fun q0 => kbad S (hw.1 q0)) (fun q0 => ?_)
  have hw := hw.2 q0
  refine c_iload_n (pc := 4) C dX9_mark_4 1 rfl rfl ?_
  refine c_iconst (v := 3) (pc := 5) C dX9_mark_5 (by decide) ?_
  refine c_icmp_gt (pc := 6) C 29 dX9_mark_6 (by decide) (fun q1 => kbad S (hw.1 q1)) (fun q1 => ?_)
  have hw := hw.2 q1
  refine c_iload_n (pc := 9) C dX9_mark_9 2 rfl rfl ?_
  refine c_sipush (v := 1000) (pc := 10) C dX9_mark_10 (by decide) ?_
  refine c_afterI (pc := 13) C (wp_X9_within a2 1000 S) hw (fun post hw => rc_S C (ct_X9_within l D cA ad a2 1000 S post hw) (va_cwS 2 C.2.2.2.2.1 gX9_mark_X9_within rfl rfl rfl (by decide +kernel) ⟨Nat.le_of_ble_eq_true rfl, Nat.le_of_ble_eq_true rfl⟩) rfl rfl (Nat.le_of_ble_eq_true rfl) ⟨Nat.zero_le _, Nat.zero_le _⟩ dX9_mark_13) (fun r S1 hw => ?_)
  refine c_if_eq (pc := 16) C 29 dX9_mark_16 (by decide) (fun q2 => kbad S1 (hw.1 q2)) (fun q2 => ?_)
  have hw := hw.2 q2
  refine c_iload_n (pc := 19) C dX9_mark_19 3 rfl rfl ?_
  refine c_sipush (v := 1000) (pc := 20) C dX9_mark_20 (by decide) ?_
  refine c_afterI (pc := 23) C (wp_X9_within a3 1000 S1) hw (fun post hw => rc_S C (ct_X9_within l D cA ad a3 1000 S1 post hw) (va_cwS 2 C.2.2.2.2.1 gX9_mark_X9_within rfl rfl rfl (by decide +kernel) ⟨Nat.le_of_ble_eq_true rfl, Nat.le_of_ble_eq_true rfl⟩) rfl rfl (Nat.le_of_ble_eq_true rfl) ⟨Nat.zero_le _, Nat.zero_le _⟩ dX9_mark_23) (fun r2 S2 hw => ?_)
  refine c_if_ne (pc := 26) C 31 dX9_mark_26 (by decide) (fun q3 => ?_) (fun q3 => kbad S2 (hw.1 q3))
  have hw := hw.2 q3
  refine c_aload_n (pc := 31) C dX9_mark_31 0 rfl rfl ?_
  refine c_get (j := 6) (pc := 32) C hin9 hm_0 (cel_0 cA ad S2 0) rfl (by decide) f54 (fun _ h => h) rfl dX9_mark_32 ?_
  refine c_bipush (v := 10) (pc := 35) C dX9_mark_35 (by decide) ?_
  refine c_icmp_lt (pc := 37) C 43 dX9_mark_37 (by decide) (fun q4 => ?_) (fun q4 => ?_)
  · obtain ⟨hc, hn, hs, hw⟩ := hw.2 q4
    refine c_aload_n (pc := 43) C dX9_mark_43 0 rfl rfl ?_
    refine c_get (j := 0) (pc := 44) C hin9 hm_0 (cel_0 cA ad S2 0) rfl (by decide) f11 (fun _ h => h) rfl dX9_mark_44 ?_
    refine c_aload_n (pc := 47) C dX9_mark_47 0 rfl rfl ?_
    refine c_get (j := 6) (pc := 48) C hin9 hm_0 (cel_0 cA ad S2 0) rfl (by decide) f54 (fun _ h => h) rfl dX9_mark_48 ?_
    refine c_iload_n (pc := 51) C dX9_mark_51 1 rfl rfl ?_
    refine c_aload_n (pc := 52) C dX9_mark_52 0 rfl rfl ?_
    refine c_get (j := 6) (pc := 53) C hin9 hm_0 (cel_0 cA ad S2 0) rfl (by decide) f54 (fun _ h => h) rfl dX9_mark_53 ?_
    refine c_iload_n (pc := 56) C dX9_mark_56 2 rfl rfl ?_
    refine c_iload_n (pc := 57) C dX9_mark_57 3 rfl rfl ?_
    intro H locs ls hl hP hD hS
    have hF := lW_free hD hS C.2.2.2.2.2.2
    refine va_callr (va_runS (As := [.int a1, .int (gI S2 0 0 6), .int a2, .int a3]) (rest := [.int (gI S2 0 0 6), .ref (ad 1 0)]) ⟨C.1, C.2.1, C.2.2.1, C.2.2.2.1, C.2.2.2.2.1⟩ (ct_X9_markOfKind l D cA ad a1 (gI S2 0 0 6) a2 a3 S2 H.size) (va_cwS 4 C.2.2.2.2.1 gX9_mark_X9_markOfKind rfl rfl rfl (by decide +kernel) ⟨Nat.le_of_ble_eq_true rfl, Nat.le_of_ble_eq_true rfl⟩) ⟨fun a U g mk q => by
      obtain ⟨q0, q1, qP, qK, qD, qO⟩ := q
      exact ⟨q0, q1, qP, va_K.moved (u := U) (U := U.calling g mk a) (Vm.Alike.refl U.vm) qK, qD, va_AOA.moved (u := U) (U := U.calling g mk a) (Vm.Alike.refl U.vm) qO⟩, fun U hU hW => ⟨rfl, by rw [hU], by rw [hU]; exact hP, va_K.moved hW.alike C.2.2.2.2.2.1, hD.weaken (fun _ _ _ _ => trivial), va_AOA.moved hW.alike hE.1⟩⟩ rfl rfl hl.1 rfl (lv_room (Nat.le_of_ble_eq_true rfl)) dX9_mark_58 ⟨Nat.le_of_ble_eq_true rfl, Nat.le_of_ble_eq_true rfl⟩) hS (fun q _ h => hF q h) hF (fun u ra t H1 locs1 ht hvm hw' hB hz1 hk1 hS1 => ?_)
    obtain ⟨hP1, hD1⟩ := hB
    rw [ht] at hP1
    refine c_astM (pc := 61) (kd := kdOf a1) (a1 := gI S2 0 0 6) (a2 := a2) (a3 := a3) (i := gI S2 0 0 6) (q := ra) (a := u.1) (r1 := u.2.1) (r2 := u.2.2) (lv := [(0, .ref (ad 0 0)), (1, .int a1), (2, .int a2), (3, .int a3)]) C hE (kdOf_lt a1) hs hc hn hP1 (hD1.weaken (fun _ _ _ h => hF _ h)) hS1 hl dX9_mark_61 ?_
    have hw := hw _ rfl
    generalize hS3 : nwM S2 (kdOf a1) (gI S2 0 0 6) a2 a3 = S3 at hw ⊢
    have e0 : ad 0 0 = adM ad (nM S2) ra u.1 u.2.1 u.2.2 0 0 := rfl
    have e39 : ad 39 0 = adM ad (nM S2) ra u.1 u.2.1 u.2.2 39 0 := rfl
    have e40 : ad 40 0 = adM ad (nM S2) ra u.1 u.2.1 u.2.2 40 0 := rfl
    rw [e0, e39, e40] at hret
    rw [e0]
    generalize adM ad (nM S2) ra u.1 u.2.1 u.2.2 = ad' at hret ⊢
    refine c_aload_n (pc := 62) C dX9_mark_62 0 rfl rfl ?_
    refine c_dup (pc := 63) C dX9_mark_63 rfl ?_
    refine c_get (j := 6) (pc := 64) C hin9 hm_0 (cel_0 cA ad' S3 0) rfl (by decide) f54 (fun _ h => h) rfl dX9_mark_64 ?_
    refine c_iconst (v := 1) (pc := 67) C dX9_mark_67 (by decide) ?_
    refine c_iadd (pc := 68) C dX9_mark_68 ?_
    refine c_put (S' := uI S3 0 0 6 (gI S3 0 0 6 + 1)) (j := 6) (ty := .int) (pc := 69) C hin9 tyX9 tyX9_ok nmX9 hm_0 (cel_0 cA ad' S3 0) rfl (by decide) f54 (fun _ h => h) rfl (by decide +kernel) rfl rfl (Nat.le_of_ble_eq_true rfl) rfl rfl (fun a b h => cel_uI h) dX9_mark_69 ?_
    have hw := hw _ rfl
    generalize uI S3 0 0 6 (gI S3 0 0 6 + 1) = S4 at hw ⊢
    refine c_aload_n (pc := 72) C dX9_mark_72 0 rfl rfl ?_
    refine c_afterV (pc := 73) C (wp_X9_forgetMotion S4) hw (fun post hw => rc_V C (ct_X9_forgetMotion l D cA ad' S4 post hw) (cwV 0 C.2.2.2.2.1 gX9_mark_X9_forgetMotion rfl rfl rfl (by decide +kernel) ⟨Nat.le_of_ble_eq_true rfl, Nat.le_of_ble_eq_true rfl⟩) hm_0 (cel_0 cA ad' S4 0) rfl rfl rfl rfl (Nat.le_of_ble_eq_true rfl) ⟨Nat.le_of_ble_eq_true rfl, Nat.le_of_ble_eq_true rfl⟩ dX9_mark_73) (fun S5 hw => ?_)
    refine c_aload_n (pc := 76) C dX9_mark_76 0 rfl rfl ?_
    refine c_get (j := 6) (pc := 77) C hin9 hm_0 (cel_0 cA ad' S5 0) rfl (by decide) f54 (fun _ h => h) rfl dX9_mark_77 ?_
    refine c_iconst (v := 1) (pc := 80) C dX9_mark_80 (by decide) ?_
    refine c_isub (pc := 81) C dX9_mark_81 ?_
    exact hret _ _ _ _ _ dX9_mark_82 ⟨⟨rfl, rfl, rfl⟩, hw⟩
  · refine c_bipush (v := (-2)) (pc := 40) C dX9_mark_40 (by decide) ?_
    refine c_widen (k := 11) (n := 172) (Nat.zero_le _) (Nat.zero_le _) ?_
    exact hret _ _ _ _ _ dX9_mark_42 ⟨⟨rfl, rfl, rfl⟩, hw.1 q4⟩
