theorem va_left {D : va_G} {cl : List vw_C} {X c : va_W} {H : Heap} (h : va_P D cl (X ++ c) H) : va_P D cl X H := fun k q hk => h k q (by rw [List.getElem?_append_left (List.getElem?_eq_some_iff.mp hk).1]; exact hk)
theorem va_right {D : va_G} {cl : List vw_C} {X c : va_W} {H : Heap} (h : va_P D cl (X ++ c) H) : va_P D cl c H := fun k q hk => h (X.length + k) q (by rw [List.getElem?_append_right (by omega)]; simpa using hk)
theorem vd_left {A : Nat → Prop} {X c : va_W} (h : va_D A (X ++ c)) : va_D A X := by
  have hx : ∀ (k : Nat) (q : Nat × va_E), X[k]? = some q → (X ++ c)[k]? = some q := fun k q hk => by rw [List.getElem?_append_left (List.getElem?_eq_some_iff.mp hk).1]; exact hk
  exact ⟨fun i j p q hi hj e => h.1 i j p q (hx i p hi) (hx j q hj) e, fun k q hk => h.2 k q (hx k q hk)⟩
theorem vd_right {A : Nat → Prop} {X c : va_W} (h : va_D A (X ++ c)) : va_D A c := by
  have hx : ∀ (k : Nat) (q : Nat × va_E), c[k]? = some q → (X ++ c)[X.length + k]? = some q := fun k q hk => by rw [List.getElem?_append_right (by omega)]; simpa using hk
  exact ⟨fun i j p q hi hj e => by have := h.1 _ _ p q (hx i p hi) (hx j q hj) e; omega, fun k q hk => h.2 _ q (hx k q hk)⟩
theorem vd_cross {A : Nat → Prop} {X c : va_W} (h : va_D A (X ++ c)) {i j : Nat} {p q : Nat × va_E} (hi : X[i]? = some p) (hj : c[j]? = some q) : p.1 ≠ q.1 := fun e => by
  have h1 : (X ++ c)[i]? = some p := by rw [List.getElem?_append_left (List.getElem?_eq_some_iff.mp hi).1]; exact hi
  have h2 : (X ++ c)[X.length + j]? = some q := by rw [List.getElem?_append_right (by omega)]; simpa using hj
  have h3 := h.1 _ _ p q h1 h2 e
  have h4 := (List.getElem?_eq_some_iff.mp hi).1
  omega
theorem va_frame {A0 : Nat → Prop} {D : va_G} {cl : List vw_C} {X c c1 : va_W} {H H1 : Heap} (hP : va_P D cl (X ++ c) H) (hD : va_D A0 (X ++ c)) (hk1 : ∀ q : Nat, q < H.size → ¬ va_A c H.size q → H1[q]? = H[q]?) (hF : ∀ q, va_A c H.size q → A0 q) (hP1 : va_P D cl c1 H1) (hD1 : va_D (va_A c H.size) c1) : va_P D cl (X ++ c1) H1 ∧ va_D A0 (X ++ c1) := by
  have hPX := va_left hP
  have hno : ∀ (k : Nat) (q : Nat × va_E), X[k]? = some q → ¬ va_A c H.size q.1 := fun k q hk h => by
    rcases h with ⟨j, e, hj⟩ | h
    · exact vd_cross hD hk hj rfl
    · have := (hPX k q hk).lt
      omega
  refine ⟨(hPX.kept (fun k q hk => hk1 _ (hPX k q hk).lt (hno k q hk))).app hP1, (vd_left hD).app (hD1.weaken (fun _ _ _ h => hF _ h)) (fun i j p q hi hj e => ?_)⟩
  exact hno i p hi (by rw [e]; exact hD1.2 j q hj)
/-- the contract of a mark's <init> -/
def CtM (l : Launch) (y : MethodName) (wy : List Cond) (rm : Room) (D : va_G) (cA : Nat → ClassId) (h : Nat) (d0 : Nat × List Value) (d1 : (Nat → Nat) → Nat × List Value) (av : List Value) : Prop :=
  ∀ sz : Nat, Met l y wy rm (va_Pc av (fun U => U.heap.size = sz ∧ va_P D vwCl [(h, .inr d0)] U.heap ∧ va_K D vwCl (tyl cA) U ∧ va_D (fun _ => True) [(h, .inr d0)] ∧ va_AOA .int U)) (va_Qv (fun _ => True) (fun (u : (Nat → Nat) × (Nat → Nat) × (Nat → Nat)) t => va_P D vwCl (mkMk cA h (d1 u.1) u.1 u.2.1 u.2.2) t.heap ∧ va_D (va_A [(h, .inr d0)] sz) (mkMk cA h (d1 u.1) u.1 u.2.1 u.2.2)) (va_A [(h, .inr d0)] sz)) 10 159 (va_A [(h, .inr d0)] sz)
theorem va_AOA.moved {ty : FieldType} {u U : State} (hvm : u.vm.Alike U.vm) (h : va_AOA ty u) : va_AOA ty U := arrayOver_alikeB hvm h
section
variable {p : Program} {l : Launch} {e : Env} {R : Room} {kc ks : Nat} {s : State} {m : MethodId} {args : Array Value} {below : List Frame} {meth : Method} {c : Code} {nL : Nat} {D : va_G} {cA : Nat → ClassId} {A : Nat → Prop} {Q : State → Prop} {cc : ByteArray} {Ts : List Cond} {own : String} {pc : Nat} {lv lv' : List (Nat × Value)} {st rest : List Value} {ws : va_W}
theorem e_callI (C : Cx p s m args c cc nL Ts own D cA A) {X : va_W} {y : MethodName} {wy : List Cond} {rm : Room} {bytes : ByteArray} {maxL n index h : Nat} {d0 : Nat × List Value} {d1 : (Nat → Nat) → Nat × List Value} {As : List Value} (hov : va_AOA .int s) (hM : CtM l y wy rm D cA h d0 d1 (.ref h :: As)) (cw : CallB R s args own index y bytes maxL none wy rm 10 159 n ∧ y.name = "<init>" ∧ (Cond.instanceMethod y).before args s = true) (hn : As.length = n) (hst : st = As.reverse ++ .ref h :: rest) (hW : (rest.map fun v => v.category).sum ≤ 8) (hR : kc + 10 ≤ R.cells ∧ ks + 159 ≤ R.slots) (d : decode cc pc = .ok (.invokespecial index, 3)) (kk : ∀ u : (Nat → Nat) × (Nat → Nat) × (Nat → Nat), KE (kc + 10) (ks + 159) p l e R s m args below meth c nL D A Q (pc + 3) lv rest (X ++ mkMk cA h (d1 u.1) u.1 u.2.1 u.2.2)) : KE kc ks p l e R s m args below meth c nL D A Q pc lv st (X ++ [(h, .inr d0)]) := fun H locs ls hl hP hD hS => by
  subst hst
  have hF : ∀ q, va_A [(h, .inr d0)] H.size q → A q := by
    intro q hq
    rcases hq with ⟨k, e, hk⟩ | hq
    · exact (vd_right hD).2 k _ hk
    · exact C.2.2.2.2.2.2 q (Nat.le_trans hS.1 hq)
  refine va_callv (va_runI (As := As) (rest := rest) ⟨C.1, C.2.1, C.2.2.1, C.2.2.2.1, C.2.2.2.2.1⟩ (hM H.size) cw ⟨fun a U g mk q => by
      obtain ⟨q0, q1, qP, qK, qD, qO⟩ := q
      exact ⟨q0, q1, qP, va_K.moved (u := U) (U := U.calling g mk a) (Vm.Alike.refl U.vm) qK, qD, va_AOA.moved (u := U) (U := U.calling g mk a) (Vm.Alike.refl U.vm) qO⟩, fun U hU hW => ⟨rfl, by rw [hU], by rw [hU]; exact va_right hP, va_K.moved hW.alike C.2.2.2.2.2.1, (vd_right hD).weaken (fun _ _ _ _ => trivial), va_AOA.moved hW.alike hov⟩⟩ rfl hn hl.1 rfl (lv_room hW) d hR) hS (fun q _ h => hF q h) hF (fun u t H1 locs1 ht hvm hw hB hz1 hk1 hS1 => ?_)
  obtain ⟨hP1, hD1⟩ := hB
  rw [ht] at hP1
  obtain ⟨hP2, hD2⟩ := va_frame hP hD hk1 hF hP1 hD1
  exact kk u H1 locs1 ls hl hP2 hD2 hS1
end
set_option maxHeartbeats 4000000 in
set_option maxRecDepth 100000 in
theorem ct_X4i_1 (l : Launch) (D : va_G) (cA : Nat → ClassId) (h : Nat) (a1 a2 a3 : Int32) : CtM l yX4_init wsX4_init { frames := 2, cells := 10, slots := 159, locals := 43 } D cA h d0_1 (fun a => d1_1 a1 a2 a3 a) [.ref h, .int a1, .int a2, .int a3] := by
  intro sz
  refine Met.ofW (cc := cX4_init) (maxL := 4) (ret := none) (by decide) rfl ?_
  intro p e s m args below meth c s₁ B hml hv
  obtain ⟨rfl, hsz, hP, hK, hD0, hov⟩ := hv
  subst hsz
  have hD := hD0.self (sz := s.heap.size)
  generalize hAe : va_A [(h, .inr d0_1)] s.heap.size = A at hD ⊢
  have hA : ∀ q : Nat, s.heap.size ≤ q → A q := fun q h => by rw [← hAe]; exact Or.inr h
  have hl := lv_entry [.ref h, .int a1, .int a2, .int a3] (n := 4) (Nat.le_of_ble_eq_true rfl)
  rw [lg_entry_eq]
  have hr := B.returns
  have hk := B.notSynchronized
  have C : Cx p s m _ c cX4_init 4 wsX4_init RX4 D cA A := ⟨B.exec, B.bytes, hml, findClass_of_methodNamed B.named, atoms_spec (ws := wsX4_init) B.pre, hK, hA⟩
  refine (?_ : KE 0 0 p l e _ s m _ below meth c 4 D A _ 0 [(0, .ref h), (1, .int a1), (2, .int a2), (3, .int a3)] [] ([] ++ [(h, .inr d0_1)])) s.heap [] _ hl hP hD va_S.rf
  refine e_aload_n (pc := 0) C dX4_init_0 0 rfl rfl ?_
  refine e_iload_n (pc := 1) C dX4_init_1 1 rfl rfl ?_
  refine e_iload_n (pc := 2) C dX4_init_2 2 rfl rfl ?_
  refine e_iload_n (pc := 3) C dX4_init_3 3 rfl rfl ?_
  refine e_callI (pc := 4) (X := []) C hov (fun sz => ct_mi_1 l D cA h a1 a2 a3 sz) (cwI 3 C.2.2.2.2.1 gX4_init_X3_init rfl rfl rfl (C.2.2.2.2.1 (.initialized RX3) (by decide +kernel)) (C.2.2.2.2.1 (.methodLink RX4 1 yX3_init) (by decide +kernel)) (C.2.2.2.2.1 (.instanceMethod yX3_init) (by decide +kernel)) rfl (by decide +kernel) ⟨Nat.le_of_ble_eq_true rfl, Nat.le_of_ble_eq_true rfl⟩) rfl rfl (Nat.le_of_ble_eq_true rfl) ⟨Nat.le_of_ble_eq_true rfl, Nat.le_of_ble_eq_true rfl⟩ dX4_init_4 (fun u => ?_)
  exact e_widen (k := 10) (n := 159) (Nat.le_of_ble_eq_true rfl) (Nat.le_of_ble_eq_true rfl) (fun H locs ls hl hP hD hS => W.vret C.1 C.2.1 hr (fun t ht hW => ⟨⟨u, rfl, trivial, by rw [ht]; exact hP, hD⟩, hS.F ht⟩) hS.2.2 dX4_init_7 hk)
set_option maxHeartbeats 4000000 in
set_option maxRecDepth 100000 in
theorem ct_X4i_2 (l : Launch) (D : va_G) (cA : Nat → ClassId) (h : Nat) (a1 a2 a3 : Int32) : CtM l yX4_init wsX4_init { frames := 2, cells := 10, slots := 159, locals := 43 } D cA h d0_2 (fun a => d1_2 a1 a2 a3 a) [.ref h, .int a1, .int a2, .int a3] := by
  intro sz
  refine Met.ofW (cc := cX4_init) (maxL := 4) (ret := none) (by decide) rfl ?_
  intro p e s m args below meth c s₁ B hml hv
  obtain ⟨rfl, hsz, hP, hK, hD0, hov⟩ := hv
  subst hsz
  have hD := hD0.self (sz := s.heap.size)
  generalize hAe : va_A [(h, .inr d0_2)] s.heap.size = A at hD ⊢
  have hA : ∀ q : Nat, s.heap.size ≤ q → A q := fun q h => by rw [← hAe]; exact Or.inr h
  have hl := lv_entry [.ref h, .int a1, .int a2, .int a3] (n := 4) (Nat.le_of_ble_eq_true rfl)
  rw [lg_entry_eq]
  have hr := B.returns
  have hk := B.notSynchronized
  have C : Cx p s m _ c cX4_init 4 wsX4_init RX4 D cA A := ⟨B.exec, B.bytes, hml, findClass_of_methodNamed B.named, atoms_spec (ws := wsX4_init) B.pre, hK, hA⟩
  refine (?_ : KE 0 0 p l e _ s m _ below meth c 4 D A _ 0 [(0, .ref h), (1, .int a1), (2, .int a2), (3, .int a3)] [] ([] ++ [(h, .inr d0_2)])) s.heap [] _ hl hP hD va_S.rf
  refine e_aload_n (pc := 0) C dX4_init_0 0 rfl rfl ?_
  refine e_iload_n (pc := 1) C dX4_init_1 1 rfl rfl ?_
  refine e_iload_n (pc := 2) C dX4_init_2 2 rfl rfl ?_
  refine e_iload_n (pc := 3) C dX4_init_3 3 rfl rfl ?_
  refine e_callI (pc := 4) (X := []) C hov (fun sz => ct_mi_2 l D cA h a1 a2 a3 sz) (cwI 3 C.2.2.2.2.1 gX4_init_X3_init rfl rfl rfl (C.2.2.2.2.1 (.initialized RX3) (by decide +kernel)) (C.2.2.2.2.1 (.methodLink RX4 1 yX3_init) (by decide +kernel)) (C.2.2.2.2.1 (.instanceMethod yX3_init) (by decide +kernel)) rfl (by decide +kernel) ⟨Nat.le_of_ble_eq_true rfl, Nat.le_of_ble_eq_true rfl⟩) rfl rfl (Nat.le_of_ble_eq_true rfl) ⟨Nat.le_of_ble_eq_true rfl, Nat.le_of_ble_eq_true rfl⟩ dX4_init_4 (fun u => ?_)
  exact e_widen (k := 10) (n := 159) (Nat.le_of_ble_eq_true rfl) (Nat.le_of_ble_eq_true rfl) (fun H locs ls hl hP hD hS => W.vret C.1 C.2.1 hr (fun t ht hW => ⟨⟨u, rfl, trivial, by rw [ht]; exact hP, hD⟩, hS.F ht⟩) hS.2.2 dX4_init_7 hk)
set_option maxHeartbeats 4000000 in
set_option maxRecDepth 100000 in
theorem ct_X1i_3 (l : Launch) (D : va_G) (cA : Nat → ClassId) (h : Nat) (a1 a2 a3 : Int32) : CtM l yX1_init wsX1_init { frames := 2, cells := 10, slots := 159, locals := 43 } D cA h d0_3 (fun a => d1_3 a1 a2 a3 a) [.ref h, .int a1, .int a2, .int a3] := by
  intro sz
  refine Met.ofW (cc := cX1_init) (maxL := 4) (ret := none) (by decide) rfl ?_
  intro p e s m args below meth c s₁ B hml hv
  obtain ⟨rfl, hsz, hP, hK, hD0, hov⟩ := hv
  subst hsz
  have hD := hD0.self (sz := s.heap.size)
  generalize hAe : va_A [(h, .inr d0_3)] s.heap.size = A at hD ⊢
  have hA : ∀ q : Nat, s.heap.size ≤ q → A q := fun q h => by rw [← hAe]; exact Or.inr h
  have hl := lv_entry [.ref h, .int a1, .int a2, .int a3] (n := 4) (Nat.le_of_ble_eq_true rfl)
  rw [lg_entry_eq]
  have hr := B.returns
  have hk := B.notSynchronized
  have C : Cx p s m _ c cX1_init 4 wsX1_init RX1 D cA A := ⟨B.exec, B.bytes, hml, findClass_of_methodNamed B.named, atoms_spec (ws := wsX1_init) B.pre, hK, hA⟩
  refine (?_ : KE 0 0 p l e _ s m _ below meth c 4 D A _ 0 [(0, .ref h), (1, .int a1), (2, .int a2), (3, .int a3)] [] ([] ++ [(h, .inr d0_3)])) s.heap [] _ hl hP hD va_S.rf
  refine e_aload_n (pc := 0) C dX1_init_0 0 rfl rfl ?_
  refine e_iload_n (pc := 1) C dX1_init_1 1 rfl rfl ?_
  refine e_iload_n (pc := 2) C dX1_init_2 2 rfl rfl ?_
  refine e_iload_n (pc := 3) C dX1_init_3 3 rfl rfl ?_
  refine e_callI (pc := 4) (X := []) C hov (fun sz => ct_mi_3 l D cA h a1 a2 a3 sz) (cwI 3 C.2.2.2.2.1 gX1_init_X3_init rfl rfl rfl (C.2.2.2.2.1 (.initialized RX3) (by decide +kernel)) (C.2.2.2.2.1 (.methodLink RX1 3 yX3_init) (by decide +kernel)) (C.2.2.2.2.1 (.instanceMethod yX3_init) (by decide +kernel)) rfl (by decide +kernel) ⟨Nat.le_of_ble_eq_true rfl, Nat.le_of_ble_eq_true rfl⟩) rfl rfl (Nat.le_of_ble_eq_true rfl) ⟨Nat.le_of_ble_eq_true rfl, Nat.le_of_ble_eq_true rfl⟩ dX1_init_4 (fun u => ?_)
  exact e_widen (k := 10) (n := 159) (Nat.le_of_ble_eq_true rfl) (Nat.le_of_ble_eq_true rfl) (fun H locs ls hl hP hD hS => W.vret C.1 C.2.1 hr (fun t ht hW => ⟨⟨u, rfl, trivial, by rw [ht]; exact hP, hD⟩, hS.F ht⟩) hS.2.2 dX1_init_7 hk)
set_option maxHeartbeats 4000000 in
set_option maxRecDepth 100000 in
theorem ct_X8i_2 (l : Launch) (D : va_G) (cA : Nat → ClassId) (h : Nat) (a1 a2 a3 : Int32) : CtM l yX8_init wsX8_init { frames := 3, cells := 10, slots := 159, locals := 66 } D cA h d0_2 (fun a => d1_2 a1 a2 a3 a) [.ref h, .int a1, .int a2, .int a3] := by
  intro sz
  refine Met.ofW (cc := cX8_init) (maxL := 4) (ret := none) (by decide) rfl ?_
  intro p e s m args below meth c s₁ B hml hv
  obtain ⟨rfl, hsz, hP, hK, hD0, hov⟩ := hv
  subst hsz
  have hD := hD0.self (sz := s.heap.size)
  generalize hAe : va_A [(h, .inr d0_2)] s.heap.size = A at hD ⊢
  have hA : ∀ q : Nat, s.heap.size ≤ q → A q := fun q h => by rw [← hAe]; exact Or.inr h
  have hl := lv_entry [.ref h, .int a1, .int a2, .int a3] (n := 4) (Nat.le_of_ble_eq_true rfl)
  rw [lg_entry_eq]
  have hr := B.returns
  have hk := B.notSynchronized
  have C : Cx p s m _ c cX8_init 4 wsX8_init RX8 D cA A := ⟨B.exec, B.bytes, hml, findClass_of_methodNamed B.named, atoms_spec (ws := wsX8_init) B.pre, hK, hA⟩
  refine (?_ : KE 0 0 p l e _ s m _ below meth c 4 D A _ 0 [(0, .ref h), (1, .int a1), (2, .int a2), (3, .int a3)] [] ([] ++ [(h, .inr d0_2)])) s.heap [] _ hl hP hD va_S.rf
  refine e_aload_n (pc := 0) C dX8_init_0 0 rfl rfl ?_
  refine e_iload_n (pc := 1) C dX8_init_1 1 rfl rfl ?_
  refine e_iload_n (pc := 2) C dX8_init_2 2 rfl rfl ?_
  refine e_iload_n (pc := 3) C dX8_init_3 3 rfl rfl ?_
  refine e_callI (pc := 4) (X := []) C hov (ct_X4i_2 l D cA h a1 a2 a3) (cwI 3 C.2.2.2.2.1 gX8_init_X4_init rfl rfl rfl (C.2.2.2.2.1 (.initialized RX4) (by decide +kernel)) (C.2.2.2.2.1 (.methodLink RX8 3 yX4_init) (by decide +kernel)) (C.2.2.2.2.1 (.instanceMethod yX4_init) (by decide +kernel)) rfl (by decide +kernel) ⟨Nat.le_of_ble_eq_true rfl, Nat.le_of_ble_eq_true rfl⟩) rfl rfl (Nat.le_of_ble_eq_true rfl) ⟨Nat.le_of_ble_eq_true rfl, Nat.le_of_ble_eq_true rfl⟩ dX8_init_4 (fun u => ?_)
  exact e_widen (k := 10) (n := 159) (Nat.le_of_ble_eq_true rfl) (Nat.le_of_ble_eq_true rfl) (fun H locs ls hl hP hD hS => W.vret C.1 C.2.1 hr (fun t ht hW => ⟨⟨u, rfl, trivial, by rw [ht]; exact hP, hD⟩, hS.F ht⟩) hS.2.2 dX8_init_7 hk)
