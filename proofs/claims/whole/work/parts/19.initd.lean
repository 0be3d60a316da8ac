section
variable {p : Program} {l : Launch} {e : Env} {R : Room} {kc ks : Nat} {s : State} {m : MethodId} {args : Array Value} {below : List Frame} {meth : Method} {c : Code} {nL : Nat} {D : va_G} {cA : Nat → ClassId} {A : Nat → Prop} {Q : State → Prop} {cc : ByteArray} {Ts : List Cond} {own : String} {pc : Nat} {lv lv' : List (Nat × Value)} {st rest : List Value} {ws : va_W}
theorem e_tblIn (C : Cx p s m args c cc nL Ts own D cA A) {dflt lo hi : Int} {offs : Array Int} {len : Nat} {x v : Int32} {off : Int} (tgt : Nat) (d : decode cc pc = .ok (.tableswitch dflt lo hi offs, len)) (hv : x = v) (h1 : ¬ v.toInt < lo) (h2 : ¬ hi < v.toInt) (ho : offs[(v.toInt - lo).toNat]? = some off) (ht : (pc : Int) + off = (tgt : Int)) (kk : KE kc ks p l e R s m args below meth c nL D A Q tgt lv st ws) : KE kc ks p l e R s m args below meth c nL D A Q pc lv (.int x :: st) ws := fun H locs ls hl hP hD hS => by
  subst hv
  exact lv_tableIn C.1 C.2.1 d h1 h2 ho ht (kk H locs ls hl hP hD hS)
theorem e_tblOut (C : Cx p s m args c cc nL Ts own D cA A) {dflt lo hi : Int} {offs : Array Int} {len : Nat} {x : Int32} (tgt : Nat) (d : decode cc pc = .ok (.tableswitch dflt lo hi offs, len)) (h : x.toInt < lo ∨ hi < x.toInt) (ht : (pc : Int) + dflt = (tgt : Int)) (kk : KE kc ks p l e R s m args below meth c nL D A Q tgt lv st ws) : KE kc ks p l e R s m args below meth c nL D A Q pc lv (.int x :: st) ws := fun H locs ls hl hP hD hS =>
  lv_tableOut C.1 C.2.1 d h ht (kk H locs ls hl hP hD hS)
theorem e_new (C : Cx p s m args c cc nL Ts own D cA A) {Cn : String} {Tt : u_T} {N ci index : Nat} (fs : List Value) (hin : ∀ w ∈ u_ws Cn Tt N, w ∈ Ts) (ty0 : Nat → FieldType) (hty : ∀ k, k < N → parseFieldDescriptor (Tt k).2.2.1 = some (ty0 k)) (hcl : Cond.classLink own index Cn ∈ Ts) (hinst : Cond.instantiable Cn N ∈ Ts) (hini : Cond.initialized Cn ∈ Ts) (hc : vwCl[ci]? = some (Cn, Tt, N)) (hfs : ∀ j, j < N → defaultValue (ty0 j) = vp_V fs j) (hR : kc + 1 ≤ R.cells ∧ ks + N ≤ R.slots) (d : decode cc pc = .ok (.new index, 3)) (kk : ∀ q : Nat, KE (kc + 1) (ks + N) p l e R s m args below meth c nL D A Q (pc + 3) lv (.ref q :: st) (ws ++ [(q, .inr (ci, fs))])) : KE kc ks p l e R s m args below meth c nL D A Q pc lv st ws := fun H locs ls hl hP hD hS =>
  va_new C.1 C.2.1 C.2.2.2.2.1 hin ty0 hty C.2.2.2.1 (C.2.2.2.2.1 _ hcl) (C.2.2.2.2.1 _ hinst) (C.2.2.2.2.1 _ hini) C.2.2.2.2.2.1 hP hD hS C.2.2.2.2.2.2 hc hfs hR.1 hR.2 d (fun q H1 hP1 hD1 hS1 => kk q H1 locs ls hl hP1 hD1 hS1)
end
/-- the kind that markOfKind makes, and its object -/
def kdOf (a : Int32) : Nat := if a = 1 then 1 else if a = 2 then 2 else if a = 3 then 3 else 0
def d1K (k : Nat) (a1 a2 a3 : Int32) (a : Nat → Nat) : Nat × List Value := if k = 1 then d1_1 a1 a2 a3 a else if k = 2 then d1_2 a1 a2 a3 a else if k = 3 then d1_3 a1 a2 a3 a else d1_0 a1 a2 a3 a
set_option maxHeartbeats 4000000 in
set_option maxRecDepth 100000 in
theorem ct_X9_markOfKind (l : Launch) (D : va_G) (cA : Nat → ClassId) (ad : Nat → Nat → Nat) (a0 a1 a2 a3 : Int32) (S : Sg) (sz : Nat) : Met l yX9_markOfKind wsX9_markOfKind { frames := 4, cells := 11, slots := 172, locals := 89 } (va_Pc [.int a0, .int a1, .int a2, .int a3] (fun U => U.heap.size = sz ∧ va_P D vwCl (lW cA ad S) U.heap ∧ va_K D vwCl (tyl cA) U ∧ va_D (fun _ => True) (lW cA ad S) ∧ va_AOA .int U)) (va_Qr (fun _ => True) (fun (u : (Nat → Nat) × (Nat → Nat) × (Nat → Nat)) q t => va_P D vwCl (lW cA ad S ++ mkMk cA q (d1K (kdOf a0) a1 a2 a3 u.1) u.1 u.2.1 u.2.2) t.heap ∧ va_D (va_A (lW cA ad S) sz) (lW cA ad S ++ mkMk cA q (d1K (kdOf a0) a1 a2 a3 u.1) u.1 u.2.1 u.2.2)) (va_A (lW cA ad S) sz)) 11 172 (va_A (lW cA ad S) sz) := by
  refine Met.ofW (cc := cX9_markOfKind) (maxL := 4) (ret := some (.object "CreepBoard$Mark")) (by decide) rfl ?_
  intro p e s m args below meth c s₁ B hml hv
  obtain ⟨rfl, hsz, hP, hK, hD0, hov⟩ := hv
  subst hsz
  have hD := hD0.self (sz := s.heap.size)
  generalize hAe : va_A (lW cA ad S) s.heap.size = A at hD ⊢
  have hA : ∀ q : Nat, s.heap.size ≤ q → A q := fun q h => by rw [← hAe]; exact Or.inr h
  have hl := lv_entry [.int a0, .int a1, .int a2, .int a3] (n := 4) (Nat.le_of_ble_eq_true rfl)
  rw [lg_entry_eq]
  have hr := B.returns
  have hk := B.notSynchronized
  have C : Cx p s m _ c cX9_markOfKind 4 wsX9_markOfKind RX9 D cA A := ⟨B.exec, B.bytes, hml, findClass_of_methodNamed B.named, atoms_spec (ws := wsX9_markOfKind) B.pre, hK, hA⟩
  refine (?_ : KE 0 0 p l e _ s m _ below meth c 4 D A _ 0 [(0, .int a0), (1, .int a1), (2, .int a2), (3, .int a3)] [] (lW cA ad S)) s.heap [] _ hl hP hD va_S.rf
  refine e_iload_n (pc := 0) C dX9_markOfKind_0 0 rfl rfl ?_
  by_cases z1 : a0 = 1
  · refine e_tblIn (off := 27) (pc := 1) C 28 dX9_markOfKind_1 z1 (by decide) (by decide) (by decide) (by decide) ?_
    have hkd : ∀ a : Nat → Nat, d1K (kdOf a0) a1 a2 a3 a = d1_1 a1 a2 a3 a := fun a => by subst z1; rfl
    have hin : ∀ w ∈ u_ws RX4 TX4 13, w ∈ wsX9_markOfKind := fun w h => List.mem_cons_of_mem _ (List.mem_append_left _ (List.mem_append_left _ (List.mem_append_left _ (List.mem_append_right _ h))))
    refine e_new (pc := 28) (ci := 4) (N := 13) C d0_1.2 hin tyX4 tyX4_ok (by decide +kernel : Cond.classLink RX9 73 RX4 ∈ wsX9_markOfKind) (by decide +kernel) (by decide +kernel) rfl (fun j hj => by rcases (show j = 0 ∨ j = 1 ∨ j = 2 ∨ j = 3 ∨ j = 4 ∨ j = 5 ∨ j = 6 ∨ j = 7 ∨ j = 8 ∨ j = 9 ∨ j = 10 ∨ j = 11 ∨ j = 12 by omega) with rfl | rfl | rfl | rfl | rfl | rfl | rfl | rfl | rfl | rfl | rfl | rfl | rfl <;> rfl) ⟨Nat.le_of_ble_eq_true rfl, Nat.le_of_ble_eq_true rfl⟩ dX9_markOfKind_28 (fun q => ?_)
    refine e_dup (pc := 31) C dX9_markOfKind_31 rfl ?_
    refine e_iload_n (pc := 32) C dX9_markOfKind_32 1 rfl rfl ?_
    refine e_iload_n (pc := 33) C dX9_markOfKind_33 2 rfl rfl ?_
    refine e_iload_n (pc := 34) C dX9_markOfKind_34 3 rfl rfl ?_
    refine e_callI (pc := 35) (X := lW cA ad S) (d0 := d0_1) (d1 := fun a => d1_1 a1 a2 a3 a) C hov (ct_X4i_1 l D cA q a1 a2 a3) (cwI 3 C.2.2.2.2.1 gX9_markOfKind_X4_init rfl rfl rfl (C.2.2.2.2.1 (.initialized RX4) (by decide +kernel)) (C.2.2.2.2.1 (.methodLink RX9 305 yX4_init) (by decide +kernel)) (C.2.2.2.2.1 (.instanceMethod yX4_init) (by decide +kernel)) rfl (by decide +kernel) ⟨Nat.le_of_ble_eq_true rfl, Nat.le_of_ble_eq_true rfl⟩) rfl rfl (Nat.le_of_ble_eq_true rfl) ⟨Nat.le_of_ble_eq_true rfl, Nat.le_of_ble_eq_true rfl⟩ dX9_markOfKind_35 (fun u => ?_)
    exact e_widen (k := 11) (n := 172) (Nat.le_of_ble_eq_true rfl) (Nat.le_of_ble_eq_true rfl) (fun H locs ls hl hP hD hS => W.aret C.1 C.2.1 hr (Or.inl ⟨_, rfl⟩) (Or.inr ⟨_, rfl⟩) (fun t ht hW => ⟨⟨u, q, rfl, trivial, by rw [ht, hkd]; exact hP, by rw [hkd]; exact hD⟩, hS.F ht⟩) hS.2.2 dX9_markOfKind_38 hk)
  by_cases z2 : a0 = 2
  · refine e_tblIn (off := 38) (pc := 1) C 39 dX9_markOfKind_1 z2 (by decide) (by decide) (by decide) (by decide) ?_
    have hkd : ∀ a : Nat → Nat, d1K (kdOf a0) a1 a2 a3 a = d1_2 a1 a2 a3 a := fun a => by subst z2; rfl
    have hin : ∀ w ∈ u_ws RX8 TX8 13, w ∈ wsX9_markOfKind := fun w h => List.mem_cons_of_mem _ (List.mem_append_left _ (List.mem_append_left _ (List.mem_append_right _ h)))
    refine e_new (pc := 39) (ci := 8) (N := 13) C d0_2.2 hin tyX8 tyX8_ok (by decide +kernel : Cond.classLink RX9 308 RX8 ∈ wsX9_markOfKind) (by decide +kernel) (by decide +kernel) rfl (fun j hj => by rcases (show j = 0 ∨ j = 1 ∨ j = 2 ∨ j = 3 ∨ j = 4 ∨ j = 5 ∨ j = 6 ∨ j = 7 ∨ j = 8 ∨ j = 9 ∨ j = 10 ∨ j = 11 ∨ j = 12 by omega) with rfl | rfl | rfl | rfl | rfl | rfl | rfl | rfl | rfl | rfl | rfl | rfl | rfl <;> rfl) ⟨Nat.le_of_ble_eq_true rfl, Nat.le_of_ble_eq_true rfl⟩ dX9_markOfKind_39 (fun q => ?_)
    refine e_dup (pc := 42) C dX9_markOfKind_42 rfl ?_
    refine e_iload_n (pc := 43) C dX9_markOfKind_43 1 rfl rfl ?_
    refine e_iload_n (pc := 44) C dX9_markOfKind_44 2 rfl rfl ?_
    refine e_iload_n (pc := 45) C dX9_markOfKind_45 3 rfl rfl ?_
    refine e_callI (pc := 46) (X := lW cA ad S) (d0 := d0_2) (d1 := fun a => d1_2 a1 a2 a3 a) C hov (ct_X8i_2 l D cA q a1 a2 a3) (cwI 3 C.2.2.2.2.1 gX9_markOfKind_X8_init rfl rfl rfl (C.2.2.2.2.1 (.initialized RX8) (by decide +kernel)) (C.2.2.2.2.1 (.methodLink RX9 310 yX8_init) (by decide +kernel)) (C.2.2.2.2.1 (.instanceMethod yX8_init) (by decide +kernel)) rfl (by decide +kernel) ⟨Nat.le_of_ble_eq_true rfl, Nat.le_of_ble_eq_true rfl⟩) rfl rfl (Nat.le_of_ble_eq_true rfl) ⟨Nat.le_of_ble_eq_true rfl, Nat.le_of_ble_eq_true rfl⟩ dX9_markOfKind_46 (fun u => ?_)
    exact e_widen (k := 11) (n := 172) (Nat.le_of_ble_eq_true rfl) (Nat.le_of_ble_eq_true rfl) (fun H locs ls hl hP hD hS => W.aret C.1 C.2.1 hr (Or.inl ⟨_, rfl⟩) (Or.inr ⟨_, rfl⟩) (fun t ht hW => ⟨⟨u, q, rfl, trivial, by rw [ht, hkd]; exact hP, by rw [hkd]; exact hD⟩, hS.F ht⟩) hS.2.2 dX9_markOfKind_49 hk)
  by_cases z3 : a0 = 3
  · refine e_tblIn (off := 49) (pc := 1) C 50 dX9_markOfKind_1 z3 (by decide) (by decide) (by decide) (by decide) ?_
    have hkd : ∀ a : Nat → Nat, d1K (kdOf a0) a1 a2 a3 a = d1_3 a1 a2 a3 a := fun a => by subst z3; rfl
    have hin : ∀ w ∈ u_ws RX1 TX1 11, w ∈ wsX9_markOfKind := fun w h => List.mem_cons_of_mem _ (List.mem_append_left _ (List.mem_append_right _ h))
    refine e_new (pc := 50) (ci := 1) (N := 11) C d0_3.2 hin tyX1 tyX1_ok (by decide +kernel : Cond.classLink RX9 311 RX1 ∈ wsX9_markOfKind) (by decide +kernel) (by decide +kernel) rfl (fun j hj => by rcases (show j = 0 ∨ j = 1 ∨ j = 2 ∨ j = 3 ∨ j = 4 ∨ j = 5 ∨ j = 6 ∨ j = 7 ∨ j = 8 ∨ j = 9 ∨ j = 10 by omega) with rfl | rfl | rfl | rfl | rfl | rfl | rfl | rfl | rfl | rfl | rfl <;> rfl) ⟨Nat.le_of_ble_eq_true rfl, Nat.le_of_ble_eq_true rfl⟩ dX9_markOfKind_50 (fun q => ?_)
    refine e_dup (pc := 53) C dX9_markOfKind_53 rfl ?_
    refine e_iload_n (pc := 54) C dX9_markOfKind_54 1 rfl rfl ?_
    refine e_iload_n (pc := 55) C dX9_markOfKind_55 2 rfl rfl ?_
    refine e_iload_n (pc := 56) C dX9_markOfKind_56 3 rfl rfl ?_
    refine e_callI (pc := 57) (X := lW cA ad S) (d0 := d0_3) (d1 := fun a => d1_3 a1 a2 a3 a) C hov (ct_X1i_3 l D cA q a1 a2 a3) (cwI 3 C.2.2.2.2.1 gX9_markOfKind_X1_init rfl rfl rfl (C.2.2.2.2.1 (.initialized RX1) (by decide +kernel)) (C.2.2.2.2.1 (.methodLink RX9 313 yX1_init) (by decide +kernel)) (C.2.2.2.2.1 (.instanceMethod yX1_init) (by decide +kernel)) rfl (by decide +kernel) ⟨Nat.le_of_ble_eq_true rfl, Nat.le_of_ble_eq_true rfl⟩) rfl rfl (Nat.le_of_ble_eq_true rfl) ⟨Nat.le_of_ble_eq_true rfl, Nat.le_of_ble_eq_true rfl⟩ dX9_markOfKind_57 (fun u => ?_)
    exact e_widen (k := 11) (n := 172) (Nat.le_of_ble_eq_true rfl) (Nat.le_of_ble_eq_true rfl) (fun H locs ls hl hP hD hS => W.aret C.1 C.2.1 hr (Or.inl ⟨_, rfl⟩) (Or.inr ⟨_, rfl⟩) (fun t ht hW => ⟨⟨u, q, rfl, trivial, by rw [ht, hkd]; exact hP, by rw [hkd]; exact hD⟩, hS.F ht⟩) hS.2.2 dX9_markOfKind_60 hk)
  have y1 := lv_neT z1 (a := 1) (by decide)
  have y2 := lv_neT z2 (a := 2) (by decide)
  have y3 := lv_neT z3 (a := 3) (by decide)
  have hkd : ∀ a : Nat → Nat, d1K (kdOf a0) a1 a2 a3 a = d1_0 a1 a2 a3 a := fun a => by unfold kdOf; rw [if_neg z1, if_neg z2, if_neg z3]; rfl
  refine e_tblOut (pc := 1) C 61 dX9_markOfKind_1 (by omega) (by decide) ?_
  have hin : ∀ w ∈ u_ws RX3 TX3 11, w ∈ wsX9_markOfKind := fun w h => List.mem_cons_of_mem _ (List.mem_append_right _ h)
  refine e_new (pc := 61) (ci := 3) (N := 11) C d0_0.2 hin tyX3 tyX3_ok (by decide +kernel : Cond.classLink RX9 9 RX3 ∈ wsX9_markOfKind) (by decide +kernel) (by decide +kernel) rfl (fun j hj => by rcases (show j = 0 ∨ j = 1 ∨ j = 2 ∨ j = 3 ∨ j = 4 ∨ j = 5 ∨ j = 6 ∨ j = 7 ∨ j = 8 ∨ j = 9 ∨ j = 10 by omega) with rfl | rfl | rfl | rfl | rfl | rfl | rfl | rfl | rfl | rfl | rfl <;> rfl) ⟨Nat.le_of_ble_eq_true rfl, Nat.le_of_ble_eq_true rfl⟩ dX9_markOfKind_61 (fun q => ?_)
  refine e_dup (pc := 64) C dX9_markOfKind_64 rfl ?_
  refine e_iload_n (pc := 65) C dX9_markOfKind_65 1 rfl rfl ?_
  refine e_iload_n (pc := 66) C dX9_markOfKind_66 2 rfl rfl ?_
  refine e_iload_n (pc := 67) C dX9_markOfKind_67 3 rfl rfl ?_
  refine e_callI (pc := 68) (X := lW cA ad S) (d0 := d0_0) (d1 := fun a => d1_0 a1 a2 a3 a) C hov (fun sz => ct_mi_0 l D cA q a1 a2 a3 sz) (cwI 3 C.2.2.2.2.1 gX9_markOfKind_X3_init rfl rfl rfl (C.2.2.2.2.1 (.initialized RX3) (by decide +kernel)) (C.2.2.2.2.1 (.methodLink RX9 314 yX3_init) (by decide +kernel)) (C.2.2.2.2.1 (.instanceMethod yX3_init) (by decide +kernel)) rfl (by decide +kernel) ⟨Nat.le_of_ble_eq_true rfl, Nat.le_of_ble_eq_true rfl⟩) rfl rfl (Nat.le_of_ble_eq_true rfl) ⟨Nat.le_of_ble_eq_true rfl, Nat.le_of_ble_eq_true rfl⟩ dX9_markOfKind_68 (fun u => ?_)
  exact e_widen (k := 11) (n := 172) (Nat.le_of_ble_eq_true rfl) (Nat.le_of_ble_eq_true rfl) (fun H locs ls hl hP hD hS => W.aret C.1 C.2.1 hr (Or.inl ⟨_, rfl⟩) (Or.inr ⟨_, rfl⟩) (fun t ht hW => ⟨⟨u, q, rfl, trivial, by rw [ht, hkd]; exact hP, by rw [hkd]; exact hD⟩, hS.F ht⟩) hS.2.2 dX9_markOfKind_71 hk)
