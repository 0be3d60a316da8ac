abbrev rowsO (cA : Nat → ClassId) (r : Nat → Nat) : va_E := .inl (cA 5, 2, .inr (.inr (.inr (.inr (fun i => if i < 2 then some (r i) else none)))))
abbrev zI (cA : Nat → ClassId) (n : Nat) : va_E := .inl (cA 0, n, .inl (fun _ => 0))
/-- the eleven cells of a new mark -/
abbrev mkMk (cA : Nat → ClassId) (h : Nat) (o : Nat × List Value) (a r1 r2 : Nat → Nat) : va_W := [(h, .inr o), (a 0, .inl (cA 1, 40, .inl (fun _ => 0))), (a 1, rowsO cA r1), (r1 0, zI cA 40), (r1 1, zI cA 40), (a 2, zI cA 10), (a 3, rowsO cA r2), (r2 0, zI cA 10), (r2 1, zI cA 10), (a 4, zI cA 2), (a 5, zI cA 3)]
abbrev mkI : Room := { frames := 1, cells := 10, slots := 159, locals := 20 }
abbrev d0_0 : Nat × List Value := (3, [.int 0, .int 0, .int 0, .null, .null, .null, .null, .null, .null, .int 0, .int 0])
abbrev d1_0 (a1 a2 a3 : Int32) (a : Nat → Nat) : Nat × List Value := (3, [.int a1, .int a2, .int a3, .ref (a 0), .ref (a 1), .ref (a 2), .ref (a 3), .ref (a 4), .ref (a 5), .int 0, .int 0])
set_option maxHeartbeats 4000000 in
set_option maxRecDepth 100000 in
theorem ct_mi_0 (l : Launch) (D : va_G) (cA : Nat → ClassId) (h : Nat) (a1 a2 a3 : Int32) (sz : Nat) : Met l yX3_init wsX3_init mkI (va_Pc [.ref h, .int a1, .int a2, .int a3] (fun U => U.heap.size = sz ∧ va_P D vwCl [(h, .inr d0_0)] U.heap ∧ va_K D vwCl (tyl cA) U ∧ va_D (fun _ => True) [(h, .inr d0_0)] ∧ va_AOA .int U)) (va_Qv (fun _ => True) (fun (u : (Nat → Nat) × (Nat → Nat) × (Nat → Nat)) t => va_P D vwCl (mkMk cA h (d1_0 a1 a2 a3 u.1) u.1 u.2.1 u.2.2) t.heap ∧ va_D (va_A [(h, .inr d0_0)] sz) (mkMk cA h (d1_0 a1 a2 a3 u.1) u.1 u.2.1 u.2.2)) (va_A [(h, .inr d0_0)] sz)) 10 159 (va_A [(h, .inr d0_0)] sz) := by
  refine Met.ofW (cc := cX3_init) (maxL := 4) (ret := none) (by decide) rfl ?_
  intro p e s m args below meth c s₁ B hml hv
  obtain ⟨rfl, hsz, hP, hK, hD0, hov⟩ := hv
  subst hsz
  have hD := hD0.self (sz := s.heap.size)
  generalize hAe : va_A [(h, .inr d0_0)] s.heap.size = A at hD ⊢
  have hA : ∀ q : Nat, s.heap.size ≤ q → A q := fun q h => by rw [← hAe]; exact Or.inr h
  have hl := lv_entry [.ref h, .int a1, .int a2, .int a3] (n := 4) (Nat.le_of_ble_eq_true rfl)
  rw [lg_entry_eq]
  have hin2 : meth.name = "<init>" := (name_of_methodNamed B.named B.method).1
  have hr := B.returns
  have hk := B.notSynchronized
  have C : Cx p s m _ c cX3_init 4 wsX3_init RX3 D cA A := ⟨B.exec, B.bytes, hml, findClass_of_methodNamed B.named, atoms_spec (ws := wsX3_init) B.pre, hK, hA⟩
  have hin : ∀ w ∈ u_ws RX3 TX3 11, w ∈ wsX3_init := fun w h => List.mem_cons_of_mem _ (List.mem_append_left _ (List.mem_append_left _ (List.mem_append_right _ h)))
  refine (?_ : KE 0 0 p l e _ s m _ below meth c 4 D A _ 0 [(0, .ref h), (1, .int a1), (2, .int a2), (3, .int a3)] [] [(h, .inr d0_0)]) s.heap [] _ hl hP hD va_S.rf
  refine e_aload_n (pc := 0) C dX3_init_0 0 rfl rfl ?_
  refine e_objInit (pc := 1) C (by decide +kernel) (by decide +kernel) (by decide +kernel) ⟨Nat.le_of_ble_eq_true rfl, Nat.le_of_ble_eq_true rfl⟩ dX3_init_1 ?_
  refine e_aload_n (pc := 4) C dX3_init_4 0 rfl rfl ?_
  refine e_bipush (v := 40) (pc := 5) C dX3_init_5 (by decide) ?_
  refine e_newZ (pc := 7) C 40 (by decide +kernel) (by decide) (by decide) (by decide) ⟨Nat.le_of_ble_eq_true rfl, Nat.le_of_ble_eq_true rfl⟩ dX3_init_7 (fun q0 => ?_)
  refine e_putF (pc := 9) (q0 := 0) (j := 3) (ty := .array .boolean) C hin2 hin tyX3 tyX3_ok nmX3 rfl rfl (by decide) (by decide +kernel : Cond.fieldLink RX3 9 "CreepBoard$Mark" "present" "[Z" ∈ wsX3_init) (fun _ h => h) rfl rfl (by decide +kernel) rfl rfl (Nat.le_of_ble_eq_true rfl) dX3_init_9 ?_
  refine e_aload_n (pc := 12) C dX3_init_12 0 rfl rfl ?_
  refine e_iconst (v := 2) (pc := 13) C dX3_init_13 (by decide) ?_
  refine e_bipush (v := 40) (pc := 14) C dX3_init_14 (by decide) ?_
  refine e_mna2 (pc := 16) C 40 hov (by decide +kernel) (by decide +kernel) (by decide) (by decide) (by decide) (by decide) (by decide) (by decide) ⟨Nat.le_of_ble_eq_true rfl, Nat.le_of_ble_eq_true rfl⟩ dX3_init_16 (fun q1 r1 => ?_)
  refine e_putF (pc := 20) (q0 := 0) (j := 4) (ty := .array (.array .int)) C hin2 hin tyX3 tyX3_ok nmX3 rfl rfl (by decide) (by decide +kernel : Cond.fieldLink RX3 17 "CreepBoard$Mark" "readings" "[[I" ∈ wsX3_init) (fun _ h => h) rfl rfl (by decide +kernel) rfl rfl (Nat.le_of_ble_eq_true rfl) dX3_init_20 ?_
  refine e_aload_n (pc := 23) C dX3_init_23 0 rfl rfl ?_
  refine e_bipush (v := 10) (pc := 24) C dX3_init_24 (by decide) ?_
  refine e_newI (pc := 26) C 10 (by decide +kernel) (by decide) (by decide) (by decide) ⟨Nat.le_of_ble_eq_true rfl, Nat.le_of_ble_eq_true rfl⟩ dX3_init_26 (fun q2 => ?_)
  refine e_putF (pc := 28) (q0 := 0) (j := 5) (ty := .array .int) C hin2 hin tyX3 tyX3_ok nmX3 rfl rfl (by decide) (by decide +kernel : Cond.fieldLink RX3 20 "CreepBoard$Mark" "stepEpochs" "[I" ∈ wsX3_init) (fun _ h => h) rfl rfl (by decide +kernel) rfl rfl (Nat.le_of_ble_eq_true rfl) dX3_init_28 ?_
  refine e_aload_n (pc := 31) C dX3_init_31 0 rfl rfl ?_
  refine e_iconst (v := 2) (pc := 32) C dX3_init_32 (by decide) ?_
  refine e_bipush (v := 10) (pc := 33) C dX3_init_33 (by decide) ?_
  refine e_mna2 (pc := 35) C 10 hov (by decide +kernel) (by decide +kernel) (by decide) (by decide) (by decide) (by decide) (by decide) (by decide) ⟨Nat.le_of_ble_eq_true rfl, Nat.le_of_ble_eq_true rfl⟩ dX3_init_35 (fun q3 r2 => ?_)
  refine e_putF (pc := 39) (q0 := 0) (j := 6) (ty := .array (.array .int)) C hin2 hin tyX3 tyX3_ok nmX3 rfl rfl (by decide) (by decide +kernel : Cond.fieldLink RX3 24 "CreepBoard$Mark" "stepSizes" "[[I" ∈ wsX3_init) (fun _ h => h) rfl rfl (by decide +kernel) rfl rfl (Nat.le_of_ble_eq_true rfl) dX3_init_39 ?_
  refine e_aload_n (pc := 42) C dX3_init_42 0 rfl rfl ?_
  refine e_iconst (v := 2) (pc := 43) C dX3_init_43 (by decide) ?_
  refine e_newI (pc := 44) C 2 (by decide +kernel) (by decide) (by decide) (by decide) ⟨Nat.le_of_ble_eq_true rfl, Nat.le_of_ble_eq_true rfl⟩ dX3_init_44 (fun q4 => ?_)
  refine e_putF (pc := 46) (q0 := 0) (j := 7) (ty := .array .int) C hin2 hin tyX3 tyX3_ok nmX3 rfl rfl (by decide) (by decide +kernel : Cond.fieldLink RX3 27 "CreepBoard$Mark" "speeds" "[I" ∈ wsX3_init) (fun _ h => h) rfl rfl (by decide +kernel) rfl rfl (Nat.le_of_ble_eq_true rfl) dX3_init_46 ?_
  refine e_aload_n (pc := 49) C dX3_init_49 0 rfl rfl ?_
  refine e_iconst (v := 3) (pc := 50) C dX3_init_50 (by decide) ?_
  refine e_newI (pc := 51) C 3 (by decide +kernel) (by decide) (by decide) (by decide) ⟨Nat.le_of_ble_eq_true rfl, Nat.le_of_ble_eq_true rfl⟩ dX3_init_51 (fun q5 => ?_)
  refine e_putF (pc := 53) (q0 := 0) (j := 8) (ty := .array .int) C hin2 hin tyX3 tyX3_ok nmX3 rfl rfl (by decide) (by decide +kernel : Cond.fieldLink RX3 30 "CreepBoard$Mark" "greens" "[I" ∈ wsX3_init) (fun _ h => h) rfl rfl (by decide +kernel) rfl rfl (Nat.le_of_ble_eq_true rfl) dX3_init_53 ?_
  refine e_aload_n (pc := 56) C dX3_init_56 0 rfl rfl ?_
  refine e_iload_n (pc := 57) C dX3_init_57 1 rfl rfl ?_
  refine e_putF (pc := 58) (q0 := 0) (j := 0) (ty := .int) C hin2 hin tyX3 tyX3_ok nmX3 rfl rfl (by decide) (by decide +kernel : Cond.fieldLink RX3 33 "CreepBoard$Mark" "number" "I" ∈ wsX3_init) (fun _ h => h) rfl rfl (by decide +kernel) rfl rfl (Nat.le_of_ble_eq_true rfl) dX3_init_58 ?_
  refine e_aload_n (pc := 61) C dX3_init_61 0 rfl rfl ?_
  refine e_iload_n (pc := 62) C dX3_init_62 2 rfl rfl ?_
  refine e_putF (pc := 63) (q0 := 0) (j := 1) (ty := .int) C hin2 hin tyX3 tyX3_ok nmX3 rfl rfl (by decide) (by decide +kernel : Cond.fieldLink RX3 37 "CreepBoard$Mark" "x" "I" ∈ wsX3_init) (fun _ h => h) rfl rfl (by decide +kernel) rfl rfl (Nat.le_of_ble_eq_true rfl) dX3_init_63 ?_
  refine e_aload_n (pc := 66) C dX3_init_66 0 rfl rfl ?_
  refine e_iload_n (pc := 67) C dX3_init_67 3 rfl rfl ?_
  refine e_putF (pc := 68) (q0 := 0) (j := 2) (ty := .int) C hin2 hin tyX3 tyX3_ok nmX3 rfl rfl (by decide) (by decide +kernel : Cond.fieldLink RX3 40 "CreepBoard$Mark" "y" "I" ∈ wsX3_init) (fun _ h => h) rfl rfl (by decide +kernel) rfl rfl (Nat.le_of_ble_eq_true rfl) dX3_init_68 ?_
  refine e_widen (k := 10) (n := 159) (Nat.le_of_ble_eq_true rfl) (Nat.le_of_ble_eq_true rfl) ?_
  exact fun H locs ls hl hP hD hS => W.vret C.1 C.2.1 hr (fun t ht hW => ⟨⟨((fun i => [q0, q1, q2, q3, q4, q5].getD i 0), r1, r2), rfl, trivial, by rw [ht]; exact hP, hD⟩, hS.F ht⟩) hS.2.2 dX3_init_71 hk
abbrev d0_1 : Nat × List Value := (4, [.int 0, .int 0, .int 0, .null, .null, .null, .null, .null, .null, .int 0, .int 0, .int 0, .int 0])
abbrev d1_1 (a1 a2 a3 : Int32) (a : Nat → Nat) : Nat × List Value := (4, [.int a1, .int a2, .int a3, .ref (a 0), .ref (a 1), .ref (a 2), .ref (a 3), .ref (a 4), .ref (a 5), .int 0, .int 0, .int 0, .int 0])
set_option maxHeartbeats 4000000 in
set_option maxRecDepth 100000 in
theorem ct_mi_1 (l : Launch) (D : va_G) (cA : Nat → ClassId) (h : Nat) (a1 a2 a3 : Int32) (sz : Nat) : Met l yX3_init wsX3_init mkI (va_Pc [.ref h, .int a1, .int a2, .int a3] (fun U => U.heap.size = sz ∧ va_P D vwCl [(h, .inr d0_1)] U.heap ∧ va_K D vwCl (tyl cA) U ∧ va_D (fun _ => True) [(h, .inr d0_1)] ∧ va_AOA .int U)) (va_Qv (fun _ => True) (fun (u : (Nat → Nat) × (Nat → Nat) × (Nat → Nat)) t => va_P D vwCl (mkMk cA h (d1_1 a1 a2 a3 u.1) u.1 u.2.1 u.2.2) t.heap ∧ va_D (va_A [(h, .inr d0_1)] sz) (mkMk cA h (d1_1 a1 a2 a3 u.1) u.1 u.2.1 u.2.2)) (va_A [(h, .inr d0_1)] sz)) 10 159 (va_A [(h, .inr d0_1)] sz) := by
  refine Met.ofW (cc := cX3_init) (maxL := 4) (ret := none) (by decide) rfl ?_
  intro p e s m args below meth c s₁ B hml hv
  obtain ⟨rfl, hsz, hP, hK, hD0, hov⟩ := hv
  subst hsz
  have hD := hD0.self (sz := s.heap.size)
  generalize hAe : va_A [(h, .inr d0_1)] s.heap.size = A at hD ⊢
  have hA : ∀ q : Nat, s.heap.size ≤ q → A q := fun q h => by rw [← hAe]; exact Or.inr h
  have hl := lv_entry [.ref h, .int a1, .int a2, .int a3] (n := 4) (Nat.le_of_ble_eq_true rfl)
  rw [lg_entry_eq]
  have hin2 : meth.name = "<init>" := (name_of_methodNamed B.named B.method).1
  have hr := B.returns
  have hk := B.notSynchronized
  have C : Cx p s m _ c cX3_init 4 wsX3_init RX3 D cA A := ⟨B.exec, B.bytes, hml, findClass_of_methodNamed B.named, atoms_spec (ws := wsX3_init) B.pre, hK, hA⟩
  have hin : ∀ w ∈ u_ws RX4 TX4 13, w ∈ wsX3_init := fun w h => List.mem_cons_of_mem _ (List.mem_append_left _ (List.mem_append_right _ h))
  refine (?_ : KE 0 0 p l e _ s m _ below meth c 4 D A _ 0 [(0, .ref h), (1, .int a1), (2, .int a2), (3, .int a3)] [] [(h, .inr d0_1)]) s.heap [] _ hl hP hD va_S.rf
  refine e_aload_n (pc := 0) C dX3_init_0 0 rfl rfl ?_
  refine e_objInit (pc := 1) C (by decide +kernel) (by decide +kernel) (by decide +kernel) ⟨Nat.le_of_ble_eq_true rfl, Nat.le_of_ble_eq_true rfl⟩ dX3_init_1 ?_
  refine e_aload_n (pc := 4) C dX3_init_4 0 rfl rfl ?_
  refine e_bipush (v := 40) (pc := 5) C dX3_init_5 (by decide) ?_
  refine e_newZ (pc := 7) C 40 (by decide +kernel) (by decide) (by decide) (by decide) ⟨Nat.le_of_ble_eq_true rfl, Nat.le_of_ble_eq_true rfl⟩ dX3_init_7 (fun q0 => ?_)
  refine e_putF (pc := 9) (q0 := 0) (j := 3) (ty := .array .boolean) C hin2 hin tyX4 tyX4_ok nmX4 rfl rfl (by decide) (by decide +kernel : Cond.fieldLink RX3 9 "CreepBoard$Mark" "present" "[Z" ∈ wsX3_init) (fun _ h => h) rfl rfl (by decide +kernel) rfl rfl (Nat.le_of_ble_eq_true rfl) dX3_init_9 ?_
  refine e_aload_n (pc := 12) C dX3_init_12 0 rfl rfl ?_
  refine e_iconst (v := 2) (pc := 13) C dX3_init_13 (by decide) ?_
  refine e_bipush (v := 40) (pc := 14) C dX3_init_14 (by decide) ?_
  refine e_mna2 (pc := 16) C 40 hov (by decide +kernel) (by decide +kernel) (by decide) (by decide) (by decide) (by decide) (by decide) (by decide) ⟨Nat.le_of_ble_eq_true rfl, Nat.le_of_ble_eq_true rfl⟩ dX3_init_16 (fun q1 r1 => ?_)
  refine e_putF (pc := 20) (q0 := 0) (j := 4) (ty := .array (.array .int)) C hin2 hin tyX4 tyX4_ok nmX4 rfl rfl (by decide) (by decide +kernel : Cond.fieldLink RX3 17 "CreepBoard$Mark" "readings" "[[I" ∈ wsX3_init) (fun _ h => h) rfl rfl (by decide +kernel) rfl rfl (Nat.le_of_ble_eq_true rfl) dX3_init_20 ?_
  refine e_aload_n (pc := 23) C dX3_init_23 0 rfl rfl ?_
  refine e_bipush (v := 10) (pc := 24) C dX3_init_24 (by decide) ?_
  refine e_newI (pc := 26) C 10 (by decide +kernel) (by decide) (by decide) (by decide) ⟨Nat.le_of_ble_eq_true rfl, Nat.le_of_ble_eq_true rfl⟩ dX3_init_26 (fun q2 => ?_)
  refine e_putF (pc := 28) (q0 := 0) (j := 5) (ty := .array .int) C hin2 hin tyX4 tyX4_ok nmX4 rfl rfl (by decide) (by decide +kernel : Cond.fieldLink RX3 20 "CreepBoard$Mark" "stepEpochs" "[I" ∈ wsX3_init) (fun _ h => h) rfl rfl (by decide +kernel) rfl rfl (Nat.le_of_ble_eq_true rfl) dX3_init_28 ?_
  refine e_aload_n (pc := 31) C dX3_init_31 0 rfl rfl ?_
  refine e_iconst (v := 2) (pc := 32) C dX3_init_32 (by decide) ?_
  refine e_bipush (v := 10) (pc := 33) C dX3_init_33 (by decide) ?_
  refine e_mna2 (pc := 35) C 10 hov (by decide +kernel) (by decide +kernel) (by decide) (by decide) (by decide) (by decide) (by decide) (by decide) ⟨Nat.le_of_ble_eq_true rfl, Nat.le_of_ble_eq_true rfl⟩ dX3_init_35 (fun q3 r2 => ?_)
  refine e_putF (pc := 39) (q0 := 0) (j := 6) (ty := .array (.array .int)) C hin2 hin tyX4 tyX4_ok nmX4 rfl rfl (by decide) (by decide +kernel : Cond.fieldLink RX3 24 "CreepBoard$Mark" "stepSizes" "[[I" ∈ wsX3_init) (fun _ h => h) rfl rfl (by decide +kernel) rfl rfl (Nat.le_of_ble_eq_true rfl) dX3_init_39 ?_
  refine e_aload_n (pc := 42) C dX3_init_42 0 rfl rfl ?_
  refine e_iconst (v := 2) (pc := 43) C dX3_init_43 (by decide) ?_
  refine e_newI (pc := 44) C 2 (by decide +kernel) (by decide) (by decide) (by decide) ⟨Nat.le_of_ble_eq_true rfl, Nat.le_of_ble_eq_true rfl⟩ dX3_init_44 (fun q4 => ?_)
  refine e_putF (pc := 46) (q0 := 0) (j := 7) (ty := .array .int) C hin2 hin tyX4 tyX4_ok nmX4 rfl rfl (by decide) (by decide +kernel : Cond.fieldLink RX3 27 "CreepBoard$Mark" "speeds" "[I" ∈ wsX3_init) (fun _ h => h) rfl rfl (by decide +kernel) rfl rfl (Nat.le_of_ble_eq_true rfl) dX3_init_46 ?_
  refine e_aload_n (pc := 49) C dX3_init_49 0 rfl rfl ?_
  refine e_iconst (v := 3) (pc := 50) C dX3_init_50 (by decide) ?_
  refine e_newI (pc := 51) C 3 (by decide +kernel) (by decide) (by decide) (by decide) ⟨Nat.le_of_ble_eq_true rfl, Nat.le_of_ble_eq_true rfl⟩ dX3_init_51 (fun q5 => ?_)
  refine e_putF (pc := 53) (q0 := 0) (j := 8) (ty := .array .int) C hin2 hin tyX4 tyX4_ok nmX4 rfl rfl (by decide) (by decide +kernel : Cond.fieldLink RX3 30 "CreepBoard$Mark" "greens" "[I" ∈ wsX3_init) (fun _ h => h) rfl rfl (by decide +kernel) rfl rfl (Nat.le_of_ble_eq_true rfl) dX3_init_53 ?_
  refine e_aload_n (pc := 56) C dX3_init_56 0 rfl rfl ?_
  refine e_iload_n (pc := 57) C dX3_init_57 1 rfl rfl ?_
  refine e_putF (pc := 58) (q0 := 0) (j := 0) (ty := .int) C hin2 hin tyX4 tyX4_ok nmX4 rfl rfl (by decide) (by decide +kernel : Cond.fieldLink RX3 33 "CreepBoard$Mark" "number" "I" ∈ wsX3_init) (fun _ h => h) rfl rfl (by decide +kernel) rfl rfl (Nat.le_of_ble_eq_true rfl) dX3_init_58 ?_
  refine e_aload_n (pc := 61) C dX3_init_61 0 rfl rfl ?_
  refine e_iload_n (pc := 62) C dX3_init_62 2 rfl rfl ?_
  refine e_putF (pc := 63) (q0 := 0) (j := 1) (ty := .int) C hin2 hin tyX4 tyX4_ok nmX4 rfl rfl (by decide) (by decide +kernel : Cond.fieldLink RX3 37 "CreepBoard$Mark" "x" "I" ∈ wsX3_init) (fun _ h => h) rfl rfl (by decide +kernel) rfl rfl (Nat.le_of_ble_eq_true rfl) dX3_init_63 ?_
  refine e_aload_n (pc := 66) C dX3_init_66 0 rfl rfl ?_
  refine e_iload_n (pc := 67) C dX3_init_67 3 rfl rfl ?_
  refine e_putF (pc := 68) (q0 := 0) (j := 2) (ty := .int) C hin2 hin tyX4 tyX4_ok nmX4 rfl rfl (by decide) (by decide +kernel : Cond.fieldLink RX3 40 "CreepBoard$Mark" "y" "I" ∈ wsX3_init) (fun _ h => h) rfl rfl (by decide +kernel) rfl rfl (Nat.le_of_ble_eq_true rfl) dX3_init_68 ?_
  refine e_widen (k := 10) (n := 159) (Nat.le_of_ble_eq_true rfl) (Nat.le_of_ble_eq_true rfl) ?_
  exact fun H locs ls hl hP hD hS => W.vret C.1 C.2.1 hr (fun t ht hW => ⟨⟨((fun i => [q0, q1, q2, q3, q4, q5].getD i 0), r1, r2), rfl, trivial, by rw [ht]; exact hP, hD⟩, hS.F ht⟩) hS.2.2 dX3_init_71 hk
abbrev d0_2 : Nat × List Value := (8, [.int 0, .int 0, .int 0, .int 0, .int 0, .null, .null, .null, .null, .null, .null, .int 0, .int 0])
abbrev d1_2 (a1 a2 a3 : Int32) (a : Nat → Nat) : Nat × List Value := (8, [.int 0, .int 0, .int a1, .int a2, .int a3, .ref (a 0), .ref (a 1), .ref (a 2), .ref (a 3), .ref (a 4), .ref (a 5), .int 0, .int 0])
set_option maxHeartbeats 4000000 in
set_option maxRecDepth 100000 in
theorem ct_mi_2 (l : Launch) (D : va_G) (cA : Nat → ClassId) (h : Nat) (a1 a2 a3 : Int32) (sz : Nat) : Met l yX3_init wsX3_init mkI (va_Pc [.ref h, .int a1, .int a2, .int a3] (fun U => U.heap.size = sz ∧ va_P D vwCl [(h, .inr d0_2)] U.heap ∧ va_K D vwCl (tyl cA) U ∧ va_D (fun _ => True) [(h, .inr d0_2)] ∧ va_AOA .int U)) (va_Qv (fun _ => True) (fun (u : (Nat → Nat) × (Nat → Nat) × (Nat → Nat)) t => va_P D vwCl (mkMk cA h (d1_2 a1 a2 a3 u.1) u.1 u.2.1 u.2.2) t.heap ∧ va_D (va_A [(h, .inr d0_2)] sz) (mkMk cA h (d1_2 a1 a2 a3 u.1) u.1 u.2.1 u.2.2)) (va_A [(h, .inr d0_2)] sz)) 10 159 (va_A [(h, .inr d0_2)] sz) := by
  refine Met.ofW (cc := cX3_init) (maxL := 4) (ret := none) (by decide) rfl ?_
  intro p e s m args below meth c s₁ B hml hv
  obtain ⟨rfl, hsz, hP, hK, hD0, hov⟩ := hv
  subst hsz
  have hD := hD0.self (sz := s.heap.size)
  generalize hAe : va_A [(h, .inr d0_2)] s.heap.size = A at hD ⊢
  have hA : ∀ q : Nat, s.heap.size ≤ q → A q := fun q h => by rw [← hAe]; exact Or.inr h
  have hl := lv_entry [.ref h, .int a1, .int a2, .int a3] (n := 4) (Nat.le_of_ble_eq_true rfl)
  rw [lg_entry_eq]
  have hin2 : meth.name = "<init>" := (name_of_methodNamed B.named B.method).1
  have hr := B.returns
  have hk := B.notSynchronized
  have C : Cx p s m _ c cX3_init 4 wsX3_init RX3 D cA A := ⟨B.exec, B.bytes, hml, findClass_of_methodNamed B.named, atoms_spec (ws := wsX3_init) B.pre, hK, hA⟩
  have hin : ∀ w ∈ u_ws RX8 TX8 13, w ∈ wsX3_init := fun w h => List.mem_cons_of_mem _ (List.mem_append_right _ h)
  refine (?_ : KE 0 0 p l e _ s m _ below meth c 4 D A _ 0 [(0, .ref h), (1, .int a1), (2, .int a2), (3, .int a3)] [] [(h, .inr d0_2)]) s.heap [] _ hl hP hD va_S.rf
  refine e_aload_n (pc := 0) C dX3_init_0 0 rfl rfl ?_
  refine e_objInit (pc := 1) C (by decide +kernel) (by decide +kernel) (by decide +kernel) ⟨Nat.le_of_ble_eq_true rfl, Nat.le_of_ble_eq_true rfl⟩ dX3_init_1 ?_
  refine e_aload_n (pc := 4) C dX3_init_4 0 rfl rfl ?_
  refine e_bipush (v := 40) (pc := 5) C dX3_init_5 (by decide) ?_
  refine e_newZ (pc := 7) C 40 (by decide +kernel) (by decide) (by decide) (by decide) ⟨Nat.le_of_ble_eq_true rfl, Nat.le_of_ble_eq_true rfl⟩ dX3_init_7 (fun q0 => ?_)
  refine e_putF (pc := 9) (q0 := 0) (j := 5) (ty := .array .boolean) C hin2 hin tyX8 tyX8_ok nmX8 rfl rfl (by decide) (by decide +kernel : Cond.fieldLink RX3 9 "CreepBoard$Mark" "present" "[Z" ∈ wsX3_init) (fun _ h => h) rfl rfl (by decide +kernel) rfl rfl (Nat.le_of_ble_eq_true rfl) dX3_init_9 ?_
  refine e_aload_n (pc := 12) C dX3_init_12 0 rfl rfl ?_
  refine e_iconst (v := 2) (pc := 13) C dX3_init_13 (by decide) ?_
  refine e_bipush (v := 40) (pc := 14) C dX3_init_14 (by decide) ?_
  refine e_mna2 (pc := 16) C 40 hov (by decide +kernel) (by decide +kernel) (by decide) (by decide) (by decide) (by decide) (by decide) (by decide) ⟨Nat.le_of_ble_eq_true rfl, Nat.le_of_ble_eq_true rfl⟩ dX3_init_16 (fun q1 r1 => ?_)
  refine e_putF (pc := 20) (q0 := 0) (j := 6) (ty := .array (.array .int)) C hin2 hin tyX8 tyX8_ok nmX8 rfl rfl (by decide) (by decide +kernel : Cond.fieldLink RX3 17 "CreepBoard$Mark" "readings" "[[I" ∈ wsX3_init) (fun _ h => h) rfl rfl (by decide +kernel) rfl rfl (Nat.le_of_ble_eq_true rfl) dX3_init_20 ?_
  refine e_aload_n (pc := 23) C dX3_init_23 0 rfl rfl ?_
  refine e_bipush (v := 10) (pc := 24) C dX3_init_24 (by decide) ?_
  refine e_newI (pc := 26) C 10 (by decide +kernel) (by decide) (by decide) (by decide) ⟨Nat.le_of_ble_eq_true rfl, Nat.le_of_ble_eq_true rfl⟩ dX3_init_26 (fun q2 => ?_)
  refine e_putF (pc := 28) (q0 := 0) (j := 7) (ty := .array .int) C hin2 hin tyX8 tyX8_ok nmX8 rfl rfl (by decide) (by decide +kernel : Cond.fieldLink RX3 20 "CreepBoard$Mark" "stepEpochs" "[I" ∈ wsX3_init) (fun _ h => h) rfl rfl (by decide +kernel) rfl rfl (Nat.le_of_ble_eq_true rfl) dX3_init_28 ?_
  refine e_aload_n (pc := 31) C dX3_init_31 0 rfl rfl ?_
  refine e_iconst (v := 2) (pc := 32) C dX3_init_32 (by decide) ?_
  refine e_bipush (v := 10) (pc := 33) C dX3_init_33 (by decide) ?_
  refine e_mna2 (pc := 35) C 10 hov (by decide +kernel) (by decide +kernel) (by decide) (by decide) (by decide) (by decide) (by decide) (by decide) ⟨Nat.le_of_ble_eq_true rfl, Nat.le_of_ble_eq_true rfl⟩ dX3_init_35 (fun q3 r2 => ?_)
  refine e_putF (pc := 39) (q0 := 0) (j := 8) (ty := .array (.array .int)) C hin2 hin tyX8 tyX8_ok nmX8 rfl rfl (by decide) (by decide +kernel : Cond.fieldLink RX3 24 "CreepBoard$Mark" "stepSizes" "[[I" ∈ wsX3_init) (fun _ h => h) rfl rfl (by decide +kernel) rfl rfl (Nat.le_of_ble_eq_true rfl) dX3_init_39 ?_
  refine e_aload_n (pc := 42) C dX3_init_42 0 rfl rfl ?_
  refine e_iconst (v := 2) (pc := 43) C dX3_init_43 (by decide) ?_
  refine e_newI (pc := 44) C 2 (by decide +kernel) (by decide) (by decide) (by decide) ⟨Nat.le_of_ble_eq_true rfl, Nat.le_of_ble_eq_true rfl⟩ dX3_init_44 (fun q4 => ?_)
  refine e_putF (pc := 46) (q0 := 0) (j := 9) (ty := .array .int) C hin2 hin tyX8 tyX8_ok nmX8 rfl rfl (by decide) (by decide +kernel : Cond.fieldLink RX3 27 "CreepBoard$Mark" "speeds" "[I" ∈ wsX3_init) (fun _ h => h) rfl rfl (by decide +kernel) rfl rfl (Nat.le_of_ble_eq_true rfl) dX3_init_46 ?_
  refine e_aload_n (pc := 49) C dX3_init_49 0 rfl rfl ?_
  refine e_iconst (v := 3) (pc := 50) C dX3_init_50 (by decide) ?_
  refine e_newI (pc := 51) C 3 (by decide +kernel) (by decide) (by decide) (by decide) ⟨Nat.le_of_ble_eq_true rfl, Nat.le_of_ble_eq_true rfl⟩ dX3_init_51 (fun q5 => ?_)
  refine e_putF (pc := 53) (q0 := 0) (j := 10) (ty := .array .int) C hin2 hin tyX8 tyX8_ok nmX8 rfl rfl (by decide) (by decide +kernel : Cond.fieldLink RX3 30 "CreepBoard$Mark" "greens" "[I" ∈ wsX3_init) (fun _ h => h) rfl rfl (by decide +kernel) rfl rfl (Nat.le_of_ble_eq_true rfl) dX3_init_53 ?_
  refine e_aload_n (pc := 56) C dX3_init_56 0 rfl rfl ?_
  refine e_iload_n (pc := 57) C dX3_init_57 1 rfl rfl ?_
  refine e_putF (pc := 58) (q0 := 0) (j := 2) (ty := .int) C hin2 hin tyX8 tyX8_ok nmX8 rfl rfl (by decide) (by decide +kernel : Cond.fieldLink RX3 33 "CreepBoard$Mark" "number" "I" ∈ wsX3_init) (fun _ h => h) rfl rfl (by decide +kernel) rfl rfl (Nat.le_of_ble_eq_true rfl) dX3_init_58 ?_
  refine e_aload_n (pc := 61) C dX3_init_61 0 rfl rfl ?_
  refine e_iload_n (pc := 62) C dX3_init_62 2 rfl rfl ?_
  refine e_putF (pc := 63) (q0 := 0) (j := 3) (ty := .int) C hin2 hin tyX8 tyX8_ok nmX8 rfl rfl (by decide) (by decide +kernel : Cond.fieldLink RX3 37 "CreepBoard$Mark" "x" "I" ∈ wsX3_init) (fun _ h => h) rfl rfl (by decide +kernel) rfl rfl (Nat.le_of_ble_eq_true rfl) dX3_init_63 ?_
  refine e_aload_n (pc := 66) C dX3_init_66 0 rfl rfl ?_
  refine e_iload_n (pc := 67) C dX3_init_67 3 rfl rfl ?_
  refine e_putF (pc := 68) (q0 := 0) (j := 4) (ty := .int) C hin2 hin tyX8 tyX8_ok nmX8 rfl rfl (by decide) (by decide +kernel : Cond.fieldLink RX3 40 "CreepBoard$Mark" "y" "I" ∈ wsX3_init) (fun _ h => h) rfl rfl (by decide +kernel) rfl rfl (Nat.le_of_ble_eq_true rfl) dX3_init_68 ?_
  refine e_widen (k := 10) (n := 159) (Nat.le_of_ble_eq_true rfl) (Nat.le_of_ble_eq_true rfl) ?_
  exact fun H locs ls hl hP hD hS => W.vret C.1 C.2.1 hr (fun t ht hW => ⟨⟨((fun i => [q0, q1, q2, q3, q4, q5].getD i 0), r1, r2), rfl, trivial, by rw [ht]; exact hP, hD⟩, hS.F ht⟩) hS.2.2 dX3_init_71 hk
abbrev d0_3 : Nat × List Value := (1, [.int 0, .int 0, .int 0, .null, .null, .null, .null, .null, .null, .int 0, .int 0])
abbrev d1_3 (a1 a2 a3 : Int32) (a : Nat → Nat) : Nat × List Value := (1, [.int a1, .int a2, .int a3, .ref (a 0), .ref (a 1), .ref (a 2), .ref (a 3), .ref (a 4), .ref (a 5), .int 0, .int 0])
set_option maxHeartbeats 4000000 in
set_option maxRecDepth 100000 in
theorem ct_mi_3 (l : Launch) (D : va_G) (cA : Nat → ClassId) (h : Nat) (a1 a2 a3 : Int32) (sz : Nat) : Met l yX3_init wsX3_init mkI (va_Pc [.ref h, .int a1, .int a2, .int a3] (fun U => U.heap.size = sz ∧ va_P D vwCl [(h, .inr d0_3)] U.heap ∧ va_K D vwCl (tyl cA) U ∧ va_D (fun _ => True) [(h, .inr d0_3)] ∧ va_AOA .int U)) (va_Qv (fun _ => True) (fun (u : (Nat → Nat) × (Nat → Nat) × (Nat → Nat)) t => va_P D vwCl (mkMk cA h (d1_3 a1 a2 a3 u.1) u.1 u.2.1 u.2.2) t.heap ∧ va_D (va_A [(h, .inr d0_3)] sz) (mkMk cA h (d1_3 a1 a2 a3 u.1) u.1 u.2.1 u.2.2)) (va_A [(h, .inr d0_3)] sz)) 10 159 (va_A [(h, .inr d0_3)] sz) := by
  refine Met.ofW (cc := cX3_init) (maxL := 4) (ret := none) (by decide) rfl ?_
  intro p e s m args below meth c s₁ B hml hv
  obtain ⟨rfl, hsz, hP, hK, hD0, hov⟩ := hv
  subst hsz
  have hD := hD0.self (sz := s.heap.size)
  generalize hAe : va_A [(h, .inr d0_3)] s.heap.size = A at hD ⊢
  have hA : ∀ q : Nat, s.heap.size ≤ q → A q := fun q h => by rw [← hAe]; exact Or.inr h
  have hl := lv_entry [.ref h, .int a1, .int a2, .int a3] (n := 4) (Nat.le_of_ble_eq_true rfl)
  rw [lg_entry_eq]
  have hin2 : meth.name = "<init>" := (name_of_methodNamed B.named B.method).1
  have hr := B.returns
  have hk := B.notSynchronized
  have C : Cx p s m _ c cX3_init 4 wsX3_init RX3 D cA A := ⟨B.exec, B.bytes, hml, findClass_of_methodNamed B.named, atoms_spec (ws := wsX3_init) B.pre, hK, hA⟩
  have hin : ∀ w ∈ u_ws RX1 TX1 11, w ∈ wsX3_init := fun w h => List.mem_cons_of_mem _ (List.mem_append_left _ (List.mem_append_left _ (List.mem_append_left _ (List.mem_append_right _ h))))
  refine (?_ : KE 0 0 p l e _ s m _ below meth c 4 D A _ 0 [(0, .ref h), (1, .int a1), (2, .int a2), (3, .int a3)] [] [(h, .inr d0_3)]) s.heap [] _ hl hP hD va_S.rf
  refine e_aload_n (pc := 0) C dX3_init_0 0 rfl rfl ?_
  refine e_objInit (pc := 1) C (by decide +kernel) (by decide +kernel) (by decide +kernel) ⟨Nat.le_of_ble_eq_true rfl, Nat.le_of_ble_eq_true rfl⟩ dX3_init_1 ?_
  refine e_aload_n (pc := 4) C dX3_init_4 0 rfl rfl ?_
  refine e_bipush (v := 40) (pc := 5) C dX3_init_5 (by decide) ?_
  refine e_newZ (pc := 7) C 40 (by decide +kernel) (by decide) (by decide) (by decide) ⟨Nat.le_of_ble_eq_true rfl, Nat.le_of_ble_eq_true rfl⟩ dX3_init_7 (fun q0 => ?_)
  refine e_putF (pc := 9) (q0 := 0) (j := 3) (ty := .array .boolean) C hin2 hin tyX1 tyX1_ok nmX1 rfl rfl (by decide) (by decide +kernel : Cond.fieldLink RX3 9 "CreepBoard$Mark" "present" "[Z" ∈ wsX3_init) (fun _ h => h) rfl rfl (by decide +kernel) rfl rfl (Nat.le_of_ble_eq_true rfl) dX3_init_9 ?_
  refine e_aload_n (pc := 12) C dX3_init_12 0 rfl rfl ?_
  refine e_iconst (v := 2) (pc := 13) C dX3_init_13 (by decide) ?_
  refine e_bipush (v := 40) (pc := 14) C dX3_init_14 (by decide) ?_
  refine e_mna2 (pc := 16) C 40 hov (by decide +kernel) (by decide +kernel) (by decide) (by decide) (by decide) (by decide) (by decide) (by decide) ⟨Nat.le_of_ble_eq_true rfl, Nat.le_of_ble_eq_true rfl⟩ dX3_init_16 (fun q1 r1 => ?_)
  refine e_putF (pc := 20) (q0 := 0) (j := 4) (ty := .array (.array .int)) C hin2 hin tyX1 tyX1_ok nmX1 rfl rfl (by decide) (by decide +kernel : Cond.fieldLink RX3 17 "CreepBoard$Mark" "readings" "[[I" ∈ wsX3_init) (fun _ h => h) rfl rfl (by decide +kernel) rfl rfl (Nat.le_of_ble_eq_true rfl) dX3_init_20 ?_
  refine e_aload_n (pc := 23) C dX3_init_23 0 rfl rfl ?_
  refine e_bipush (v := 10) (pc := 24) C dX3_init_24 (by decide) ?_
  refine e_newI (pc := 26) C 10 (by decide +kernel) (by decide) (by decide) (by decide) ⟨Nat.le_of_ble_eq_true rfl, Nat.le_of_ble_eq_true rfl⟩ dX3_init_26 (fun q2 => ?_)
  refine e_putF (pc := 28) (q0 := 0) (j := 5) (ty := .array .int) C hin2 hin tyX1 tyX1_ok nmX1 rfl rfl (by decide) (by decide +kernel : Cond.fieldLink RX3 20 "CreepBoard$Mark" "stepEpochs" "[I" ∈ wsX3_init) (fun _ h => h) rfl rfl (by decide +kernel) rfl rfl (Nat.le_of_ble_eq_true rfl) dX3_init_28 ?_
  refine e_aload_n (pc := 31) C dX3_init_31 0 rfl rfl ?_
  refine e_iconst (v := 2) (pc := 32) C dX3_init_32 (by decide) ?_
  refine e_bipush (v := 10) (pc := 33) C dX3_init_33 (by decide) ?_
  refine e_mna2 (pc := 35) C 10 hov (by decide +kernel) (by decide +kernel) (by decide) (by decide) (by decide) (by decide) (by decide) (by decide) ⟨Nat.le_of_ble_eq_true rfl, Nat.le_of_ble_eq_true rfl⟩ dX3_init_35 (fun q3 r2 => ?_)
  refine e_putF (pc := 39) (q0 := 0) (j := 6) (ty := .array (.array .int)) C hin2 hin tyX1 tyX1_ok nmX1 rfl rfl (by decide) (by decide +kernel : Cond.fieldLink RX3 24 "CreepBoard$Mark" "stepSizes" "[[I" ∈ wsX3_init) (fun _ h => h) rfl rfl (by decide +kernel) rfl rfl (Nat.le_of_ble_eq_true rfl) dX3_init_39 ?_
  refine e_aload_n (pc := 42) C dX3_init_42 0 rfl rfl ?_
  refine e_iconst (v := 2) (pc := 43) C dX3_init_43 (by decide) ?_
  refine e_newI (pc := 44) C 2 (by decide +kernel) (by decide) (by decide) (by decide) ⟨Nat.le_of_ble_eq_true rfl, Nat.le_of_ble_eq_true rfl⟩ dX3_init_44 (fun q4 => ?_)
  refine e_putF (pc := 46) (q0 := 0) (j := 7) (ty := .array .int) C hin2 hin tyX1 tyX1_ok nmX1 rfl rfl (by decide) (by decide +kernel : Cond.fieldLink RX3 27 "CreepBoard$Mark" "speeds" "[I" ∈ wsX3_init) (fun _ h => h) rfl rfl (by decide +kernel) rfl rfl (Nat.le_of_ble_eq_true rfl) dX3_init_46 ?_
  refine e_aload_n (pc := 49) C dX3_init_49 0 rfl rfl ?_
  refine e_iconst (v := 3) (pc := 50) C dX3_init_50 (by decide) ?_
  refine e_newI (pc := 51) C 3 (by decide +kernel) (by decide) (by decide) (by decide) ⟨Nat.le_of_ble_eq_true rfl, Nat.le_of_ble_eq_true rfl⟩ dX3_init_51 (fun q5 => ?_)
  refine e_putF (pc := 53) (q0 := 0) (j := 8) (ty := .array .int) C hin2 hin tyX1 tyX1_ok nmX1 rfl rfl (by decide) (by decide +kernel : Cond.fieldLink RX3 30 "CreepBoard$Mark" "greens" "[I" ∈ wsX3_init) (fun _ h => h) rfl rfl (by decide +kernel) rfl rfl (Nat.le_of_ble_eq_true rfl) dX3_init_53 ?_
  refine e_aload_n (pc := 56) C dX3_init_56 0 rfl rfl ?_
  refine e_iload_n (pc := 57) C dX3_init_57 1 rfl rfl ?_
  refine e_putF (pc := 58) (q0 := 0) (j := 0) (ty := .int) C hin2 hin tyX1 tyX1_ok nmX1 rfl rfl (by decide) (by decide +kernel : Cond.fieldLink RX3 33 "CreepBoard$Mark" "number" "I" ∈ wsX3_init) (fun _ h => h) rfl rfl (by decide +kernel) rfl rfl (Nat.le_of_ble_eq_true rfl) dX3_init_58 ?_
  refine e_aload_n (pc := 61) C dX3_init_61 0 rfl rfl ?_
  refine e_iload_n (pc := 62) C dX3_init_62 2 rfl rfl ?_
  refine e_putF (pc := 63) (q0 := 0) (j := 1) (ty := .int) C hin2 hin tyX1 tyX1_ok nmX1 rfl rfl (by decide) (by decide +kernel : Cond.fieldLink RX3 37 "CreepBoard$Mark" "x" "I" ∈ wsX3_init) (fun _ h => h) rfl rfl (by decide +kernel) rfl rfl (Nat.le_of_ble_eq_true rfl) dX3_init_63 ?_
  refine e_aload_n (pc := 66) C dX3_init_66 0 rfl rfl ?_
  refine e_iload_n (pc := 67) C dX3_init_67 3 rfl rfl ?_
  refine e_putF (pc := 68) (q0 := 0) (j := 2) (ty := .int) C hin2 hin tyX1 tyX1_ok nmX1 rfl rfl (by decide) (by decide +kernel : Cond.fieldLink RX3 40 "CreepBoard$Mark" "y" "I" ∈ wsX3_init) (fun _ h => h) rfl rfl (by decide +kernel) rfl rfl (Nat.le_of_ble_eq_true rfl) dX3_init_68 ?_
  refine e_widen (k := 10) (n := 159) (Nat.le_of_ble_eq_true rfl) (Nat.le_of_ble_eq_true rfl) ?_
  exact fun H locs ls hl hP hD hS => W.vret C.1 C.2.1 hr (fun t ht hW => ⟨⟨((fun i => [q0, q1, q2, q3, q4, q5].getD i 0), r1, r2), rfl, trivial, by rw [ht]; exact hP, hD⟩, hS.F ht⟩) hS.2.2 dX3_init_71 hk
