section
variable {p : Program} {l : Launch} {e : Env} {R : Room} {kc ks : Nat} {s : State} {m : MethodId} {args : Array Value} {below : List Frame} {meth : Method} {c : Code} {nL : Nat} {D : va_G} {cA : Nat → ClassId} {A : Nat → Prop} {Q : State → Prop} {cc : ByteArray} {Ts : List Cond} {own : String} {pc : Nat} {lv lv' : List (Nat × Value)} {st rest : List Value} {ws : va_W}
theorem e_put (C : Cx p s m args c cc nL Ts own D cA A) {h ci index j N q0 : Nat} {ref Cn : String} {Tt : u_T} {fs : List Value} {v : Value} (hin : ∀ w ∈ u_ws Cn Tt N, w ∈ Ts) (ty0 : Nat → FieldType) (hty : ∀ k, k < N → parseFieldDescriptor (Tt k).2.2.1 = some (ty0 k)) (hnm : ∀ a, a < N → ∀ b, b < N → a ≠ b → (Tt a).2.1 ≠ (Tt b).2.1) (he : ws[q0]? = some (h, .inr (ci, fs))) (hc : vwCl[ci]? = some (Cn, Tt, N)) (hj : j < N) (hlink : Cond.fieldLink own index ref (Tt j).2.1 (Tt j).2.2.1 ∈ Ts) (hsame : ∀ x, s.fieldFound? (Tt j).1 (Tt j).2.1 (Tt j).2.2.1 = some x → s.fieldFound? ref (Tt j).2.1 (Tt j).2.2.1 = some x) (hfin : (Tt j).2.2.2 = false) {ty : FieldType} (hd : parseFieldDescriptor (Tt j).2.2.1 = some ty) (hnr : narrow ty v = v) (hfit : fits ty v = true) (hl0 : j < fs.length) (d : decode cc pc = .ok (.putfield index, 3)) (kk : KE kc ks p l e R s m args below meth c nL D A Q (pc + 3) lv st (ws.set q0 (h, .inr (ci, fs.set j v)))) : KE kc ks p l e R s m args below meth c nL D A Q pc lv (v :: .ref h :: st) ws := fun H locs ls hl hP hD hS =>
  va_put C.1 C.2.1 C.2.2.2.2.1 hin ty0 hty hnm C.2.2.2.1 C.2.2.2.2.2.1 hP hD hS q0 he hc j hj (C.2.2.2.2.1 _ hlink) hsame hfin hd hnr hfit hl0 d (fun H1 locs1 hP1 hD1 hS1 => kk H1 locs1 ls hl hP1 hD1 hS1)
end
abbrev n0_X0 : Nat × List Value := (0, [.null, .null, .null, .null, .int 0, .int 0])
/-- the cells of a new BlockFinder -/
abbrev nw_X0 (cA : Nat → ClassId) (h : Nat) (a : Nat → Nat) : va_W := [(h, .inr (0, [.ref (a 0), .ref (a 1), .ref (a 2), .ref (a 3), .int 0, .int 0])), (a 0, .inl (cA 1, 1024, .inl (fun _ => 0))), (a 1, .inl (cA 0, 1024, .inl (fun _ => 0))), (a 2, .inl (cA 0, 1024, .inl (fun _ => 0))), (a 3, .inl (cA 0, 10, .inl (fun _ => 0)))]
set_option maxHeartbeats 4000000 in
set_option maxRecDepth 100000 in
theorem ct_X0_init (l : Launch) (D : va_G) (cA : Nat → ClassId) (h : Nat) (sz : Nat) : Met l yX0_init wsX0_init { frames := 1, cells := 4, slots := 3082, locals := 20 } (va_Pc [.ref h] (fun U => U.heap.size = sz ∧ va_P D vwCl [(h, .inr n0_X0)] U.heap ∧ va_K D vwCl (tyl cA) U ∧ va_D (fun _ => True) [(h, .inr n0_X0)])) (va_Qv (fun _ => True) (fun (a : Nat → Nat) t => va_P D vwCl (nw_X0 cA h a) t.heap ∧ va_D (va_A [(h, .inr n0_X0)] sz) (nw_X0 cA h a)) (va_A [(h, .inr n0_X0)] sz)) 4 3082 (va_A [(h, .inr n0_X0)] sz) := by
  refine Met.ofW (cc := cX0_init) (maxL := 1) (ret := none) (by decide) rfl ?_
  intro p e s m args below meth c s₁ B hml hv
  obtain ⟨rfl, hsz, hP, hK, hD0⟩ := hv
  subst hsz
  have hD := hD0.self (sz := s.heap.size)
  generalize hAe : va_A [(h, .inr n0_X0)] s.heap.size = A at hD ⊢
  have hA : ∀ q : Nat, s.heap.size ≤ q → A q := fun q h => by rw [← hAe]; exact Or.inr h
  have hl := lv_entry [.ref h] (n := 1) (Nat.le_of_ble_eq_true rfl)
  rw [lg_entry_eq]
  have hin2 : meth.name = "<init>" := (name_of_methodNamed B.named B.method).1
  have hr := B.returns
  have hk := B.notSynchronized
  have C : Cx p s m _ c cX0_init 1 wsX0_init RX0 D cA A := ⟨B.exec, B.bytes, hml, findClass_of_methodNamed B.named, atoms_spec (ws := wsX0_init) B.pre, hK, hA⟩
  have hin : ∀ w ∈ u_ws RX0 TX0 6, w ∈ wsX0_init := fun w h => List.mem_cons_of_mem _ (List.mem_append_right _ h)
  refine (?_ : KE 0 0 p l e _ s m _ below meth c 1 D A _ 0 [(0, .ref h)] [] [(h, .inr n0_X0)]) s.heap [] _ hl hP hD va_S.rf
  refine e_aload_n (pc := 0) C dX0_init_0 0 rfl rfl ?_
  refine e_objInit (pc := 1) C (by decide +kernel) (by decide +kernel) (by decide +kernel) ⟨Nat.le_of_ble_eq_true rfl, Nat.le_of_ble_eq_true rfl⟩ dX0_init_1 ?_
  refine e_aload_n (pc := 4) C dX0_init_4 0 rfl rfl ?_
  refine e_sipush (v := 1024) (pc := 5) C dX0_init_5 (by decide) ?_
  refine e_newZ (pc := 8) C 1024 (by decide +kernel) (by decide) (by decide) (by decide) ⟨Nat.le_of_ble_eq_true rfl, Nat.le_of_ble_eq_true rfl⟩ dX0_init_8 (fun q0 => ?_)
  refine e_putF (pc := 10) (q0 := 0) (j := 0) (ty := .array .boolean) C hin2 hin tyX0 tyX0_ok nmX0 rfl rfl (by decide) (by decide +kernel : Cond.fieldLink RX0 9 "CreepBoard$BlockFinder" "turns" "[Z" ∈ wsX0_init) (fun _ h => h) rfl rfl (by decide +kernel) rfl rfl (Nat.le_of_ble_eq_true rfl) dX0_init_10 ?_
  refine e_aload_n (pc := 13) C dX0_init_13 0 rfl rfl ?_
  refine e_sipush (v := 1024) (pc := 14) C dX0_init_14 (by decide) ?_
  refine e_newI (pc := 17) C 1024 (by decide +kernel) (by decide) (by decide) (by decide) ⟨Nat.le_of_ble_eq_true rfl, Nat.le_of_ble_eq_true rfl⟩ dX0_init_17 (fun q1 => ?_)
  refine e_putF (pc := 19) (q0 := 0) (j := 1) (ty := .array .int) C hin2 hin tyX0 tyX0_ok nmX0 rfl rfl (by decide) (by decide +kernel : Cond.fieldLink RX0 15 "CreepBoard$BlockFinder" "fewest" "[I" ∈ wsX0_init) (fun _ h => h) rfl rfl (by decide +kernel) rfl rfl (Nat.le_of_ble_eq_true rfl) dX0_init_19 ?_
  refine e_aload_n (pc := 22) C dX0_init_22 0 rfl rfl ?_
  refine e_sipush (v := 1024) (pc := 23) C dX0_init_23 (by decide) ?_
  refine e_newI (pc := 26) C 1024 (by decide +kernel) (by decide) (by decide) (by decide) ⟨Nat.le_of_ble_eq_true rfl, Nat.le_of_ble_eq_true rfl⟩ dX0_init_26 (fun q2 => ?_)
  refine e_putF (pc := 28) (q0 := 0) (j := 2) (ty := .array .int) C hin2 hin tyX0 tyX0_ok nmX0 rfl rfl (by decide) (by decide +kernel : Cond.fieldLink RX0 19 "CreepBoard$BlockFinder" "leastBlock" "[I" ∈ wsX0_init) (fun _ h => h) rfl rfl (by decide +kernel) rfl rfl (Nat.le_of_ble_eq_true rfl) dX0_init_28 ?_
  refine e_aload_n (pc := 31) C dX0_init_31 0 rfl rfl ?_
  refine e_bipush (v := 10) (pc := 32) C dX0_init_32 (by decide) ?_
  refine e_newI (pc := 34) C 10 (by decide +kernel) (by decide) (by decide) (by decide) ⟨Nat.le_of_ble_eq_true rfl, Nat.le_of_ble_eq_true rfl⟩ dX0_init_34 (fun q3 => ?_)
  refine e_putF (pc := 36) (q0 := 0) (j := 3) (ty := .array .int) C hin2 hin tyX0 tyX0_ok nmX0 rfl rfl (by decide) (by decide +kernel : Cond.fieldLink RX0 22 "CreepBoard$BlockFinder" "blockOfMark" "[I" ∈ wsX0_init) (fun _ h => h) rfl rfl (by decide +kernel) rfl rfl (Nat.le_of_ble_eq_true rfl) dX0_init_36 ?_
  refine e_widen (k := 4) (n := 3082) (Nat.le_of_ble_eq_true rfl) (Nat.le_of_ble_eq_true rfl) ?_
  exact fun H locs ls hl hP hD hS => W.vret C.1 C.2.1 hr (fun t ht hW => ⟨⟨(fun i => [q0, q1, q2, q3].getD i 0), rfl, trivial, by rw [ht]; exact hP, hD⟩, hS.F ht⟩) hS.2.2 dX0_init_39 hk
abbrev n0_X5 : Nat × List Value := (5, [.null, .null, .int 0])
/-- the cells of a new Series -/
abbrev nw_X5 (cA : Nat → ClassId) (h : Nat) (a : Nat → Nat) : va_W := [(h, .inr (5, [.ref (a 0), .ref (a 1), .int 0])), (a 0, .inl (cA 0, 40, .inl (fun _ => 0))), (a 1, .inl (cA 2, 40, .inr (.inl (fun _ => 0))))]
set_option maxHeartbeats 4000000 in
set_option maxRecDepth 100000 in
theorem ct_X5_init (l : Launch) (D : va_G) (cA : Nat → ClassId) (h : Nat) (sz : Nat) : Met l yX5_init wsX5_init { frames := 1, cells := 2, slots := 80, locals := 20 } (va_Pc [.ref h] (fun U => U.heap.size = sz ∧ va_P D vwCl [(h, .inr n0_X5)] U.heap ∧ va_K D vwCl (tyl cA) U ∧ va_D (fun _ => True) [(h, .inr n0_X5)])) (va_Qv (fun _ => True) (fun (a : Nat → Nat) t => va_P D vwCl (nw_X5 cA h a) t.heap ∧ va_D (va_A [(h, .inr n0_X5)] sz) (nw_X5 cA h a)) (va_A [(h, .inr n0_X5)] sz)) 2 80 (va_A [(h, .inr n0_X5)] sz) := by
  refine Met.ofW (cc := cX5_init) (maxL := 1) (ret := none) (by decide) rfl ?_
  intro p e s m args below meth c s₁ B hml hv
  obtain ⟨rfl, hsz, hP, hK, hD0⟩ := hv
  subst hsz
  have hD := hD0.self (sz := s.heap.size)
  generalize hAe : va_A [(h, .inr n0_X5)] s.heap.size = A at hD ⊢
  have hA : ∀ q : Nat, s.heap.size ≤ q → A q := fun q h => by rw [← hAe]; exact Or.inr h
  have hl := lv_entry [.ref h] (n := 1) (Nat.le_of_ble_eq_true rfl)
  rw [lg_entry_eq]
  have hin2 : meth.name = "<init>" := (name_of_methodNamed B.named B.method).1
  have hr := B.returns
  have hk := B.notSynchronized
  have C : Cx p s m _ c cX5_init 1 wsX5_init RX5 D cA A := ⟨B.exec, B.bytes, hml, findClass_of_methodNamed B.named, atoms_spec (ws := wsX5_init) B.pre, hK, hA⟩
  have hin : ∀ w ∈ u_ws RX5 TX5 3, w ∈ wsX5_init := fun w h => List.mem_cons_of_mem _ (List.mem_append_right _ h)
  refine (?_ : KE 0 0 p l e _ s m _ below meth c 1 D A _ 0 [(0, .ref h)] [] [(h, .inr n0_X5)]) s.heap [] _ hl hP hD va_S.rf
  refine e_aload_n (pc := 0) C dX5_init_0 0 rfl rfl ?_
  refine e_objInit (pc := 1) C (by decide +kernel) (by decide +kernel) (by decide +kernel) ⟨Nat.le_of_ble_eq_true rfl, Nat.le_of_ble_eq_true rfl⟩ dX5_init_1 ?_
  refine e_aload_n (pc := 4) C dX5_init_4 0 rfl rfl ?_
  refine e_bipush (v := 40) (pc := 5) C dX5_init_5 (by decide) ?_
  refine e_newI (pc := 7) C 40 (by decide +kernel) (by decide) (by decide) (by decide) ⟨Nat.le_of_ble_eq_true rfl, Nat.le_of_ble_eq_true rfl⟩ dX5_init_7 (fun q0 => ?_)
  refine e_putF (pc := 9) (q0 := 0) (j := 0) (ty := .array .int) C hin2 hin tyX5 tyX5_ok nmX5 rfl rfl (by decide) (by decide +kernel : Cond.fieldLink RX5 9 "CreepBoard$Series" "epochs" "[I" ∈ wsX5_init) (fun _ h => h) rfl rfl (by decide +kernel) rfl rfl (Nat.le_of_ble_eq_true rfl) dX5_init_9 ?_
  refine e_aload_n (pc := 12) C dX5_init_12 0 rfl rfl ?_
  refine e_bipush (v := 40) (pc := 13) C dX5_init_13 (by decide) ?_
  refine e_newJ (pc := 15) C 40 (by decide +kernel) (by decide) (by decide) (by decide) ⟨Nat.le_of_ble_eq_true rfl, Nat.le_of_ble_eq_true rfl⟩ dX5_init_15 (fun q1 => ?_)
  refine e_putF (pc := 17) (q0 := 0) (j := 1) (ty := .array .long) C hin2 hin tyX5 tyX5_ok nmX5 rfl rfl (by decide) (by decide +kernel : Cond.fieldLink RX5 15 "CreepBoard$Series" "values" "[J" ∈ wsX5_init) (fun _ h => h) rfl rfl (by decide +kernel) rfl rfl (Nat.le_of_ble_eq_true rfl) dX5_init_17 ?_
  refine e_widen (k := 2) (n := 80) (Nat.le_of_ble_eq_true rfl) (Nat.le_of_ble_eq_true rfl) ?_
  exact fun H locs ls hl hP hD hS => W.vret C.1 C.2.1 hr (fun t ht hW => ⟨⟨(fun i => [q0, q1].getD i 0), rfl, trivial, by rw [ht]; exact hP, hD⟩, hS.F ht⟩) hS.2.2 dX5_init_20 hk
abbrev n0_X6 : Nat × List Value := (6, [.null, .int 0, .int 0, .null])
/-- the cells of a new Shelf -/
abbrev nw_X6 (cA : Nat → ClassId) (h : Nat) (a : Nat → Nat) : va_W := [(h, .inr (6, [.ref (a 0), .int 0, .int 0, .null])), (a 0, .inl (cA 2, 60, .inr (.inl (fun _ => 0))))]
set_option maxHeartbeats 4000000 in
set_option maxRecDepth 100000 in
theorem ct_X6_init (l : Launch) (D : va_G) (cA : Nat → ClassId) (h : Nat) (sz : Nat) : Met l yX6_init wsX6_init { frames := 1, cells := 1, slots := 60, locals := 20 } (va_Pc [.ref h] (fun U => U.heap.size = sz ∧ va_P D vwCl [(h, .inr n0_X6)] U.heap ∧ va_K D vwCl (tyl cA) U ∧ va_D (fun _ => True) [(h, .inr n0_X6)])) (va_Qv (fun _ => True) (fun (a : Nat → Nat) t => va_P D vwCl (nw_X6 cA h a) t.heap ∧ va_D (va_A [(h, .inr n0_X6)] sz) (nw_X6 cA h a)) (va_A [(h, .inr n0_X6)] sz)) 1 60 (va_A [(h, .inr n0_X6)] sz) := by
  refine Met.ofW (cc := cX6_init) (maxL := 1) (ret := none) (by decide) rfl ?_
  intro p e s m args below meth c s₁ B hml hv
  obtain ⟨rfl, hsz, hP, hK, hD0⟩ := hv
  subst hsz
  have hD := hD0.self (sz := s.heap.size)
  generalize hAe : va_A [(h, .inr n0_X6)] s.heap.size = A at hD ⊢
  have hA : ∀ q : Nat, s.heap.size ≤ q → A q := fun q h => by rw [← hAe]; exact Or.inr h
  have hl := lv_entry [.ref h] (n := 1) (Nat.le_of_ble_eq_true rfl)
  rw [lg_entry_eq]
  have hin2 : meth.name = "<init>" := (name_of_methodNamed B.named B.method).1
  have hr := B.returns
  have hk := B.notSynchronized
  have C : Cx p s m _ c cX6_init 1 wsX6_init RX6 D cA A := ⟨B.exec, B.bytes, hml, findClass_of_methodNamed B.named, atoms_spec (ws := wsX6_init) B.pre, hK, hA⟩
  have hin : ∀ w ∈ u_ws RX6 TX6 4, w ∈ wsX6_init := fun w h => List.mem_cons_of_mem _ (List.mem_append_right _ h)
  refine (?_ : KE 0 0 p l e _ s m _ below meth c 1 D A _ 0 [(0, .ref h)] [] [(h, .inr n0_X6)]) s.heap [] _ hl hP hD va_S.rf
  refine e_aload_n (pc := 0) C dX6_init_0 0 rfl rfl ?_
  refine e_objInit (pc := 1) C (by decide +kernel) (by decide +kernel) (by decide +kernel) ⟨Nat.le_of_ble_eq_true rfl, Nat.le_of_ble_eq_true rfl⟩ dX6_init_1 ?_
  refine e_aload_n (pc := 4) C dX6_init_4 0 rfl rfl ?_
  refine e_bipush (v := 60) (pc := 5) C dX6_init_5 (by decide) ?_
  refine e_newJ (pc := 7) C 60 (by decide +kernel) (by decide) (by decide) (by decide) ⟨Nat.le_of_ble_eq_true rfl, Nat.le_of_ble_eq_true rfl⟩ dX6_init_7 (fun q0 => ?_)
  refine e_putF (pc := 9) (q0 := 0) (j := 0) (ty := .array .long) C hin2 hin tyX6 tyX6_ok nmX6 rfl rfl (by decide) (by decide +kernel : Cond.fieldLink RX6 9 "CreepBoard$Shelf" "row" "[J" ∈ wsX6_init) (fun _ h => h) rfl rfl (by decide +kernel) rfl rfl (Nat.le_of_ble_eq_true rfl) dX6_init_9 ?_
  refine e_aload_n (pc := 12) C dX6_init_12 0 rfl rfl ?_
  refine e_iconst (v := 0) (pc := 13) C dX6_init_13 (by decide) ?_
  refine e_put (pc := 14) (q0 := 0) (j := 1) (ty := .int) C hin tyX6 tyX6_ok nmX6 rfl rfl (by decide) (by decide +kernel : Cond.fieldLink RX6 15 "CreepBoard$Shelf" "holds" "I" ∈ wsX6_init) (fun _ h => h) rfl (by decide +kernel) rfl rfl (Nat.le_of_ble_eq_true rfl) dX6_init_14 ?_
  refine e_widen (k := 1) (n := 60) (Nat.le_of_ble_eq_true rfl) (Nat.le_of_ble_eq_true rfl) ?_
  exact fun H locs ls hl hP hD hS => W.vret C.1 C.2.1 hr (fun t ht hW => ⟨⟨(fun i => [q0].getD i 0), rfl, trivial, by rw [ht]; exact hP, hD⟩, hS.F ht⟩) hS.2.2 dX6_init_17 hk
abbrev n0_X7 : Nat × List Value := (7, [.null, .null, .int 0, .int 0, .int 0, .int 0])
/-- the cells of a new SlipFinder -/
abbrev nw_X7 (cA : Nat → ClassId) (h : Nat) (a : Nat → Nat) : va_W := [(h, .inr (7, [.ref (a 0), .ref (a 1), .int 0, .int 0, .int 0, .int 0])), (a 0, .inl (cA 0, 3, .inl (fun _ => 0))), (a 1, .inl (cA 0, 3, .inl (fun _ => 0)))]
set_option maxHeartbeats 4000000 in
set_option maxRecDepth 100000 in
theorem ct_X7_init (l : Launch) (D : va_G) (cA : Nat → ClassId) (h : Nat) (sz : Nat) : Met l yX7_init wsX7_init { frames := 1, cells := 2, slots := 6, locals := 20 } (va_Pc [.ref h] (fun U => U.heap.size = sz ∧ va_P D vwCl [(h, .inr n0_X7)] U.heap ∧ va_K D vwCl (tyl cA) U ∧ va_D (fun _ => True) [(h, .inr n0_X7)])) (va_Qv (fun _ => True) (fun (a : Nat → Nat) t => va_P D vwCl (nw_X7 cA h a) t.heap ∧ va_D (va_A [(h, .inr n0_X7)] sz) (nw_X7 cA h a)) (va_A [(h, .inr n0_X7)] sz)) 2 6 (va_A [(h, .inr n0_X7)] sz) := by
  refine Met.ofW (cc := cX7_init) (maxL := 1) (ret := none) (by decide) rfl ?_
  intro p e s m args below meth c s₁ B hml hv
  obtain ⟨rfl, hsz, hP, hK, hD0⟩ := hv
  subst hsz
  have hD := hD0.self (sz := s.heap.size)
  generalize hAe : va_A [(h, .inr n0_X7)] s.heap.size = A at hD ⊢
  have hA : ∀ q : Nat, s.heap.size ≤ q → A q := fun q h => by rw [← hAe]; exact Or.inr h
  have hl := lv_entry [.ref h] (n := 1) (Nat.le_of_ble_eq_true rfl)
  rw [lg_entry_eq]
  have hin2 : meth.name = "<init>" := (name_of_methodNamed B.named B.method).1
  have hr := B.returns
  have hk := B.notSynchronized
  have C : Cx p s m _ c cX7_init 1 wsX7_init RX7 D cA A := ⟨B.exec, B.bytes, hml, findClass_of_methodNamed B.named, atoms_spec (ws := wsX7_init) B.pre, hK, hA⟩
  have hin : ∀ w ∈ u_ws RX7 TX7 6, w ∈ wsX7_init := fun w h => List.mem_cons_of_mem _ (List.mem_append_right _ h)
  refine (?_ : KE 0 0 p l e _ s m _ below meth c 1 D A _ 0 [(0, .ref h)] [] [(h, .inr n0_X7)]) s.heap [] _ hl hP hD va_S.rf
  refine e_aload_n (pc := 0) C dX7_init_0 0 rfl rfl ?_
  refine e_objInit (pc := 1) C (by decide +kernel) (by decide +kernel) (by decide +kernel) ⟨Nat.le_of_ble_eq_true rfl, Nat.le_of_ble_eq_true rfl⟩ dX7_init_1 ?_
  refine e_aload_n (pc := 4) C dX7_init_4 0 rfl rfl ?_
  refine e_iconst (v := 3) (pc := 5) C dX7_init_5 (by decide) ?_
  refine e_newI (pc := 6) C 3 (by decide +kernel) (by decide) (by decide) (by decide) ⟨Nat.le_of_ble_eq_true rfl, Nat.le_of_ble_eq_true rfl⟩ dX7_init_6 (fun q0 => ?_)
  refine e_putF (pc := 8) (q0 := 0) (j := 0) (ty := .array .int) C hin2 hin tyX7 tyX7_ok nmX7 rfl rfl (by decide) (by decide +kernel : Cond.fieldLink RX7 9 "CreepBoard$SlipFinder" "least" "[I" ∈ wsX7_init) (fun _ h => h) rfl rfl (by decide +kernel) rfl rfl (Nat.le_of_ble_eq_true rfl) dX7_init_8 ?_
  refine e_aload_n (pc := 11) C dX7_init_11 0 rfl rfl ?_
  refine e_iconst (v := 3) (pc := 12) C dX7_init_12 (by decide) ?_
  refine e_newI (pc := 13) C 3 (by decide +kernel) (by decide) (by decide) (by decide) ⟨Nat.le_of_ble_eq_true rfl, Nat.le_of_ble_eq_true rfl⟩ dX7_init_13 (fun q1 => ?_)
  refine e_putF (pc := 15) (q0 := 0) (j := 1) (ty := .array .int) C hin2 hin tyX7 tyX7_ok nmX7 rfl rfl (by decide) (by decide +kernel : Cond.fieldLink RX7 15 "CreepBoard$SlipFinder" "greatest" "[I" ∈ wsX7_init) (fun _ h => h) rfl rfl (by decide +kernel) rfl rfl (Nat.le_of_ble_eq_true rfl) dX7_init_15 ?_
  refine e_widen (k := 2) (n := 6) (Nat.le_of_ble_eq_true rfl) (Nat.le_of_ble_eq_true rfl) ?_
  exact fun H locs ls hl hP hD hS => W.vret C.1 C.2.1 hr (fun t ht hW => ⟨⟨(fun i => [q0, q1].getD i 0), rfl, trivial, by rw [ht]; exact hP, hD⟩, hS.F ht⟩) hS.2.2 dX7_init_18 hk
