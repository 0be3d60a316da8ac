section
variable {p : Program} {l : Launch} {e : Env} {R : Room} {kc ks : Nat} {s : State} {m : MethodId} {args : Array Value} {below : List Frame} {meth : Method} {c : Code} {nL : Nat} {D : va_G} {cA : Nat → ClassId} {A : Nat → Prop} {Q : State → Prop} {cc : ByteArray} {Ts : List Cond} {own : String} {pc : Nat} {lv lv' : List (Nat × Value)} {st rest : List Value} {ws : va_W}
theorem e_ws (ws' : va_W) (h : ws = ws') (kk : KE kc ks p l e R s m args below meth c nL D A Q pc lv st ws') : KE kc ks p l e R s m args below meth c nL D A Q pc lv st ws := by
  subst h
  exact kk
abbrev rowsK (cA : Nat → ClassId) (K : Nat) (r : Nat → Nat) : va_E := .inl (cA 5, K, .inr (.inr (.inr (.inr (fun i => if i < K then some (r i) else none)))))
theorem pl_rows {K : Nat} {r : Nat → Nat} {f : Nat → va_E} {E : va_E} : va_pl ([] ++ (List.range K).map r) (vr_up f ((List.range K).map r) E) = (List.range K).map (fun i => (r i, E)) := by
  unfold va_pl
  rw [List.nil_append, List.map_map]
  refine List.map_congr_left (fun i hi => ?_)
  show (r i, vr_up f ((List.range K).map r) E (r i)) = (r i, E)
  rw [vr_up_in (List.mem_map_of_mem hi)]
theorem e_mnaK (C : Cx p s m args c cc nL Ts own D cA A) {n k : Int32} {index : Nat} (K N : Nat) (hov : va_AOA .int s) (hlk : Cond.classLink own index "[[I" ∈ Ts) (harr : Cond.arrayClass .int ∈ Ts) (hn : ¬ n < 0) (hk : ¬ k < 0) (h2 : n.toNatClampNeg = K) (hN : k.toNatClampNeg = N) (hb1 : K * 4 ≤ 536870912) (hb2 : N * componentBytes .int ≤ 536870912) (hb3 : N ≤ 536870912) (hR : kc + (1 + K) ≤ R.cells ∧ ks + (K + K * N) ≤ R.slots) (d : decode cc pc = .ok (.multianewarray index 2, 4)) (kk : ∀ (q : Nat) (r : Nat → Nat), KE (kc + 1 + K) (ks + K + K * N) p l e R s m args below meth c nL D A Q (pc + 4) lv (.ref q :: st) (ws ++ ([(q, rowsK cA K r)] ++ (List.range K).map (fun i => (r i, zI cA N))))) : KE kc ks p l e R s m args below meth c nL D A Q pc lv (.int k :: .int n :: st) ws := fun H locs ls hl hP hD hS => by
  have hP0 : va_P D vwCl (ws ++ va_pl [] (fun _ => .inl (cA 0, N, .inl (fun _ => 0)))) H := by
    show va_P D vwCl (ws ++ []) H
    rw [List.append_nil]
    exact hP
  have hD0 : va_D A (ws ++ va_pl [] (fun _ => .inl (cA 0, N, .inl (fun _ => 0)))) := by
    show va_D A (ws ++ [])
    rw [List.append_nil]
    exact hD
  refine va_mna C.1 C.2.1 (ty := .int) (cy := cA 0) C.2.2.2.1 (C.2.2.2.2.1 _ hlk) hov (C.2.2.2.2.1 _ harr) (C.2.2.2.2.2.1.2 0 (cA 0, .int) rfl).2 C.2.2.2.2.2.1 hP0 hD0 hS C.2.2.2.2.2.2 (z := (N, .inl (fun _ => 0))) hn hk h2 hN hb1 hb2 hb3 rfl rfl hR.1 hR.2 (fun c => ?_) d (fun q r cA' H1 hinj hfr hK1 hP1 hD1 hS1 => ?_)
  · show ({ cls := c, slots := Array.replicate N (.int 0), vm := .none } : Cell) = arrV c N (fun _ => .int 0)
    exact arrV_new c N (.int 0)
  · have he : cA' = cA 5 := Option.some.inj (Eq.trans (Eq.symm (hK1.2 6 (cA', .array .int) rfl).2) (C.2.2.2.2.2.1.2 5 (cA 5, .array .int) rfl).2)
    subst he
    rw [pl_rows, List.append_assoc] at hP1 hD1
    exact kk q r H1 locs ls hl hP1 hD1 hS1
end
abbrev n0_X2 : Nat × List Value := (2, [.null, .null, .null, .int 0, .null, .null, .null, .null, .int 0, .int 0, .int 0])
/-- the cells of a new Levels -/
abbrev nw_X2 (cA : Nat → ClassId) (h : Nat) (u : (Nat → Nat) × (Nat → Nat) × (Nat → Nat)) : va_W := [(h, .inr (2, [.ref (u.1 0), .ref (u.1 1), .ref (u.1 2), .int 0, .ref (u.1 3), .ref (u.1 4), .ref (u.1 5), .ref (u.1 6), .int 0, .int 0, .int 0])), ((u.1 0), .inl (cA 0, 14, .inl (fun _ => 0))), ((u.1 1), .inl (cA 0, 14, .inl (fun _ => 0))), ((u.1 2), .inl (cA 0, 14, .inl (fun _ => 0))), ((u.1 3), rowsK cA 10 u.2.1), (u.2.1 0, zI cA 10), (u.2.1 1, zI cA 10), (u.2.1 2, zI cA 10), (u.2.1 3, zI cA 10), (u.2.1 4, zI cA 10), (u.2.1 5, zI cA 10), (u.2.1 6, zI cA 10), (u.2.1 7, zI cA 10), (u.2.1 8, zI cA 10), (u.2.1 9, zI cA 10), ((u.1 4), rowsK cA 10 u.2.2), (u.2.2 0, zI cA 10), (u.2.2 1, zI cA 10), (u.2.2 2, zI cA 10), (u.2.2 3, zI cA 10), (u.2.2 4, zI cA 10), (u.2.2 5, zI cA 10), (u.2.2 6, zI cA 10), (u.2.2 7, zI cA 10), (u.2.2 8, zI cA 10), (u.2.2 9, zI cA 10), ((u.1 5), .inl (cA 0, 10, .inl (fun _ => 0))), ((u.1 6), .inl (cA 0, 10, .inl (fun _ => 0)))]
set_option maxHeartbeats 4000000 in
set_option maxRecDepth 100000 in
theorem ct_X2_init (l : Launch) (D : va_G) (cA : Nat → ClassId) (h : Nat) (sz : Nat) : Met l yX2_init wsX2_init { frames := 1, cells := 27, slots := 282, locals := 20 } (va_Pc [.ref h] (fun U => U.heap.size = sz ∧ va_P D vwCl [(h, .inr n0_X2)] U.heap ∧ va_K D vwCl (tyl cA) U ∧ va_D (fun _ => True) [(h, .inr n0_X2)] ∧ va_AOA .int U)) (va_Qv (fun _ => True) (fun (u : (Nat → Nat) × (Nat → Nat) × (Nat → Nat)) t => va_P D vwCl (nw_X2 cA h u) t.heap ∧ va_D (va_A [(h, .inr n0_X2)] sz) (nw_X2 cA h u)) (va_A [(h, .inr n0_X2)] sz)) 27 282 (va_A [(h, .inr n0_X2)] sz) := by
  refine Met.ofW (cc := cX2_init) (maxL := 1) (ret := none) (by decide) rfl ?_
  intro p e s m args below meth c s₁ B hml hv
  obtain ⟨rfl, hsz, hP, hK, hD0, hov⟩ := hv
  subst hsz
  have hD := hD0.self (sz := s.heap.size)
  generalize hAe : va_A [(h, .inr n0_X2)] s.heap.size = A at hD ⊢
  have hA : ∀ q : Nat, s.heap.size ≤ q → A q := fun q h => by rw [← hAe]; exact Or.inr h
  have hl := lv_entry [.ref h] (n := 1) (Nat.le_of_ble_eq_true rfl)
  rw [lg_entry_eq]
  have hin2 : meth.name = "<init>" := (name_of_methodNamed B.named B.method).1
  have hr := B.returns
  have hk := B.notSynchronized
  have C : Cx p s m _ c cX2_init 1 wsX2_init RX2 D cA A := ⟨B.exec, B.bytes, hml, findClass_of_methodNamed B.named, atoms_spec (ws := wsX2_init) B.pre, hK, hA⟩
  have hin : ∀ w ∈ u_ws RX2 TX2 11, w ∈ wsX2_init := fun w h => List.mem_cons_of_mem _ (List.mem_append_right _ h)
  refine (?_ : KE 0 0 p l e _ s m _ below meth c 1 D A _ 0 [(0, .ref h)] [] [(h, .inr n0_X2)]) s.heap [] _ hl hP hD va_S.rf
  refine e_aload_n (pc := 0) C dX2_init_0 0 rfl rfl ?_
  refine e_objInit (pc := 1) C (by decide +kernel) (by decide +kernel) (by decide +kernel) ⟨Nat.le_of_ble_eq_true rfl, Nat.le_of_ble_eq_true rfl⟩ dX2_init_1 ?_
  refine e_aload_n (pc := 4) C dX2_init_4 0 rfl rfl ?_
  refine e_bipush (v := 14) (pc := 5) C dX2_init_5 (by decide) ?_
  refine e_newI (pc := 7) C 14 (by decide +kernel) (by decide) (by decide) (by decide) ⟨Nat.le_of_ble_eq_true rfl, Nat.le_of_ble_eq_true rfl⟩ dX2_init_7 (fun q0 => ?_)
  refine e_ws [(h, .inr (2, [.null, .null, .null, .int 0, .null, .null, .null, .null, .int 0, .int 0, .int 0])), (q0, .inl (cA 0, 14, .inl (fun _ => 0)))] rfl ?_
  refine e_widen (k := 1) (n := 14) (Nat.le_of_ble_eq_true rfl) (Nat.le_of_ble_eq_true rfl) ?_
  refine e_putF (pc := 9) (q0 := 0) (j := 0) (ty := .array .int) C hin2 hin tyX2 tyX2_ok nmX2 rfl rfl (by decide) (by decide +kernel : Cond.fieldLink RX2 9 "CreepBoard$Levels" "from" "[I" ∈ wsX2_init) (fun _ h => h) rfl rfl (by decide +kernel) rfl rfl (Nat.le_of_ble_eq_true rfl) dX2_init_9 ?_
  refine e_ws [(h, .inr (2, [.ref q0, .null, .null, .int 0, .null, .null, .null, .null, .int 0, .int 0, .int 0])), (q0, .inl (cA 0, 14, .inl (fun _ => 0)))] rfl ?_
  refine e_aload_n (pc := 12) C dX2_init_12 0 rfl rfl ?_
  refine e_bipush (v := 14) (pc := 13) C dX2_init_13 (by decide) ?_
  refine e_newI (pc := 15) C 14 (by decide +kernel) (by decide) (by decide) (by decide) ⟨Nat.le_of_ble_eq_true rfl, Nat.le_of_ble_eq_true rfl⟩ dX2_init_15 (fun q1 => ?_)
  refine e_ws [(h, .inr (2, [.ref q0, .null, .null, .int 0, .null, .null, .null, .null, .int 0, .int 0, .int 0])), (q0, .inl (cA 0, 14, .inl (fun _ => 0))), (q1, .inl (cA 0, 14, .inl (fun _ => 0)))] rfl ?_
  refine e_widen (k := 2) (n := 28) (Nat.le_of_ble_eq_true rfl) (Nat.le_of_ble_eq_true rfl) ?_
  refine e_putF (pc := 17) (q0 := 0) (j := 1) (ty := .array .int) C hin2 hin tyX2 tyX2_ok nmX2 rfl rfl (by decide) (by decide +kernel : Cond.fieldLink RX2 15 "CreepBoard$Levels" "to" "[I" ∈ wsX2_init) (fun _ h => h) rfl rfl (by decide +kernel) rfl rfl (Nat.le_of_ble_eq_true rfl) dX2_init_17 ?_
  refine e_ws [(h, .inr (2, [.ref q0, .ref q1, .null, .int 0, .null, .null, .null, .null, .int 0, .int 0, .int 0])), (q0, .inl (cA 0, 14, .inl (fun _ => 0))), (q1, .inl (cA 0, 14, .inl (fun _ => 0)))] rfl ?_
  refine e_aload_n (pc := 20) C dX2_init_20 0 rfl rfl ?_
  refine e_bipush (v := 14) (pc := 21) C dX2_init_21 (by decide) ?_
  refine e_newI (pc := 23) C 14 (by decide +kernel) (by decide) (by decide) (by decide) ⟨Nat.le_of_ble_eq_true rfl, Nat.le_of_ble_eq_true rfl⟩ dX2_init_23 (fun q2 => ?_)
  refine e_ws [(h, .inr (2, [.ref q0, .ref q1, .null, .int 0, .null, .null, .null, .null, .int 0, .int 0, .int 0])), (q0, .inl (cA 0, 14, .inl (fun _ => 0))), (q1, .inl (cA 0, 14, .inl (fun _ => 0))), (q2, .inl (cA 0, 14, .inl (fun _ => 0)))] rfl ?_
  refine e_widen (k := 3) (n := 42) (Nat.le_of_ble_eq_true rfl) (Nat.le_of_ble_eq_true rfl) ?_
  refine e_putF (pc := 25) (q0 := 0) (j := 2) (ty := .array .int) C hin2 hin tyX2 tyX2_ok nmX2 rfl rfl (by decide) (by decide +kernel : Cond.fieldLink RX2 18 "CreepBoard$Levels" "rise" "[I" ∈ wsX2_init) (fun _ h => h) rfl rfl (by decide +kernel) rfl rfl (Nat.le_of_ble_eq_true rfl) dX2_init_25 ?_
  refine e_ws [(h, .inr (2, [.ref q0, .ref q1, .ref q2, .int 0, .null, .null, .null, .null, .int 0, .int 0, .int 0])), (q0, .inl (cA 0, 14, .inl (fun _ => 0))), (q1, .inl (cA 0, 14, .inl (fun _ => 0))), (q2, .inl (cA 0, 14, .inl (fun _ => 0)))] rfl ?_
  refine e_aload_n (pc := 28) C dX2_init_28 0 rfl rfl ?_
  refine e_bipush (v := 10) (pc := 29) C dX2_init_29 (by decide) ?_
  refine e_bipush (v := 10) (pc := 31) C dX2_init_31 (by decide) ?_
  refine e_mnaK (pc := 33) C 10 10 hov (by decide +kernel) (by decide +kernel) (by decide) (by decide) (by decide) (by decide) (by decide) (by decide) (by decide) ⟨Nat.le_of_ble_eq_true rfl, Nat.le_of_ble_eq_true rfl⟩ dX2_init_33 (fun q3 r0 => ?_)
  refine e_ws [(h, .inr (2, [.ref q0, .ref q1, .ref q2, .int 0, .null, .null, .null, .null, .int 0, .int 0, .int 0])), (q0, .inl (cA 0, 14, .inl (fun _ => 0))), (q1, .inl (cA 0, 14, .inl (fun _ => 0))), (q2, .inl (cA 0, 14, .inl (fun _ => 0))), (q3, rowsK cA 10 r0), (r0 0, zI cA 10), (r0 1, zI cA 10), (r0 2, zI cA 10), (r0 3, zI cA 10), (r0 4, zI cA 10), (r0 5, zI cA 10), (r0 6, zI cA 10), (r0 7, zI cA 10), (r0 8, zI cA 10), (r0 9, zI cA 10)] rfl ?_
  refine e_widen (k := 14) (n := 152) (Nat.le_of_ble_eq_true rfl) (Nat.le_of_ble_eq_true rfl) ?_
  refine e_putF (pc := 37) (q0 := 0) (j := 4) (ty := .array (.array .int)) C hin2 hin tyX2 tyX2_ok nmX2 rfl rfl (by decide) (by decide +kernel : Cond.fieldLink RX2 23 "CreepBoard$Levels" "group" "[[I" ∈ wsX2_init) (fun _ h => h) rfl rfl (by decide +kernel) rfl rfl (Nat.le_of_ble_eq_true rfl) dX2_init_37 ?_
  refine e_ws [(h, .inr (2, [.ref q0, .ref q1, .ref q2, .int 0, .ref q3, .null, .null, .null, .int 0, .int 0, .int 0])), (q0, .inl (cA 0, 14, .inl (fun _ => 0))), (q1, .inl (cA 0, 14, .inl (fun _ => 0))), (q2, .inl (cA 0, 14, .inl (fun _ => 0))), (q3, rowsK cA 10 r0), (r0 0, zI cA 10), (r0 1, zI cA 10), (r0 2, zI cA 10), (r0 3, zI cA 10), (r0 4, zI cA 10), (r0 5, zI cA 10), (r0 6, zI cA 10), (r0 7, zI cA 10), (r0 8, zI cA 10), (r0 9, zI cA 10)] rfl ?_
  refine e_aload_n (pc := 40) C dX2_init_40 0 rfl rfl ?_
  refine e_bipush (v := 10) (pc := 41) C dX2_init_41 (by decide) ?_
  refine e_bipush (v := 10) (pc := 43) C dX2_init_43 (by decide) ?_
  refine e_mnaK (pc := 45) C 10 10 hov (by decide +kernel) (by decide +kernel) (by decide) (by decide) (by decide) (by decide) (by decide) (by decide) (by decide) ⟨Nat.le_of_ble_eq_true rfl, Nat.le_of_ble_eq_true rfl⟩ dX2_init_45 (fun q4 r1 => ?_)
  refine e_ws [(h, .inr (2, [.ref q0, .ref q1, .ref q2, .int 0, .ref q3, .null, .null, .null, .int 0, .int 0, .int 0])), (q0, .inl (cA 0, 14, .inl (fun _ => 0))), (q1, .inl (cA 0, 14, .inl (fun _ => 0))), (q2, .inl (cA 0, 14, .inl (fun _ => 0))), (q3, rowsK cA 10 r0), (r0 0, zI cA 10), (r0 1, zI cA 10), (r0 2, zI cA 10), (r0 3, zI cA 10), (r0 4, zI cA 10), (r0 5, zI cA 10), (r0 6, zI cA 10), (r0 7, zI cA 10), (r0 8, zI cA 10), (r0 9, zI cA 10), (q4, rowsK cA 10 r1), (r1 0, zI cA 10), (r1 1, zI cA 10), (r1 2, zI cA 10), (r1 3, zI cA 10), (r1 4, zI cA 10), (r1 5, zI cA 10), (r1 6, zI cA 10), (r1 7, zI cA 10), (r1 8, zI cA 10), (r1 9, zI cA 10)] rfl ?_
  refine e_widen (k := 25) (n := 262) (Nat.le_of_ble_eq_true rfl) (Nat.le_of_ble_eq_true rfl) ?_
  refine e_putF (pc := 49) (q0 := 0) (j := 5) (ty := .array (.array .int)) C hin2 hin tyX2 tyX2_ok nmX2 rfl rfl (by decide) (by decide +kernel : Cond.fieldLink RX2 26 "CreepBoard$Levels" "level" "[[I" ∈ wsX2_init) (fun _ h => h) rfl rfl (by decide +kernel) rfl rfl (Nat.le_of_ble_eq_true rfl) dX2_init_49 ?_
  refine e_ws [(h, .inr (2, [.ref q0, .ref q1, .ref q2, .int 0, .ref q3, .ref q4, .null, .null, .int 0, .int 0, .int 0])), (q0, .inl (cA 0, 14, .inl (fun _ => 0))), (q1, .inl (cA 0, 14, .inl (fun _ => 0))), (q2, .inl (cA 0, 14, .inl (fun _ => 0))), (q3, rowsK cA 10 r0), (r0 0, zI cA 10), (r0 1, zI cA 10), (r0 2, zI cA 10), (r0 3, zI cA 10), (r0 4, zI cA 10), (r0 5, zI cA 10), (r0 6, zI cA 10), (r0 7, zI cA 10), (r0 8, zI cA 10), (r0 9, zI cA 10), (q4, rowsK cA 10 r1), (r1 0, zI cA 10), (r1 1, zI cA 10), (r1 2, zI cA 10), (r1 3, zI cA 10), (r1 4, zI cA 10), (r1 5, zI cA 10), (r1 6, zI cA 10), (r1 7, zI cA 10), (r1 8, zI cA 10), (r1 9, zI cA 10)] rfl ?_
  refine e_aload_n (pc := 52) C dX2_init_52 0 rfl rfl ?_
  refine e_bipush (v := 10) (pc := 53) C dX2_init_53 (by decide) ?_
  refine e_newI (pc := 55) C 10 (by decide +kernel) (by decide) (by decide) (by decide) ⟨Nat.le_of_ble_eq_true rfl, Nat.le_of_ble_eq_true rfl⟩ dX2_init_55 (fun q5 => ?_)
  refine e_ws [(h, .inr (2, [.ref q0, .ref q1, .ref q2, .int 0, .ref q3, .ref q4, .null, .null, .int 0, .int 0, .int 0])), (q0, .inl (cA 0, 14, .inl (fun _ => 0))), (q1, .inl (cA 0, 14, .inl (fun _ => 0))), (q2, .inl (cA 0, 14, .inl (fun _ => 0))), (q3, rowsK cA 10 r0), (r0 0, zI cA 10), (r0 1, zI cA 10), (r0 2, zI cA 10), (r0 3, zI cA 10), (r0 4, zI cA 10), (r0 5, zI cA 10), (r0 6, zI cA 10), (r0 7, zI cA 10), (r0 8, zI cA 10), (r0 9, zI cA 10), (q4, rowsK cA 10 r1), (r1 0, zI cA 10), (r1 1, zI cA 10), (r1 2, zI cA 10), (r1 3, zI cA 10), (r1 4, zI cA 10), (r1 5, zI cA 10), (r1 6, zI cA 10), (r1 7, zI cA 10), (r1 8, zI cA 10), (r1 9, zI cA 10), (q5, .inl (cA 0, 10, .inl (fun _ => 0)))] rfl ?_
  refine e_widen (k := 26) (n := 272) (Nat.le_of_ble_eq_true rfl) (Nat.le_of_ble_eq_true rfl) ?_
  refine e_putF (pc := 57) (q0 := 0) (j := 6) (ty := .array .int) C hin2 hin tyX2 tyX2_ok nmX2 rfl rfl (by decide) (by decide +kernel : Cond.fieldLink RX2 29 "CreepBoard$Levels" "bestGroup" "[I" ∈ wsX2_init) (fun _ h => h) rfl rfl (by decide +kernel) rfl rfl (Nat.le_of_ble_eq_true rfl) dX2_init_57 ?_
  refine e_ws [(h, .inr (2, [.ref q0, .ref q1, .ref q2, .int 0, .ref q3, .ref q4, .ref q5, .null, .int 0, .int 0, .int 0])), (q0, .inl (cA 0, 14, .inl (fun _ => 0))), (q1, .inl (cA 0, 14, .inl (fun _ => 0))), (q2, .inl (cA 0, 14, .inl (fun _ => 0))), (q3, rowsK cA 10 r0), (r0 0, zI cA 10), (r0 1, zI cA 10), (r0 2, zI cA 10), (r0 3, zI cA 10), (r0 4, zI cA 10), (r0 5, zI cA 10), (r0 6, zI cA 10), (r0 7, zI cA 10), (r0 8, zI cA 10), (r0 9, zI cA 10), (q4, rowsK cA 10 r1), (r1 0, zI cA 10), (r1 1, zI cA 10), (r1 2, zI cA 10), (r1 3, zI cA 10), (r1 4, zI cA 10), (r1 5, zI cA 10), (r1 6, zI cA 10), (r1 7, zI cA 10), (r1 8, zI cA 10), (r1 9, zI cA 10), (q5, .inl (cA 0, 10, .inl (fun _ => 0)))] rfl ?_
  refine e_aload_n (pc := 60) C dX2_init_60 0 rfl rfl ?_
  refine e_bipush (v := 10) (pc := 61) C dX2_init_61 (by decide) ?_
  refine e_newI (pc := 63) C 10 (by decide +kernel) (by decide) (by decide) (by decide) ⟨Nat.le_of_ble_eq_true rfl, Nat.le_of_ble_eq_true rfl⟩ dX2_init_63 (fun q6 => ?_)
  refine e_ws [(h, .inr (2, [.ref q0, .ref q1, .ref q2, .int 0, .ref q3, .ref q4, .ref q5, .null, .int 0, .int 0, .int 0])), (q0, .inl (cA 0, 14, .inl (fun _ => 0))), (q1, .inl (cA 0, 14, .inl (fun _ => 0))), (q2, .inl (cA 0, 14, .inl (fun _ => 0))), (q3, rowsK cA 10 r0), (r0 0, zI cA 10), (r0 1, zI cA 10), (r0 2, zI cA 10), (r0 3, zI cA 10), (r0 4, zI cA 10), (r0 5, zI cA 10), (r0 6, zI cA 10), (r0 7, zI cA 10), (r0 8, zI cA 10), (r0 9, zI cA 10), (q4, rowsK cA 10 r1), (r1 0, zI cA 10), (r1 1, zI cA 10), (r1 2, zI cA 10), (r1 3, zI cA 10), (r1 4, zI cA 10), (r1 5, zI cA 10), (r1 6, zI cA 10), (r1 7, zI cA 10), (r1 8, zI cA 10), (r1 9, zI cA 10), (q5, .inl (cA 0, 10, .inl (fun _ => 0))), (q6, .inl (cA 0, 10, .inl (fun _ => 0)))] rfl ?_
  refine e_widen (k := 27) (n := 282) (Nat.le_of_ble_eq_true rfl) (Nat.le_of_ble_eq_true rfl) ?_
  refine e_putF (pc := 65) (q0 := 0) (j := 7) (ty := .array .int) C hin2 hin tyX2 tyX2_ok nmX2 rfl rfl (by decide) (by decide +kernel : Cond.fieldLink RX2 32 "CreepBoard$Levels" "bestLevel" "[I" ∈ wsX2_init) (fun _ h => h) rfl rfl (by decide +kernel) rfl rfl (Nat.le_of_ble_eq_true rfl) dX2_init_65 ?_
  refine e_ws [(h, .inr (2, [.ref q0, .ref q1, .ref q2, .int 0, .ref q3, .ref q4, .ref q5, .ref q6, .int 0, .int 0, .int 0])), (q0, .inl (cA 0, 14, .inl (fun _ => 0))), (q1, .inl (cA 0, 14, .inl (fun _ => 0))), (q2, .inl (cA 0, 14, .inl (fun _ => 0))), (q3, rowsK cA 10 r0), (r0 0, zI cA 10), (r0 1, zI cA 10), (r0 2, zI cA 10), (r0 3, zI cA 10), (r0 4, zI cA 10), (r0 5, zI cA 10), (r0 6, zI cA 10), (r0 7, zI cA 10), (r0 8, zI cA 10), (r0 9, zI cA 10), (q4, rowsK cA 10 r1), (r1 0, zI cA 10), (r1 1, zI cA 10), (r1 2, zI cA 10), (r1 3, zI cA 10), (r1 4, zI cA 10), (r1 5, zI cA 10), (r1 6, zI cA 10), (r1 7, zI cA 10), (r1 8, zI cA 10), (r1 9, zI cA 10), (q5, .inl (cA 0, 10, .inl (fun _ => 0))), (q6, .inl (cA 0, 10, .inl (fun _ => 0)))] rfl ?_
  exact fun H locs ls hl hP hD hS => W.vret C.1 C.2.1 hr (fun t ht hW => ⟨⟨((fun i => [q0, q1, q2, q3, q4, q5, q6].getD i 0), r0, r1), rfl, trivial, by rw [ht]; exact hP, hD⟩, hS.F ht⟩) hS.2.2 dX2_init_68 hk
