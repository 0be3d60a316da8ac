abbrev IAE : String := "java/lang/IllegalArgumentException"
abbrev ISE : String := "java/lang/IllegalStateException"
def strs : List (String × Nat × String) := [(RX9, 109, "no cleared reading"), (RX9, 123, "no such mark or side"), (RX9, 125, "fewer than 2 cleared readings"), (RX9, 141, "no such epoch or side"), (RX9, 147, "no mark has a cleared reading there"), (RX9, 163, "no such mark or part"), (RX9, 169, "the marks are in a line"), (RX9, 234, "no such mark"), (RX9, 239, "no lines lead there"), (RX9, 269, "no such shelf"), (RX9, 275, "no row, or no such place in it"), (RX9, 99, "no such mark, epoch or side"), (RX4, 26, "the receiver fails")]
def EX (A : Nat → Prop) (U : State) (H : Heap) : Prop :=
  vx_Zq Bundle.tN "UNASSIGNED_STACK" Bundle.steD A U H ∧ vx_Zq Bundle.tN "SUPPRESSED_SENTINEL" Bundle.listD A U H ∧ va_Nw (.castable IAE IAE) U ∧ va_Nw (.castable ISE ISE) U ∧ va_Nw (.castable RX8 RX4) U ∧ va_Nc RX3 RX4 U ∧ va_Nc RX1 RX4 U ∧ va_Nc ISE IAE U ∧ (∀ i ∈ strs, ∃ sa : Nat, vk_R i.1 i.2.1 i.2.2 sa U) ∧ va_Nw (.declares (Bundle.initS "java/lang/RuntimeException")) U ∧ va_Nw (.declares (Bundle.initS "java/lang/Exception")) U ∧ va_Nw (.declares (Bundle.initS Bundle.tN)) U
theorem EX.warm {A : Nat → Prop} {s U : State} {H : Heap} (hW : s.WarmedH U.vm) (h : EX A s H) : EX A U H := by
  obtain ⟨h1, h2, h3, h4, h5, h6, h7, h8, h9, h10, h11, h12⟩ := h
  refine ⟨vx_Zq.moved hW.alike h1, vx_Zq.moved hW.alike h2, va_Nw.warmC hW h3, va_Nw.warmC hW h4, va_Nw.warmC hW h5, va_Nc.moved hW.alike h6, va_Nc.moved hW.alike h7, va_Nc.moved hW.alike h8, fun i hi => ?_, va_Nw.warmD hW h10, va_Nw.warmD hW h11, va_Nw.warmD hW h12⟩
  obtain ⟨sa, h⟩ := h9 i hi
  exact ⟨sa, vk_R.warm hW h⟩
theorem EX.kept {A : Nat → Prop} {U : State} {H H1 : Heap} (h : EX A U H) (hq : ∀ a : Nat, a < H.size → ¬ A a → H1[a]? = H[a]?) : EX A U H1 := by
  obtain ⟨h1, h2, h3⟩ := h
  exact ⟨h1.kept hq, h2.kept hq, h3⟩
theorem EX.narrow {A B : Nat → Prop} {U : State} {H : Heap} (h : EX A U H) (hAB : ∀ q, B q → A q) : EX B U H := by
  obtain ⟨h1, h2, h3⟩ := h
  exact ⟨h1.narrow hAB, h2.narrow hAB, h3⟩
abbrev preX (D : va_G) (cA : Nat → ClassId) (ad : Nat → Nat → Nat) (av : List Value) (S : Sg) (sz : Nat) : Array Value → State → Prop := va_Pc av (fun U => U.heap.size = sz ∧ va_P D vwCl (lW cA ad S) U.heap ∧ va_K D vwCl (tyl cA) U ∧ va_D (fun _ => True) (lW cA ad S) ∧ EX (va_A (lW cA ad S) sz) U U.heap)
theorem preX_blind {av : List Value} {sz : Nat} {D : va_G} {cA : Nat → ClassId} {ad : Nat → Nat → Nat} {S : Sg} : FrameBlind (preX D cA ad av S sz) := fun a U g mk q => by
  obtain ⟨q0, q1, qP, qK, qD, qE⟩ := q
  exact ⟨q0, q1, qP, va_K.moved (u := U) (U := U.calling g mk a) (Vm.Alike.refl U.vm) qK, qD, EX.warm (s := U) (U := U.calling g mk a) (State.WarmedH.refl U) qE⟩
/-- how a thrower ends when it throws -/
abbrev xcX (D : va_G) (cA : Nat → ClassId) (ad : Nat → Nat → Nat) (A : Nat → Prop) (X : String → Sg → Prop) : String → State → State → Prop := vx_X (fun u : Sg × String => X u.2 u.1) (fun E u t => u.2 = E ∧ va_P D vwCl (lW cA ad u.1) t.heap ∧ va_D A (lW cA ad u.1)) A
def CtX (l : Launch) (y : MethodName) (ws : List Cond) (rm : Room) (D : va_G) (cA : Nat → ClassId) (ad : Nat → Nat → Nat) (av : List Value) (S : Sg) (Qc : (Sg → State → Prop) → (Nat → Prop) → Array Value → State → Outcome → State → Prop) (X : String → Sg → Prop) : Prop :=
  ∀ sz : Nat, vx_Met l y ws rm (preX D cA ad av S sz) (Qc (fun S' t => va_P D vwCl (lW cA ad S') t.heap ∧ va_D (va_A (lW cA ad S) sz) (lW cA ad S')) (va_A (lW cA ad S) sz)) (xcX D cA ad (va_A (lW cA ad S) sz) X) 1 6 (va_A (lW cA ad S) sz)
abbrev mkX (f lo : Nat) : Room := { frames := f, cells := 1, slots := 6, locals := lo }
theorem ctx_of {l : Launch} {y : MethodName} {ws ws' : List Cond} {rm : Room} {D : va_G} {cA : Nat → ClassId} {ad : Nat → Nat → Nat} {av : List Value} {S : Sg} {Qc : (Sg → State → Prop) → (Nat → Prop) → Array Value → State → Outcome → State → Prop} {X : String → Sg → Prop} {cc : ByteArray} {nL : Nat} {ret : Option FieldType} (hy : plainName y.cls = true) (hw : ws = Cond.code y cc nL ret :: ws') (hlen : (lg_sl av).length ≤ nL)
    (body : ∀ (p : Program) (e : Env) (s : State) (m : MethodId) (args : Array Value) (below : List Frame) (meth : Method) (c : Code) (A : Nat → Prop), Cx p s m args c cc nL ws y.cls D cA A → meth.sig.returnType = ret → meth.locks = false → EX A s s.heap → (∀ x ∈ c.exceptionTable.toList, False) →
      KK p l e rm s m args below meth c nL D cA ad A (vx_MQ below (Qc (fun S' t => va_P D vwCl (lW cA ad S') t.heap ∧ va_D A (lW cA ad S')) A) (xcX D cA ad A X) args s 1 6 A) 0 (lv_args 0 av) [] S) : CtX l y ws rm D cA ad av S Qc X := by
  intro sz
  refine vx_ofW (cc := cc) (maxL := nL) (ret := ret) hy hw ?_
  intro p e s m args below meth c s₁ B hml htab hv
  obtain ⟨rfl, hsz, hP, hK, hD0, hE⟩ := hv
  subst hsz
  have hD := hD0.self (sz := s.heap.size)
  generalize hAe : va_A (lW cA ad S) s.heap.size = A at hD hE ⊢
  have hA : ∀ q : Nat, s.heap.size ≤ q → A q := fun q h => by rw [← hAe]; exact Or.inr h
  have hl := lv_entry av (n := nL) hlen
  rw [lg_entry_eq]
  exact body p e s m av.toArray below meth c A ⟨B.exec, B.bytes, hml, findClass_of_methodNamed B.named, atoms_spec (ws := ws) B.pre, hK, hA⟩ B.returns B.notSynchronized hE htab s.heap [] _ hl hP hD va_S.rf
section
variable {p : Program} {l : Launch} {e : Env} {R : Room} {s : State} {m : MethodId} {args : Array Value} {below : List Frame} {meth : Method} {c : Code} {nL : Nat} {D : va_G} {cA : Nat → ClassId} {ad : Nat → Nat → Nat} {A : Nat → Prop} {Q : State → Prop} {cc : ByteArray} {Ts : List Cond} {own : String} {pc : Nat} {lv lv' : List (Nat × Value)} {st rest : List Value} {S : Sg}
theorem k_throwS (C : Cx p s m args c cc nL Ts own D cA A) {Qc : Array Value → State → Outcome → State → Prop} {X : String → Sg → Prop} (hst : l.stackTraces = false) {ik is ic : Nat} (cls text : String) (hE : EX A s s.heap) (htab : ∀ x ∈ c.exceptionTable.toList, False) (hk : meth.locks = false) (hcls : Bundle.fit cls = true) (hnm : ∀ n ∈ ["java/lang/RuntimeException", "java/lang/Exception"], Bundle.fit n = true) (hlk : Cond.classLink own ik cls ∈ Ts) (hini : Cond.initialized cls ∈ Ts) (hstr : (own, is, text) ∈ strs) (hat1 : ∀ w ∈ (vx_atS own ic cls ["java/lang/RuntimeException", "java/lang/Exception"]).filter goodWord, w ∈ Ts) (hat2 : ∀ w ∈ (vx_atS own ic cls ["java/lang/RuntimeException", "java/lang/Exception"]).filter (fun w => !goodWord w), w ∈ [Cond.castable cls cls, Cond.declares (Bundle.initS "java/lang/RuntimeException"), Cond.declares (Bundle.initS "java/lang/Exception"), Cond.declares (Bundle.initS Bundle.tN)]) (hcast : va_Nw (.castable cls cls) s) (hgood : ∀ w ∈ Cond.classLink own ik cls :: Cond.initialized cls :: vx_atS own ic cls ["java/lang/RuntimeException", "java/lang/Exception"], vx_ot w = true)
    (d0 : decode cc pc = .ok (.new ik, 3)) (d3 : decode cc (pc + 3) = .ok (.dup, 1)) (d4 : decode cc (pc + 4) = .ok (.ldc is, 2)) (d6 : decode cc (pc + 6) = .ok (.invokespecial ic, 3)) (d9 : decode cc (pc + 9) = .ok (.athrow, 1)) (hR : 5 < R.frames ∧ (st.map fun v => v.category).sum + 82 ≤ R.locals ∧ 1 ≤ R.cells ∧ 6 ≤ R.slots) (hw : X cls S) : KK p l e R s m args below meth c nL D cA ad A (vx_MQ below Qc (xcX D cA ad A X) args s 1 6 A) pc lv st S := fun H locs ls hl hP hD hS => by
  obtain ⟨sa, hsa⟩ := hE.2.2.2.2.2.2.2.2.1 _ hstr
  have hd1 := hE.2.2.2.2.2.2.2.2.2.1
  have hd2 := hE.2.2.2.2.2.2.2.2.2.2.1
  have hd3 := hE.2.2.2.2.2.2.2.2.2.2.2
  refine vx_throwS (names := ["java/lang/RuntimeException", "java/lang/Exception"]) C.1 C.2.1 hst C.2.2.2.1 hcls hnm (C.2.2.2.2.1 _ hlk) (C.2.2.2.2.1 _ hini) hsa (vx_hat (fun w h => C.2.2.2.2.1 w (hat1 w h)) hat2 (vx_c (va_Nw.use rfl hcast) (vx_c (va_Nw.use rfl hd1) (vx_c (va_Nw.use rfl hd2) (vx_c (va_Nw.use rfl hd3) vx_n))))) hgood hE.1 hE.2.1 hS (hl.1.trans C.2.2.1.symm) d0 d3 d4 d6 d9 (fun x hx => absurd hx (fun h => htab x h)) hR.1 hR.2.1 (by have := hR.2.2.1; omega) (by have := hR.2.2.2; omega) hk (fun t ha hz hq => ?_) hS.2.2 (by omega) (by omega)
  exact ⟨(S, cls), hw, ⟨rfl, hP.kept (fun k q hk => hq _ (vx_lt hP hk)), hD⟩, Nat.le_trans hS.1 hz, fun q h1 h2 => (hq q (Nat.lt_of_lt_of_le h1 hS.1)).trans (hS.2.1 q h1 h2)⟩
theorem k_throwSW (C : Cx p s m args c cc nL Ts own D cA A) {Qc : Array Value → State → Outcome → State → Prop} {X : String → Sg → Prop} (hst : l.stackTraces = false) {ik is ic : Nat} (cls text : String) (hE : EX A s s.heap) (htab : ∀ x ∈ c.exceptionTable.toList, False) (hk : meth.locks = false) (hcls : Bundle.fit cls = true) (hnm : ∀ n ∈ ["java/lang/RuntimeException", "java/lang/Exception"], Bundle.fit n = true) (hlk : Cond.classLink own ik cls ∈ Ts) (hini : Cond.initialized cls ∈ Ts) (hstr : (own, is, text) ∈ strs) (hat1 : ∀ w ∈ (vx_atS own ic cls ["java/lang/RuntimeException", "java/lang/Exception"]).filter goodWord, w ∈ Ts) (hat2 : ∀ w ∈ (vx_atS own ic cls ["java/lang/RuntimeException", "java/lang/Exception"]).filter (fun w => !goodWord w), w ∈ [Cond.castable cls cls, Cond.declares (Bundle.initS "java/lang/RuntimeException"), Cond.declares (Bundle.initS "java/lang/Exception"), Cond.declares (Bundle.initS Bundle.tN)]) (hcast : va_Nw (.castable cls cls) s) (hgood : ∀ w ∈ Cond.classLink own ik cls :: Cond.initialized cls :: vx_atS own ic cls ["java/lang/RuntimeException", "java/lang/Exception"], vx_ot w = true)
    (d0 : decode cc pc = .ok (.new ik, 3)) (d3 : decode cc (pc + 3) = .ok (.dup, 1)) (d4 : decode cc (pc + 4) = .ok (.ldc_w is, 3)) (d6 : decode cc (pc + 7) = .ok (.invokespecial ic, 3)) (d9 : decode cc (pc + 10) = .ok (.athrow, 1)) (hR : 5 < R.frames ∧ (st.map fun v => v.category).sum + 82 ≤ R.locals ∧ 1 ≤ R.cells ∧ 6 ≤ R.slots) (hw : X cls S) : KK p l e R s m args below meth c nL D cA ad A (vx_MQ below Qc (xcX D cA ad A X) args s 1 6 A) pc lv st S := fun H locs ls hl hP hD hS => by
  obtain ⟨sa, hsa⟩ := hE.2.2.2.2.2.2.2.2.1 _ hstr
  have hd1 := hE.2.2.2.2.2.2.2.2.2.1
  have hd2 := hE.2.2.2.2.2.2.2.2.2.2.1
  have hd3 := hE.2.2.2.2.2.2.2.2.2.2.2
  refine vx_throwSW (names := ["java/lang/RuntimeException", "java/lang/Exception"]) C.1 C.2.1 hst C.2.2.2.1 hcls hnm (C.2.2.2.2.1 _ hlk) (C.2.2.2.2.1 _ hini) hsa (vx_hat (fun w h => C.2.2.2.2.1 w (hat1 w h)) hat2 (vx_c (va_Nw.use rfl hcast) (vx_c (va_Nw.use rfl hd1) (vx_c (va_Nw.use rfl hd2) (vx_c (va_Nw.use rfl hd3) vx_n))))) hgood hE.1 hE.2.1 hS (hl.1.trans C.2.2.1.symm) d0 d3 d4 d6 d9 (fun x hx => absurd hx (fun h => htab x h)) hR.1 hR.2.1 (by have := hR.2.2.1; omega) (by have := hR.2.2.2; omega) hk (fun t ha hz hq => ?_) hS.2.2 (by omega) (by omega)
  exact ⟨(S, cls), hw, ⟨rfl, hP.kept (fun k q hk => hq _ (vx_lt hP hk)), hD⟩, Nat.le_trans hS.1 hz, fun q h1 h2 => (hq q (Nat.lt_of_lt_of_le h1 hS.1)).trans (hS.2.1 q h1 h2)⟩
theorem k_lretX (C : Cx p s m args c cc nL Ts own D cA A) {post : Int64 → Sg → Prop} {v : Int64} {X : String → Sg → Prop} (hr : meth.sig.returnType = some .long) (hk : meth.locks = false) (d : decode cc pc = .ok (.lreturn, 1)) (hw : post v S) : KK p l e R s m args below meth c nL D cA ad A (vx_MQ below (va_Ql post (fun S' t => va_P D vwCl (lW cA ad S') t.heap ∧ va_D A (lW cA ad S')) A) (xcX D cA ad A X) args s 1 6 A) pc lv [.long v] S := fun H locs ls hl hP hD hS =>
  W.widen (k := 1) (n := 6) (Nat.zero_le _) (Nat.zero_le _) (vx_ret (W.lret (v := v) C.1 C.2.1 hr (fun t ht hW => ⟨⟨v, S, rfl, hw, by rw [ht]; exact hP, hD⟩, hS.F ht⟩) hS.2.2 d hk))
theorem k_iretX (C : Cx p s m args c cc nL Ts own D cA A) {post : Int32 → Sg → Prop} {v : Int32} {X : String → Sg → Prop} (hr : meth.sig.returnType = some .int) (hk : meth.locks = false) (d : decode cc pc = .ok (.ireturn, 1)) (hw : post v S) : KK p l e R s m args below meth c nL D cA ad A (vx_MQ below (va_Qi post (fun S' t => va_P D vwCl (lW cA ad S') t.heap ∧ va_D A (lW cA ad S')) A) (xcX D cA ad A X) args s 1 6 A) pc lv [.int v] S := fun H locs ls hl hP hD hS =>
  W.widen (k := 1) (n := 6) (Nat.zero_le _) (Nat.zero_le _) (vx_ret (W.iret (v := v) C.1 C.2.1 hr (fun t ht hW => ⟨⟨v, S, rfl, hw, by rw [ht]; exact hP, hD⟩, hS.F ht⟩) hS.2.2 d hk))
theorem k_inst (C : Cx p s m args c cc nL Ts own D cA A) {k index : Nat} (hE : EX A s s.heap) (hk : k < nM S) (hlk : Cond.classLink own index RX4 ∈ Ts) (d : decode cc pc = .ok (.instanceof index, 3)) (kt : (kM S k = 1 ∨ kM S k = 2) → KK p l e R s m args below meth c nL D cA ad A Q (pc + 3) lv (.int 1 :: st) S) (kf : ¬ (kM S k = 1 ∨ kM S k = 2) → KK p l e R s m args below meth c nL D cA ad A Q (pc + 3) lv (.int 0 :: st) S) : KK p l e R s m args below meth c nL D cA ad A Q pc lv (.ref (ad 26 k) :: st) S := fun H locs ls hl hP hD hS => by
  obtain ⟨q, -, hq⟩ := lW_get cA ad S (mm_26 hk)
  obtain ⟨-, -, -, -, h5, h6, h7, -⟩ := hE
  rcases kd4 S k with h | h | h | h
  · rw [celM_0 h] at hq
    exact va_instNo C.1 C.2.1 C.2.2.2.1 (C.2.2.2.2.1 _ hlk) h6 (va_recv C.2.2.2.2.2.1 hP (q := (RX3, TX3, 11)) rfl hq) d (kf (by omega) H locs ls hl hP hD hS)
  · rw [celM_1 h] at hq
    exact va_instS C.1 C.2.1 C.2.2.2.1 (C.2.2.2.2.1 _ hlk) (C.2.2.2.2.2.1.1 4 (RX4, TX4, 13) rfl).2 (va_recv C.2.2.2.2.2.1 hP (q := (RX4, TX4, 13)) rfl hq) d (kt (by omega) H locs ls hl hP hD hS)
  · rw [celM_2 h] at hq
    exact va_instY C.1 C.2.1 C.2.2.2.1 (C.2.2.2.2.1 _ hlk) h5 (va_recv C.2.2.2.2.2.1 hP (q := (RX8, TX8, 13)) rfl hq) d (kt (by omega) H locs ls hl hP hD hS)
  · rw [celM_3 h] at hq
    exact va_instNo C.1 C.2.1 C.2.2.2.1 (C.2.2.2.2.1 _ hlk) h7 (va_recv C.2.2.2.2.2.1 hP (q := (RX1, TX1, 11)) rfl hq) d (kf (by omega) H locs ls hl hP hD hS)
theorem k_cast (C : Cx p s m args c cc nL Ts own D cA A) {k index : Nat} (hE : EX A s s.heap) (hk : k < nM S) (hκ : kM S k = 1 ∨ kM S k = 2) (hlk : Cond.classLink own index RX4 ∈ Ts) (d : decode cc pc = .ok (.checkcast index, 3)) (kk : KK p l e R s m args below meth c nL D cA ad A Q (pc + 3) lv (.ref (ad 26 k) :: st) S) : KK p l e R s m args below meth c nL D cA ad A Q pc lv (.ref (ad 26 k) :: st) S := fun H locs ls hl hP hD hS => by
  obtain ⟨q, -, hq⟩ := lW_get cA ad S (mm_26 hk)
  obtain ⟨-, -, -, -, h5, -⟩ := hE
  rcases hκ with h | h
  · rw [celM_1 h] at hq
    exact va_castS C.1 C.2.1 C.2.2.2.1 (C.2.2.2.2.1 _ hlk) (C.2.2.2.2.2.1.1 4 (RX4, TX4, 13) rfl).2 (va_recv C.2.2.2.2.2.1 hP (q := (RX4, TX4, 13)) rfl hq) d (kk H locs ls hl hP hD hS)
  · rw [celM_2 h] at hq
    exact va_castY C.1 C.2.1 C.2.2.2.1 (C.2.2.2.2.1 _ hlk) h5 (va_recv C.2.2.2.2.2.1 hP (q := (RX8, TX8, 13)) rfl hq) d (kk H locs ls hl hP hD hS)
end
/-- a contract with the extra facts, for a method that doesn't throw -/
def CtE (l : Launch) (y : MethodName) (ws : List Cond) (rm : Room) (D : va_G) (cA : Nat → ClassId) (ad : Nat → Nat → Nat) (av : List Value) (S : Sg) (post : Int32 → Sg → Prop) : Prop :=
  ∀ sz : Nat, Met l y ws rm (preX D cA ad av S sz) (va_Qi post (fun S' t => va_P D vwCl (lW cA ad S') t.heap ∧ va_D (va_A (lW cA ad S) sz) (lW cA ad S')) (va_A (lW cA ad S) sz)) 0 0 (va_A (lW cA ad S) sz)
theorem ct_ofE {l : Launch} {y : MethodName} {ws ws' : List Cond} {rm : Room} {D : va_G} {cA : Nat → ClassId} {ad : Nat → Nat → Nat} {av : List Value} {S : Sg} {post : Int32 → Sg → Prop} {cc : ByteArray} {nL : Nat} (hy : plainName y.cls = true) (hw : ws = Cond.code y cc nL (some .int) :: ws') (hlen : (lg_sl av).length ≤ nL)
    (body : ∀ (p : Program) (e : Env) (s : State) (m : MethodId) (args : Array Value) (below : List Frame) (meth : Method) (c : Code) (A : Nat → Prop) (Q : State → Prop), Cx p s m args c cc nL ws y.cls D cA A → EX A s s.heap →
      (∀ (pc : Nat) (lv : List (Nat × Value)) (v : Int32) (S' : Sg), decode cc pc = .ok (.ireturn, 1) → post v S' → KK p l e rm s m args below meth c nL D cA ad A Q pc lv [.int v] S') → KK p l e rm s m args below meth c nL D cA ad A Q 0 (lv_args 0 av) [] S) : CtE l y ws rm D cA ad av S post := by
  intro sz
  refine Met.ofW (cc := cc) (maxL := nL) (ret := some .int) hy hw ?_
  intro p e s m args below meth c s₁ B hml hv
  obtain ⟨rfl, hsz, hP, hK, hD0, hE⟩ := hv
  subst hsz
  have hD := hD0.self (sz := s.heap.size)
  generalize hAe : va_A (lW cA ad S) s.heap.size = A at hD hE ⊢
  have hA : ∀ q : Nat, s.heap.size ≤ q → A q := fun q h => by rw [← hAe]; exact Or.inr h
  have hl := lv_entry av (n := nL) hlen
  rw [lg_entry_eq]
  have C : Cx p s m av.toArray c cc nL ws y.cls D cA A := ⟨B.exec, B.bytes, hml, findClass_of_methodNamed B.named, atoms_spec (ws := ws) B.pre, hK, hA⟩
  exact body p e s m av.toArray below meth c A _ C hE (fun pc lv v S' d q => k_iret C B.returns B.notSynchronized d q) s.heap [] _ hl hP hD va_S.rf
