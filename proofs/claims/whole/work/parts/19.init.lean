def KE (kc ks : Nat) (p : Program) (l : Launch) (e : Env) (R : Room) (s : State) (m : MethodId) (args : Array Value) (below : List Frame) (meth : Method) (c : Code) (nL : Nat) (D : va_G) (A : Nat → Prop) (Q : State → Prop) (pc : Nat) (lv : List (Nat × Value)) (st : List Value) (ws : va_W) : Prop :=
  ∀ (H : Heap) (locs : List Loc) (ls : Array Slot), lv_has ls nL lv → va_P D vwCl ws H → va_D A ws → va_S A s.heap H locs → W p l e R s m args below meth c H locs kc ks Q (F0 m pc ls st)
section
variable {p : Program} {l : Launch} {e : Env} {R : Room} {kc ks : Nat} {s : State} {m : MethodId} {args : Array Value} {below : List Frame} {meth : Method} {c : Code} {nL : Nat} {D : va_G} {cA : Nat → ClassId} {A : Nat → Prop} {Q : State → Prop} {cc : ByteArray} {Ts : List Cond} {own : String} {pc : Nat} {lv lv' : List (Nat × Value)} {st rest : List Value} {ws : va_W}
theorem e_iconst (C : Cx p s m args c cc nL Ts own D cA A) {n : Int} {v : Int32} (d : decode cc pc = .ok (.iconst n, 1)) (hv : Int32.ofInt n = v) (kk : KE kc ks p l e R s m args below meth c nL D A Q (pc + 1) lv (.int v :: st) ws) : KE kc ks p l e R s m args below meth c nL D A Q pc lv st ws :=
  fun H locs ls hl hP hD hS => lv_iconst C.1 C.2.1 d hv (kk H locs ls hl hP hD hS)
theorem e_bipush (C : Cx p s m args c cc nL Ts own D cA A) {n : Int} {v : Int32} (d : decode cc pc = .ok (.bipush n, 2)) (hv : (Int8.ofInt n).toInt32 = v) (kk : KE kc ks p l e R s m args below meth c nL D A Q (pc + 2) lv (.int v :: st) ws) : KE kc ks p l e R s m args below meth c nL D A Q pc lv st ws :=
  fun H locs ls hl hP hD hS => lv_bipush C.1 C.2.1 d hv (kk H locs ls hl hP hD hS)
theorem e_sipush (C : Cx p s m args c cc nL Ts own D cA A) {n : Int} {v : Int32} (d : decode cc pc = .ok (.sipush n, 3)) (hv : (Int16.ofInt n).toInt32 = v) (kk : KE kc ks p l e R s m args below meth c nL D A Q (pc + 3) lv (.int v :: st) ws) : KE kc ks p l e R s m args below meth c nL D A Q pc lv st ws :=
  fun H locs ls hl hP hD hS => lv_sipush C.1 C.2.1 d hv (kk H locs ls hl hP hD hS)
theorem e_iload_n (C : Cx p s m args c cc nL Ts own D cA A) {k : Fin 4} {i : Nat} {x : Int32} (d : decode cc pc = .ok (.iload_n k, 1)) (j : Nat) (hi : (k : Nat) = i) (hk : lv[j]? = some (i, .int x)) (kk : KE kc ks p l e R s m args below meth c nL D A Q (pc + 1) lv (.int x :: st) ws) : KE kc ks p l e R s m args below meth c nL D A Q pc lv st ws :=
  fun H locs ls hl hP hD hS => lv_iload_n C.1 C.2.1 d hi (lv_at hl j hk) (kk H locs ls hl hP hD hS)
theorem e_iload (C : Cx p s m args c cc nL Ts own D cA A) {i : Nat} {x : Int32} (d : decode cc pc = .ok (.iload i, 2)) (j : Nat) (hk : lv[j]? = some (i, .int x)) (kk : KE kc ks p l e R s m args below meth c nL D A Q (pc + 2) lv (.int x :: st) ws) : KE kc ks p l e R s m args below meth c nL D A Q pc lv st ws :=
  fun H locs ls hl hP hD hS => lv_iload C.1 C.2.1 d (lv_at hl j hk) (kk H locs ls hl hP hD hS)
theorem e_aload_n (C : Cx p s m args c cc nL Ts own D cA A) {k : Fin 4} {i : Nat} {x : Nat} (d : decode cc pc = .ok (.aload_n k, 1)) (j : Nat) (hi : (k : Nat) = i) (hk : lv[j]? = some (i, .ref x)) (kk : KE kc ks p l e R s m args below meth c nL D A Q (pc + 1) lv (.ref x :: st) ws) : KE kc ks p l e R s m args below meth c nL D A Q pc lv st ws :=
  fun H locs ls hl hP hD hS => lv_aload_n C.1 C.2.1 d hi (lv_at hl j hk) (kk H locs ls hl hP hD hS)
theorem e_aload (C : Cx p s m args c cc nL Ts own D cA A) {i : Nat} {x : Nat} (d : decode cc pc = .ok (.aload i, 2)) (j : Nat) (hk : lv[j]? = some (i, .ref x)) (kk : KE kc ks p l e R s m args below meth c nL D A Q (pc + 2) lv (.ref x :: st) ws) : KE kc ks p l e R s m args below meth c nL D A Q pc lv st ws :=
  fun H locs ls hl hP hD hS => lv_aload C.1 C.2.1 d (lv_at hl j hk) (kk H locs ls hl hP hD hS)
theorem e_dup (C : Cx p s m args c cc nL Ts own D cA A) {v : Value} (d : decode cc pc = .ok (.dup, 1)) (hc : v.category = 1) (kk : KE kc ks p l e R s m args below meth c nL D A Q (pc + 1) lv (v :: v :: st) ws) : KE kc ks p l e R s m args below meth c nL D A Q pc lv (v :: st) ws :=
  fun H locs ls hl hP hD hS => lv_dup C.1 C.2.1 d hc (kk H locs ls hl hP hD hS)
theorem e_pop (C : Cx p s m args c cc nL Ts own D cA A) {v : Value} (d : decode cc pc = .ok (.pop, 1)) (hc : v.category = 1) (kk : KE kc ks p l e R s m args below meth c nL D A Q (pc + 1) lv st ws) : KE kc ks p l e R s m args below meth c nL D A Q pc lv (v :: st) ws :=
  fun H locs ls hl hP hD hS => lv_pop C.1 C.2.1 d hc (kk H locs ls hl hP hD hS)
theorem e_goto (C : Cx p s m args c cc nL Ts own D cA A) {off : Int} (tgt : Nat) (d : decode cc pc = .ok (.goto off, 3)) (ht : (pc : Int) + off = (tgt : Int)) (kk : KE kc ks p l e R s m args below meth c nL D A Q tgt lv st ws) : KE kc ks p l e R s m args below meth c nL D A Q pc lv st ws :=
  fun H locs ls hl hP hD hS => lv_goto C.1 C.2.1 d ht (kk H locs ls hl hP hD hS)
theorem e_widen {k n : Nat} (h1 : kc ≤ k) (h2 : ks ≤ n) (kk : KE k n p l e R s m args below meth c nL D A Q pc lv st ws) : KE kc ks p l e R s m args below meth c nL D A Q pc lv st ws := fun H locs ls hl hP hD hS => W.widen h1 h2 (kk H locs ls hl hP hD hS)
theorem e_newI (C : Cx p s m args c cc nL Ts own D cA A) {n : Int32} (N : Nat) (harr : Cond.arrayClass .int ∈ Ts) (hn : ¬ n < 0) (hN : n.toNatClampNeg = N) (hb : N * componentBytes .int ≤ 536870912) (hR : kc + 1 ≤ R.cells ∧ ks + N ≤ R.slots) (d : decode cc pc = .ok (.newarray .int, 2)) (kk : ∀ q : Nat, KE (kc + 1) (ks + N) p l e R s m args below meth c nL D A Q (pc + 2) lv (.ref q :: st) (ws ++ [(q, .inl (cA 0, (N, .inl (fun _ => 0))))])) : KE kc ks p l e R s m args below meth c nL D A Q pc lv (.int n :: st) ws := fun H locs ls hl hP hD hS => by
  refine va_newa C.1 C.2.1 (atype := .int) (C.2.2.2.2.1 _ harr) (ty := .int) rfl C.2.2.2.2.2.1 hP hD hS C.2.2.2.2.2.2 (a0 := (N, .inl (fun _ => 0))) (fun c => rfl) hn hN hb hR.1 hR.2 d (fun q cA' H1 hK1 hP1 hD1 hS1 => ?_)
  have he : cA' = cA 0 := Option.some.inj (Eq.trans (Eq.symm (hK1.2 6 (cA', .int) rfl).2) (C.2.2.2.2.2.1.2 0 (cA 0, .int) rfl).2)
  subst he
  exact kk q H1 locs ls hl hP1 hD1 hS1
theorem e_newZ (C : Cx p s m args c cc nL Ts own D cA A) {n : Int32} (N : Nat) (harr : Cond.arrayClass .boolean ∈ Ts) (hn : ¬ n < 0) (hN : n.toNatClampNeg = N) (hb : N * componentBytes .boolean ≤ 536870912) (hR : kc + 1 ≤ R.cells ∧ ks + N ≤ R.slots) (d : decode cc pc = .ok (.newarray .boolean, 2)) (kk : ∀ q : Nat, KE (kc + 1) (ks + N) p l e R s m args below meth c nL D A Q (pc + 2) lv (.ref q :: st) (ws ++ [(q, .inl (cA 1, (N, .inl (fun _ => 0))))])) : KE kc ks p l e R s m args below meth c nL D A Q pc lv (.int n :: st) ws := fun H locs ls hl hP hD hS => by
  refine va_newa C.1 C.2.1 (atype := .boolean) (C.2.2.2.2.1 _ harr) (ty := .boolean) rfl C.2.2.2.2.2.1 hP hD hS C.2.2.2.2.2.2 (a0 := (N, .inl (fun _ => 0))) (fun c => rfl) hn hN hb hR.1 hR.2 d (fun q cA' H1 hK1 hP1 hD1 hS1 => ?_)
  have he : cA' = cA 1 := Option.some.inj (Eq.trans (Eq.symm (hK1.2 6 (cA', .boolean) rfl).2) (C.2.2.2.2.2.1.2 1 (cA 1, .boolean) rfl).2)
  subst he
  exact kk q H1 locs ls hl hP1 hD1 hS1
theorem e_newJ (C : Cx p s m args c cc nL Ts own D cA A) {n : Int32} (N : Nat) (harr : Cond.arrayClass .long ∈ Ts) (hn : ¬ n < 0) (hN : n.toNatClampNeg = N) (hb : N * componentBytes .long ≤ 536870912) (hR : kc + 1 ≤ R.cells ∧ ks + N ≤ R.slots) (d : decode cc pc = .ok (.newarray .long, 2)) (kk : ∀ q : Nat, KE (kc + 1) (ks + N) p l e R s m args below meth c nL D A Q (pc + 2) lv (.ref q :: st) (ws ++ [(q, .inl (cA 2, (N, .inr (.inl (fun _ => 0)))))])) : KE kc ks p l e R s m args below meth c nL D A Q pc lv (.int n :: st) ws := fun H locs ls hl hP hD hS => by
  refine va_newa C.1 C.2.1 (atype := .long) (C.2.2.2.2.1 _ harr) (ty := .long) rfl C.2.2.2.2.2.1 hP hD hS C.2.2.2.2.2.2 (a0 := (N, .inr (.inl (fun _ => 0)))) (fun c => rfl) hn hN hb hR.1 hR.2 d (fun q cA' H1 hK1 hP1 hD1 hS1 => ?_)
  have he : cA' = cA 2 := Option.some.inj (Eq.trans (Eq.symm (hK1.2 6 (cA', .long) rfl).2) (C.2.2.2.2.2.1.2 2 (cA 2, .long) rfl).2)
  subst he
  exact kk q H1 locs ls hl hP1 hD1 hS1
theorem e_mna2 (C : Cx p s m args c cc nL Ts own D cA A) {n k : Int32} {index : Nat} (N : Nat) (hov : va_AOA .int s) (hlk : Cond.classLink own index "[[I" ∈ Ts) (harr : Cond.arrayClass .int ∈ Ts) (hn : ¬ n < 0) (hk : ¬ k < 0) (h2 : n.toNatClampNeg = 2) (hN : k.toNatClampNeg = N) (hb2 : N * componentBytes .int ≤ 536870912) (hb3 : N ≤ 536870912) (hR : kc + (1 + 2) ≤ R.cells ∧ ks + (2 + 2 * N) ≤ R.slots) (d : decode cc pc = .ok (.multianewarray index 2, 4)) (kk : ∀ (q : Nat) (r : Nat → Nat), KE (kc + 1 + 2) (ks + 2 + 2 * N) p l e R s m args below meth c nL D A Q (pc + 4) lv (.ref q :: st) (ws ++ [(q, .inl (cA 5, 2, .inr (.inr (.inr (.inr (fun i => if i < 2 then some (r i) else none)))))), (r 0, .inl (cA 0, N, .inl (fun _ => 0))), (r 1, .inl (cA 0, N, .inl (fun _ => 0)))])) : KE kc ks p l e R s m args below meth c nL D A Q pc lv (.int k :: .int n :: st) ws := fun H locs ls hl hP hD hS => by
  have hP0 : va_P D vwCl (ws ++ va_pl [] (fun _ => .inl (cA 0, N, .inl (fun _ => 0)))) H := by
    show va_P D vwCl (ws ++ []) H
    rw [List.append_nil]
    exact hP
  have hD0 : va_D A (ws ++ va_pl [] (fun _ => .inl (cA 0, N, .inl (fun _ => 0)))) := by
    show va_D A (ws ++ [])
    rw [List.append_nil]
    exact hD
  refine va_mna C.1 C.2.1 (ty := .int) (cy := cA 0) C.2.2.2.1 (C.2.2.2.2.1 _ hlk) hov (C.2.2.2.2.1 _ harr) (C.2.2.2.2.2.1.2 0 (cA 0, .int) rfl).2 C.2.2.2.2.2.1 hP0 hD0 hS C.2.2.2.2.2.2 (z := (N, .inl (fun _ => 0))) hn hk h2 hN (by decide) hb2 hb3 rfl rfl hR.1 hR.2 (fun c => ?_) d (fun q r cA' H1 hinj hfr hK1 hP1 hD1 hS1 => ?_)
  · show ({ cls := c, slots := Array.replicate N (.int 0), vm := .none } : Cell) = arrV c N (fun _ => .int 0)
    exact arrV_new c N (.int 0)
  · have he : cA' = cA 5 := Option.some.inj (Eq.trans (Eq.symm (hK1.2 6 (cA', .array .int) rfl).2) (C.2.2.2.2.2.1.2 5 (cA 5, .array .int) rfl).2)
    subst he
    have hl2 : ∀ f : Nat → va_E, va_pl ([] ++ (List.range 2).map r) (vr_up f ((List.range 2).map r) (.inl (cA 0, N, .inl (fun _ => 0)))) = [(r 0, .inl (cA 0, N, .inl (fun _ => 0))), (r 1, .inl (cA 0, N, .inl (fun _ => 0)))] := fun f => by
      show [(r 0, vr_up f [r 0, r 1] _ (r 0)), (r 1, vr_up f [r 0, r 1] _ (r 1))] = _
      rw [vr_up_in (by simp), vr_up_in (by simp)]
    rw [hl2, List.append_assoc] at hP1 hD1
    exact kk q r H1 locs ls hl hP1 hD1 hS1
theorem e_objInit (C : Cx p s m args c cc nL Ts own D cA A) {h idx : Nat} (h1 : Cond.methodLink own idx objectInit ∈ Ts) (h2 : Cond.instanceMethod objectInit ∈ Ts) (h3 : Cond.code objectInit ⟨#[0xb1]⟩ 1 none ∈ Ts) (hR : 1 ≤ R.frames ∧ (st.map fun v => v.category).sum + 12 ≤ R.locals) (d : decode cc pc = .ok (.invokespecial idx, 3)) (kk : KE kc ks p l e R s m args below meth c nL D A Q (pc + 3) lv st ws) : KE kc ks p l e R s m args below meth c nL D A Q pc lv (.ref h :: st) ws := fun H locs ls hl hP hD hS =>
  W.objInit C.1 C.2.1 C.2.2.2.1 (C.2.2.2.2.1 _ h1) (C.2.2.2.2.1 _ h2) (C.2.2.2.2.1 _ h3) rfl (hl.1.trans C.2.2.1.symm) rfl d hR.1 (by have := hR.2; show 2 * 0 + _ + 12 ≤ R.locals; omega) (kk H locs ls hl hP hD hS)
theorem e_putF (C : Cx p s m args c cc nL Ts own D cA A) (hin2 : meth.name = "<init>") {h ci index j N q0 : Nat} {ref Cn : String} {T : u_T} {fs : List Value} {v : Value} (hin : ∀ w ∈ u_ws Cn T N, w ∈ Ts) (ty0 : Nat → FieldType) (hty : ∀ k, k < N → parseFieldDescriptor (T k).2.2.1 = some (ty0 k)) (hnm : ∀ a, a < N → ∀ b, b < N → a ≠ b → (T a).2.1 ≠ (T b).2.1) (he : ws[q0]? = some (h, .inr (ci, fs))) (hc : vwCl[ci]? = some (Cn, T, N)) (hj : j < N) (hlink : Cond.fieldLink own index ref (T j).2.1 (T j).2.2.1 ∈ Ts) (hsame : ∀ x, s.fieldFound? (T j).1 (T j).2.1 (T j).2.2.1 = some x → s.fieldFound? ref (T j).2.1 (T j).2.2.1 = some x) (hfin : (T j).2.2.2 = true) (hdecl : (T j).1 = own) {ty : FieldType} (hd : parseFieldDescriptor (T j).2.2.1 = some ty) (hnr : narrow ty v = v) (hfit : fits ty v = true) (hl0 : j < fs.length) (d : decode cc pc = .ok (.putfield index, 3)) (kk : KE kc ks p l e R s m args below meth c nL D A Q (pc + 3) lv st (ws.set q0 (h, .inr (ci, fs.set j v)))) : KE kc ks p l e R s m args below meth c nL D A Q pc lv (v :: .ref h :: st) ws := fun H locs ls hl hP hD hS =>
  va_putF C.1 C.2.1 C.2.2.2.2.1 hin ty0 hty hnm C.2.2.2.1 C.2.2.2.2.2.1 hP hD hS q0 he hc j hj (C.2.2.2.2.1 _ hlink) hsame hfin hin2 hdecl hd hnr hfit hl0 d (fun H1 locs1 hP1 hD1 hS1 => kk H1 locs1 ls hl hP1 hD1 hS1)
end
