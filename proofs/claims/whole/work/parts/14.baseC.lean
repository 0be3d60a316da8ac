def KC (kc ks : Nat) (p : Program) (l : Launch) (e : Env) (R : Room) (s : State) (m : MethodId) (args : Array Value) (below : List Frame) (meth : Method) (c : Code) (nL : Nat) (D : va_G) (cA : Nat → ClassId) (ad : Nat → Nat → Nat) (A : Nat → Prop) (Q : State → Prop) (pc : Nat) (lv : List (Nat × Value)) (st : List Value) (S : Sg) : Prop :=
  ∀ (H : Heap) (locs : List Loc) (ls : Array Slot), lv_has ls nL lv → va_P D vwCl (lW cA ad S) H → va_D A (lW cA ad S) → va_S A s.heap H locs → W p l e R s m args below meth c H locs kc ks Q (F0 m pc ls st)
section
variable {p : Program} {l : Launch} {e : Env} {R : Room} {kc ks : Nat} {s : State} {m : MethodId} {args : Array Value} {below : List Frame} {meth : Method} {c : Code} {nL : Nat} {D : va_G} {cA : Nat → ClassId} {ad : Nat → Nat → Nat} {A : Nat → Prop} {Q : State → Prop} {cc : ByteArray} {Ts : List Cond} {own : String} {pc : Nat} {lv lv' : List (Nat × Value)} {st rest : List Value} {S : Sg}
theorem c_iadd (C : Cx p s m args c cc nL Ts own D cA A) {x y : Int32} (d : decode cc pc = .ok (.iadd, 1)) (kk : KC kc ks p l e R s m args below meth c nL D cA ad A Q (pc + 1) lv (.int (x + y) :: st) S) : KC kc ks p l e R s m args below meth c nL D cA ad A Q pc lv (.int y :: .int x :: st) S :=
  fun H locs ls hl hP hD hS => lv_iadd C.1 C.2.1 d (kk H locs ls hl hP hD hS)
theorem c_isub (C : Cx p s m args c cc nL Ts own D cA A) {x y : Int32} (d : decode cc pc = .ok (.isub, 1)) (kk : KC kc ks p l e R s m args below meth c nL D cA ad A Q (pc + 1) lv (.int (x - y) :: st) S) : KC kc ks p l e R s m args below meth c nL D cA ad A Q pc lv (.int y :: .int x :: st) S :=
  fun H locs ls hl hP hD hS => lv_isub C.1 C.2.1 d (kk H locs ls hl hP hD hS)
theorem c_imul (C : Cx p s m args c cc nL Ts own D cA A) {x y : Int32} (d : decode cc pc = .ok (.imul, 1)) (kk : KC kc ks p l e R s m args below meth c nL D cA ad A Q (pc + 1) lv (.int (x * y) :: st) S) : KC kc ks p l e R s m args below meth c nL D cA ad A Q pc lv (.int y :: .int x :: st) S :=
  fun H locs ls hl hP hD hS => lv_imul C.1 C.2.1 d (kk H locs ls hl hP hD hS)
theorem c_iand (C : Cx p s m args c cc nL Ts own D cA A) {x y : Int32} (d : decode cc pc = .ok (.iand, 1)) (kk : KC kc ks p l e R s m args below meth c nL D cA ad A Q (pc + 1) lv (.int (x &&& y) :: st) S) : KC kc ks p l e R s m args below meth c nL D cA ad A Q pc lv (.int y :: .int x :: st) S :=
  fun H locs ls hl hP hD hS => lv_iand C.1 C.2.1 d (kk H locs ls hl hP hD hS)
theorem c_lcmp (C : Cx p s m args c cc nL Ts own D cA A) {x y : Int64} (d : decode cc pc = .ok (.lcmp, 1)) (kk : KC kc ks p l e R s m args below meth c nL D cA ad A Q (pc + 1) lv (.int (lg_cmp x y) :: st) S) : KC kc ks p l e R s m args below meth c nL D cA ad A Q pc lv (.long y :: .long x :: st) S :=
  fun H locs ls hl hP hD hS => W.lcmp C.1 C.2.1 d (kk H locs ls hl hP hD hS)
theorem c_iconst (C : Cx p s m args c cc nL Ts own D cA A) {n : Int} {v : Int32} (d : decode cc pc = .ok (.iconst n, 1)) (hv : Int32.ofInt n = v) (kk : KC kc ks p l e R s m args below meth c nL D cA ad A Q (pc + 1) lv (.int v :: st) S) : KC kc ks p l e R s m args below meth c nL D cA ad A Q pc lv st S :=
  fun H locs ls hl hP hD hS => lv_iconst C.1 C.2.1 d hv (kk H locs ls hl hP hD hS)
theorem c_bipush (C : Cx p s m args c cc nL Ts own D cA A) {n : Int} {v : Int32} (d : decode cc pc = .ok (.bipush n, 2)) (hv : (Int8.ofInt n).toInt32 = v) (kk : KC kc ks p l e R s m args below meth c nL D cA ad A Q (pc + 2) lv (.int v :: st) S) : KC kc ks p l e R s m args below meth c nL D cA ad A Q pc lv st S :=
  fun H locs ls hl hP hD hS => lv_bipush C.1 C.2.1 d hv (kk H locs ls hl hP hD hS)
theorem c_sipush (C : Cx p s m args c cc nL Ts own D cA A) {n : Int} {v : Int32} (d : decode cc pc = .ok (.sipush n, 3)) (hv : (Int16.ofInt n).toInt32 = v) (kk : KC kc ks p l e R s m args below meth c nL D cA ad A Q (pc + 3) lv (.int v :: st) S) : KC kc ks p l e R s m args below meth c nL D cA ad A Q pc lv st S :=
  fun H locs ls hl hP hD hS => lv_sipush C.1 C.2.1 d hv (kk H locs ls hl hP hD hS)
theorem c_lconst (C : Cx p s m args c cc nL Ts own D cA A) {n : Fin 2} {v : Int64} (d : decode cc pc = .ok (.lconst n, 1)) (hv : Int64.ofNat (n : Nat) = v) (kk : KC kc ks p l e R s m args below meth c nL D cA ad A Q (pc + 1) lv (.long v :: st) S) : KC kc ks p l e R s m args below meth c nL D cA ad A Q pc lv st S :=
  fun H locs ls hl hP hD hS => lv_lconst C.1 C.2.1 d hv (kk H locs ls hl hP hD hS)
theorem c_iload_n (C : Cx p s m args c cc nL Ts own D cA A) {k : Fin 4} {i : Nat} {x : Int32} (d : decode cc pc = .ok (.iload_n k, 1)) (j : Nat) (hi : (k : Nat) = i) (hk : lv[j]? = some (i, .int x)) (kk : KC kc ks p l e R s m args below meth c nL D cA ad A Q (pc + 1) lv (.int x :: st) S) : KC kc ks p l e R s m args below meth c nL D cA ad A Q pc lv st S :=
  fun H locs ls hl hP hD hS => lv_iload_n C.1 C.2.1 d hi (lv_at hl j hk) (kk H locs ls hl hP hD hS)
theorem c_iload (C : Cx p s m args c cc nL Ts own D cA A) {i : Nat} {x : Int32} (d : decode cc pc = .ok (.iload i, 2)) (j : Nat) (hk : lv[j]? = some (i, .int x)) (kk : KC kc ks p l e R s m args below meth c nL D cA ad A Q (pc + 2) lv (.int x :: st) S) : KC kc ks p l e R s m args below meth c nL D cA ad A Q pc lv st S :=
  fun H locs ls hl hP hD hS => lv_iload C.1 C.2.1 d (lv_at hl j hk) (kk H locs ls hl hP hD hS)
theorem c_lload_n (C : Cx p s m args c cc nL Ts own D cA A) {k : Fin 4} {i : Nat} {x : Int64} (d : decode cc pc = .ok (.lload_n k, 1)) (j : Nat) (hi : (k : Nat) = i) (hk : lv[j]? = some (i, .long x)) (kk : KC kc ks p l e R s m args below meth c nL D cA ad A Q (pc + 1) lv (.long x :: st) S) : KC kc ks p l e R s m args below meth c nL D cA ad A Q pc lv st S :=
  fun H locs ls hl hP hD hS => lv_lload_n C.1 C.2.1 d hi (lv_at hl j hk) (kk H locs ls hl hP hD hS)
theorem c_lload (C : Cx p s m args c cc nL Ts own D cA A) {i : Nat} {x : Int64} (d : decode cc pc = .ok (.lload i, 2)) (j : Nat) (hk : lv[j]? = some (i, .long x)) (kk : KC kc ks p l e R s m args below meth c nL D cA ad A Q (pc + 2) lv (.long x :: st) S) : KC kc ks p l e R s m args below meth c nL D cA ad A Q pc lv st S :=
  fun H locs ls hl hP hD hS => lv_lload C.1 C.2.1 d (lv_at hl j hk) (kk H locs ls hl hP hD hS)
theorem c_aload_n (C : Cx p s m args c cc nL Ts own D cA A) {k : Fin 4} {i : Nat} {x : Nat} (d : decode cc pc = .ok (.aload_n k, 1)) (j : Nat) (hi : (k : Nat) = i) (hk : lv[j]? = some (i, .ref x)) (kk : KC kc ks p l e R s m args below meth c nL D cA ad A Q (pc + 1) lv (.ref x :: st) S) : KC kc ks p l e R s m args below meth c nL D cA ad A Q pc lv st S :=
  fun H locs ls hl hP hD hS => lv_aload_n C.1 C.2.1 d hi (lv_at hl j hk) (kk H locs ls hl hP hD hS)
theorem c_aload (C : Cx p s m args c cc nL Ts own D cA A) {i : Nat} {x : Nat} (d : decode cc pc = .ok (.aload i, 2)) (j : Nat) (hk : lv[j]? = some (i, .ref x)) (kk : KC kc ks p l e R s m args below meth c nL D cA ad A Q (pc + 2) lv (.ref x :: st) S) : KC kc ks p l e R s m args below meth c nL D cA ad A Q pc lv st S :=
  fun H locs ls hl hP hD hS => lv_aload C.1 C.2.1 d (lv_at hl j hk) (kk H locs ls hl hP hD hS)
theorem c_istore_n (C : Cx p s m args c cc nL Ts own D cA A) {k : Fin 4} {i : Nat} {x : Int32} (d : decode cc pc = .ok (.istore_n k, 1)) (hi : (k : Nat) = i) (hn : i < nL) (lv' : List (Nat × Value)) (hlv : (i, Value.int x) :: lv.filter (fun q => !(q.1 == i) && !(q.1 + 1 == i && q.2.category == 2)) = lv') (kk : KC kc ks p l e R s m args below meth c nL D cA ad A Q (pc + 1) lv' st S) : KC kc ks p l e R s m args below meth c nL D cA ad A Q pc lv (.int x :: st) S :=
  fun H locs ls hl hP hD hS => lv_istore_n C.1 C.2.1 d hi hl hn hlv (fun ls hl => kk H locs ls hl hP hD hS)
theorem c_istore (C : Cx p s m args c cc nL Ts own D cA A) {i : Nat} {x : Int32} (d : decode cc pc = .ok (.istore i, 2)) (hn : i < nL) (lv' : List (Nat × Value)) (hlv : (i, Value.int x) :: lv.filter (fun q => !(q.1 == i) && !(q.1 + 1 == i && q.2.category == 2)) = lv') (kk : KC kc ks p l e R s m args below meth c nL D cA ad A Q (pc + 2) lv' st S) : KC kc ks p l e R s m args below meth c nL D cA ad A Q pc lv (.int x :: st) S :=
  fun H locs ls hl hP hD hS => lv_istore C.1 C.2.1 d hl hn hlv (fun ls hl => kk H locs ls hl hP hD hS)
theorem c_lstore_n (C : Cx p s m args c cc nL Ts own D cA A) {k : Fin 4} {i : Nat} {x : Int64} (d : decode cc pc = .ok (.lstore_n k, 1)) (hi : (k : Nat) = i) (hn : i + 1 < nL) (lv' : List (Nat × Value)) (hlv : (i, Value.long x) :: lv.filter (fun q => !(q.1 == i) && (!(q.1 == i + 1) && !(q.1 + 1 == i && q.2.category == 2))) = lv') (kk : KC kc ks p l e R s m args below meth c nL D cA ad A Q (pc + 1) lv' st S) : KC kc ks p l e R s m args below meth c nL D cA ad A Q pc lv (.long x :: st) S :=
  fun H locs ls hl hP hD hS => lv_lstore_n C.1 C.2.1 d hi hl hn hlv (fun ls hl => kk H locs ls hl hP hD hS)
theorem c_lstore (C : Cx p s m args c cc nL Ts own D cA A) {i : Nat} {x : Int64} (d : decode cc pc = .ok (.lstore i, 2)) (hn : i + 1 < nL) (lv' : List (Nat × Value)) (hlv : (i, Value.long x) :: lv.filter (fun q => !(q.1 == i) && (!(q.1 == i + 1) && !(q.1 + 1 == i && q.2.category == 2))) = lv') (kk : KC kc ks p l e R s m args below meth c nL D cA ad A Q (pc + 2) lv' st S) : KC kc ks p l e R s m args below meth c nL D cA ad A Q pc lv (.long x :: st) S :=
  fun H locs ls hl hP hD hS => lv_lstore C.1 C.2.1 d hl hn hlv (fun ls hl => kk H locs ls hl hP hD hS)
theorem c_astore_n (C : Cx p s m args c cc nL Ts own D cA A) {k : Fin 4} {i : Nat} {x : Nat} (d : decode cc pc = .ok (.astore_n k, 1)) (hi : (k : Nat) = i) (hn : i < nL) (lv' : List (Nat × Value)) (hlv : (i, Value.ref x) :: lv.filter (fun q => !(q.1 == i) && !(q.1 + 1 == i && q.2.category == 2)) = lv') (kk : KC kc ks p l e R s m args below meth c nL D cA ad A Q (pc + 1) lv' st S) : KC kc ks p l e R s m args below meth c nL D cA ad A Q pc lv (.ref x :: st) S :=
  fun H locs ls hl hP hD hS => lv_astore_n C.1 C.2.1 d hi hl hn hlv (fun ls hl => kk H locs ls hl hP hD hS)
theorem c_astore (C : Cx p s m args c cc nL Ts own D cA A) {i : Nat} {x : Nat} (d : decode cc pc = .ok (.astore i, 2)) (hn : i < nL) (lv' : List (Nat × Value)) (hlv : (i, Value.ref x) :: lv.filter (fun q => !(q.1 == i) && !(q.1 + 1 == i && q.2.category == 2)) = lv') (kk : KC kc ks p l e R s m args below meth c nL D cA ad A Q (pc + 2) lv' st S) : KC kc ks p l e R s m args below meth c nL D cA ad A Q pc lv (.ref x :: st) S :=
  fun H locs ls hl hP hD hS => lv_astore C.1 C.2.1 d hl hn hlv (fun ls hl => kk H locs ls hl hP hD hS)
theorem c_iinc (C : Cx p s m args c cc nL Ts own D cA A) {i j : Nat} {n : Int} {x v : Int32} (d : decode cc pc = .ok (.iinc i n, 3)) (hj : lv[j]? = some (i, .int x)) (hv : x + Int32.ofInt n = v) (hn : i < nL) (lv' : List (Nat × Value)) (hlv : (i, Value.int v) :: lv.filter (fun q => !(q.1 == i) && !(q.1 + 1 == i && q.2.category == 2)) = lv') (kk : KC kc ks p l e R s m args below meth c nL D cA ad A Q (pc + 3) lv' st S) : KC kc ks p l e R s m args below meth c nL D cA ad A Q pc lv st S :=
  fun H locs ls hl hP hD hS => lv_iinc C.1 C.2.1 d hl hj hv hn hlv (fun ls hl => kk H locs ls hl hP hD hS)
theorem c_topi {x : Int32} (kk : ∀ y : Int32, y = x → KC kc ks p l e R s m args below meth c nL D cA ad A Q pc lv (.int y :: st) S) : KC kc ks p l e R s m args below meth c nL D cA ad A Q pc lv (.int x :: st) S := kk x rfl
theorem c_topl {x : Int64} (kk : ∀ y : Int64, y = x → KC kc ks p l e R s m args below meth c nL D cA ad A Q pc lv (.long y :: st) S) : KC kc ks p l e R s m args below meth c nL D cA ad A Q pc lv (.long x :: st) S := kk x rfl
theorem c_nameS (kk : ∀ S' : Sg, S' = S → KC kc ks p l e R s m args below meth c nL D cA ad A Q pc lv st S') : KC kc ks p l e R s m args below meth c nL D cA ad A Q pc lv st S := kk S rfl
theorem c_sub (ixs : List Nat) (lv' : List (Nat × Value)) (h : lv_pick lv ixs = lv') (kk : KC kc ks p l e R s m args below meth c nL D cA ad A Q pc lv' st S) : KC kc ks p l e R s m args below meth c nL D cA ad A Q pc lv st S := fun H locs ls hl => kk H locs ls (lv_sub hl ixs h)
theorem c_dup (C : Cx p s m args c cc nL Ts own D cA A) {v : Value} (d : decode cc pc = .ok (.dup, 1)) (hc : v.category = 1) (kk : KC kc ks p l e R s m args below meth c nL D cA ad A Q (pc + 1) lv (v :: v :: st) S) : KC kc ks p l e R s m args below meth c nL D cA ad A Q pc lv (v :: st) S :=
  fun H locs ls hl hP hD hS => lv_dup C.1 C.2.1 d hc (kk H locs ls hl hP hD hS)
theorem c_pop (C : Cx p s m args c cc nL Ts own D cA A) {v : Value} (d : decode cc pc = .ok (.pop, 1)) (hc : v.category = 1) (kk : KC kc ks p l e R s m args below meth c nL D cA ad A Q (pc + 1) lv st S) : KC kc ks p l e R s m args below meth c nL D cA ad A Q pc lv (v :: st) S :=
  fun H locs ls hl hP hD hS => lv_pop C.1 C.2.1 d hc (kk H locs ls hl hP hD hS)
theorem c_if_eq (C : Cx p s m args c cc nL Ts own D cA A) {x : Int32} {off : Int} (tgt : Nat) (d : decode cc pc = .ok (.ifCond .eq off, 3)) (ht : (pc : Int) + off = (tgt : Int)) (kt : x = 0 → KC kc ks p l e R s m args below meth c nL D cA ad A Q tgt lv st S) (kf : ¬ x = 0 → KC kc ks p l e R s m args below meth c nL D cA ad A Q (pc + 3) lv st S) : KC kc ks p l e R s m args below meth c nL D cA ad A Q pc lv (.int x :: st) S :=
  fun H locs ls hl hP hD hS => lv_if_eq C.1 C.2.1 d ht (fun q => kt q H locs ls hl hP hD hS) (fun q => kf q H locs ls hl hP hD hS)
theorem c_icmp_eq (C : Cx p s m args c cc nL Ts own D cA A) {x y : Int32} {off : Int} (tgt : Nat) (d : decode cc pc = .ok (.if_icmp .eq off, 3)) (ht : (pc : Int) + off = (tgt : Int)) (kt : x = y → KC kc ks p l e R s m args below meth c nL D cA ad A Q tgt lv st S) (kf : ¬ x = y → KC kc ks p l e R s m args below meth c nL D cA ad A Q (pc + 3) lv st S) : KC kc ks p l e R s m args below meth c nL D cA ad A Q pc lv (.int y :: .int x :: st) S :=
  fun H locs ls hl hP hD hS => lv_icmp_eq C.1 C.2.1 d ht (fun q => kt q H locs ls hl hP hD hS) (fun q => kf q H locs ls hl hP hD hS)
theorem c_if_ne (C : Cx p s m args c cc nL Ts own D cA A) {x : Int32} {off : Int} (tgt : Nat) (d : decode cc pc = .ok (.ifCond .ne off, 3)) (ht : (pc : Int) + off = (tgt : Int)) (kt : ¬ x = 0 → KC kc ks p l e R s m args below meth c nL D cA ad A Q tgt lv st S) (kf : x = 0 → KC kc ks p l e R s m args below meth c nL D cA ad A Q (pc + 3) lv st S) : KC kc ks p l e R s m args below meth c nL D cA ad A Q pc lv (.int x :: st) S :=
  fun H locs ls hl hP hD hS => lv_if_ne C.1 C.2.1 d ht (fun q => kt q H locs ls hl hP hD hS) (fun q => kf q H locs ls hl hP hD hS)
theorem c_icmp_ne (C : Cx p s m args c cc nL Ts own D cA A) {x y : Int32} {off : Int} (tgt : Nat) (d : decode cc pc = .ok (.if_icmp .ne off, 3)) (ht : (pc : Int) + off = (tgt : Int)) (kt : ¬ x = y → KC kc ks p l e R s m args below meth c nL D cA ad A Q tgt lv st S) (kf : x = y → KC kc ks p l e R s m args below meth c nL D cA ad A Q (pc + 3) lv st S) : KC kc ks p l e R s m args below meth c nL D cA ad A Q pc lv (.int y :: .int x :: st) S :=
  fun H locs ls hl hP hD hS => lv_icmp_ne C.1 C.2.1 d ht (fun q => kt q H locs ls hl hP hD hS) (fun q => kf q H locs ls hl hP hD hS)
theorem c_if_lt (C : Cx p s m args c cc nL Ts own D cA A) {x : Int32} {off : Int} (tgt : Nat) (d : decode cc pc = .ok (.ifCond .lt off, 3)) (ht : (pc : Int) + off = (tgt : Int)) (kt : x < 0 → KC kc ks p l e R s m args below meth c nL D cA ad A Q tgt lv st S) (kf : ¬ x < 0 → KC kc ks p l e R s m args below meth c nL D cA ad A Q (pc + 3) lv st S) : KC kc ks p l e R s m args below meth c nL D cA ad A Q pc lv (.int x :: st) S :=
  fun H locs ls hl hP hD hS => lv_if_lt C.1 C.2.1 d ht (fun q => kt q H locs ls hl hP hD hS) (fun q => kf q H locs ls hl hP hD hS)
theorem c_icmp_lt (C : Cx p s m args c cc nL Ts own D cA A) {x y : Int32} {off : Int} (tgt : Nat) (d : decode cc pc = .ok (.if_icmp .lt off, 3)) (ht : (pc : Int) + off = (tgt : Int)) (kt : x < y → KC kc ks p l e R s m args below meth c nL D cA ad A Q tgt lv st S) (kf : ¬ x < y → KC kc ks p l e R s m args below meth c nL D cA ad A Q (pc + 3) lv st S) : KC kc ks p l e R s m args below meth c nL D cA ad A Q pc lv (.int y :: .int x :: st) S :=
  fun H locs ls hl hP hD hS => lv_icmp_lt C.1 C.2.1 d ht (fun q => kt q H locs ls hl hP hD hS) (fun q => kf q H locs ls hl hP hD hS)
theorem c_if_ge (C : Cx p s m args c cc nL Ts own D cA A) {x : Int32} {off : Int} (tgt : Nat) (d : decode cc pc = .ok (.ifCond .ge off, 3)) (ht : (pc : Int) + off = (tgt : Int)) (kt : 0 ≤ x → KC kc ks p l e R s m args below meth c nL D cA ad A Q tgt lv st S) (kf : ¬ 0 ≤ x → KC kc ks p l e R s m args below meth c nL D cA ad A Q (pc + 3) lv st S) : KC kc ks p l e R s m args below meth c nL D cA ad A Q pc lv (.int x :: st) S :=
  fun H locs ls hl hP hD hS => lv_if_ge C.1 C.2.1 d ht (fun q => kt q H locs ls hl hP hD hS) (fun q => kf q H locs ls hl hP hD hS)
theorem c_icmp_ge (C : Cx p s m args c cc nL Ts own D cA A) {x y : Int32} {off : Int} (tgt : Nat) (d : decode cc pc = .ok (.if_icmp .ge off, 3)) (ht : (pc : Int) + off = (tgt : Int)) (kt : y ≤ x → KC kc ks p l e R s m args below meth c nL D cA ad A Q tgt lv st S) (kf : ¬ y ≤ x → KC kc ks p l e R s m args below meth c nL D cA ad A Q (pc + 3) lv st S) : KC kc ks p l e R s m args below meth c nL D cA ad A Q pc lv (.int y :: .int x :: st) S :=
  fun H locs ls hl hP hD hS => lv_icmp_ge C.1 C.2.1 d ht (fun q => kt q H locs ls hl hP hD hS) (fun q => kf q H locs ls hl hP hD hS)
theorem c_if_gt (C : Cx p s m args c cc nL Ts own D cA A) {x : Int32} {off : Int} (tgt : Nat) (d : decode cc pc = .ok (.ifCond .gt off, 3)) (ht : (pc : Int) + off = (tgt : Int)) (kt : 0 < x → KC kc ks p l e R s m args below meth c nL D cA ad A Q tgt lv st S) (kf : ¬ 0 < x → KC kc ks p l e R s m args below meth c nL D cA ad A Q (pc + 3) lv st S) : KC kc ks p l e R s m args below meth c nL D cA ad A Q pc lv (.int x :: st) S :=
  fun H locs ls hl hP hD hS => lv_if_gt C.1 C.2.1 d ht (fun q => kt q H locs ls hl hP hD hS) (fun q => kf q H locs ls hl hP hD hS)
theorem c_icmp_gt (C : Cx p s m args c cc nL Ts own D cA A) {x y : Int32} {off : Int} (tgt : Nat) (d : decode cc pc = .ok (.if_icmp .gt off, 3)) (ht : (pc : Int) + off = (tgt : Int)) (kt : y < x → KC kc ks p l e R s m args below meth c nL D cA ad A Q tgt lv st S) (kf : ¬ y < x → KC kc ks p l e R s m args below meth c nL D cA ad A Q (pc + 3) lv st S) : KC kc ks p l e R s m args below meth c nL D cA ad A Q pc lv (.int y :: .int x :: st) S :=
  fun H locs ls hl hP hD hS => lv_icmp_gt C.1 C.2.1 d ht (fun q => kt q H locs ls hl hP hD hS) (fun q => kf q H locs ls hl hP hD hS)
theorem c_if_le (C : Cx p s m args c cc nL Ts own D cA A) {x : Int32} {off : Int} (tgt : Nat) (d : decode cc pc = .ok (.ifCond .le off, 3)) (ht : (pc : Int) + off = (tgt : Int)) (kt : x ≤ 0 → KC kc ks p l e R s m args below meth c nL D cA ad A Q tgt lv st S) (kf : ¬ x ≤ 0 → KC kc ks p l e R s m args below meth c nL D cA ad A Q (pc + 3) lv st S) : KC kc ks p l e R s m args below meth c nL D cA ad A Q pc lv (.int x :: st) S :=
  fun H locs ls hl hP hD hS => lv_if_le C.1 C.2.1 d ht (fun q => kt q H locs ls hl hP hD hS) (fun q => kf q H locs ls hl hP hD hS)
theorem c_icmp_le (C : Cx p s m args c cc nL Ts own D cA A) {x y : Int32} {off : Int} (tgt : Nat) (d : decode cc pc = .ok (.if_icmp .le off, 3)) (ht : (pc : Int) + off = (tgt : Int)) (kt : x ≤ y → KC kc ks p l e R s m args below meth c nL D cA ad A Q tgt lv st S) (kf : ¬ x ≤ y → KC kc ks p l e R s m args below meth c nL D cA ad A Q (pc + 3) lv st S) : KC kc ks p l e R s m args below meth c nL D cA ad A Q pc lv (.int y :: .int x :: st) S :=
  fun H locs ls hl hP hD hS => lv_icmp_le C.1 C.2.1 d ht (fun q => kt q H locs ls hl hP hD hS) (fun q => kf q H locs ls hl hP hD hS)
theorem c_goto (C : Cx p s m args c cc nL Ts own D cA A) {off : Int} (tgt : Nat) (d : decode cc pc = .ok (.goto off, 3)) (ht : (pc : Int) + off = (tgt : Int)) (kk : KC kc ks p l e R s m args below meth c nL D cA ad A Q tgt lv st S) : KC kc ks p l e R s m args below meth c nL D cA ad A Q pc lv st S :=
  fun H locs ls hl hP hD hS => lv_goto C.1 C.2.1 d ht (kk H locs ls hl hP hD hS)
theorem c_get (C : Cx p s m args c cc nL Ts own D cA A) {t k ci index j N : Nat} {ref Cn : String} {T : u_T} {fs : List Value} {v : Value} (hin : ∀ w ∈ u_ws Cn T N, w ∈ Ts) (hm : (t, k) ∈ ids (nM S)) (he : cel cA ad S t k = .inr (ci, fs)) (hc : vwCl[ci]? = some (Cn, T, N)) (hj : j < N) (hlink : Cond.fieldLink own index ref (T j).2.1 (T j).2.2.1 ∈ Ts) (hsame : ∀ x, s.fieldFound? (T j).1 (T j).2.1 (T j).2.2.1 = some x → s.fieldFound? ref (T j).2.1 (T j).2.2.1 = some x) (hv : fs[j]? = some v) (d : decode cc pc = .ok (.getfield index, 3)) (kk : KC kc ks p l e R s m args below meth c nL D cA ad A Q (pc + 3) lv (v :: st) S) : KC kc ks p l e R s m args below meth c nL D cA ad A Q pc lv (.ref (ad t k) :: st) S := fun H locs ls hl hP hD hS => by
  obtain ⟨q, -, hq⟩ := lW_get cA ad S hm
  rw [he] at hq
  exact va_get C.1 C.2.1 C.2.2.2.2.1 hin C.2.2.2.1 C.2.2.2.2.2.1 hP q hq hc j hj (C.2.2.2.2.1 _ hlink) hsame hv d (kk H locs ls hl hP hD hS)
theorem c_put (C : Cx p s m args c cc nL Ts own D cA A) {S' : Sg} {t k ci index j N : Nat} {ref Cn : String} {T : u_T} {fs : List Value} {v : Value} (hin : ∀ w ∈ u_ws Cn T N, w ∈ Ts) (ty0 : Nat → FieldType) (hty : ∀ k, k < N → parseFieldDescriptor (T k).2.2.1 = some (ty0 k)) (hnm : ∀ a, a < N → ∀ b, b < N → a ≠ b → (T a).2.1 ≠ (T b).2.1) (hm : (t, k) ∈ ids (nM S)) (he : cel cA ad S t k = .inr (ci, fs)) (hc : vwCl[ci]? = some (Cn, T, N)) (hj : j < N) (hlink : Cond.fieldLink own index ref (T j).2.1 (T j).2.2.1 ∈ Ts) (hsame : ∀ x, s.fieldFound? (T j).1 (T j).2.1 (T j).2.2.1 = some x → s.fieldFound? ref (T j).2.1 (T j).2.2.1 = some x) (hfin : (T j).2.2.2 = false) {ty : FieldType} (hd : parseFieldDescriptor (T j).2.2.1 = some ty) (hnr : narrow ty v = v) (hfit : fits ty v = true) (hl0 : j < fs.length) (hn : nM S' = nM S) (he' : cel cA ad S' t k = .inr (ci, fs.set j v)) (ho : ∀ a b : Nat, ¬ (a = t ∧ b = k) → cel cA ad S' a b = cel cA ad S a b) (d : decode cc pc = .ok (.putfield index, 3)) (kk : KC kc ks p l e R s m args below meth c nL D cA ad A Q (pc + 3) lv st S') : KC kc ks p l e R s m args below meth c nL D cA ad A Q pc lv (v :: .ref (ad t k) :: st) S := fun H locs ls hl hP hD hS => by
  obtain ⟨q, hi, hq⟩ := lW_get cA ad S hm
  rw [he] at hq
  refine va_put C.1 C.2.1 C.2.2.2.2.1 hin ty0 hty hnm C.2.2.2.1 C.2.2.2.2.2.1 hP hD hS q hq hc j hj (C.2.2.2.2.1 _ hlink) hsame hfin hd hnr hfit hl0 d (fun H1 locs1 hP1 hD1 hS1 => ?_)
  have hs := lW_set hD hi hn he' ho
  rw [hs] at hP1 hD1
  exact kk H1 locs1 ls hl hP1 hD1 hS1
theorem c_lald (C : Cx p s m args c cc nL Ts own D cA A) {t k n : Nat} {f : Nat → Int64} {i : Int32} (hm : (t, k) ∈ ids (nM S)) (he : cel cA ad S t k = .inl (cA 2, n, .inr (.inl f))) (hin : vp_in i n) (d : decode cc pc = .ok (.laload, 1)) (kk : KC kc ks p l e R s m args below meth c nL D cA ad A Q (pc + 1) lv (.long (f i.toNatClampNeg) :: st) S) : KC kc ks p l e R s m args below meth c nL D cA ad A Q pc lv (.int i :: .ref (ad t k) :: st) S := fun H locs ls hl hP hD hS => by
  obtain ⟨q, -, hq⟩ := lW_get cA ad S hm
  rw [he] at hq
  exact va_lald C.1 C.2.1 C.2.2.2.2.2.1 hP q 2 hq rfl hin d (kk H locs ls hl hP hD hS)
theorem c_last (C : Cx p s m args c cc nL Ts own D cA A) {t k n : Nat} {i : Int32} {x : Int64} (hm : (t, k) ∈ ids (nM S)) (he : ∀ S : Sg, cel cA ad S t k = .inl (cA 2, n, .inr (.inl (gL S t k)))) (hin : vp_in i n) (d : decode cc pc = .ok (.lastore, 1)) (kk : KC kc ks p l e R s m args below meth c nL D cA ad A Q (pc + 1) lv st (uL S t k i.toNatClampNeg x)) : KC kc ks p l e R s m args below meth c nL D cA ad A Q pc lv (.long x :: .int i :: .ref (ad t k) :: st) S := fun H locs ls hl hP hD hS => by
  obtain ⟨q, hi, hq⟩ := lW_get cA ad S hm
  rw [he] at hq
  refine va_last C.1 C.2.1 C.2.2.2.2.2.1 hP hD hS q 2 hq rfl hin d (fun H1 locs1 hP1 hD1 hS1 => ?_)
  have hs := lW_set (S' := uL S t k i.toNatClampNeg x) hD hi rfl (he _) (fun a b h => cel_uL h)
  rw [gL_same] at hs
  rw [hs] at hP1 hD1
  exact kk H1 locs1 ls hl hP1 hD1 hS1
theorem c_lif_eq (C : Cx p s m args c cc nL Ts own D cA A) {x y : Int64} {off : Int} (tgt : Nat) (d0 : decode cc pc = .ok (.lcmp, 1)) (d : decode cc (pc + 1) = .ok (.ifCond .eq off, 3)) (ht : ((pc + 1 : Nat) : Int) + off = (tgt : Int)) (kt : x = y → KC kc ks p l e R s m args below meth c nL D cA ad A Q tgt lv st S) (kf : ¬ x = y → KC kc ks p l e R s m args below meth c nL D cA ad A Q (pc + 1 + 3) lv st S) : KC kc ks p l e R s m args below meth c nL D cA ad A Q pc lv (.long y :: .long x :: st) S :=
  c_lcmp C d0 (c_if_eq C tgt d ht (fun q => kt ((lg_cmp_eq x y).mp q)) (fun q => kf (fun h => q ((lg_cmp_eq x y).mpr h))))
theorem c_lif_ne (C : Cx p s m args c cc nL Ts own D cA A) {x y : Int64} {off : Int} (tgt : Nat) (d0 : decode cc pc = .ok (.lcmp, 1)) (d : decode cc (pc + 1) = .ok (.ifCond .ne off, 3)) (ht : ((pc + 1 : Nat) : Int) + off = (tgt : Int)) (kt : ¬ x = y → KC kc ks p l e R s m args below meth c nL D cA ad A Q tgt lv st S) (kf : x = y → KC kc ks p l e R s m args below meth c nL D cA ad A Q (pc + 1 + 3) lv st S) : KC kc ks p l e R s m args below meth c nL D cA ad A Q pc lv (.long y :: .long x :: st) S :=
  c_lcmp C d0 (c_if_ne C tgt d ht (fun q => kt (fun h => q ((lg_cmp_eq x y).mpr h))) (fun q => kf ((lg_cmp_eq x y).mp q)))
theorem c_tblIn (C : Cx p s m args c cc nL Ts own D cA A) {dflt lo hi : Int} {offs : Array Int} {len : Nat} {x v : Int32} {off : Int} (tgt : Nat) (d : decode cc pc = .ok (.tableswitch dflt lo hi offs, len)) (hv : x = v) (h1 : ¬ v.toInt < lo) (h2 : ¬ hi < v.toInt) (ho : offs[(v.toInt - lo).toNat]? = some off) (ht : (pc : Int) + off = (tgt : Int)) (kk : KC kc ks p l e R s m args below meth c nL D cA ad A Q tgt lv st S) : KC kc ks p l e R s m args below meth c nL D cA ad A Q pc lv (.int x :: st) S := fun H locs ls hl hP hD hS => by
  subst hv
  exact lv_tableIn C.1 C.2.1 d h1 h2 ho ht (kk H locs ls hl hP hD hS)
theorem c_tblOut (C : Cx p s m args c cc nL Ts own D cA A) {dflt lo hi : Int} {offs : Array Int} {len : Nat} {x : Int32} (tgt : Nat) (d : decode cc pc = .ok (.tableswitch dflt lo hi offs, len)) (h : x.toInt < lo ∨ hi < x.toInt) (ht : (pc : Int) + dflt = (tgt : Int)) (kk : KC kc ks p l e R s m args below meth c nL D cA ad A Q tgt lv st S) : KC kc ks p l e R s m args below meth c nL D cA ad A Q pc lv (.int x :: st) S := fun H locs ls hl hP hD hS =>
  lv_tableOut C.1 C.2.1 d h ht (kk H locs ls hl hP hD hS)
theorem c_null (C : Cx p s m args c cc nL Ts own D cA A) (d : decode cc pc = .ok (.aconst_null, 1)) (kk : KC kc ks p l e R s m args below meth c nL D cA ad A Q (pc + 1) lv (.null :: st) S) : KC kc ks p l e R s m args below meth c nL D cA ad A Q pc lv st S := fun H locs ls hl hP hD hS => lv_null C.1 C.2.1 d (kk H locs ls hl hP hD hS)
theorem c_ifnull (C : Cx p s m args c cc nL Ts own D cA A) {x : Nat} {off : Int} (d : decode cc pc = .ok (.ifnull off, 3)) (kk : KC kc ks p l e R s m args below meth c nL D cA ad A Q (pc + 3) lv st S) : KC kc ks p l e R s m args below meth c nL D cA ad A Q pc lv (.ref x :: st) S := fun H locs ls hl hP hD hS => lv_ifnull C.1 C.2.1 d (kk H locs ls hl hP hD hS)
theorem c_ifnullN (C : Cx p s m args c cc nL Ts own D cA A) {off : Int} (tgt : Nat) (d : decode cc pc = .ok (.ifnull off, 3)) (ht : (pc : Int) + off = (tgt : Int)) (kk : KC kc ks p l e R s m args below meth c nL D cA ad A Q tgt lv st S) : KC kc ks p l e R s m args below meth c nL D cA ad A Q pc lv (.null :: st) S := fun H locs ls hl hP hD hS => lv_ifnullN C.1 C.2.1 d ht (kk H locs ls hl hP hD hS)
theorem c_ifnonnull (C : Cx p s m args c cc nL Ts own D cA A) {x : Nat} {off : Int} (tgt : Nat) (d : decode cc pc = .ok (.ifnonnull off, 3)) (ht : (pc : Int) + off = (tgt : Int)) (kk : KC kc ks p l e R s m args below meth c nL D cA ad A Q tgt lv st S) : KC kc ks p l e R s m args below meth c nL D cA ad A Q pc lv (.ref x :: st) S := fun H locs ls hl hP hD hS => lv_ifnonnull C.1 C.2.1 d ht (kk H locs ls hl hP hD hS)
theorem c_ifnonnullN (C : Cx p s m args c cc nL Ts own D cA A) {off : Int} (d : decode cc pc = .ok (.ifnonnull off, 3)) (kk : KC kc ks p l e R s m args below meth c nL D cA ad A Q (pc + 3) lv st S) : KC kc ks p l e R s m args below meth c nL D cA ad A Q pc lv (.null :: st) S := fun H locs ls hl hP hD hS => lv_ifnonnullN C.1 C.2.1 d (kk H locs ls hl hP hD hS)
theorem c_aload_nN (C : Cx p s m args c cc nL Ts own D cA A) {k : Fin 4} {i : Nat} (d : decode cc pc = .ok (.aload_n k, 1)) (j : Nat) (hi : (k : Nat) = i) (hk : lv[j]? = some (i, .null)) (kk : KC kc ks p l e R s m args below meth c nL D cA ad A Q (pc + 1) lv (.null :: st) S) : KC kc ks p l e R s m args below meth c nL D cA ad A Q pc lv st S := fun H locs ls hl hP hD hS => lv_aload_nN C.1 C.2.1 d hi (lv_at hl j hk) (kk H locs ls hl hP hD hS)
theorem c_aloadN (C : Cx p s m args c cc nL Ts own D cA A) {i : Nat} (d : decode cc pc = .ok (.aload i, 2)) (j : Nat) (hk : lv[j]? = some (i, .null)) (kk : KC kc ks p l e R s m args below meth c nL D cA ad A Q (pc + 2) lv (.null :: st) S) : KC kc ks p l e R s m args below meth c nL D cA ad A Q pc lv st S := fun H locs ls hl hP hD hS => lv_aloadN C.1 C.2.1 d (lv_at hl j hk) (kk H locs ls hl hP hD hS)
theorem c_astore_nN (C : Cx p s m args c cc nL Ts own D cA A) {k : Fin 4} {i : Nat} (d : decode cc pc = .ok (.astore_n k, 1)) (hi : (k : Nat) = i) (hn : i < nL) (lv' : List (Nat × Value)) (hlv : (i, Value.null) :: lv.filter (fun q => !(q.1 == i) && !(q.1 + 1 == i && q.2.category == 2)) = lv') (kk : KC kc ks p l e R s m args below meth c nL D cA ad A Q (pc + 1) lv' st S) : KC kc ks p l e R s m args below meth c nL D cA ad A Q pc lv (.null :: st) S := fun H locs ls hl hP hD hS => lv_astore_nN C.1 C.2.1 d hi hl hn hlv (fun ls hl => kk H locs ls hl hP hD hS)
theorem c_astoreN (C : Cx p s m args c cc nL Ts own D cA A) {i : Nat} (d : decode cc pc = .ok (.astore i, 2)) (hn : i < nL) (lv' : List (Nat × Value)) (hlv : (i, Value.null) :: lv.filter (fun q => !(q.1 == i) && !(q.1 + 1 == i && q.2.category == 2)) = lv') (kk : KC kc ks p l e R s m args below meth c nL D cA ad A Q (pc + 2) lv' st S) : KC kc ks p l e R s m args below meth c nL D cA ad A Q pc lv (.null :: st) S := fun H locs ls hl hP hD hS => lv_astoreN C.1 C.2.1 d hl hn hlv (fun ls hl => kk H locs ls hl hP hD hS)
theorem c_widen {k n : Nat} (h1 : kc ≤ k) (h2 : ks ≤ n) (kk : KC k n p l e R s m args below meth c nL D cA ad A Q pc lv st S) : KC kc ks p l e R s m args below meth c nL D cA ad A Q pc lv st S := fun H locs ls hl hP hD hS => W.widen h1 h2 (kk H locs ls hl hP hD hS)
/-- an exception of class E is on its way at pc -/
def KX (kc ks : Nat) (p : Program) (l : Launch) (e : Env) (R : Room) (s : State) (m : MethodId) (args : Array Value) (below : List Frame) (meth : Method) (c : Code) (nL : Nat) (D : va_G) (cA : Nat → ClassId) (ad : Nat → Nat → Nat) (A : Nat → Prop) (Q : State → Prop) (E : String) (pc : Nat) (lv : List (Nat × Value)) (st : List Value) (S : Sg) : Prop :=
  ∀ (H : Heap) (locs : List Loc) (ls : Array Slot) (q : Nat) (ce : Cell), lv_has ls nL lv → va_P D vwCl (lW cA ad S) H → va_D A (lW cA ad S) → va_S A s.heap H locs → H[q]? = some ce → ce.vm = .none → s.vm.findClass E = some ce.cls → vx_W p l e R s m args below meth c H locs kc ks Q (F0 m pc ls st) q
theorem c_catch (C : Cx p s m args c cc nL Ts own D cA A) {E name : String} (pre : List ExceptionTableEntry) (x : ExceptionTableEntry) (suf : List ExceptionTableEntry) (hsplit : c.exceptionTable.toList = pre ++ x :: suf) (hpass : ∀ z ∈ pre, covers z pc = false ∨ (z.catchType ≠ 0 ∧ ∃ nm : String, Cond.classLink own z.catchType nm ∈ Ts ∧ va_Nc E nm s)) (hx : covers x pc = true) (h0 : x.catchType ≠ 0) (hlink : Cond.classLink own x.catchType name ∈ Ts) (hcast : va_Nw (.castable E name) s) (kk : ∀ q : Nat, KC kc ks p l e R s m args below meth c nL D cA ad A Q x.handlerPc lv [.ref q] S) : KX kc ks p l e R s m args below meth c nL D cA ad A Q E pc lv st S := fun H locs ls q ce hl hP hD hS h1 h2 h3 =>
  vx_catch C.2.2.2.1 pre x suf hsplit (fun z hz => (hpass z hz).imp id (fun ⟨a, nm, b, d⟩ => ⟨a, nm, C.2.2.2.2.1 _ b, d⟩)) hx h0 (C.2.2.2.2.1 _ hlink) (va_Nw.use rfl hcast) h1 h2 h3 (kk q H locs ls hl hP hD hS)
theorem EX_at (C : Cx p s m args c cc nL Ts own D cA A) {H : Heap} {locs : List Loc} {U : State} (hE : EX A s s.heap) (hD : va_D A (lW cA ad S)) (hS : va_S A s.heap H locs) (hU : U.heap = H) (hW : s.WarmedH U.vm) : EX (va_A (lW cA ad S) H.size) U U.heap := by
  rw [hU]
  exact ((hE.kept hS.2.1).narrow (lW_free hD hS C.2.2.2.2.2.2)).warm hW
theorem c_callXl (C : Cx p s m args c cc nL Ts own D cA A) {y : MethodName} {ws : List Cond} {rm : Room} {bytes : ByteArray} {maxL n index t k ci : Nat} {ret : Option FieldType} {As : List Value} {post : Int64 → Sg → Prop} {X : String → Sg → Prop} {Cn : String} {fs : List Value} {q : vw_C} (hE : EX A s s.heap) (hM : CtX l y ws rm D cA ad (.ref (ad t k) :: As) S (fun B A => va_Ql post B A) X) (cw : CallW R s args own Cn index y bytes maxL ret ws rm 1 6 n) (hm : (t, k) ∈ ids (nM S)) (he : cel cA ad S t k = .inr (ci, fs)) (hcl : vwCl[ci]? = some q) (hCn : q.1 = Cn) (hn : As.length = n) (hst : st = As.reverse ++ .ref (ad t k) :: rest) (hW : (rest.map fun v => v.category).sum ≤ 8) (hR : kc + 1 ≤ R.cells ∧ ks + 6 ≤ R.slots) (d : decode cc pc = .ok (.invokevirtual index, 3)) (kx : ∀ (E : String) (S' : Sg), X E S' → KX (kc + 1) (ks + 6) p l e R s m args below meth c nL D cA ad A Q E pc lv rest S') (kk : ∀ (r : Int64) (S' : Sg), post r S' → KC (kc + 1) (ks + 6) p l e R s m args below meth c nL D cA ad A Q (pc + 3) lv (.long r :: rest) S') : KC kc ks p l e R s m args below meth c nL D cA ad A Q pc lv st S := fun H locs ls hl hP hD hS => by
  subst hst
  obtain ⟨p0, -, hq⟩ := lW_get cA ad S hm
  rw [he] at hq
  have hF := lW_free hD hS C.2.2.2.2.2.2
  have hrecv := va_recv C.2.2.2.2.2.1 hP hcl hq
  rw [hCn] at hrecv
  refine vx_calll (vx_runV (As := As) (rest := rest) ⟨C.1, C.2.1, C.2.2.1, C.2.2.2.1, C.2.2.2.2.1⟩ (hM H.size) cw ⟨preX_blind, hrecv, fun U hU hW => ⟨rfl, by rw [hU], by rw [hU]; exact hP, va_K.moved hW.alike C.2.2.2.2.2.1, hD.weaken (fun _ _ _ _ => trivial), EX_at C hE hD hS hU hW⟩⟩ rfl hn hl.1 rfl (lv_room hW) d hR) hS (fun q _ h => hF q h) hF (fun q _ h => hF q h) (fun E ce q9 u t H1 locs1 ht hvm hw hB hz1 hk1 hS1 h1 h2 h3 => ?_) (fun r S' t H1 locs1 ht hvm hw hB hz1 hk1 hS1 => ?_)
  · obtain ⟨rfl, hP1, hD1⟩ := hB
    rw [ht] at hP1
    exact kx _ u.1 hw H1 locs1 ls q9 ce hl hP1 (hD1.weaken (fun _ _ _ h => hF _ h)) hS1 h1 h2 h3
  · obtain ⟨hP1, hD1⟩ := hB
    rw [ht] at hP1
    exact kk r S' hw H1 locs1 ls hl hP1 (hD1.weaken (fun _ _ _ h => hF _ h)) hS1
end
/-- a contract with the extra facts, a table of its own, one cell of six slots -/
def CtW (l : Launch) (y : MethodName) (ws : List Cond) (rm : Room) (D : va_G) (cA : Nat → ClassId) (ad : Nat → Nat → Nat) (av : List Value) (S : Sg) (post : Int32 → Sg → Prop) : Prop :=
  ∀ sz : Nat, Met l y ws rm (preX D cA ad av S sz) (va_Qi post (fun S' t => va_P D vwCl (lW cA ad S') t.heap ∧ va_D (va_A (lW cA ad S) sz) (lW cA ad S')) (va_A (lW cA ad S) sz)) 1 6 (va_A (lW cA ad S) sz)
theorem ct_ofW {l : Launch} {y : MethodName} {ws ws' : List Cond} {rm : Room} {D : va_G} {cA : Nat → ClassId} {ad : Nat → Nat → Nat} {av : List Value} {S : Sg} {post : Int32 → Sg → Prop} {cc : ByteArray} {nL : Nat} {hh : List (Nat × Nat × Nat × Nat)} (hy : plainName y.cls = true) (hw : ws = Cond.codeWith y cc nL (some .int) hh :: ws') (hlen : (lg_sl av).length ≤ nL)
    (body : ∀ (p : Program) (e : Env) (s : State) (m : MethodId) (args : Array Value) (below : List Frame) (meth : Method) (c : Code) (A : Nat → Prop) (Q : State → Prop), Cx p s m args c cc nL ws y.cls D cA A → EX A s s.heap → c.exceptionTable.toList = tableOf hh →
      (∀ (pc : Nat) (lv : List (Nat × Value)) (v : Int32) (S' : Sg), decode cc pc = .ok (.ireturn, 1) → post v S' → KC 1 6 p l e rm s m args below meth c nL D cA ad A Q pc lv [.int v] S') → KC 0 0 p l e rm s m args below meth c nL D cA ad A Q 0 (lv_args 0 av) [] S) : CtW l y ws rm D cA ad av S post := by
  intro sz
  refine va_MetW (cc := cc) (maxL := nL) (ret := some .int) (hh := hh) hy hw ?_
  intro p e s m args below meth c s₁ B hml hv
  obtain ⟨rfl, hsz, hP, hK, hD0, hE⟩ := hv
  subst hsz
  have hD := hD0.self (sz := s.heap.size)
  generalize hAe : va_A (lW cA ad S) s.heap.size = A at hD hE ⊢
  have hA : ∀ q : Nat, s.heap.size ≤ q → A q := fun q h => by rw [← hAe]; exact Or.inr h
  have hl := lv_entry av (n := nL) hlen
  rw [lg_entry_eq]
  have hts := atoms_spec (ws := ws) B.pre
  have C : Cx p s m av.toArray c cc nL ws y.cls D cA A := ⟨B.exec, B.bytes, hml, findClass_of_methodNamed B.named, hts, hK, hA⟩
  have htab := vx_table (x := y) B (hts _ (by rw [hw]; exact List.mem_cons_self))
  exact body p e s m av.toArray below meth c A _ C hE htab (fun pc lv v S' d q H locs ls hl hP hD hS => W.iret (v := v) C.1 C.2.1 B.returns (fun t ht hW => ⟨⟨v, S', rfl, q, by rw [ht]; exact hP, hD⟩, hS.F ht⟩) hS.2.2 d B.notSynchronized) s.heap [] _ hl hP hD va_S.rf
def RnC (kc ks : Nat) (p : Program) (l : Launch) (e : Env) (R : Room) (s : State) (m : MethodId) (args : Array Value) (below : List Frame) (meth : Method) (c : Code) (nL : Nat) (D : va_G) (cA : Nat → ClassId) (ad : Nat → Nat → Nat) (A : Nat → Prop) (pc : Nat) (lv : List (Nat × Value)) (st rest : List Value) (S : Sg) (Qc : (Sg → State → Prop) → (Nat → Prop) → Array Value → State → Outcome → State → Prop) : Prop :=
  ∀ (H : Heap) (locs : List Loc) (ls : Array Slot), lv_has ls nL lv → va_P D vwCl (lW cA ad S) H → va_D A (lW cA ad S) → va_S A s.heap H locs → ∃ av : Array Value, va_Run p l e R s m args below meth c H locs kc ks 0 0 (F0 m pc ls st) rest (Qc (fun S' t => va_P D vwCl (lW cA ad S') t.heap ∧ va_D (va_A (lW cA ad S) H.size) (lW cA ad S')) (va_A (lW cA ad S) H.size) av) (va_A (lW cA ad S) H.size)
section
variable {p : Program} {l : Launch} {e : Env} {R : Room} {kc ks : Nat} {s : State} {m : MethodId} {args : Array Value} {below : List Frame} {meth : Method} {c : Code} {nL : Nat} {D : va_G} {cA : Nat → ClassId} {ad : Nat → Nat → Nat} {A : Nat → Prop} {Q : State → Prop} {cc : ByteArray} {Ts : List Cond} {own : String} {pc : Nat} {lv lv' : List (Nat × Value)} {st rest : List Value} {S : Sg}
theorem rc_V (C : Cx p s m args c cc nL Ts own D cA A) {y : MethodName} {ws : List Cond} {rm : Room} {bytes : ByteArray} {maxL n index t k ci : Nat} {ret : Option FieldType} {As : List Value} {Qc : (Sg → State → Prop) → (Nat → Prop) → Array Value → State → Outcome → State → Prop} {Cn : String} {fs : List Value} {q : vw_C} (hM : Ct l y ws rm D cA ad (.ref (ad t k) :: As) S Qc) (cw : CallW R s args own Cn index y bytes maxL ret ws rm 0 0 n) (hm : (t, k) ∈ ids (nM S)) (he : cel cA ad S t k = .inr (ci, fs)) (hcl : vwCl[ci]? = some q) (hCn : q.1 = Cn) (hn : As.length = n) (hst : st = As.reverse ++ .ref (ad t k) :: rest) (hW : (rest.map fun v => v.category).sum ≤ 8) (hR : kc + 0 ≤ R.cells ∧ ks + 0 ≤ R.slots) (d : decode cc pc = .ok (.invokevirtual index, 3)) : RnC kc ks p l e R s m args below meth c nL D cA ad A pc lv st rest S Qc := fun H locs ls hl hP hD hS => by
  subst hst
  obtain ⟨p0, -, hq⟩ := lW_get cA ad S hm
  rw [he] at hq
  have hrecv := va_recv C.2.2.2.2.2.1 hP hcl hq
  rw [hCn] at hrecv
  exact ⟨_, va_runV (As := As) (rest := rest) ⟨C.1, C.2.1, C.2.2.1, C.2.2.2.1, C.2.2.2.2.1⟩ (hM H.size) cw ⟨pre_blind, hrecv, fun U hU hW => ⟨rfl, by rw [hU], by rw [hU]; exact hP, va_K.moved hW.alike C.2.2.2.2.2.1, hD.weaken (fun _ _ _ _ => trivial)⟩⟩ rfl hn hl.1 rfl (lv_room hW) d hR⟩
theorem rc_U (C : Cx p s m args c cc nL Ts own D cA A) {y : MethodName} {x : MethodName} {owner : String} {ws : List Cond} {rm : Room} {bytes : ByteArray} {maxL n index t k ci : Nat} {ret : Option FieldType} {As : List Value} {Qc : (Sg → State → Prop) → (Nat → Prop) → Array Value → State → Outcome → State → Prop} {Cn : String} {fs : List Value} {q : vw_C} (hM : Ct l y ws rm D cA ad (.ref (ad t k) :: As) S Qc) (cw : va_CU R s args own Cn owner index x y bytes maxL ret ws rm 0 0 n) (hm : (t, k) ∈ ids (nM S)) (he : cel cA ad S t k = .inr (ci, fs)) (hcl : vwCl[ci]? = some q) (hCn : q.1 = Cn) (hn : As.length = n) (hst : st = As.reverse ++ .ref (ad t k) :: rest) (hW : (rest.map fun v => v.category).sum ≤ 8) (hR : kc + 0 ≤ R.cells ∧ ks + 0 ≤ R.slots) (d : decode cc pc = .ok (.invokevirtual index, 3)) : RnC kc ks p l e R s m args below meth c nL D cA ad A pc lv st rest S Qc := fun H locs ls hl hP hD hS => by
  subst hst
  obtain ⟨p0, -, hq⟩ := lW_get cA ad S hm
  rw [he] at hq
  have hrecv := va_recv C.2.2.2.2.2.1 hP hcl hq
  rw [hCn] at hrecv
  exact ⟨_, va_runU (As := As) (rest := rest) ⟨C.1, C.2.1, C.2.2.1, C.2.2.2.1, C.2.2.2.2.1⟩ (hM H.size) cw ⟨pre_blind, hrecv, fun U hU hW => ⟨rfl, by rw [hU], by rw [hU]; exact hP, va_K.moved hW.alike C.2.2.2.2.2.1, hD.weaken (fun _ _ _ _ => trivial)⟩⟩ rfl hn hl.1 rfl (lv_room hW) d hR⟩
theorem rc_SU (C : Cx p s m args c cc nL Ts own D cA A) {y : MethodName} {ws : List Cond} {rm : Room} {bytes : ByteArray} {maxL n index t k ci : Nat} {ret : Option FieldType} {As : List Value} {Qc : (Sg → State → Prop) → (Nat → Prop) → Array Value → State → Outcome → State → Prop} {Cn : String} {fs : List Value} {q : vw_C} (hM : Ct l y ws rm D cA ad (.ref (ad t k) :: As) S Qc) (cw : va_CS R s args own index y bytes maxL ret ws rm 0 0 n) (hm : (t, k) ∈ ids (nM S)) (he : cel cA ad S t k = .inr (ci, fs)) (hcl : vwCl[ci]? = some q) (hCn : q.1 = Cn) (hn : As.length = n) (hst : st = As.reverse ++ .ref (ad t k) :: rest) (hW : (rest.map fun v => v.category).sum ≤ 8) (hR : kc + 0 ≤ R.cells ∧ ks + 0 ≤ R.slots) (d : decode cc pc = .ok (.invokespecial index, 3)) : RnC kc ks p l e R s m args below meth c nL D cA ad A pc lv st rest S Qc := fun H locs ls hl hP hD hS => by
  subst hst
  obtain ⟨p0, -, hq⟩ := lW_get cA ad S hm
  rw [he] at hq
  have hrecv := va_recv C.2.2.2.2.2.1 hP hcl hq
  have hat := (C.2.2.2.2.2.1.1 ci q hcl).2
  rw [hCn] at hrecv hat
  exact ⟨_, va_runSU (As := As) (rest := rest) hat ⟨C.1, C.2.1, C.2.2.1, C.2.2.2.1, C.2.2.2.2.1⟩ (hM H.size) cw ⟨pre_blind, hrecv, fun U hU hW => ⟨rfl, by rw [hU], by rw [hU]; exact hP, va_K.moved hW.alike C.2.2.2.2.2.1, hD.weaken (fun _ _ _ _ => trivial)⟩⟩ rfl hn hl.1 rfl (lv_room hW) d hR⟩
theorem rc_S (C : Cx p s m args c cc nL Ts own D cA A) {y : MethodName} {ws : List Cond} {rm : Room} {bytes : ByteArray} {maxL n index : Nat} {ret : Option FieldType} {As : List Value} {Qc : (Sg → State → Prop) → (Nat → Prop) → Array Value → State → Outcome → State → Prop} (hM : Ct l y ws rm D cA ad As S Qc) (cw : CallB R s args own index y bytes maxL ret ws rm 0 0 n ∧ (Cond.static y).before args s = true) (hn : As.length = n) (hst : st = As.reverse ++ rest) (hW : (rest.map fun v => v.category).sum ≤ 8) (hR : kc + 0 ≤ R.cells ∧ ks + 0 ≤ R.slots) (d : decode cc pc = .ok (.invokestatic index, 3)) : RnC kc ks p l e R s m args below meth c nL D cA ad A pc lv st rest S Qc := fun H locs ls hl hP hD hS => by
  subst hst
  exact ⟨_, va_runS (As := As) (rest := rest) ⟨C.1, C.2.1, C.2.2.1, C.2.2.2.1, C.2.2.2.2.1⟩ (hM H.size) cw ⟨pre_blind, fun U hU hW => ⟨rfl, by rw [hU], by rw [hU]; exact hP, va_K.moved hW.alike C.2.2.2.2.2.1, hD.weaken (fun _ _ _ _ => trivial)⟩⟩ rfl hn hl.1 rfl (lv_room hW) d hR⟩
theorem c_afterI (C : Cx p s m args c cc nL Ts own D cA A) (Wp : (Int32 → Sg → Prop) → Prop) {post : Int32 → Sg → Prop} (hw : Wp post) (hr : ∀ post : Int32 → Sg → Prop, Wp post → RnC kc ks p l e R s m args below meth c nL D cA ad A pc lv st rest S (fun B A => va_Qi post B A)) (kk : ∀ (r : Int32) (S' : Sg), post r S' → KC kc ks p l e R s m args below meth c nL D cA ad A Q (pc + 3) lv (.int r :: rest) S') : KC kc ks p l e R s m args below meth c nL D cA ad A Q pc lv st S := fun H locs ls hl hP hD hS => by
  obtain ⟨av, hrun⟩ := hr post hw H locs ls hl hP hD hS
  have hF := lW_free hD hS C.2.2.2.2.2.2
  refine va_calli hrun hS (fun q _ h => hF q h) hF (fun r S' t H1 locs1 ht hvm hw hB hz1 hk1 hS1 => ?_)
  obtain ⟨hP1, hD1⟩ := hB
  rw [ht] at hP1
  exact kk r S' hw H1 locs1 ls hl hP1 (hD1.weaken (fun _ _ _ h => hF _ h)) hS1
theorem c_afterL (C : Cx p s m args c cc nL Ts own D cA A) (Wp : (Int64 → Sg → Prop) → Prop) {post : Int64 → Sg → Prop} (hw : Wp post) (hr : ∀ post : Int64 → Sg → Prop, Wp post → RnC kc ks p l e R s m args below meth c nL D cA ad A pc lv st rest S (fun B A => va_Ql post B A)) (kk : ∀ (r : Int64) (S' : Sg), post r S' → KC kc ks p l e R s m args below meth c nL D cA ad A Q (pc + 3) lv (.long r :: rest) S') : KC kc ks p l e R s m args below meth c nL D cA ad A Q pc lv st S := fun H locs ls hl hP hD hS => by
  obtain ⟨av, hrun⟩ := hr post hw H locs ls hl hP hD hS
  have hF := lW_free hD hS C.2.2.2.2.2.2
  refine va_calll hrun hS (fun q _ h => hF q h) hF (fun r S' t H1 locs1 ht hvm hw hB hz1 hk1 hS1 => ?_)
  obtain ⟨hP1, hD1⟩ := hB
  rw [ht] at hP1
  exact kk r S' hw H1 locs1 ls hl hP1 (hD1.weaken (fun _ _ _ h => hF _ h)) hS1
theorem c_afterV (C : Cx p s m args c cc nL Ts own D cA A) (Wp : (Sg → Prop) → Prop) {post : Sg → Prop} (hw : Wp post) (hr : ∀ post : Sg → Prop, Wp post → RnC kc ks p l e R s m args below meth c nL D cA ad A pc lv st rest S (fun B A => va_Qv post B A)) (kk : ∀ (S' : Sg), post S' → KC kc ks p l e R s m args below meth c nL D cA ad A Q (pc + 3) lv rest S') : KC kc ks p l e R s m args below meth c nL D cA ad A Q pc lv st S := fun H locs ls hl hP hD hS => by
  obtain ⟨av, hrun⟩ := hr post hw H locs ls hl hP hD hS
  have hF := lW_free hD hS C.2.2.2.2.2.2
  refine va_callv hrun hS (fun q _ h => hF q h) hF (fun S' t H1 locs1 ht hvm hw hB hz1 hk1 hS1 => ?_)
  obtain ⟨hP1, hD1⟩ := hB
  rw [ht] at hP1
  exact kk S' hw H1 locs1 ls hl hP1 (hD1.weaken (fun _ _ _ h => hF _ h)) hS1
theorem c_afterQ (C : Cx p s m args c cc nL Ts own D cA A) (t0 : Nat) (Wp : (Option Nat → Sg → Prop) → Prop) {post : Option Nat → Sg → Prop} (hw : Wp post) (hr : ∀ post : Option Nat → Sg → Prop, Wp post → RnC kc ks p l e R s m args below meth c nL D cA ad A pc lv st rest S (fun B A => va_Qq (fun r u => ∃ o : Option Nat, r = o.map (fun j => ad t0 j) ∧ post o u) B A)) (kn : ∀ S' : Sg, post none S' → KC kc ks p l e R s m args below meth c nL D cA ad A Q (pc + 3) lv (.null :: rest) S') (kj : ∀ (j : Nat) (S' : Sg), post (some j) S' → KC kc ks p l e R s m args below meth c nL D cA ad A Q (pc + 3) lv (.ref (ad t0 j) :: rest) S') : KC kc ks p l e R s m args below meth c nL D cA ad A Q pc lv st S := fun H locs ls hl hP hD hS => by
  obtain ⟨av, hrun⟩ := hr post hw H locs ls hl hP hD hS
  have hF := lW_free hD hS C.2.2.2.2.2.2
  refine va_callq hrun hS (fun q _ h => hF q h) hF (fun r S' t H1 locs1 ht hvm hw hB hz1 hk1 hS1 => ?_)
  obtain ⟨hP1, hD1⟩ := hB
  rw [ht] at hP1
  obtain ⟨o, rfl, ho⟩ := hw
  cases o with
  | none => exact kn S' ho H1 locs1 ls hl hP1 (hD1.weaken (fun _ _ _ h => hF _ h)) hS1
  | some j => exact kj j S' ho H1 locs1 ls hl hP1 (hD1.weaken (fun _ _ _ h => hF _ h)) hS1
end
section
variable {p : Program} {l : Launch} {e : Env} {R : Room} {s : State} {m : MethodId} {args : Array Value} {below : List Frame} {meth : Method} {c : Code} {H : Heap}
theorem vx_callVU {T : State} {locs : List Loc} {cells slots : Nat} (X : Stand p l e R s m args below meth c T locs cells slots) (hexec : p.tables.exec = Jvm.exec) {own C owner : String} {index : Nat} {x y : MethodName}
    (hown : s.vm.findClass own = some m.cls) (hlink : (Cond.methodLink own index x).before args s = true) (hsame : (Cond.sameMethod x.cls owner x.name x.desc).before args s = true)
    (hd0 : va_Decl s ⟨owner, x.name, x.desc⟩) (howner : owner ≠ "java/lang/invoke/MethodHandle" ∧ owner ≠ "java/lang/invoke/VarHandle")
    (hsel : (Cond.selects C x y).before args s = true) (hinst : (Cond.instanceMethod y).before args s = true)
    {W9 : Nat} {Pre : Pt → Array Value → Prop} {Post : Pt → Array Value → Option Value → Pt → Prop} {PostX : Pt → Array Value → Addr → Pt → Prop} (hK : vx_Back l R p e below s args y 3 W9 Pre Post PostX)
    {b : Addr} {cellB : Cell} (hcell : T.heap[b]? = some cellB) (hobj : cellB.vm.isStatics = false) (hcls : s.vm.findClass C = some cellB.cls)
    {g : JFrame} (hg : g.method = m) (hsize : g.locals.size = c.maxLocals) {argsL rest : List Value} (hlen : ∀ sig, parseMethodDescriptor x.desc = some sig → argsL.length = sig.parameters.length)
    (hstack : g.stack = argsL.reverse ++ .ref b :: rest) (hW : 2 * g.monitorRoom + (rest.map fun v => v.category).sum ≤ W9) (hdg : decode c.code g.pc = .ok (.invokevirtual index, 3))
    (hpre : ∀ vm₁, s.WarmedH vm₁ → Pre ⟨T.setVm vm₁, locs, cells, slots⟩ (Value.ref b :: argsL).toArray) :
    (∃ (v : Option Value) (vm₁ : Vm) (B : Pt), s.WarmedH vm₁ ∧ Stand p l e R s m args below meth c B.U B.locs B.cells B.slots ∧ Post ⟨T.setVm vm₁, locs, cells, slots⟩ (Value.ref b :: argsL).toArray v B ∧
      ∀ target, Steps p.tables e below (B.U.setTop { g with pc := g.pc + 3, stack := v.toList ++ rest }) target → Steps p.tables e below (T.setTop g) target) ∨
    (∃ (q : Addr) (vm₁ : Vm) (B : Pt), s.WarmedH vm₁ ∧ Stand p l e R s m args below meth c B.U B.locs B.cells B.slots ∧ PostX ⟨T.setVm vm₁, locs, cells, slots⟩ (Value.ref b :: argsL).toArray q B ∧
      Steps p.tables e below (T.setTop g) ((B.U.setTop { g with stack := rest }).pushFrame (.throwing q))) := by
  obtain ⟨r0, r, hn, hrm, hstR, hsigR⟩ := hd0
  obtain ⟨cn, ck, r1, hcn, hck, hni, hf, hn1⟩ := Cond.sameMethod_found hsame
  cases hn.symm.trans hn1
  obtain ⟨mk, methM, hnamed, hmethM, -, habM⟩ := Cond.instanceMethod_spec hinst
  obtain ⟨c2, r2, m2, q1, q2, q3, q4, kP, hkP, hkPi⟩ := Cond.selects_spec hsel
  cases hcls.symm.trans q1
  cases hf.symm.trans q2
  cases hnamed.symm.trans q3
  have hselP : selectMethod e.platform s.vm cellB.cls r0 = .method mk := by rw [Launch.admits_selectMethod X.admits]; exact q4
  obtain ⟨vm₁, X₁, hstep₁⟩ := X.invokevirtualUp hexec hown hlink hsame howner hn hrm hstR (a := b) (cell := cellB) hcell
    (fun z h => by rw [h] at hobj; cases hobj) hselP hmethM habM hkP hkPi (g := g) hg (argsL := argsL) (rest := rest) (hlen _ hsigR) hstack hdg
  rcases hK m meth c ⟨T.setVm vm₁, locs, cells, slots⟩ { g with stack := rest } (.invokevirtual index) mk (Value.ref b :: argsL).toArray X₁ hg hsize hdg hW (X₁.named hnamed) (hpre vm₁ X₁.warmed) with ⟨v, B, X', hpost, hsteps⟩ | ⟨q, B, X', hpost, hsteps⟩
  · exact Or.inl ⟨v, vm₁, B, X₁.warmed, X', hpost, fun target h => hstep₁ _ fun acts => by rw [doInvoke_state]; exact hsteps.trans h⟩
  · exact Or.inr ⟨q, vm₁, B, X₁.warmed, X', hpost, hstep₁ _ fun acts => by rw [doInvoke_state]; exact hsteps⟩
theorem vx_runU {x y : MethodName} {bytes cc : ByteArray} {maxL nL mc ms n index : Nat} {ret : Option FieldType} {ws : List Cond} {rm : Room} {Pc : Array Value → State → Prop} {Qc : Array Value → State → Outcome → State → Prop} {XC : String → State → State → Prop} {free : Addr → Prop} {Ts : List Cond} {own C owner : String} {b : Addr} {As rest : List Value} {g : JFrame} {locs : List Loc} {cells slots : Nat}
    (S : CallFix p m c cc nL s args Ts own) (hM : vx_Met l y ws rm Pc Qc XC mc ms free) (cw : va_CU R s args own C owner index x y bytes maxL ret ws rm mc ms n) (hp : PreV s H C b Pc As)
    (hg : g.method = m) (hn : As.length = n) (hsize : g.locals.size = nL) (hstack : g.stack = As.reverse ++ .ref b :: rest) (hW : 2 * g.monitorRoom + (rest.map fun v => v.category).sum ≤ 8) (hdg : decode cc g.pc = .ok (.invokevirtual index, 3)) (hf : cells + mc ≤ R.cells ∧ slots + ms ≤ R.slots) :
    vx_Run p l e R s m args below meth c H locs cells slots mc ms g rest (Qc (Value.ref b :: As).toArray) XC free := by
  obtain ⟨hrc, hrs, hfr, hlo, hws, hcw⟩ := cw.back
  have hini := cw.init
  have hK : vx_Back l R p e below s args y 3 8 (PreOf R mc ms Pc) (PostOf Qc mc ms free) (vx_Post XC mc ms free) := vx_back (bytes := bytes) (maxL := maxL) (ret := ret) hM hp.1 hrc hrs hfr hlo hws hcw (fun a' U hW => word_at hW (Or.inl (by first | rfl | simp [Cond.onTables, Cond.keeps, Cond.steady])) hini)
  obtain ⟨hx, hb, hml, ho, -⟩ := S
  obtain ⟨-, ⟨cellB, hcB, hoB, hclB⟩, hPc⟩ := hp
  intro T hT X
  rcases vx_callVU X hx (C := C) (owner := owner) ho cw.link cw.same cw.decl cw.notMH cw.sel cw.inst hK (by rw [hT]; exact hcB) hoB hclB hg (hsize.trans hml.symm) (argsL := As) (rest := rest) (fun sig h => hn.trans (cw.len sig h)) hstack hW (by rw [hb]; exact hdg)
    (fun vm₁ hW₁ => ⟨hf.1, hf.2, hPc (T.setVm vm₁) hT hW₁⟩) with ⟨v, vm₁, ⟨U', l2, c2, s2⟩, hW₁, X', ⟨g', mk, t, L, e1, e2, hq, h1, hL, h2, h3⟩, st⟩ | ⟨q, vm₁, ⟨U', l2, c2, s2⟩, hW₁, X', ⟨g', mk, t, L, E, ce, e1, e2, hq, hce, hcv, hcl, h1, hL, h2, h3⟩, st⟩
  · dsimp only [Pt.U, Pt.locs, Pt.cells, Pt.slots] at X' e1 e2 h1 h2 h3 st
    subst h1; subst h2; subst h3
    exact Or.inl ⟨v, (T.setVm vm₁).calling g' mk (Value.ref b :: As).toArray, t, U', L, hT, X', hL, e1, e2, hq, st⟩
  · dsimp only [Pt.U, Pt.locs, Pt.cells, Pt.slots] at X' e1 e2 h1 h2 h3 st hcl
    subst h1; subst h2; subst h3
    exact Or.inr ⟨q, (T.setVm vm₁).calling g' mk (Value.ref b :: As).toArray, t, U', L, E, ce, hT, X', hL, e1, e2, hq, hce, hcv, vx_cls hW₁ hcl, st⟩
end
