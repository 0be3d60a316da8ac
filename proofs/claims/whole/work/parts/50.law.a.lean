/-! the law: rules for the script and for the calls -/
section
variable {p : Program} {l : Launch} {e : Env} {R : Room} {kc ks : Nat} {s : State} {m : MethodId} {args : Array Value} {below : List Frame} {meth : Method} {c : Code} {nL : Nat} {D : va_G} {cA : Nat → ClassId} {ad : Nat → Nat → Nat} {A : Nat → Prop} {Q : State → Prop} {cc : ByteArray} {Ts : List Cond} {own : String} {pc : Nat} {lv lv' : List (Nat × Value)} {st rest : List Value} {S : Sg}
theorem c_sld (C : Cx p s m args c cc nL Ts own D cA A) {b L : Nat} {xs : Nat → Int32} (hX : va_X b L xs s s.heap) (hbl : b < s.heap.size) (hbA : ¬ A b) {i : Int32} (hin : vp_in i L) (d : decode cc pc = .ok (.iaload, 1)) (kk : KC kc ks p l e R s m args below meth c nL D cA ad A Q (pc + 1) lv (.int (xs i.toNatClampNeg) :: st) S) : KC kc ks p l e R s m args below meth c nL D cA ad A Q pc lv (.int i :: .ref b :: st) S := fun H locs ls hl hP hD hS => va_sld C.1 C.2.1 hX hbl hbA hS hin d (kk H locs ls hl hP hD hS)
theorem c_slen (C : Cx p s m args c cc nL Ts own D cA A) {b L : Nat} {xs : Nat → Int32} (hX : va_X b L xs s s.heap) (hbl : b < s.heap.size) (hbA : ¬ A b) (d : decode cc pc = .ok (.arraylength, 1)) (kk : KC kc ks p l e R s m args below meth c nL D cA ad A Q (pc + 1) lv (.int (nI L) :: st) S) : KC kc ks p l e R s m args below meth c nL D cA ad A Q pc lv (.ref b :: st) S := fun H locs ls hl hP hD hS => va_slen C.1 C.2.1 hX hbl hbA hS d (kk H locs ls hl hP hD hS)
theorem c_callE (C : Cx p s m args c cc nL Ts own D cA A) {y : MethodName} {ws : List Cond} {rm : Room} {bytes : ByteArray} {maxL n index t k ci : Nat} {ret : Option FieldType} {As : List Value} {Cn : String} {fs : List Value} {q : vw_C} {post : Int32 → Sg → Prop} (hE : EX A s s.heap) (hM : CtE l y ws rm D cA ad (.ref (ad t k) :: As) S post) (cw : CallW R s args own Cn index y bytes maxL ret ws rm 0 0 n) (hm : (t, k) ∈ ids (nM S)) (he : cel cA ad S t k = .inr (ci, fs)) (hcl : vwCl[ci]? = some q) (hCn : q.1 = Cn) (hn : As.length = n) (hst : st = As.reverse ++ .ref (ad t k) :: rest) (hW : (rest.map fun v => v.category).sum ≤ 8) (hR : kc + 0 ≤ R.cells ∧ ks + 0 ≤ R.slots) (d : decode cc pc = .ok (.invokevirtual index, 3)) (kk : ∀ (r : Int32) (S' : Sg), post r S' → KC kc ks p l e R s m args below meth c nL D cA ad A Q (pc + 3) lv (.int r :: rest) S') : KC kc ks p l e R s m args below meth c nL D cA ad A Q pc lv st S := fun H locs ls hl hP hD hS => by
  subst hst
  obtain ⟨p0, -, hq⟩ := lW_get cA ad S hm
  rw [he] at hq
  have hF := lW_free hD hS C.2.2.2.2.2.2
  have hrecv := va_recv C.2.2.2.2.2.1 hP hcl hq
  rw [hCn] at hrecv
  refine va_calli (va_runV (As := As) (rest := rest) ⟨C.1, C.2.1, C.2.2.1, C.2.2.2.1, C.2.2.2.2.1⟩ (hM H.size) cw ⟨preX_blind, hrecv, fun U hU hW => ⟨rfl, by rw [hU], by rw [hU]; exact hP, va_K.moved hW.alike C.2.2.2.2.2.1, hD.weaken (fun _ _ _ _ => trivial), EX_at C hE hD hS hU hW⟩⟩ rfl hn hl.1 rfl (lv_room hW) d hR) hS (fun q _ h => hF q h) hF (fun r S' t H1 locs1 ht hvm hw hB hz1 hk1 hS1 => ?_)
  obtain ⟨hP1, hD1⟩ := hB
  rw [ht] at hP1
  exact kk r S' hw H1 locs1 ls hl hP1 (hD1.weaken (fun _ _ _ h => hF _ h)) hS1
theorem c_callWV (C : Cx p s m args c cc nL Ts own D cA A) {y : MethodName} {ws : List Cond} {rm : Room} {bytes : ByteArray} {maxL n index t k ci : Nat} {ret : Option FieldType} {As : List Value} {Cn : String} {fs : List Value} {q : vw_C} {hh : List (Nat × Nat × Nat × Nat)} {post : Int32 → Sg → Prop} (hE : EX A s s.heap) (hM : CtW l y ws rm D cA ad (.ref (ad t k) :: As) S post) (cw : vx_CVW R s args own Cn index y bytes maxL ret hh ws rm 1 6 n) (hm : (t, k) ∈ ids (nM S)) (he : cel cA ad S t k = .inr (ci, fs)) (hcl : vwCl[ci]? = some q) (hCn : q.1 = Cn) (hn : As.length = n) (hst : st = As.reverse ++ .ref (ad t k) :: rest) (hW : (rest.map fun v => v.category).sum ≤ 8) (hR : kc + 1 ≤ R.cells ∧ ks + 6 ≤ R.slots) (d : decode cc pc = .ok (.invokevirtual index, 3)) (kk : ∀ (r : Int32) (S' : Sg), post r S' → KC (kc + 1) (ks + 6) p l e R s m args below meth c nL D cA ad A Q (pc + 3) lv (.int r :: rest) S') : KC kc ks p l e R s m args below meth c nL D cA ad A Q pc lv st S := fun H locs ls hl hP hD hS => by
  subst hst
  obtain ⟨p0, -, hq⟩ := lW_get cA ad S hm
  rw [he] at hq
  have hF := lW_free hD hS C.2.2.2.2.2.2
  have hrecv := va_recv C.2.2.2.2.2.1 hP hcl hq
  rw [hCn] at hrecv
  refine va_calli (vx_runVW (hh := hh) (As := As) (rest := rest) ⟨C.1, C.2.1, C.2.2.1, C.2.2.2.1, C.2.2.2.2.1⟩ (hM H.size) cw ⟨preX_blind, hrecv, fun U hU hW => ⟨rfl, by rw [hU], by rw [hU]; exact hP, va_K.moved hW.alike C.2.2.2.2.2.1, hD.weaken (fun _ _ _ _ => trivial), EX_at C hE hD hS hU hW⟩⟩ rfl hn hl.1 rfl (lv_room hW) d hR) hS (fun q _ h => hF q h) hF (fun r S' t H1 locs1 ht hvm hw hB hz1 hk1 hS1 => ?_)
  obtain ⟨hP1, hD1⟩ := hB
  rw [ht] at hP1
  exact kk r S' hw H1 locs1 ls hl hP1 (hD1.weaken (fun _ _ _ h => hF _ h)) hS1
theorem c_callWS (C : Cx p s m args c cc nL Ts own D cA A) {y : MethodName} {ws : List Cond} {rm : Room} {bytes : ByteArray} {maxL n index : Nat} {ret : Option FieldType} {As : List Value} {hh : List (Nat × Nat × Nat × Nat)} {post : Int32 → Sg → Prop} (hE : EX A s s.heap) (hM : CtW l y ws rm D cA ad As S post) (cw : vx_CSW R s args own index y bytes maxL ret hh ws rm 1 6 n) (hn : As.length = n) (hst : st = As.reverse ++ rest) (hW : (rest.map fun v => v.category).sum ≤ 8) (hR : kc + 1 ≤ R.cells ∧ ks + 6 ≤ R.slots) (d : decode cc pc = .ok (.invokestatic index, 3)) (kk : ∀ (r : Int32) (S' : Sg), post r S' → KC (kc + 1) (ks + 6) p l e R s m args below meth c nL D cA ad A Q (pc + 3) lv (.int r :: rest) S') : KC kc ks p l e R s m args below meth c nL D cA ad A Q pc lv st S := fun H locs ls hl hP hD hS => by
  subst hst
  have hF := lW_free hD hS C.2.2.2.2.2.2
  refine va_calli (vx_runSW (hh := hh) (As := As) (rest := rest) ⟨C.1, C.2.1, C.2.2.1, C.2.2.2.1, C.2.2.2.2.1⟩ (hM H.size) cw ⟨preX_blind, fun U hU hW => ⟨rfl, by rw [hU], by rw [hU]; exact hP, va_K.moved hW.alike C.2.2.2.2.2.1, hD.weaken (fun _ _ _ _ => trivial), EX_at C hE hD hS hU hW⟩⟩ rfl hn hl.1 rfl (lv_room hW) d hR) hS (fun q _ h => hF q h) hF (fun r S' t H1 locs1 ht hvm hw hB hz1 hk1 hS1 => ?_)
  obtain ⟨hP1, hD1⟩ := hB
  rw [ht] at hP1
  exact kk r S' hw H1 locs1 ls hl hP1 (hD1.weaken (fun _ _ _ h => hF _ h)) hS1
theorem c_callK (C : Cx p s m args c cc nL Ts own D cA A) {y : MethodName} {ws : List Cond} {rm : Room} {bytes : ByteArray} {maxL n index t k ci : Nat} {ret : Option FieldType} {As : List Value} {Cn : String} {fs : List Value} {q : vw_C} {post : Int32 → (Nat → Nat → Nat) × Sg → Prop} (hE : EM s) (hM : CtK l y ws rm D cA ad (.ref (ad t k) :: As) S post) (cw : CallW R s args own Cn index y bytes maxL ret ws rm 11 172 n) (hm : (t, k) ∈ ids (nM S)) (he : cel cA ad S t k = .inr (ci, fs)) (hcl : vwCl[ci]? = some q) (hCn : q.1 = Cn) (hn : As.length = n) (hst : st = As.reverse ++ .ref (ad t k) :: rest) (hW : (rest.map fun v => v.category).sum ≤ 8) (hR : kc + 11 ≤ R.cells ∧ ks + 172 ≤ R.slots) (d : decode cc pc = .ok (.invokevirtual index, 3)) (kk : ∀ (r : Int32) (u : (Nat → Nat → Nat) × Sg), post r u → KC (kc + 11) (ks + 172) p l e R s m args below meth c nL D cA u.1 A Q (pc + 3) lv (.int r :: rest) u.2) : KC kc ks p l e R s m args below meth c nL D cA ad A Q pc lv st S := fun H locs ls hl hP hD hS => by
  subst hst
  obtain ⟨p0, -, hq⟩ := lW_get cA ad S hm
  rw [he] at hq
  have hF := lW_free hD hS C.2.2.2.2.2.2
  have hrecv := va_recv C.2.2.2.2.2.1 hP hcl hq
  rw [hCn] at hrecv
  refine va_calli (va_runV (As := As) (rest := rest) ⟨C.1, C.2.1, C.2.2.1, C.2.2.2.1, C.2.2.2.2.1⟩ (hM H.size) cw ⟨preM_blind, hrecv, fun U hU hW => ⟨rfl, by rw [hU], by rw [hU]; exact hP, va_K.moved hW.alike C.2.2.2.2.2.1, hD.weaken (fun _ _ _ _ => trivial), EM.warm hW hE⟩⟩ rfl hn hl.1 rfl (lv_room hW) d hR) hS (fun q _ h => hF q h) hF (fun r S' t H1 locs1 ht hvm hw hB hz1 hk1 hS1 => ?_)
  obtain ⟨hP1, hD1⟩ := hB
  rw [ht] at hP1
  exact kk r S' hw H1 locs1 ls hl hP1 (hD1.weaken (fun _ _ _ h => hF _ h)) hS1
end
