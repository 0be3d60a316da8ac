section
variable {p : Program} {l : Launch} {e : Env} {R : Room} {kc ks : Nat} {s : State} {m : MethodId} {args : Array Value} {below : List Frame} {meth : Method} {c : Code} {nL : Nat} {D : va_G} {cA : Nat → ClassId} {A : Nat → Prop} {Q : State → Prop} {cc : ByteArray} {Ts : List Cond} {own : String} {pc : Nat} {lv lv' : List (Nat × Value)} {st rest : List Value} {ws : va_W}
theorem e_istore_n (C : Cx p s m args c cc nL Ts own D cA A) {k : Fin 4} {i : Nat} {x : Int32} (d : decode cc pc = .ok (.istore_n k, 1)) (hi : (k : Nat) = i) (hn : i < nL) (lv' : List (Nat × Value)) (hlv : (i, Value.int x) :: lv.filter (fun q => !(q.1 == i) && !(q.1 + 1 == i && q.2.category == 2)) = lv') (kk : KE kc ks p l e R s m args below meth c nL D A Q (pc + 1) lv' st ws) : KE kc ks p l e R s m args below meth c nL D A Q pc lv (.int x :: st) ws :=
  fun H locs ls hl hP hD hS => lv_istore_n C.1 C.2.1 d hi hl hn hlv (fun ls hl => kk H locs ls hl hP hD hS)
theorem e_iinc (C : Cx p s m args c cc nL Ts own D cA A) {i j : Nat} {n : Int} {x v : Int32} (d : decode cc pc = .ok (.iinc i n, 3)) (hj : lv[j]? = some (i, .int x)) (hv : x + Int32.ofInt n = v) (hn : i < nL) (lv' : List (Nat × Value)) (hlv : (i, Value.int v) :: lv.filter (fun q => !(q.1 == i) && !(q.1 + 1 == i && q.2.category == 2)) = lv') (kk : KE kc ks p l e R s m args below meth c nL D A Q (pc + 3) lv' st ws) : KE kc ks p l e R s m args below meth c nL D A Q pc lv st ws :=
  fun H locs ls hl hP hD hS => lv_iinc C.1 C.2.1 d hl hj hv hn hlv (fun ls hl => kk H locs ls hl hP hD hS)
theorem e_icmp_ge (C : Cx p s m args c cc nL Ts own D cA A) {x y : Int32} {off : Int} (tgt : Nat) (d : decode cc pc = .ok (.if_icmp .ge off, 3)) (ht : (pc : Int) + off = (tgt : Int)) (kt : y ≤ x → KE kc ks p l e R s m args below meth c nL D A Q tgt lv st ws) (kf : ¬ y ≤ x → KE kc ks p l e R s m args below meth c nL D A Q (pc + 3) lv st ws) : KE kc ks p l e R s m args below meth c nL D A Q pc lv (.int y :: .int x :: st) ws :=
  fun H locs ls hl hP hD hS => lv_icmp_ge C.1 C.2.1 d ht (fun q => kt q H locs ls hl hP hD hS) (fun q => kf q H locs ls hl hP hD hS)
theorem e_get (C : Cx p s m args c cc nL Ts own D cA A) {h ci index j N q0 : Nat} {ref Cn : String} {Tt : u_T} {fs : List Value} {v : Value} (hin : ∀ w ∈ u_ws Cn Tt N, w ∈ Ts) (he : ws[q0]? = some (h, .inr (ci, fs))) (hc : vwCl[ci]? = some (Cn, Tt, N)) (hj : j < N) (hlink : Cond.fieldLink own index ref (Tt j).2.1 (Tt j).2.2.1 ∈ Ts) (hsame : ∀ x, s.fieldFound? (Tt j).1 (Tt j).2.1 (Tt j).2.2.1 = some x → s.fieldFound? ref (Tt j).2.1 (Tt j).2.2.1 = some x) (hv : fs[j]? = some v) (d : decode cc pc = .ok (.getfield index, 3)) (kk : KE kc ks p l e R s m args below meth c nL D A Q (pc + 3) lv (v :: st) ws) : KE kc ks p l e R s m args below meth c nL D A Q pc lv (.ref h :: st) ws := fun H locs ls hl hP hD hS =>
  va_get C.1 C.2.1 C.2.2.2.2.1 hin C.2.2.2.1 C.2.2.2.2.2.1 hP q0 he hc j hj (C.2.2.2.2.1 _ hlink) hsame hv d (kk H locs ls hl hP hD hS)
theorem e_cell {i b n : Nat} {cid : ClassId} {f : Nat → Option Nat} (g : Nat → Option Nat) (he : ws[i]? = some (b, .inl (cid, n, .inr (.inr (.inr (.inr f)))))) (hfg : ∀ j, j < n → f j = g j) (kk : KE kc ks p l e R s m args below meth c nL D A Q pc lv st (ws.set i (b, .inl (cid, n, .inr (.inr (.inr (.inr g))))))) : KE kc ks p l e R s m args below meth c nL D A Q pc lv st ws := fun H locs ls hl hP hD hS => by
  refine kk H locs ls hl (fun k q hk => ?_) (vd_of_map (set_fst he rfl) hD) hS
  rw [List.getElem?_set] at hk
  by_cases hik : i = k
  · subst hik
    rw [if_pos rfl, if_pos (List.getElem?_eq_some_iff.mp he).1] at hk
    cases hk
    exact at_cong hfg (hP i _ he)
  · rw [if_neg hik] at hk
    exact hP k q hk
theorem e_newq (C : Cx p s m args c cc nL Ts own D cA A) {n : Int32} {index : Nat} (Cn : String) (j N : Nat) (hov : va_AO Cn s) (hlk : Cond.classLink own index Cn ∈ Ts) (hj : (tyl cA)[j]? = some (cA j, .object Cn)) (hn : ¬ n < 0) (hN : n.toNatClampNeg = N) (hb : N * 4 ≤ 536870912) (hR : kc + 1 ≤ R.cells ∧ ks + N ≤ R.slots) (d : decode cc pc = .ok (.anewarray index, 3)) (kk : ∀ q : Nat, KE (kc + 1) (ks + N) p l e R s m args below meth c nL D A Q (pc + 3) lv (.ref q :: st) (ws ++ [(q, .inl (cA j, N, .inr (.inr (.inr (.inr (fun _ => none))))))])) : KE kc ks p l e R s m args below meth c nL D A Q pc lv (.int n :: st) ws := fun H locs ls hl hP hD hS => by
  refine va_newq C.1 C.2.1 C.2.2.2.1 (C.2.2.2.2.1 _ hlk) hov C.2.2.2.2.2.1 hP hD hS C.2.2.2.2.2.2 hn hN hb hR.1 hR.2 d (fun q cA' H1 hK1 hP1 hD1 hS1 => ?_)
  have he : cA' = cA j := by
    obtain ⟨-, -, -, -, -, -, f1⟩ := hK1.2 6 (cA', .object Cn) rfl
    obtain ⟨-, -, -, -, -, -, f2⟩ := C.2.2.2.2.2.1.2 j (cA j, .object Cn) hj
    exact Option.some.inj (Eq.trans (Eq.symm f1) f2)
  subst he
  exact kk q H1 locs ls hl hP1 hD1 hS1
theorem e_callN {υ : Type} (C : Cx p s m args c cc nL Ts own D cA A) {X : va_W} {y : MethodName} {wy : List Cond} {rm : Room} {bytes : ByteArray} {maxL index h mc ms : Nat} {host : String} {d0 : Nat × List Value} {nw : υ → va_W} (hM : ∀ sz : Nat, Met l y wy rm (va_Pc [.ref h] (fun U => U.heap.size = sz ∧ va_P D vwCl [(h, .inr d0)] U.heap ∧ va_K D vwCl (tyl cA) U ∧ va_D (fun _ => True) [(h, .inr d0)])) (va_Qv (fun _ => True) (fun (u : υ) t => va_P D vwCl (nw u) t.heap ∧ va_D (va_A [(h, .inr d0)] sz) (nw u)) (va_A [(h, .inr d0)] sz)) mc ms (va_A [(h, .inr d0)] sz)) (cw : va_CN R s args own index y host bytes maxL none wy rm mc ms 0 ∧ y.name = "<init>" ∧ (Cond.instanceMethod y).before args s = true) (hW : (rest.map fun v => v.category).sum ≤ 8) (hR : kc + mc ≤ R.cells ∧ ks + ms ≤ R.slots) (d : decode cc pc = .ok (.invokespecial index, 3)) (kk : ∀ u : υ, KE (kc + mc) (ks + ms) p l e R s m args below meth c nL D A Q (pc + 3) lv rest (X ++ nw u)) : KE kc ks p l e R s m args below meth c nL D A Q pc lv (.ref h :: rest) (X ++ [(h, .inr d0)]) := fun H locs ls hl hP hD hS => by
  have hF : ∀ q, va_A [(h, .inr d0)] H.size q → A q := by
    intro q hq
    rcases hq with ⟨k, e, hk⟩ | hq
    · exact (vd_right hD).2 k _ hk
    · exact C.2.2.2.2.2.2 q (Nat.le_trans hS.1 hq)
  refine va_callv (va_runIN (As := []) (rest := rest) ⟨C.1, C.2.1, C.2.2.1, C.2.2.2.1, C.2.2.2.2.1⟩ (hM H.size) cw ⟨fun a U g mk q => by
      obtain ⟨q0, q1, qP, qK, qD⟩ := q
      exact ⟨q0, q1, qP, va_K.moved (u := U) (U := U.calling g mk a) (Vm.Alike.refl U.vm) qK, qD⟩, fun U hU hW => ⟨rfl, by rw [hU], by rw [hU]; exact va_right hP, va_K.moved hW.alike C.2.2.2.2.2.1, (vd_right hD).weaken (fun _ _ _ _ => trivial)⟩⟩ rfl rfl hl.1 rfl (lv_room hW) d hR) hS (fun q _ h => hF q h) hF (fun u t H1 locs1 ht hvm hw hB hz1 hk1 hS1 => ?_)
  obtain ⟨hP1, hD1⟩ := hB
  rw [ht] at hP1
  obtain ⟨hP2, hD2⟩ := va_frame hP hD hk1 hF hP1 hD1
  exact kk u H1 locs1 ls hl hP2 hD2 hS1
theorem e_callNA {υ : Type} (C : Cx p s m args c cc nL Ts own D cA A) (hov : va_AOA .int s) {X : va_W} {y : MethodName} {wy : List Cond} {rm : Room} {bytes : ByteArray} {maxL index h mc ms : Nat} {host : String} {d0 : Nat × List Value} {nw : υ → va_W} (hM : ∀ sz : Nat, Met l y wy rm (va_Pc [.ref h] (fun U => U.heap.size = sz ∧ va_P D vwCl [(h, .inr d0)] U.heap ∧ va_K D vwCl (tyl cA) U ∧ va_D (fun _ => True) [(h, .inr d0)] ∧ va_AOA .int U)) (va_Qv (fun _ => True) (fun (u : υ) t => va_P D vwCl (nw u) t.heap ∧ va_D (va_A [(h, .inr d0)] sz) (nw u)) (va_A [(h, .inr d0)] sz)) mc ms (va_A [(h, .inr d0)] sz)) (cw : va_CN R s args own index y host bytes maxL none wy rm mc ms 0 ∧ y.name = "<init>" ∧ (Cond.instanceMethod y).before args s = true) (hW : (rest.map fun v => v.category).sum ≤ 8) (hR : kc + mc ≤ R.cells ∧ ks + ms ≤ R.slots) (d : decode cc pc = .ok (.invokespecial index, 3)) (kk : ∀ u : υ, KE (kc + mc) (ks + ms) p l e R s m args below meth c nL D A Q (pc + 3) lv rest (X ++ nw u)) : KE kc ks p l e R s m args below meth c nL D A Q pc lv (.ref h :: rest) (X ++ [(h, .inr d0)]) := fun H locs ls hl hP hD hS => by
  have hF : ∀ q, va_A [(h, .inr d0)] H.size q → A q := by
    intro q hq
    rcases hq with ⟨k, e, hk⟩ | hq
    · exact (vd_right hD).2 k _ hk
    · exact C.2.2.2.2.2.2 q (Nat.le_trans hS.1 hq)
  refine va_callv (va_runIN (As := []) (rest := rest) ⟨C.1, C.2.1, C.2.2.1, C.2.2.2.1, C.2.2.2.2.1⟩ (hM H.size) cw ⟨fun a U g mk q => by
      obtain ⟨q0, q1, qP, qK, qD, qO⟩ := q
      exact ⟨q0, q1, qP, va_K.moved (u := U) (U := U.calling g mk a) (Vm.Alike.refl U.vm) qK, qD, va_AOA.moved (u := U) (U := U.calling g mk a) (Vm.Alike.refl U.vm) qO⟩, fun U hU hW => ⟨rfl, by rw [hU], by rw [hU]; exact va_right hP, va_K.moved hW.alike C.2.2.2.2.2.1, (vd_right hD).weaken (fun _ _ _ _ => trivial), va_AOA.moved hW.alike hov⟩⟩ rfl rfl hl.1 rfl (lv_room hW) d hR) hS (fun q _ h => hF q h) hF (fun u t H1 locs1 ht hvm hw hB hz1 hk1 hS1 => ?_)
  obtain ⟨hP1, hD1⟩ := hB
  rw [ht] at hP1
  obtain ⟨hP2, hD2⟩ := va_frame hP hD hk1 hF hP1 hD1
  exact kk u H1 locs1 ls hl hP2 hD2 hS1
theorem e_astq (C : Cx p s m args c cc nL Ts own D cA A) (q0 t0 qk ci : Nat) {cid : ClassId} {r : vw_C} {n v a : Nat} {vs : List Value} {f : Nat → Option Nat} (ha : ws[q0]? = some (a, .inl (cid, n, .inr (.inr (.inr (.inr f)))))) (ht : (tyl cA)[t0]? = some (cid, .object r.1)) (hv : ws[qk]? = some (v, .inr (ci, vs))) (hc : vwCl[ci]? = some r) {i : Int32} (hin : vp_in i n) (d : decode cc pc = .ok (.aastore, 1)) (kk : KE kc ks p l e R s m args below meth c nL D A Q (pc + 1) lv st (ws.set q0 (a, .inl (cid, n, .inr (.inr (.inr (.inr (va_up f i.toNatClampNeg (some v))))))))) : KE kc ks p l e R s m args below meth c nL D A Q pc lv (.ref v :: .int i :: .ref a :: st) ws := fun H locs ls hl hP hD hS =>
  va_astq C.1 C.2.1 C.2.2.2.2.2.1 hP hD hS q0 t0 qk ci ha ht hv hc hin d (fun H1 locs1 hP1 hD1 hS1 => kk H1 locs1 ls hl hP1 hD1 hS1)
end
/-- the state before the first call -/
def S0 : Sg := (fun _ _ _ => 0, fun _ _ _ => 0, fun _ _ _ => 0, 0, fun _ => 0, fun _ => none)
/-- the cells of some numbers -/
def lWL (cA : Nat → ClassId) (ad : Nat → Nat → Nat) (S : Sg) (L : List (Nat × Nat)) : va_W := L.map (fun i => (ad i.1 i.2, cel cA ad S i.1 i.2))
def bIds : List (Nat × Nat) := [(0, 0), (1, 0), (3, 0), (4, 0), (5, 0), (6, 0), (7, 0), (8, 0), (9, 0), (10, 0), (11, 0), (12, 0), (13, 0), (14, 0), (15, 0), (16, 0), (17, 0), (18, 0), (19, 0), (19, 1), (19, 2), (19, 3), (19, 4), (19, 5), (19, 6), (19, 7), (19, 8), (19, 9), (20, 0), (21, 0), (21, 1), (21, 2), (21, 3), (21, 4), (21, 5), (21, 6), (21, 7), (21, 8), (21, 9), (22, 0), (23, 0), (2, 0), (24, 0), (25, 0), (24, 1), (25, 1), (24, 2), (25, 2), (24, 3), (25, 3), (24, 4), (25, 4), (24, 5), (25, 5), (24, 6), (25, 6), (24, 7), (25, 7)]
def adB (h q0 q1 q2 q3 q4 q5 : Nat) (a1 a2 a3 : Nat → Nat) (u4 : (Nat → Nat) × (Nat → Nat) × (Nat → Nat)) (g b : Nat → Nat) (t k : Nat) : Nat :=
  if t = 0 then h else if t = 1 then q0 else if t = 2 then q5 else if t = 3 then q1 else if t = 4 then a1 0 else if t = 5 then a1 1 else if t = 6 then q2 else if t = 7 then a2 0 else if t = 8 then a2 1 else if t = 9 then a2 2 else if t = 10 then a2 3 else if t = 11 then q3 else if t = 12 then a3 0 else if t = 13 then a3 1 else if t = 14 then q4 else if t = 15 then u4.1 0 else if t = 16 then u4.1 1 else if t = 17 then u4.1 2 else if t = 18 then u4.1 3 else if t = 19 then u4.2.1 k else if t = 20 then u4.1 4 else if t = 21 then u4.2.2 k else if t = 22 then u4.1 5 else if t = 23 then u4.1 6 else if t = 24 then g k else if t = 25 then b k else 0
def EB (U : State) : Prop := va_AOA .int U ∧ va_AO "CreepBoard$Mark" U ∧ va_AO "CreepBoard$Shelf" U ∧ va_Nw (.methodLinkNest RX9 17 yX5_init RX9) U ∧ va_Nw (.methodLinkNest RX9 24 yX0_init RX9) U ∧ va_Nw (.methodLinkNest RX9 31 yX7_init RX9) U ∧ va_Nw (.methodLinkNest RX9 38 yX2_init RX9) U ∧ va_Nw (.methodLinkNest RX9 49 yX6_init RX9) U
theorem EB.warm {s U : State} (hW : s.WarmedH U.vm) (h : EB s) : EB U := ⟨va_AOA.moved hW.alike h.1, va_AO.moved hW.alike h.2.1, va_AO.moved hW.alike h.2.2.1, va_Nw.warmM hW h.2.2.2.1, va_Nw.warmM hW h.2.2.2.2.1, va_Nw.warmM hW h.2.2.2.2.2.1, va_Nw.warmM hW h.2.2.2.2.2.2.1, va_Nw.warmM hW h.2.2.2.2.2.2.2⟩
abbrev n0_X9 : Nat × List Value := (9, [.null, .null, .null, .null, .null, .null, .int 0, .int 0])
abbrev preB (cA : Nat → ClassId) (h q0 q1 q2 q3 q4 q5 : Nat) (a1 a2 a3 : Nat → Nat) (u4 : (Nat → Nat) × (Nat → Nat) × (Nat → Nat)) : va_W := ([(h, .inr (9, [.ref q0, .ref q1, .ref q2, .ref q3, .ref q4, .ref q5, .int 0, .int 0])), (q0, .inl (cA 3, 10, .inr (.inr (.inr (.inr (fun _ => none))))))] ++ nw_X5 cA q1 a1 ++ nw_X0 cA q2 a2 ++ nw_X7 cA q3 a3 ++ nw_X2 cA q4 u4)
abbrev shB (cA : Nat → ClassId) (d : Nat) (g : Nat → Nat) : va_E := .inl (cA 4, 8, .inr (.inr (.inr (.inr (fun j => if j < d then some (g j) else none)))))
abbrev flB (cA : Nat → ClassId) (d : Nat) (g b : Nat → Nat) : va_W := (List.range d).flatMap (fun i => nw_X6 cA (g i) (fun _ => b i))
theorem fm_congr {α β : Type} {f g : α → List β} {l : List α} (h : ∀ x ∈ l, f x = g x) : l.flatMap f = l.flatMap g := by
  induction l with
  | nil => rfl
  | cons a l ih =>
    rw [List.flatMap_cons, List.flatMap_cons, h a List.mem_cons_self, ih (fun x hx => h x (List.mem_cons_of_mem _ hx))]
theorem flB_succ (cA : Nat → ClassId) (d q r : Nat) (g b : Nat → Nat) : flB cA d g b ++ nw_X6 cA q (fun _ => r) = flB cA (d + 1) (va_up g d q) (va_up b d r) := by
  unfold flB
  rw [List.range_succ, List.flatMap_append]
  congr 1
  · refine fm_congr (fun i hi => ?_)
    have hi := List.mem_range.mp hi
    have e1 : va_up g d q i = g i := if_neg (by omega)
    have e2 : va_up b d r i = b i := if_neg (by omega)
    rw [e1, e2]
  · have e1 : va_up g d q d = q := if_pos rfl
    have e2 : va_up b d r d = r := if_pos rfl
    simp only [List.flatMap_cons, List.flatMap_nil, List.append_nil, e1, e2]
theorem shB_succ (d q : Nat) (g : Nat → Nat) : va_up (fun j => if j < d then some (g j) else none) d (some q) = fun j => if j < d + 1 then some (va_up g d q j) else none := by
  funext j
  show (if j = d then some q else if j < d then some (g j) else none) = if j < d + 1 then some (if j = d then q else g j) else none
  by_cases hj : j = d
  · rw [if_pos hj, if_pos (by omega), if_pos hj]
  · rw [if_neg hj, if_neg hj]
    by_cases hj2 : j < d
    · rw [if_pos hj2, if_pos (by omega)]
    · rw [if_neg hj2, if_neg (by omega)]
set_option maxHeartbeats 4000000 in
set_option maxRecDepth 100000 in
theorem ct_X9_init (l : Launch) (D : va_G) (cA : Nat → ClassId) (h : Nat) (sz : Nat) : Met l yX9_init wsX9_init { frames := 2, cells := 57, slots := 4006, locals := 40 } (va_Pc [.ref h] (fun U => U.heap.size = sz ∧ va_P D vwCl [(h, .inr n0_X9)] U.heap ∧ va_K D vwCl (tyl cA) U ∧ va_D (fun _ => True) [(h, .inr n0_X9)] ∧ EB U)) (va_Qv (fun ad => ad 0 0 = h) (fun (ad : Nat → Nat → Nat) t => va_P D vwCl (lWL cA ad S0 bIds) t.heap ∧ va_D (va_A [(h, .inr n0_X9)] sz) (lWL cA ad S0 bIds)) (va_A [(h, .inr n0_X9)] sz)) 57 4006 (va_A [(h, .inr n0_X9)] sz) := by
  refine Met.ofW (cc := cX9_init) (maxL := 2) (ret := none) (by decide) rfl ?_
  intro p e s m args below meth c s₁ B hml hv
  obtain ⟨rfl, hsz, hP, hK, hD0, hE⟩ := hv
  subst hsz
  have hD := hD0.self (sz := s.heap.size)
  generalize hAe : va_A [(h, .inr n0_X9)] s.heap.size = A at hD ⊢
  have hA : ∀ q : Nat, s.heap.size ≤ q → A q := fun q h => by rw [← hAe]; exact Or.inr h
  have hl := lv_entry [.ref h] (n := 2) (Nat.le_of_ble_eq_true rfl)
  rw [lg_entry_eq]
  have hin2 : meth.name = "<init>" := (name_of_methodNamed B.named B.method).1
  have hr := B.returns
  have hk := B.notSynchronized
  have C : Cx p s m _ c cX9_init 2 wsX9_init RX9 D cA A := ⟨B.exec, B.bytes, hml, findClass_of_methodNamed B.named, atoms_spec (ws := wsX9_init) B.pre, hK, hA⟩
  have hin9 : ∀ w ∈ u_ws RX9 TX9 8, w ∈ wsX9_init := fun w h => List.mem_cons_of_mem _ (List.mem_append_left _ (List.mem_append_left _ (List.mem_append_left _ (List.mem_append_left _ (List.mem_append_left _ (List.mem_append_right _ h))))))
  have hin5 : ∀ w ∈ u_ws RX5 TX5 3, w ∈ wsX9_init := fun w h => List.mem_cons_of_mem _ (List.mem_append_left _ (List.mem_append_left _ (List.mem_append_left _ (List.mem_append_left _ (List.mem_append_right _ h)))))
  have hin0 : ∀ w ∈ u_ws RX0 TX0 6, w ∈ wsX9_init := fun w h => List.mem_cons_of_mem _ (List.mem_append_left _ (List.mem_append_left _ (List.mem_append_left _ (List.mem_append_right _ h))))
  have hin7 : ∀ w ∈ u_ws RX7 TX7 6, w ∈ wsX9_init := fun w h => List.mem_cons_of_mem _ (List.mem_append_left _ (List.mem_append_left _ (List.mem_append_right _ h)))
  have hin2' : ∀ w ∈ u_ws RX2 TX2 11, w ∈ wsX9_init := fun w h => List.mem_cons_of_mem _ (List.mem_append_left _ (List.mem_append_right _ h))
  have hin6 : ∀ w ∈ u_ws RX6 TX6 4, w ∈ wsX9_init := fun w h => List.mem_cons_of_mem _ (List.mem_append_right _ h)
  refine (?_ : ∀ (Q : State → Prop), (∀ (ad : Nat → Nat → Nat) (lv : List (Nat × Value)), ad 0 0 = h → KE 57 4006 p l e { frames := 2, cells := 57, slots := 4006, locals := 40 } s m [Value.ref h].toArray below meth c 2 D A Q 93 lv [] (lWL cA ad S0 bIds)) → KE 0 0 p l e { frames := 2, cells := 57, slots := 4006, locals := 40 } s m [Value.ref h].toArray below meth c 2 D A Q 0 [(0, .ref h)] [] [(h, .inr n0_X9)]) _ (fun ad lv hh H locs ls hl hP hD hS => W.vret C.1 C.2.1 hr (fun t ht hW => ⟨⟨ad, rfl, hh, by rw [ht]; exact hP, hD⟩, hS.F ht⟩) hS.2.2 dX9_init_93 hk) s.heap [] _ hl hP hD va_S.rf
  intro Q hret
  refine e_aload_n (pc := 0) C dX9_init_0 0 rfl rfl ?_
  refine e_objInit (pc := 1) C (by decide +kernel) (by decide +kernel) (by decide +kernel) ⟨Nat.le_of_ble_eq_true rfl, Nat.le_of_ble_eq_true rfl⟩ dX9_init_1 ?_
  refine e_aload_n (pc := 4) C dX9_init_4 0 rfl rfl ?_
  refine e_bipush (v := 10) (pc := 5) C dX9_init_5 (by decide) ?_
  refine e_newq (pc := 7) C "CreepBoard$Mark" 3 10 hE.2.1 (by decide +kernel : Cond.classLink RX9 9 RX3 ∈ wsX9_init) rfl (by decide) (by decide) (by decide) ⟨Nat.le_of_ble_eq_true rfl, Nat.le_of_ble_eq_true rfl⟩ dX9_init_7 (fun q0 => ?_)
  refine e_putF (pc := 10) (q0 := 0) (j := 0) (ty := .array (.object "CreepBoard$Mark")) C hin2 hin9 tyX9 tyX9_ok nmX9 rfl rfl (by decide) (by decide +kernel : Cond.fieldLink RX9 11 "CreepBoard" "marks" "[LCreepBoard$Mark;" ∈ wsX9_init) (fun _ h => h) rfl rfl (by decide +kernel) rfl rfl (Nat.le_of_ble_eq_true rfl) dX9_init_10 ?_
  refine e_ws ([(h, .inr (9, [.ref q0, .null, .null, .null, .null, .null, .int 0, .int 0])), (q0, .inl (cA 3, 10, .inr (.inr (.inr (.inr (fun _ => none))))))]) rfl ?_
  refine e_aload_n (pc := 13) C dX9_init_13 0 rfl rfl ?_
  refine e_new (pc := 14) (ci := 5) (N := 3) C n0_X5.2 hin5 tyX5 tyX5_ok (by decide +kernel : Cond.classLink RX9 15 RX5 ∈ wsX9_init) (by decide +kernel) (by decide +kernel) rfl (fun j hj => by rcases (show j = 0 ∨ j = 1 ∨ j = 2 by omega) with rfl | rfl | rfl <;> rfl) ⟨Nat.le_of_ble_eq_true rfl, Nat.le_of_ble_eq_true rfl⟩ dX9_init_14 (fun q1 => ?_)
  refine e_dup (pc := 17) C dX9_init_17 rfl ?_
  refine e_widen (k := 2) (n := 13) (Nat.le_of_ble_eq_true rfl) (Nat.le_of_ble_eq_true rfl) ?_
  refine e_callN (R := { frames := 2, cells := 57, slots := 4006, locals := 40 }) (rest := [.ref q1, .ref h]) (kc := 2) (ks := 13) (pc := 18) (X := ([(h, .inr (9, [.ref q0, .null, .null, .null, .null, .null, .int 0, .int 0])), (q0, .inl (cA 3, 10, .inr (.inr (.inr (.inr (fun _ => none))))))])) (nw := fun u => nw_X5 cA q1 u) C (ct_X5_init l D cA q1) ⟨va_cnB 0 C.2.2.2.2.1 gX9_init_X5_init_n17 rfl rfl rfl hE.2.2.2.1 (C.2.2.2.2.1 (.initialized RX5) (by decide +kernel)) (by decide +kernel) ⟨Nat.le_of_ble_eq_true rfl, Nat.le_of_ble_eq_true rfl⟩, rfl, C.2.2.2.2.1 (.instanceMethod yX5_init) (by decide +kernel)⟩ (Nat.le_of_ble_eq_true rfl) ⟨Nat.le_of_ble_eq_true rfl, Nat.le_of_ble_eq_true rfl⟩ dX9_init_18 (fun a1 => ?_)
  refine e_putF (pc := 21) (q0 := 0) (j := 1) (ty := .object "CreepBoard$Series") C hin2 hin9 tyX9 tyX9_ok nmX9 rfl rfl (by decide) (by decide +kernel : Cond.fieldLink RX9 18 "CreepBoard" "series" "LCreepBoard$Series;" ∈ wsX9_init) (fun _ h => h) rfl rfl (by decide +kernel) rfl rfl (Nat.le_of_ble_eq_true rfl) dX9_init_21 ?_
  refine e_ws ([(h, .inr (9, [.ref q0, .ref q1, .null, .null, .null, .null, .int 0, .int 0])), (q0, .inl (cA 3, 10, .inr (.inr (.inr (.inr (fun _ => none))))))] ++ nw_X5 cA q1 a1) rfl ?_
  refine e_widen (k := 4) (n := 93) (Nat.le_of_ble_eq_true rfl) (Nat.le_of_ble_eq_true rfl) ?_
  refine e_aload_n (pc := 24) C dX9_init_24 0 rfl rfl ?_
  refine e_new (pc := 25) (ci := 0) (N := 6) C n0_X0.2 hin0 tyX0 tyX0_ok (by decide +kernel : Cond.classLink RX9 22 RX0 ∈ wsX9_init) (by decide +kernel) (by decide +kernel) rfl (fun j hj => by rcases (show j = 0 ∨ j = 1 ∨ j = 2 ∨ j = 3 ∨ j = 4 ∨ j = 5 by omega) with rfl | rfl | rfl | rfl | rfl | rfl <;> rfl) ⟨Nat.le_of_ble_eq_true rfl, Nat.le_of_ble_eq_true rfl⟩ dX9_init_25 (fun q2 => ?_)
  refine e_dup (pc := 28) C dX9_init_28 rfl ?_
  refine e_widen (k := 5) (n := 99) (Nat.le_of_ble_eq_true rfl) (Nat.le_of_ble_eq_true rfl) ?_
  refine e_callN (R := { frames := 2, cells := 57, slots := 4006, locals := 40 }) (rest := [.ref q2, .ref h]) (kc := 5) (ks := 99) (pc := 29) (X := ([(h, .inr (9, [.ref q0, .ref q1, .null, .null, .null, .null, .int 0, .int 0])), (q0, .inl (cA 3, 10, .inr (.inr (.inr (.inr (fun _ => none))))))] ++ nw_X5 cA q1 a1)) (nw := fun u => nw_X0 cA q2 u) C (ct_X0_init l D cA q2) ⟨va_cnB 0 C.2.2.2.2.1 gX9_init_X0_init_n24 rfl rfl rfl hE.2.2.2.2.1 (C.2.2.2.2.1 (.initialized RX0) (by decide +kernel)) (by decide +kernel) ⟨Nat.le_of_ble_eq_true rfl, Nat.le_of_ble_eq_true rfl⟩, rfl, C.2.2.2.2.1 (.instanceMethod yX0_init) (by decide +kernel)⟩ (Nat.le_of_ble_eq_true rfl) ⟨Nat.le_of_ble_eq_true rfl, Nat.le_of_ble_eq_true rfl⟩ dX9_init_29 (fun a2 => ?_)
  refine e_putF (pc := 32) (q0 := 0) (j := 2) (ty := .object "CreepBoard$BlockFinder") C hin2 hin9 tyX9 tyX9_ok nmX9 rfl rfl (by decide) (by decide +kernel : Cond.fieldLink RX9 25 "CreepBoard" "blockFinder" "LCreepBoard$BlockFinder;" ∈ wsX9_init) (fun _ h => h) rfl rfl (by decide +kernel) rfl rfl (Nat.le_of_ble_eq_true rfl) dX9_init_32 ?_
  refine e_ws ([(h, .inr (9, [.ref q0, .ref q1, .ref q2, .null, .null, .null, .int 0, .int 0])), (q0, .inl (cA 3, 10, .inr (.inr (.inr (.inr (fun _ => none))))))] ++ nw_X5 cA q1 a1 ++ nw_X0 cA q2 a2) rfl ?_
  refine e_widen (k := 9) (n := 3181) (Nat.le_of_ble_eq_true rfl) (Nat.le_of_ble_eq_true rfl) ?_
  refine e_aload_n (pc := 35) C dX9_init_35 0 rfl rfl ?_
  refine e_new (pc := 36) (ci := 7) (N := 6) C n0_X7.2 hin7 tyX7 tyX7_ok (by decide +kernel : Cond.classLink RX9 29 RX7 ∈ wsX9_init) (by decide +kernel) (by decide +kernel) rfl (fun j hj => by rcases (show j = 0 ∨ j = 1 ∨ j = 2 ∨ j = 3 ∨ j = 4 ∨ j = 5 by omega) with rfl | rfl | rfl | rfl | rfl | rfl <;> rfl) ⟨Nat.le_of_ble_eq_true rfl, Nat.le_of_ble_eq_true rfl⟩ dX9_init_36 (fun q3 => ?_)
  refine e_dup (pc := 39) C dX9_init_39 rfl ?_
  refine e_widen (k := 10) (n := 3187) (Nat.le_of_ble_eq_true rfl) (Nat.le_of_ble_eq_true rfl) ?_
  refine e_callN (R := { frames := 2, cells := 57, slots := 4006, locals := 40 }) (rest := [.ref q3, .ref h]) (kc := 10) (ks := 3187) (pc := 40) (X := ([(h, .inr (9, [.ref q0, .ref q1, .ref q2, .null, .null, .null, .int 0, .int 0])), (q0, .inl (cA 3, 10, .inr (.inr (.inr (.inr (fun _ => none))))))] ++ nw_X5 cA q1 a1 ++ nw_X0 cA q2 a2)) (nw := fun u => nw_X7 cA q3 u) C (ct_X7_init l D cA q3) ⟨va_cnB 0 C.2.2.2.2.1 gX9_init_X7_init_n31 rfl rfl rfl hE.2.2.2.2.2.1 (C.2.2.2.2.1 (.initialized RX7) (by decide +kernel)) (by decide +kernel) ⟨Nat.le_of_ble_eq_true rfl, Nat.le_of_ble_eq_true rfl⟩, rfl, C.2.2.2.2.1 (.instanceMethod yX7_init) (by decide +kernel)⟩ (Nat.le_of_ble_eq_true rfl) ⟨Nat.le_of_ble_eq_true rfl, Nat.le_of_ble_eq_true rfl⟩ dX9_init_40 (fun a3 => ?_)
  refine e_putF (pc := 43) (q0 := 0) (j := 3) (ty := .object "CreepBoard$SlipFinder") C hin2 hin9 tyX9 tyX9_ok nmX9 rfl rfl (by decide) (by decide +kernel : Cond.fieldLink RX9 32 "CreepBoard" "slipFinder" "LCreepBoard$SlipFinder;" ∈ wsX9_init) (fun _ h => h) rfl rfl (by decide +kernel) rfl rfl (Nat.le_of_ble_eq_true rfl) dX9_init_43 ?_
  refine e_ws ([(h, .inr (9, [.ref q0, .ref q1, .ref q2, .ref q3, .null, .null, .int 0, .int 0])), (q0, .inl (cA 3, 10, .inr (.inr (.inr (.inr (fun _ => none))))))] ++ nw_X5 cA q1 a1 ++ nw_X0 cA q2 a2 ++ nw_X7 cA q3 a3) rfl ?_
  refine e_widen (k := 12) (n := 3193) (Nat.le_of_ble_eq_true rfl) (Nat.le_of_ble_eq_true rfl) ?_
  refine e_aload_n (pc := 46) C dX9_init_46 0 rfl rfl ?_
  refine e_new (pc := 47) (ci := 2) (N := 11) C n0_X2.2 hin2' tyX2 tyX2_ok (by decide +kernel : Cond.classLink RX9 36 RX2 ∈ wsX9_init) (by decide +kernel) (by decide +kernel) rfl (fun j hj => by rcases (show j = 0 ∨ j = 1 ∨ j = 2 ∨ j = 3 ∨ j = 4 ∨ j = 5 ∨ j = 6 ∨ j = 7 ∨ j = 8 ∨ j = 9 ∨ j = 10 by omega) with rfl | rfl | rfl | rfl | rfl | rfl | rfl | rfl | rfl | rfl | rfl <;> rfl) ⟨Nat.le_of_ble_eq_true rfl, Nat.le_of_ble_eq_true rfl⟩ dX9_init_47 (fun q4 => ?_)
  refine e_dup (pc := 50) C dX9_init_50 rfl ?_
  refine e_widen (k := 13) (n := 3204) (Nat.le_of_ble_eq_true rfl) (Nat.le_of_ble_eq_true rfl) ?_
  refine e_callNA (R := { frames := 2, cells := 57, slots := 4006, locals := 40 }) (rest := [.ref q4, .ref h]) (kc := 13) (ks := 3204) (pc := 51) (X := ([(h, .inr (9, [.ref q0, .ref q1, .ref q2, .ref q3, .null, .null, .int 0, .int 0])), (q0, .inl (cA 3, 10, .inr (.inr (.inr (.inr (fun _ => none))))))] ++ nw_X5 cA q1 a1 ++ nw_X0 cA q2 a2 ++ nw_X7 cA q3 a3)) (nw := fun u => nw_X2 cA q4 u) C hE.1 (ct_X2_init l D cA q4) ⟨va_cnB 0 C.2.2.2.2.1 gX9_init_X2_init_n38 rfl rfl rfl hE.2.2.2.2.2.2.1 (C.2.2.2.2.1 (.initialized RX2) (by decide +kernel)) (by decide +kernel) ⟨Nat.le_of_ble_eq_true rfl, Nat.le_of_ble_eq_true rfl⟩, rfl, C.2.2.2.2.1 (.instanceMethod yX2_init) (by decide +kernel)⟩ (Nat.le_of_ble_eq_true rfl) ⟨Nat.le_of_ble_eq_true rfl, Nat.le_of_ble_eq_true rfl⟩ dX9_init_51 (fun u4 => ?_)
  refine e_putF (pc := 54) (q0 := 0) (j := 4) (ty := .object "CreepBoard$Levels") C hin2 hin9 tyX9 tyX9_ok nmX9 rfl rfl (by decide) (by decide +kernel : Cond.fieldLink RX9 39 "CreepBoard" "levels" "LCreepBoard$Levels;" ∈ wsX9_init) (fun _ h => h) rfl rfl (by decide +kernel) rfl rfl (Nat.le_of_ble_eq_true rfl) dX9_init_54 ?_
  refine e_ws ([(h, .inr (9, [.ref q0, .ref q1, .ref q2, .ref q3, .ref q4, .null, .int 0, .int 0])), (q0, .inl (cA 3, 10, .inr (.inr (.inr (.inr (fun _ => none))))))] ++ nw_X5 cA q1 a1 ++ nw_X0 cA q2 a2 ++ nw_X7 cA q3 a3 ++ nw_X2 cA q4 u4) rfl ?_
  refine e_widen (k := 40) (n := 3486) (Nat.le_of_ble_eq_true rfl) (Nat.le_of_ble_eq_true rfl) ?_
  refine e_aload_n (pc := 57) C dX9_init_57 0 rfl rfl ?_
  refine e_bipush (v := 8) (pc := 58) C dX9_init_58 (by decide) ?_
  refine e_newq (pc := 60) C "CreepBoard$Shelf" 4 8 hE.2.2.1 (by decide +kernel : Cond.classLink RX9 43 RX6 ∈ wsX9_init) rfl (by decide) (by decide) (by decide) ⟨Nat.le_of_ble_eq_true rfl, Nat.le_of_ble_eq_true rfl⟩ dX9_init_60 (fun q5 => ?_)
  refine e_putF (pc := 63) (q0 := 0) (j := 5) (ty := .array (.object "CreepBoard$Shelf")) C hin2 hin9 tyX9 tyX9_ok nmX9 rfl rfl (by decide) (by decide +kernel : Cond.fieldLink RX9 45 "CreepBoard" "shelves" "[LCreepBoard$Shelf;" ∈ wsX9_init) (fun _ h => h) rfl rfl (by decide +kernel) rfl rfl (Nat.le_of_ble_eq_true rfl) dX9_init_63 ?_
  refine e_cell (i := 41) (fun j => if j < 0 then some ((fun _ => 0 : Nat → Nat) j) else none) rfl (fun j _ => (if_neg (Nat.not_lt_zero j)).symm) ?_
  refine e_ws (preB cA h q0 q1 q2 q3 q4 q5 a1 a2 a3 u4 ++ (q5, shB cA 0 (fun _ => 0)) :: flB cA 0 (fun _ => 0) (fun _ => 0)) rfl ?_
  refine e_iconst (v := 0) (pc := 66) C dX9_init_66 (by decide) ?_
  refine e_istore_n (pc := 67) C dX9_init_67 rfl (by decide) [(1, .int 0), (0, .ref h)] rfl ?_
  have loop : ∀ (k d : Nat), d + k = 8 → ∀ g b : Nat → Nat, KE (41 + 2 * d) (3494 + 64 * d) p l e { frames := 2, cells := 57, slots := 4006, locals := 40 } s m [Value.ref h].toArray below meth c 2 D A Q 68 [(1, .int (nI d)), (0, .ref h)] [] (preB cA h q0 q1 q2 q3 q4 q5 a1 a2 a3 u4 ++ (q5, shB cA d g) :: flB cA d g b) := by
    intro k
    induction k with
    | zero =>
      intro d hd g b
      have hd : d = 8 := by omega
      subst hd
      refine e_iload_n (pc := 68) C dX9_init_68 0 rfl rfl ?_
      refine e_bipush (v := 8) (pc := 69) C dX9_init_69 (by decide) ?_
      refine e_icmp_ge (pc := 71) C 93 dX9_init_71 (by decide) (fun q => ?_) (fun q => absurd (by decide) q)
      refine e_cell (i := 1) (fun j => if j < 0 then some (adB h q0 q1 q2 q3 q4 q5 a1 a2 a3 u4 g b 26 j) else none) rfl (fun j _ => (if_neg (Nat.not_lt_zero j)).symm) ?_
      refine e_cell (i := 17) (fun j => some (adB h q0 q1 q2 q3 q4 q5 a1 a2 a3 u4 g b 19 j)) rfl (fun j hj => if_pos hj) ?_
      refine e_cell (i := 28) (fun j => some (adB h q0 q1 q2 q3 q4 q5 a1 a2 a3 u4 g b 21 j)) rfl (fun j hj => if_pos hj) ?_
      refine e_cell (i := 41) (fun j => some (adB h q0 q1 q2 q3 q4 q5 a1 a2 a3 u4 g b 24 j)) rfl (fun j hj => if_pos hj) ?_
      refine e_ws (lWL cA (adB h q0 q1 q2 q3 q4 q5 a1 a2 a3 u4 g b) S0 bIds) rfl ?_
      exact hret _ _ rfl
    | succ k ih =>
      intro d hd g b
      refine e_iload_n (pc := 68) C dX9_init_68 0 rfl rfl ?_
      refine e_bipush (v := 8) (pc := 69) C dX9_init_69 (by decide) ?_
      refine e_icmp_ge (pc := 71) C 93 dX9_init_71 (by decide) (fun q => ?_) (fun q => ?_)
      · rw [Int32.le_iff_toInt_le, nI_toInt (by omega)] at q
        have q' : (8 : Int) ≤ (d : Int) := q
        omega
      refine e_aload_n (pc := 74) C dX9_init_74 1 rfl rfl ?_
      refine e_get (pc := 75) (q0 := 0) (j := 5) C hin9 rfl rfl (by decide) (by decide +kernel : Cond.fieldLink RX9 45 "CreepBoard" "shelves" "[LCreepBoard$Shelf;" ∈ wsX9_init) (fun _ h => h) rfl dX9_init_75 ?_
      refine e_iload_n (pc := 78) C dX9_init_78 0 rfl rfl ?_
      refine e_new (pc := 79) (ci := 6) (N := 4) C n0_X6.2 hin6 tyX6 tyX6_ok (by decide +kernel : Cond.classLink RX9 43 RX6 ∈ wsX9_init) (by decide +kernel) (by decide +kernel) rfl (fun j hj => by rcases (show j = 0 ∨ j = 1 ∨ j = 2 ∨ j = 3 by omega) with rfl | rfl | rfl | rfl <;> rfl) ⟨by show 41 + 2 * d + 1 ≤ 57; omega, by show 3494 + 64 * d + 4 ≤ 4006; omega⟩ dX9_init_79 (fun q => ?_)
      refine e_dup (pc := 82) C dX9_init_82 rfl ?_
      refine e_callN (pc := 83) (X := preB cA h q0 q1 q2 q3 q4 q5 a1 a2 a3 u4 ++ (q5, shB cA d g) :: flB cA d g b) (nw := fun u => nw_X6 cA q u) C (ct_X6_init l D cA q) ⟨va_cnB 0 C.2.2.2.2.1 gX9_init_X6_init_n49 rfl rfl rfl hE.2.2.2.2.2.2.2 (C.2.2.2.2.1 (.initialized RX6) (by decide +kernel)) (by decide +kernel) ⟨Nat.le_of_ble_eq_true rfl, Nat.le_of_ble_eq_true rfl⟩, rfl, C.2.2.2.2.1 (.instanceMethod yX6_init) (by decide +kernel)⟩ (Nat.le_of_ble_eq_true rfl) ⟨by show 41 + 2 * d + 1 + 1 ≤ 57; omega, by show 3494 + 64 * d + 4 + 60 ≤ 4006; omega⟩ dX9_init_83 (fun u => ?_)
      refine e_astq (pc := 86) (r := (RX6, TX6, 4)) (f := fun j => if j < d then some (g j) else none) C 41 4 (preB cA h q0 q1 q2 q3 q4 q5 a1 a2 a3 u4 ++ (q5, shB cA d g) :: flB cA d g b).length 6 rfl rfl (by
        rw [List.getElem?_append_right (Nat.le_refl _), Nat.sub_self]
        rfl) rfl (nI_in (by omega) (by omega)) dX9_init_86 ?_
      have e1 : (nI d).toNatClampNeg = d := nI_clamp (by omega)
      refine e_ws (preB cA h q0 q1 q2 q3 q4 q5 a1 a2 a3 u4 ++ (q5, shB cA (d + 1) (va_up g d q)) :: flB cA (d + 1) (va_up g d q) (va_up b d (u 0))) (by
        rw [← flB_succ, e1, shB_succ]
        rfl) ?_
      refine e_iinc (pc := 87) (j := 0) (v := nI (d + 1)) C dX9_init_87 rfl (nI_1 d) (by decide) [(1, .int (nI (d + 1))), (0, .ref h)] rfl ?_
      refine e_goto (pc := 90) C 68 dX9_init_90 (by decide) ?_
      exact e_widen (k := 41 + 2 * (d + 1)) (n := 3494 + 64 * (d + 1)) (by omega) (by omega) (ih (d + 1) (by omega) _ _)
  exact loop 8 0 rfl (fun _ => 0) (fun _ => 0)
