/-! THE CLAIM OUT OF ONE WALK OF THE LAW'S BODY. Your part is whole_start (and what it stands on); all else here is the same for every law, but numbers. -/
def R_law : String := "CreepBoardLaw"
def lw_P (b : Addr) (xs : List Int32) (args : Array Value) (s : State) : Prop := args = #[.ref b] ∧ s.IntsAt b xs ∧ xs.length ≤ 3072 ∧ (Jvm.Cond.and given_1 narrow_1).before args s = true
def lw_Q (_ : Array Value) (s : State) (o : Outcome) (t : State) : Prop := o = .returned (some (.int 1)) ∧ Framed s o t [] 601024 7293034
def lw_Z (below : List Frame) (a : Array Value) (s : State) : State → Prop := fun t => ∃ o, t.status = .running ∧ Ended t below o ∧ lw_Q a s o t
/-- the law's own end, with 1 on the stack, nothing written that was there before, its room as the claim has it -/
theorem lw_ret {p : Program} {l : Launch} {e : Env} {s : State} {m : MethodId} {below : List Frame} {meth : Method} {c : Code} {b : Nat} (hx : p.tables.exec = Jvm.exec) (hb : c.code = code) (hr : meth.sig.returnType = ret) (hlocks : meth.locks = false) {pc : Nat} {H : Heap} {ls : Array Slot} (hdg : decode code pc = .ok (.ireturn, 1)) : W p l e room_1 s m #[Value.ref b] below meth c H [] 601024 7293034 (lw_Z below #[Value.ref b] s) (F0 m pc ls [.int 1]) := by
  intro T hT X
  obtain ⟨fs, hret, hrun, hended, hW, hframe⟩ := X.leave (v := some (.int 1)) (hlocks := hlocks) (fun h => by rw [hr] at h; cases h)
  have hmeth' : T.vm.method? m = some meth := X.method'
  refine ⟨T.setFrames fs, ?_, .returned (some (.int 1)), hrun, hended, rfl, ⟨_, rfl⟩, hW, hframe⟩
  jvm_step X.here [X.here.top, hx, hb, hdg, hmeth', hr, ret, narrow_b1]
  (try refine ⟨rfl, ?_⟩); (try refine ⟨rfl, ?_⟩)
  first | (intro acts; rw [hret _ acts rfl rfl rfl]) | rw [hret _ _ rfl rfl rfl]
  exact Steps.refl _
/-- what holds at the law's entry: the machine, the code, the tables' words (any of lw_tbl by 'hts w (by decide +kernel)'), the script of L ints xs at the cell b, what the Statement gives of the start (any of its parts by flat_of_before) -/
def lw_At (p : Program) (s : State) (m : MethodId) (meth : Method) (c : Code) (b L : Nat) (xs : Nat → Int32) : Prop :=
  p.tables.exec = Jvm.exec ∧ c.code = code ∧ meth.sig.returnType = ret ∧ c.maxLocals = 8 ∧ s.vm.findClass R_law = some m.cls ∧ (∀ w ∈ lw_tbl, w.before #[Value.ref b] s = true) ∧ va_X b L xs s s.heap ∧ b < s.heap.size ∧ meth.locks = false ∧ (Jvm.Cond.and given_1 narrow_1).before #[Value.ref b] s = true
section
variable {p : Program} {l : Launch} {e : Env} {R : Room} {kc ks : Nat} {s : State} {m : MethodId} {args : Array Value} {below : List Frame} {meth : Method} {c : Code} {nL : Nat} {D : va_G} {cA : Nat → ClassId} {ad : Nat → Nat → Nat} {A : Nat → Prop} {Q : State → Prop} {cc : ByteArray} {Ts : List Cond} {own : String} {pc : Nat} {lv lv' : List (Nat × Value)} {st rest : List Value} {ws : va_W} {b L : Nat} {xs : Nat → Int32}
theorem e_astore_n (C : Cx p s m args c cc nL Ts own D cA A) {k : Fin 4} {i : Nat} {x : Nat} (d : decode cc pc = .ok (.astore_n k, 1)) (hi : (k : Nat) = i) (hn : i < nL) (lv' : List (Nat × Value)) (hlv : (i, Value.ref x) :: lv.filter (fun q => !(q.1 == i) && !(q.1 + 1 == i && q.2.category == 2)) = lv') (kk : KE kc ks p l e R s m args below meth c nL D A Q (pc + 1) lv' st ws) : KE kc ks p l e R s m args below meth c nL D A Q pc lv (.ref x :: st) ws :=
  fun H locs ls hl hP hD hS => lv_astore_n C.1 C.2.1 d hi hl hn hlv (fun ls hl => kk H locs ls hl hP hD hS)
theorem e_callJ (C : Cx p s m args c cc nL Ts own D cA A) (hov : EB s) {X : va_W} {y : MethodName} {wy : List Cond} {rm : Room} {bytes : ByteArray} {maxL index h mc ms : Nat} {d0 : Nat × List Value} {nw : (Nat → Nat → Nat) → va_W} (hM : ∀ sz : Nat, Met l y wy rm (va_Pc [.ref h] (fun U => U.heap.size = sz ∧ va_P D vwCl [(h, .inr d0)] U.heap ∧ va_K D vwCl (tyl cA) U ∧ va_D (fun _ => True) [(h, .inr d0)] ∧ EB U)) (va_Qv (fun ad => ad 0 0 = h) (fun (u : Nat → Nat → Nat) t => va_P D vwCl (nw u) t.heap ∧ va_D (va_A [(h, .inr d0)] sz) (nw u)) (va_A [(h, .inr d0)] sz)) mc ms (va_A [(h, .inr d0)] sz)) (cw : CallB R s args own index y bytes maxL none wy rm mc ms 0 ∧ y.name = "<init>" ∧ (Cond.instanceMethod y).before args s = true) (hW : (rest.map fun v => v.category).sum ≤ 8) (hR : kc + mc ≤ R.cells ∧ ks + ms ≤ R.slots) (d : decode cc pc = .ok (.invokespecial index, 3)) (kk : ∀ ad : Nat → Nat → Nat, ad 0 0 = h → KE (kc + mc) (ks + ms) p l e R s m args below meth c nL D A Q (pc + 3) lv rest (X ++ nw ad)) : KE kc ks p l e R s m args below meth c nL D A Q pc lv (.ref h :: rest) (X ++ [(h, .inr d0)]) := fun H locs ls hl hP hD hS => by
  have hF : ∀ q, va_A [(h, .inr d0)] H.size q → A q := by
    intro q hq
    rcases hq with ⟨k, e, hk⟩ | hq
    · exact (vd_right hD).2 k _ hk
    · exact C.2.2.2.2.2.2 q (Nat.le_trans hS.1 hq)
  refine va_callv (va_runI (As := []) (rest := rest) ⟨C.1, C.2.1, C.2.2.1, C.2.2.2.1, C.2.2.2.2.1⟩ (hM H.size) cw ⟨fun a U g mk q => by
      obtain ⟨q0, q1, qP, qK, qD, qO⟩ := q
      exact ⟨q0, q1, qP, va_K.moved (u := U) (U := U.calling g mk a) (Vm.Alike.refl U.vm) qK, qD, EB.warm (s := U) (U := U.calling g mk a) (State.WarmedH.refl U) qO⟩, fun U hU hW => ⟨rfl, by rw [hU], by rw [hU]; exact va_right hP, va_K.moved hW.alike C.2.2.2.2.2.1, (vd_right hD).weaken (fun _ _ _ _ => trivial), EB.warm hW hov⟩⟩ rfl rfl hl.1 rfl (lv_room hW) d hR) hS (fun q _ h => hF q h) hF (fun u t H1 locs1 ht hvm hw hB hz1 hk1 hS1 => ?_)
  obtain ⟨hP1, hD1⟩ := hB
  rw [ht] at hP1
  obtain ⟨hP2, hD2⟩ := va_frame hP hD hk1 hF hP1 hD1
  exact kk u hw H1 locs1 ls hl hP2 hD2 hS1
theorem e_callJ2 (C : Cx p s m args c cc nL Ts own D cA A) {X : va_W} {y : MethodName} {wy : List Cond} {rm : Room} {bytes : ByteArray} {maxL index h mc ms : Nat} {d0 : Nat × List Value} {nw : (Nat → Nat) → va_W} (hM : ∀ sz : Nat, Met l y wy rm (va_Pc [.ref h] (fun U => U.heap.size = sz ∧ va_P D vwCl [(h, .inr d0)] U.heap ∧ va_K D vwCl (tyl cA) U ∧ va_D (fun _ => True) [(h, .inr d0)])) (va_Qv (fun _ => True) (fun (u : Nat → Nat) t => va_P D vwCl (nw u) t.heap ∧ va_D (va_A [(h, .inr d0)] sz) (nw u)) (va_A [(h, .inr d0)] sz)) mc ms (va_A [(h, .inr d0)] sz)) (cw : CallB R s args own index y bytes maxL none wy rm mc ms 0 ∧ y.name = "<init>" ∧ (Cond.instanceMethod y).before args s = true) (hW : (rest.map fun v => v.category).sum ≤ 8) (hR : kc + mc ≤ R.cells ∧ ks + ms ≤ R.slots) (d : decode cc pc = .ok (.invokespecial index, 3)) (kk : ∀ u : Nat → Nat, KE (kc + mc) (ks + ms) p l e R s m args below meth c nL D A Q (pc + 3) lv rest (X ++ nw u)) : KE kc ks p l e R s m args below meth c nL D A Q pc lv (.ref h :: rest) (X ++ [(h, .inr d0)]) := fun H locs ls hl hP hD hS => by
  have hF : ∀ q, va_A [(h, .inr d0)] H.size q → A q := by
    intro q hq
    rcases hq with ⟨k, e, hk⟩ | hq
    · exact (vd_right hD).2 k _ hk
    · exact C.2.2.2.2.2.2 q (Nat.le_trans hS.1 hq)
  refine va_callv (va_runI (As := []) (rest := rest) ⟨C.1, C.2.1, C.2.2.1, C.2.2.2.1, C.2.2.2.2.1⟩ (hM H.size) cw ⟨fun a U g mk q => by
      obtain ⟨q0, q1, qP, qK, qD⟩ := q
      exact ⟨q0, q1, qP, va_K.moved (u := U) (U := U.calling g mk a) (Vm.Alike.refl U.vm) qK, qD⟩, fun U hU hW => ⟨rfl, by rw [hU], by rw [hU]; exact va_right hP, va_K.moved hW.alike C.2.2.2.2.2.1, (vd_right hD).weaken (fun _ _ _ _ => trivial)⟩⟩ rfl rfl hl.1 rfl (lv_room hW) d hR) hS (fun q _ h => hF q h) hF (fun u t H1 locs1 ht hvm hw hB hz1 hk1 hS1 => ?_)
  obtain ⟨hP1, hD1⟩ := hB
  rw [ht] at hP1
  obtain ⟨hP2, hD2⟩ := va_frame hP hD hk1 hF hP1 hD1
  exact kk u H1 locs1 ls hl hP2 hD2 hS1
set_option maxHeartbeats 4000000 in
set_option maxRecDepth 100000 in
theorem law_loop (C : Cx p s m args c cL_law 8 bbL.flatten RL D cA A) (hX : va_X b L xs s s.heap) (hbl : b < s.heap.size) (hbA : ¬ A b) (hE : EX A s s.heap) (hM : EM s) (hst : l.stackTraces = false) (hL : L ≤ 3072) (hend : ∀ (kc ks : Nat) (ad : Nat → Nat → Nat) (S : Sg) (lv : List (Nat × Value)), kc ≤ 601024 → ks ≤ 7293034 → KC kc ks p l e room_1 s m args below meth c 8 D cA ad A Q 1709 lv [] S) : ∀ (k i : Nat), L < 6 * (i + k) + 6 → i + k ≤ 512 → ∀ (ad : Nat → Nat → Nat) (S : Sg), Rel S → KC (88 + 12 * i) (8348 + 180 * i) p l e room_1 s m args below meth c 8 D cA ad A Q 23 [(4, .int (nI (6 * i))), (3, .ref (ad 39 0)), (2, .ref (ad 40 0)), (1, .ref (ad 0 0)), (0, .ref b)] [] S := by
  intro k
  induction k with
  | zero =>
    intro i hi hk ad S h
    refine c_iload (pc := 23) C dL_law_23 0 rfl ?_
    refine c_aload_n (pc := 25) C dL_law_25 4 rfl rfl ?_
    refine c_slen (pc := 26) C hX hbl hbA dL_law_26 ?_
    refine c_bipush (v := 6) (pc := 27) C dL_law_27 (by decide) ?_
    refine c_isub (pc := 29) C dL_law_29 ?_
    have e6 : (nI L - 6).toInt = (L : Int) - 6 := by
      rw [Int32.toInt_sub, nI_toInt (by omega)]
      show ((L : Int) - 6).bmod (2 ^ 32) = _
      exact Int.bmod_eq_of_le (by omega) (by omega)
    refine c_icmp_gt (pc := 30) C 1709 dL_law_30 (by decide) (fun q => hend _ _ _ _ _ (by omega) (by omega)) (fun q => ?_)
    exfalso
    rw [Int32.lt_iff_toInt_lt, e6, nI_toInt (by omega)] at q
    omega
  | succ k ih =>
    intro i hi hk ad S h
    refine c_iload (pc := 23) C dL_law_23 0 rfl ?_
    refine c_aload_n (pc := 25) C dL_law_25 4 rfl rfl ?_
    refine c_slen (pc := 26) C hX hbl hbA dL_law_26 ?_
    refine c_bipush (v := 6) (pc := 27) C dL_law_27 (by decide) ?_
    refine c_isub (pc := 29) C dL_law_29 ?_
    have e6 : (nI L - 6).toInt = (L : Int) - 6 := by
      rw [Int32.toInt_sub, nI_toInt (by omega)]
      show ((L : Int) - 6).bmod (2 ^ 32) = _
      exact Int.bmod_eq_of_le (by omega) (by omega)
    refine c_icmp_gt (pc := 30) C 1709 dL_law_30 (by decide) (fun q => hend _ _ _ _ _ (by omega) (by omega)) (fun q => ?_)
    rw [Int32.lt_iff_toInt_lt, e6, nI_toInt (by omega)] at q
    have h6 : 6 * i + 6 ≤ L := by omega
    have h0 : vp_in (nI (6 * i)) L := nI_in (by omega) (by omega)
    have hj : ∀ j : Nat, j < 6 → vp_in (nI (6 * i) + nI j) L := fun j hj => by
      rw [nI_plus]
      exact nI_in (by omega) (by omega)
    refine c_aload_n (pc := 33) C dL_law_33 4 rfl rfl ?_
    refine c_iload (pc := 34) C dL_law_34 0 rfl ?_
    refine c_sld (pc := 36) C hX hbl hbA h0 dL_law_36 ?_
    refine c_bipush (v := 63) (pc := 37) C dL_law_37 (by decide) ?_
    refine c_iand (pc := 39) C dL_law_39 ?_
    have kend : ∀ (ad' : Nat → Nat → Nat) (S' : Sg), ad' 0 0 = ad 0 0 → ad' 39 0 = ad 39 0 → ad' 40 0 = ad 40 0 → Rel S' → KC (88 + 12 * i + 12) (8348 + 180 * i + 180) p l e room_1 s m args below meth c 8 D cA ad' A Q 1703 [(4, .int (nI (6 * i))), (3, .ref (ad' 39 0)), (2, .ref (ad' 40 0)), (1, .ref (ad' 0 0)), (0, .ref b)] [] S' := by
      intro ad' S' _ _ _ h'
      refine c_iinc (pc := 1703) (j := 0) (v := nI (6 * (i + 1))) C dL_law_1703 rfl (nI_plus (6 * i) 6) (by decide) [(4, .int (nI (6 * (i + 1)))), (3, .ref (ad' 39 0)), (2, .ref (ad' 40 0)), (1, .ref (ad' 0 0)), (0, .ref b)] rfl ?_
      refine c_goto (pc := 1706) C 23 dL_law_1706 (by decide) ?_
      exact c_widen (k := 88 + 12 * (i + 1)) (n := 8348 + 180 * (i + 1)) (by omega) (by omega) (ih (i + 1) (by omega) (by omega) ad' S' h')
    generalize xs (nI (6 * i)).toNatClampNeg &&& 63 = x
    by_cases hr : 0 ≤ x.toInt ∧ x.toInt < 33
    · obtain ⟨n, hn, ex, -⟩ := vp_nat (a := x) (n := 33) (vp_in_iff.mpr hr) (by omega)
      rcases (show n = 0 ∨ n = 1 ∨ n = 2 ∨ n = 3 ∨ n = 4 ∨ n = 5 ∨ n = 6 ∨ n = 7 ∨ n = 8 ∨ n = 9 ∨ n = 10 ∨ n = 11 ∨ n = 12 ∨ n = 13 ∨ n = 14 ∨ n = 15 ∨ n = 16 ∨ n = 17 ∨ n = 18 ∨ n = 19 ∨ n = 20 ∨ n = 21 ∨ n = 22 ∨ n = 23 ∨ n = 24 ∨ n = 25 ∨ n = 26 ∨ n = 27 ∨ n = 28 ∨ n = 29 ∨ n = 30 ∨ n = 31 ∨ n = 32 by omega) with rfl | rfl | rfl | rfl | rfl | rfl | rfl | rfl | rfl | rfl | rfl | rfl | rfl | rfl | rfl | rfl | rfl | rfl | rfl | rfl | rfl | rfl | rfl | rfl | rfl | rfl | rfl | rfl | rfl | rfl | rfl | rfl | rfl
      · exact c_tblIn (v := nI 0) (pc := 40) C 188 dL_law_40 ex (by decide) (by decide) rfl (by decide) (lc_0 C hX hbl hbA hE hM hst h (hj 1 (by omega)) (hj 2 (by omega)) (hj 3 (by omega)) (hj 4 (by omega)) (hj 5 (by omega)) (by omega) (by omega) kend)
      · exact c_tblIn (v := nI 1) (pc := 40) C 237 dL_law_40 ex (by decide) (by decide) rfl (by decide) (lc_1 C hX hbl hbA hE hM hst h (hj 1 (by omega)) (hj 2 (by omega)) (hj 3 (by omega)) (hj 4 (by omega)) (hj 5 (by omega)) (by omega) (by omega) kend)
      · exact c_tblIn (v := nI 2) (pc := 40) C 286 dL_law_40 ex (by decide) (by decide) rfl (by decide) (lc_2 C hX hbl hbA hE hM hst h (hj 1 (by omega)) (hj 2 (by omega)) (hj 3 (by omega)) (hj 4 (by omega)) (hj 5 (by omega)) (by omega) (by omega) kend)
      · exact c_tblIn (v := nI 3) (pc := 40) C 347 dL_law_40 ex (by decide) (by decide) rfl (by decide) (lc_3 C hX hbl hbA hE hM hst h (hj 1 (by omega)) (hj 2 (by omega)) (hj 3 (by omega)) (hj 4 (by omega)) (hj 5 (by omega)) (by omega) (by omega) kend)
      · exact c_tblIn (v := nI 4) (pc := 40) C 384 dL_law_40 ex (by decide) (by decide) rfl (by decide) (lc_4 C hX hbl hbA hE hM hst h (hj 1 (by omega)) (hj 2 (by omega)) (hj 3 (by omega)) (hj 4 (by omega)) (hj 5 (by omega)) (by omega) (by omega) kend)
      · exact c_tblIn (v := nI 5) (pc := 40) C 445 dL_law_40 ex (by decide) (by decide) rfl (by decide) (lc_5 C hX hbl hbA hE hM hst h (hj 1 (by omega)) (hj 2 (by omega)) (hj 3 (by omega)) (hj 4 (by omega)) (hj 5 (by omega)) (by omega) (by omega) kend)
      · exact c_tblIn (v := nI 6) (pc := 40) C 524 dL_law_40 ex (by decide) (by decide) rfl (by decide) (lc_6 C hX hbl hbA hE hM hst h (hj 1 (by omega)) (hj 2 (by omega)) (hj 3 (by omega)) (hj 4 (by omega)) (hj 5 (by omega)) (by omega) (by omega) kend)
      · exact c_tblIn (v := nI 7) (pc := 40) C 549 dL_law_40 ex (by decide) (by decide) rfl (by decide) (lc_7 C hX hbl hbA hE hM hst h (hj 1 (by omega)) (hj 2 (by omega)) (hj 3 (by omega)) (hj 4 (by omega)) (hj 5 (by omega)) (by omega) (by omega) kend)
      · exact c_tblIn (v := nI 8) (pc := 40) C 644 dL_law_40 ex (by decide) (by decide) rfl (by decide) (lc_8 C hX hbl hbA hE hM hst h (hj 1 (by omega)) (hj 2 (by omega)) (hj 3 (by omega)) (hj 4 (by omega)) (hj 5 (by omega)) (by omega) (by omega) kend)
      · exact c_tblIn (v := nI 9) (pc := 40) C 681 dL_law_40 ex (by decide) (by decide) rfl (by decide) (lc_9 C hX hbl hbA hE hM hst h (hj 1 (by omega)) (hj 2 (by omega)) (hj 3 (by omega)) (hj 4 (by omega)) (hj 5 (by omega)) (by omega) (by omega) kend)
      · exact c_tblIn (v := nI 10) (pc := 40) C 748 dL_law_40 ex (by decide) (by decide) rfl (by decide) (lc_10 C hX hbl hbA hE hM hst h (hj 1 (by omega)) (hj 2 (by omega)) (hj 3 (by omega)) (hj 4 (by omega)) (hj 5 (by omega)) (by omega) (by omega) kend)
      · exact c_tblIn (v := nI 11) (pc := 40) C 797 dL_law_40 ex (by decide) (by decide) rfl (by decide) (lc_11 C hX hbl hbA hE hM hst h (hj 1 (by omega)) (hj 2 (by omega)) (hj 3 (by omega)) (hj 4 (by omega)) (hj 5 (by omega)) (by omega) (by omega) kend)
      · exact c_tblIn (v := nI 12) (pc := 40) C 864 dL_law_40 ex (by decide) (by decide) rfl (by decide) (lc_12 C hX hbl hbA hE hM hst h (hj 1 (by omega)) (hj 2 (by omega)) (hj 3 (by omega)) (hj 4 (by omega)) (hj 5 (by omega)) (by omega) (by omega) kend)
      · exact c_tblIn (v := nI 13) (pc := 40) C 913 dL_law_40 ex (by decide) (by decide) rfl (by decide) (lc_13 C hX hbl hbA hE hM hst h (hj 1 (by omega)) (hj 2 (by omega)) (hj 3 (by omega)) (hj 4 (by omega)) (hj 5 (by omega)) (by omega) (by omega) kend)
      · exact c_tblIn (v := nI 14) (pc := 40) C 1032 dL_law_40 ex (by decide) (by decide) rfl (by decide) (lc_14 C hX hbl hbA hE hM hst h (hj 1 (by omega)) (hj 2 (by omega)) (hj 3 (by omega)) (hj 4 (by omega)) (hj 5 (by omega)) (by omega) (by omega) kend)
      · exact c_tblIn (v := nI 15) (pc := 40) C 1057 dL_law_40 ex (by decide) (by decide) rfl (by decide) (lc_15 C hX hbl hbA hE hM hst h (hj 1 (by omega)) (hj 2 (by omega)) (hj 3 (by omega)) (hj 4 (by omega)) (hj 5 (by omega)) (by omega) (by omega) kend)
      · exact c_tblIn (v := nI 16) (pc := 40) C 1070 dL_law_40 ex (by decide) (by decide) rfl (by decide) (lc_16 C hX hbl hbA hE hM hst h (hj 1 (by omega)) (hj 2 (by omega)) (hj 3 (by omega)) (hj 4 (by omega)) (hj 5 (by omega)) (by omega) (by omega) kend)
      · exact c_tblIn (v := nI 17) (pc := 40) C 1095 dL_law_40 ex (by decide) (by decide) rfl (by decide) (lc_17 C hX hbl hbA hE hM hst h (hj 1 (by omega)) (hj 2 (by omega)) (hj 3 (by omega)) (hj 4 (by omega)) (hj 5 (by omega)) (by omega) (by omega) kend)
      · exact c_tblIn (v := nI 18) (pc := 40) C 1144 dL_law_40 ex (by decide) (by decide) rfl (by decide) (lc_18 C hX hbl hbA hE hM hst h (hj 1 (by omega)) (hj 2 (by omega)) (hj 3 (by omega)) (hj 4 (by omega)) (hj 5 (by omega)) (by omega) (by omega) kend)
      · exact c_tblIn (v := nI 19) (pc := 40) C 1169 dL_law_40 ex (by decide) (by decide) rfl (by decide) (lc_19 C hX hbl hbA hE hM hst h (hj 1 (by omega)) (hj 2 (by omega)) (hj 3 (by omega)) (hj 4 (by omega)) (hj 5 (by omega)) (by omega) (by omega) kend)
      · exact c_tblIn (v := nI 20) (pc := 40) C 1182 dL_law_40 ex (by decide) (by decide) rfl (by decide) (lc_20 C hX hbl hbA hE hM hst h (hj 1 (by omega)) (hj 2 (by omega)) (hj 3 (by omega)) (hj 4 (by omega)) (hj 5 (by omega)) (by omega) (by omega) kend)
      · exact c_tblIn (v := nI 21) (pc := 40) C 1235 dL_law_40 ex (by decide) (by decide) rfl (by decide) (lc_21 C hX hbl hbA hE hM hst h (hj 1 (by omega)) (hj 2 (by omega)) (hj 3 (by omega)) (hj 4 (by omega)) (hj 5 (by omega)) (by omega) (by omega) kend)
      · exact c_tblIn (v := nI 22) (pc := 40) C 1248 dL_law_40 ex (by decide) (by decide) rfl (by decide) (lc_22 C hX hbl hbA hE hM hst h (hj 1 (by omega)) (hj 2 (by omega)) (hj 3 (by omega)) (hj 4 (by omega)) (hj 5 (by omega)) (by omega) (by omega) kend)
      · exact c_tblIn (v := nI 23) (pc := 40) C 1297 dL_law_40 ex (by decide) (by decide) rfl (by decide) (lc_23 C hX hbl hbA hE hM hst h (hj 1 (by omega)) (hj 2 (by omega)) (hj 3 (by omega)) (hj 4 (by omega)) (hj 5 (by omega)) (by omega) (by omega) kend)
      · exact c_tblIn (v := nI 24) (pc := 40) C 1310 dL_law_40 ex (by decide) (by decide) rfl (by decide) (lc_24 C hX hbl hbA hE hM hst h (hj 1 (by omega)) (hj 2 (by omega)) (hj 3 (by omega)) (hj 4 (by omega)) (hj 5 (by omega)) (by omega) (by omega) kend)
      · exact c_tblIn (v := nI 25) (pc := 40) C 1335 dL_law_40 ex (by decide) (by decide) rfl (by decide) (lc_25 C hX hbl hbA hE hM hst h (hj 1 (by omega)) (hj 2 (by omega)) (hj 3 (by omega)) (hj 4 (by omega)) (hj 5 (by omega)) (by omega) (by omega) kend)
      · exact c_tblIn (v := nI 26) (pc := 40) C 1390 dL_law_40 ex (by decide) (by decide) rfl (by decide) (lc_26 C hX hbl hbA hE hM hst h (hj 1 (by omega)) (hj 2 (by omega)) (hj 3 (by omega)) (hj 4 (by omega)) (hj 5 (by omega)) (by omega) (by omega) kend)
      · exact c_tblIn (v := nI 27) (pc := 40) C 1415 dL_law_40 ex (by decide) (by decide) rfl (by decide) (lc_27 C hX hbl hbA hE hM hst h (hj 1 (by omega)) (hj 2 (by omega)) (hj 3 (by omega)) (hj 4 (by omega)) (hj 5 (by omega)) (by omega) (by omega) kend)
      · exact c_tblIn (v := nI 28) (pc := 40) C 1464 dL_law_40 ex (by decide) (by decide) rfl (by decide) (lc_28 C hX hbl hbA hE hM hst h (hj 1 (by omega)) (hj 2 (by omega)) (hj 3 (by omega)) (hj 4 (by omega)) (hj 5 (by omega)) (by omega) (by omega) kend)
      · exact c_tblIn (v := nI 29) (pc := 40) C 1513 dL_law_40 ex (by decide) (by decide) rfl (by decide) (lc_29 C hX hbl hbA hE hM hst h (hj 1 (by omega)) (hj 2 (by omega)) (hj 3 (by omega)) (hj 4 (by omega)) (hj 5 (by omega)) (by omega) (by omega) kend)
      · exact c_tblIn (v := nI 30) (pc := 40) C 1580 dL_law_40 ex (by decide) (by decide) rfl (by decide) (lc_30 C hX hbl hbA hE hM hst h (hj 1 (by omega)) (hj 2 (by omega)) (hj 3 (by omega)) (hj 4 (by omega)) (hj 5 (by omega)) (by omega) (by omega) kend)
      · exact c_tblIn (v := nI 31) (pc := 40) C 1653 dL_law_40 ex (by decide) (by decide) rfl (by decide) (lc_31 C hX hbl hbA hE hM hst h (hj 1 (by omega)) (hj 2 (by omega)) (hj 3 (by omega)) (hj 4 (by omega)) (hj 5 (by omega)) (by omega) (by omega) kend)
      · exact c_tblIn (v := nI 32) (pc := 40) C 1678 dL_law_40 ex (by decide) (by decide) rfl (by decide) (lc_32 C hX hbl hbA hE hM hst h (hj 1 (by omega)) (hj 2 (by omega)) (hj 3 (by omega)) (hj 4 (by omega)) (hj 5 (by omega)) (by omega) (by omega) kend)
    · refine c_tblOut (pc := 40) C 1703 dL_law_40 (by omega) (by decide) ?_
      exact c_widen (by omega) (by omega) (kend ad S rfl rfl rfl h)
def rIds : List (Nat × Nat) := [(40, 0), (41, 0), (42, 0), (43, 0), (44, 0), (45, 0), (46, 0), (47, 0), (48, 0), (49, 0), (50, 0), (51, 0), (52, 0), (53, 0), (54, 0), (55, 0), (56, 0), (57, 0), (58, 0), (59, 0), (60, 0), (61, 0), (62, 0), (63, 0), (64, 0), (65, 0), (66, 0), (67, 0), (68, 0)]
def adL (ad1 : Nat → Nat → Nat) (h2 : Nat) (a : Nat → Nat) (q t k : Nat) : Nat := if t < 39 then ad1 t k else if t = 39 then q else if t = 40 then h2 else a (t - 41)
end
set_option maxHeartbeats 4000000 in
set_option maxRecDepth 100000 in
theorem whole_start {p : Program} {e : Env} {s : State} {m : MethodId} {below : List Frame} {meth : Method} {c : Code} (l : Launch) (hst : l.stackTraces = false) {b L : Nat} {xs : Nat → Int32} (hL : L ≤ 3072) (C0 : lw_At p s m meth c b L xs) : W p l e room_1 s m #[Value.ref b] below meth c s.heap [] 0 0 (lw_Z below #[Value.ref b] s) (entryFrame m ([Value.ref b] : List Value).toArray 8) := by
  obtain ⟨hx, hb, hr, hml, hown, hts, hX, hbl, hlocks, hgv⟩ := C0
  have hbA : ¬ (fun q : Nat => s.heap.size ≤ q) b := Nat.not_le.mpr hbl
  obtain ⟨D, cA, hK⟩ := st_K hts
  have hB := st_EB hts
  have hE := st_EX hts hgv
  have hM := st_EM hts
  have C : Cx p s m #[Value.ref b] c cL_law 8 bbL.flatten RL D cA (fun q => s.heap.size ≤ q) := ⟨hx, hb, hml, hown, fun w hw => hts w (bbL_in w hw), hK, fun _ h => h⟩
  have hP : va_P D vwCl [] s.heap := fun k q h => by simp at h
  have hD : va_D (fun q : Nat => s.heap.size ≤ q) [] := ⟨fun i j p q h => by simp at h, fun k q h => by simp at h⟩
  have hl := lv_entry ([.ref b]) (n := 8) (Nat.le_of_ble_eq_true rfl)
  rw [lg_entry_eq]
  generalize (lg_sl ([.ref b]) ++ List.replicate (8 - (lg_sl ([.ref b])).length) Slot.unset).toArray = ls at hl ⊢
  have hl : lv_has ls 8 [(0, .ref b)] := hl
  refine (?_ : KE 0 0 p l e room_1 s m #[Value.ref b] below meth c 8 D (fun q => s.heap.size ≤ q) (lw_Z below #[Value.ref b] s) 0 [(0, .ref b)] [] []) s.heap [] ls hl hP hD va_S.rf
  refine e_new (pc := 0) (ci := 9) (N := 8) C n0_X9.2 (fun w h => bb_mem 45 rfl h) tyX9 tyX9_ok (by decide +kernel : Cond.classLink RL 8 RX9 ∈ bbL.flatten) (by decide +kernel) (by decide +kernel) rfl (fun j hj => by rcases (show j = 0 ∨ j = 1 ∨ j = 2 ∨ j = 3 ∨ j = 4 ∨ j = 5 ∨ j = 6 ∨ j = 7 by omega) with rfl | rfl | rfl | rfl | rfl | rfl | rfl | rfl <;> rfl) ⟨Nat.le_of_ble_eq_true rfl, Nat.le_of_ble_eq_true rfl⟩ dL_law_0 (fun q0 => ?_)
  refine e_dup (pc := 3) C dL_law_3 rfl ?_
  refine e_callJ (R := room_1) (rest := [.ref q0]) (pc := 4) (X := []) (nw := fun ad => lWL cA ad S0 bIds) C hB (ct_X9_init l D cA q0) (cwI 0 C.2.2.2.2.1 gL_law_X9_init rfl rfl rfl (C.2.2.2.2.1 (.initialized RX9) (by decide +kernel)) (C.2.2.2.2.1 (.methodLink RL 39 yX9_init) (by decide +kernel)) (C.2.2.2.2.1 (.instanceMethod yX9_init) (by decide +kernel)) rfl (by decide +kernel) ⟨Nat.le_of_ble_eq_true rfl, Nat.le_of_ble_eq_true rfl⟩) (Nat.le_of_ble_eq_true rfl) ⟨Nat.le_of_ble_eq_true rfl, Nat.le_of_ble_eq_true rfl⟩ dL_law_4 (fun ad1 h00 => ?_)
  refine e_astore_n (pc := 7) C dL_law_7 rfl (by decide) [(1, .ref q0), (0, .ref b)] rfl ?_
  refine e_new (pc := 8) (ci := 10) (N := 33) C n0_X10.2 (fun w h => bb_mem 46 rfl h) tyX10 tyX10_ok (by decide +kernel : Cond.classLink RL 40 RX10 ∈ bbL.flatten) (by decide +kernel) (by decide +kernel) rfl (fun j hj => by rcases (show j = 0 ∨ j = 1 ∨ j = 2 ∨ j = 3 ∨ j = 4 ∨ j = 5 ∨ j = 6 ∨ j = 7 ∨ j = 8 ∨ j = 9 ∨ j = 10 ∨ j = 11 ∨ j = 12 ∨ j = 13 ∨ j = 14 ∨ j = 15 ∨ j = 16 ∨ j = 17 ∨ j = 18 ∨ j = 19 ∨ j = 20 ∨ j = 21 ∨ j = 22 ∨ j = 23 ∨ j = 24 ∨ j = 25 ∨ j = 26 ∨ j = 27 ∨ j = 28 ∨ j = 29 ∨ j = 30 ∨ j = 31 ∨ j = 32 by omega) with rfl | rfl | rfl | rfl | rfl | rfl | rfl | rfl | rfl | rfl | rfl | rfl | rfl | rfl | rfl | rfl | rfl | rfl | rfl | rfl | rfl | rfl | rfl | rfl | rfl | rfl | rfl | rfl | rfl | rfl | rfl | rfl | rfl <;> rfl) ⟨Nat.le_of_ble_eq_true rfl, Nat.le_of_ble_eq_true rfl⟩ dL_law_8 (fun q1 => ?_)
  refine e_dup (pc := 11) C dL_law_11 rfl ?_
  refine e_callJ2 (R := room_1) (rest := [.ref q1]) (pc := 12) (X := [] ++ lWL cA ad1 S0 bIds) (nw := fun a => nw_X10 cA q1 a) C (ct_X10_init l D cA q1) (cwI 0 C.2.2.2.2.1 gL_law_X10_init rfl rfl rfl (C.2.2.2.2.1 (.initialized RX10) (by decide +kernel)) (C.2.2.2.2.1 (.methodLink RL 42 yX10_init) (by decide +kernel)) (C.2.2.2.2.1 (.instanceMethod yX10_init) (by decide +kernel)) rfl (by decide +kernel) ⟨Nat.le_of_ble_eq_true rfl, Nat.le_of_ble_eq_true rfl⟩) (Nat.le_of_ble_eq_true rfl) ⟨Nat.le_of_ble_eq_true rfl, Nat.le_of_ble_eq_true rfl⟩ dL_law_12 (fun a => ?_)
  refine e_astore_n (pc := 15) C dL_law_15 rfl (by decide) [(2, .ref q1), (1, .ref q0), (0, .ref b)] rfl ?_
  refine e_iconst (v := 1) (pc := 16) C dL_law_16 (by decide) ?_
  refine e_newJ (pc := 17) C 1 (by decide +kernel) (by decide) (by decide) (by decide) ⟨Nat.le_of_ble_eq_true rfl, Nat.le_of_ble_eq_true rfl⟩ dL_law_17 (fun q2 => ?_)
  refine e_astore_n (pc := 19) C dL_law_19 rfl (by decide) [(3, .ref q2), (2, .ref q1), (1, .ref q0), (0, .ref b)] rfl ?_
  refine e_widen (k := 88) (n := 8348) (Nat.le_of_ble_eq_true rfl) (Nat.le_of_ble_eq_true rfl) ?_
  refine e_ws (lWL cA (adL ad1 q1 a q2) S0 (bIds ++ rIds ++ [(39, 0)])) rfl ?_
  have hme : ∀ x ∈ ids (nM S0), x ∈ bIds ++ rIds ++ [(39, 0)] := by decide +kernel
  have hnd : (ids (nM S0)).Nodup := by decide +kernel
  refine fun H locs ls hl hP hD hS => (?_ : KC 88 8348 p l e room_1 s m #[Value.ref b] below meth c 8 D cA (adL ad1 q1 a q2) (fun q => s.heap.size ≤ q) (lw_Z below #[Value.ref b] s) 20 [(3, .ref q2), (2, .ref q1), (1, .ref q0), (0, .ref b)] [] S0) H locs ls hl (lWL_P hme hP) (lWL_D hme hnd hD) hS
  refine c_iconst (v := 0) (pc := 20) C dL_law_20 (by decide) ?_
  refine c_istore (pc := 21) C dL_law_21 (by decide) [(4, .int 0), (3, .ref q2), (2, .ref q1), (1, .ref q0), (0, .ref b)] rfl ?_
  have e0 : q0 = adL ad1 q1 a q2 0 0 := h00.symm
  have hh := law_loop (Q := lw_Z below #[Value.ref b] s) (below := below) (e := e) (meth := meth) C hX hbl hbA hE hM hst hL (fun kc ks ad S lv hk hs => c_iconst (v := 1) (pc := 1709) C dL_law_1709 (by decide) (fun H locs ls hl hP hD hS => va_forget hS.2.2 (W.widen hk hs (lw_ret hx hb hr hlocks dL_law_1710)))) 512 0 (by omega) (by omega) (adL ad1 q1 a q2) S0 Rel_S0
  rw [e0]
  exact hh
