/-! the law's start: what the tables and the premises give -/
theorem lWL_P {D : va_G} {cA : Nat → ClassId} {ad : Nat → Nat → Nat} {S : Sg} {L M : List (Nat × Nat)} {H : Heap} (hM : ∀ x ∈ M, x ∈ L) (h : va_P D vwCl (lWL cA ad S L) H) : va_P D vwCl (lWL cA ad S M) H := by
  intro k q hq
  obtain ⟨x, hx, rfl⟩ := List.mem_map.mp (List.mem_of_getElem? hq)
  obtain ⟨i, hi⟩ := List.getElem?_of_mem (List.mem_map.mpr ⟨x, hM x hx, rfl⟩ : (ad x.1 x.2, cel cA ad S x.1 x.2) ∈ lWL cA ad S L)
  exact h i _ hi
theorem lWL_at {cA : Nat → ClassId} {ad : Nat → Nat → Nat} {S : Sg} {L : List (Nat × Nat)} {i : Nat} {x : Nat × Nat} (h : L[i]? = some x) : (lWL cA ad S L)[i]? = some (ad x.1 x.2, cel cA ad S x.1 x.2) := by
  unfold lWL
  rw [List.getElem?_map, h]
  rfl
theorem lWL_D {A : Nat → Prop} {cA : Nat → ClassId} {ad : Nat → Nat → Nat} {S : Sg} {L M : List (Nat × Nat)} (hM : ∀ x ∈ M, x ∈ L) (hn : M.Nodup) (h : va_D A (lWL cA ad S L)) : va_D A (lWL cA ad S M) := by
  have hv : ∀ (i : Nat) (p : Nat × va_E), (lWL cA ad S M)[i]? = some p → ∃ x, M[i]? = some x ∧ p = (ad x.1 x.2, cel cA ad S x.1 x.2) := fun i p hi => by
    unfold lWL at hi
    rw [List.getElem?_map] at hi
    obtain ⟨x, h1, h2⟩ := Option.map_eq_some_iff.mp hi
    exact ⟨x, h1, h2.symm⟩
  refine ⟨fun i j p q hi hj e => ?_, fun k q hq => ?_⟩
  · obtain ⟨x, hx, rfl⟩ := hv i p hi
    obtain ⟨y, hy, rfl⟩ := hv j q hj
    obtain ⟨a, ha⟩ := List.getElem?_of_mem (hM x (List.mem_of_getElem? hx))
    obtain ⟨b, hb⟩ := List.getElem?_of_mem (hM y (List.mem_of_getElem? hy))
    have hab := h.1 a b _ _ (lWL_at ha) (lWL_at hb) e
    subst hab
    have hxy : x = y := Option.some.inj (ha.symm.trans hb)
    subst hxy
    exact (List.getElem?_inj (List.getElem?_eq_some_iff.mp hx).1 hn).mp (hx.trans hy.symm)
  · obtain ⟨x, hx, rfl⟩ := hv k q hq
    obtain ⟨a, ha⟩ := List.getElem?_of_mem (hM x (List.mem_of_getElem? hx))
    exact h.2 a _ (lWL_at ha)
theorem st_arr {s : State} {args : Array Value} {ty : FieldType} (h : (Cond.arrayClass ty).before args s = true) : ∃ c, ArrOfT s c ty ∧ s.vm.findClass ("[" ++ ty.toString) = some c := by
  obtain ⟨c, k, comp, h1, h2, h3⟩ := Cond.arrayClass_spec h
  exact ⟨c, fun n z => ⟨fun k h => (by cases h), k, h2, comp, h3⟩, h1⟩
theorem st_arrO {s : State} {C : String} (h : va_AO C s) : ∃ c, ArrOfT s c (.object C) ∧ va_RA s c (.object C) := by
  obtain ⟨comp, c, k, hcomp, -, hk, hkind, hname⟩ := Cond.arrayOver_spec h
  exact ⟨c, fun n z => ⟨fun k h => (by cases h), k, hk, comp, hkind⟩, k, comp, hk, hkind, hcomp, hname⟩
theorem st_arrA {s : State} {ty : FieldType} (h : va_AOA ty s) : ∃ c, ArrOfT s c (.array ty) ∧ s.vm.findClass ("[" ++ (FieldType.array ty).toString) = some c := by
  obtain ⟨comp, c, k, hcomp, -, hk, hkind, hname⟩ := arrayOver_specB h
  exact ⟨c, fun n z => ⟨fun k h => (by cases h), k, hk, comp, hkind⟩, hname⟩
theorem st_str {args : Array Value} {s : State} {own tx : String} {k : Nat} (h1 : (Cond.stringRef own k tx).before args s = true) (h2 : (Cond.exactly (.string own k) "java/lang/String").before args s = true) : ∃ sa : Nat, vk_R own k tx sa s := by
  obtain ⟨a, c, cell, k', ha, -⟩ := Cond.exactly_spec h2
  exact ⟨a, vk_R.of h1 ha⟩
section
variable {args : Array Value} {s : State}
theorem st_D (hts : ∀ w ∈ lw_tbl, w.before args s = true) : ∃ D : va_G, ∀ (k : Nat) (q : vw_C), vwCl[k]? = some q → u_Kn s q.1 q.2.1 q.2.2 (D.1 k) (D.2 k) := by
  obtain ⟨c0, i0, k0⟩ := u_known (C := RX0) (T := TX0) (N := 6) (n := 6) hts (fun w h => bbL_in w (bb_mem 48 rfl h)) (hts (.instantiable RX0 6) (by decide +kernel))
  obtain ⟨c1, i1, k1⟩ := u_known (C := RX1) (T := TX1) (N := 11) (n := 11) hts (fun w h => bbL_in w (bb_mem 54 rfl h)) (hts (.instantiable RX1 11) (by decide +kernel))
  obtain ⟨c2, i2, k2⟩ := u_known (C := RX2) (T := TX2) (N := 11) (n := 11) hts (fun w h => bbL_in w (bb_mem 50 rfl h)) (hts (.instantiable RX2 11) (by decide +kernel))
  obtain ⟨c3, i3, k3⟩ := u_known (C := RX3) (T := TX3) (N := 11) (n := 11) hts (fun w h => bbL_in w (bb_mem 55 rfl h)) (hts (.instantiable RX3 11) (by decide +kernel))
  obtain ⟨c4, i4, k4⟩ := u_known (C := RX4) (T := TX4) (N := 13) (n := 13) hts (fun w h => bbL_in w (bb_mem 52 rfl h)) (hts (.instantiable RX4 13) (by decide +kernel))
  obtain ⟨c5, i5, k5⟩ := u_known (C := RX5) (T := TX5) (N := 3) (n := 3) hts (fun w h => bbL_in w (bb_mem 47 rfl h)) (hts (.instantiable RX5 3) (by decide +kernel))
  obtain ⟨c6, i6, k6⟩ := u_known (C := RX6) (T := TX6) (N := 4) (n := 4) hts (fun w h => bbL_in w (bb_mem 51 rfl h)) (hts (.instantiable RX6 4) (by decide +kernel))
  obtain ⟨c7, i7, k7⟩ := u_known (C := RX7) (T := TX7) (N := 6) (n := 6) hts (fun w h => bbL_in w (bb_mem 49 rfl h)) (hts (.instantiable RX7 6) (by decide +kernel))
  obtain ⟨c8, i8, k8⟩ := u_known (C := RX8) (T := TX8) (N := 13) (n := 13) hts (fun w h => bbL_in w (bb_mem 53 rfl h)) (hts (.instantiable RX8 13) (by decide +kernel))
  obtain ⟨c9, i9, k9⟩ := u_known (C := RX9) (T := TX9) (N := 8) (n := 8) hts (fun w h => bbL_in w (bb_mem 45 rfl h)) (hts (.instantiable RX9 8) (by decide +kernel))
  obtain ⟨c10, i10, k10⟩ := u_known (C := RX10) (T := TX10) (N := 33) (n := 33) hts (fun w h => bbL_in w (bb_mem 46 rfl h)) (hts (.instantiable RX10 33) (by decide +kernel))
  refine ⟨(fun k => [c0, c1, c2, c3, c4, c5, c6, c7, c8, c9, c10].getD k c0, fun k => [i0, i1, i2, i3, i4, i5, i6, i7, i8, i9, i10].getD k i0), fun k q hq => ?_⟩
  match k, hq with
  | 0, hq => cases hq; exact k0
  | 1, hq => cases hq; exact k1
  | 2, hq => cases hq; exact k2
  | 3, hq => cases hq; exact k3
  | 4, hq => cases hq; exact k4
  | 5, hq => cases hq; exact k5
  | 6, hq => cases hq; exact k6
  | 7, hq => cases hq; exact k7
  | 8, hq => cases hq; exact k8
  | 9, hq => cases hq; exact k9
  | 10, hq => cases hq; exact k10
  | k + 11, hq => simp [vwCl] at hq
theorem st_EB (hts : ∀ w ∈ lw_tbl, w.before args s = true) : EB s :=
  ⟨hts (.arrayOver (.array .int)) (by decide +kernel), hts (.arrayOver (.object "CreepBoard$Mark")) (by decide +kernel), hts (.arrayOver (.object "CreepBoard$Shelf")) (by decide +kernel), va_Nw.of rfl (hts (.methodLinkNest RX9 17 yX5_init RX9) (by decide +kernel)), va_Nw.of rfl (hts (.methodLinkNest RX9 24 yX0_init RX9) (by decide +kernel)), va_Nw.of rfl (hts (.methodLinkNest RX9 31 yX7_init RX9) (by decide +kernel)), va_Nw.of rfl (hts (.methodLinkNest RX9 38 yX2_init RX9) (by decide +kernel)), va_Nw.of rfl (hts (.methodLinkNest RX9 49 yX6_init RX9) (by decide +kernel))⟩
theorem st_EM (hts : ∀ w ∈ lw_tbl, w.before args s = true) : EM s :=
  ⟨hts (.arrayOver (.array .int)) (by decide +kernel), va_Nw.of rfl (hts (.castable RX4 RX3) (by decide +kernel)), va_Nw.of rfl (hts (.castable RX8 RX3) (by decide +kernel)), va_Nw.of rfl (hts (.castable RX1 RX3) (by decide +kernel))⟩
theorem st_K (hts : ∀ w ∈ lw_tbl, w.before args s = true) : ∃ (D : va_G) (cA : Nat → ClassId), va_K D vwCl (tyl cA) s := by
  obtain ⟨D, hD⟩ := st_D hts
  have hB := st_EB hts
  obtain ⟨a0, x0, y0⟩ := st_arr (hts (.arrayClass .int) (by decide +kernel))
  obtain ⟨a1, x1, y1⟩ := st_arr (hts (.arrayClass .boolean) (by decide +kernel))
  obtain ⟨a2, x2, y2⟩ := st_arr (hts (.arrayClass .long) (by decide +kernel))
  obtain ⟨a3, x3, y3⟩ := st_arrO hB.2.1
  obtain ⟨a4, x4, y4⟩ := st_arrO hB.2.2.1
  obtain ⟨a5, x5, y5⟩ := st_arrA hB.1
  refine ⟨D, fun k => [a0, a1, a2, a3, a4, a5].getD k a0, hD, fun k q hq => ?_⟩
  match k, hq with
  | 0, hq => cases hq; exact ⟨x0, y0⟩
  | 1, hq => cases hq; exact ⟨x1, y1⟩
  | 2, hq => cases hq; exact ⟨x2, y2⟩
  | 3, hq => cases hq; exact ⟨x3, y3⟩
  | 4, hq => cases hq; exact ⟨x4, y4⟩
  | 5, hq => cases hq; exact ⟨x5, y5⟩
  | k + 6, hq => simp [tyl] at hq
theorem st_EX (hts : ∀ w ∈ lw_tbl, w.before args s = true) (hgv : (Jvm.Cond.and given_1 narrow_1).before args s = true) : EX (fun q => s.heap.size ≤ q) s s.heap := by
  have hs := flat_of_before _ hgv
  have hA : ∀ a : Nat, a < s.heap.size → ¬ (fun q : Nat => s.heap.size ≤ q) a := fun a h => Nat.not_le.mpr h
  refine ⟨vx_Zqof (hts (.laysStatic Bundle.tN "UNASSIGNED_STACK" Bundle.steD) (by decide +kernel)) (hts (.initialized Bundle.tN) (by decide +kernel)) (hs (.isRef (.static Bundle.tN "UNASSIGNED_STACK" Bundle.steD)) (by decide +kernel)) hA, vx_Zqof (hts (.laysStatic Bundle.tN "SUPPRESSED_SENTINEL" Bundle.listD) (by decide +kernel)) (hts (.initialized Bundle.tN) (by decide +kernel)) (hs (.isRef (.static Bundle.tN "SUPPRESSED_SENTINEL" Bundle.listD)) (by decide +kernel)) hA, va_Nw.of rfl (hts (.castable IAE IAE) (by decide +kernel)), va_Nw.of rfl (hts (.castable ISE ISE) (by decide +kernel)), va_Nw.of rfl (hts (.castable RX8 RX4) (by decide +kernel)), va_Nc.of (hs (.not (.castable RX3 RX4)) (by decide +kernel)), va_Nc.of (hs (.not (.castable RX1 RX4)) (by decide +kernel)), va_Nc.of (hs (.not (.castable ISE IAE)) (by decide +kernel)), ?_, va_Nw.of rfl (hts (.declares (Bundle.initS "java/lang/RuntimeException")) (by decide +kernel)), va_Nw.of rfl (hts (.declares (Bundle.initS "java/lang/Exception")) (by decide +kernel)), va_Nw.of rfl (hts (.declares (Bundle.initS Bundle.tN)) (by decide +kernel))⟩
  have h1 : ∀ i ∈ strs, Cond.stringRef i.1 i.2.1 i.2.2 ∈ lw_tbl := by decide +kernel
  have h2 : ∀ i ∈ strs, Cond.exactly (.string i.1 i.2.1) "java/lang/String" ∈ flatC (Jvm.Cond.and given_1 narrow_1) := by decide +kernel
  exact fun i hi => st_str (hts _ (h1 i hi)) (hs _ (h2 i hi))
end
