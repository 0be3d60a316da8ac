/-! mark: a new mark's cells become part of the world -/
def nwM (S : Sg) (kd : Nat) (a1 a2 a3 : Int32) : Sg :=
  (fun a b => if a = 26 then (if b = nM S then (fun f => if f = 0 then a1 else if f = 1 then a2 else if f = 2 then a3 else 0) else S.1 a b) else S.1 a b,
   fun a b => if a = 27 then (if b = nM S then (fun _ => 0) else S.2.1 a b) else if a = 30 then (if b = nM S then (fun _ => 0) else S.2.1 a b) else if a = 33 then (if b = nM S then (fun _ => 0) else S.2.1 a b) else if a = 34 then (if b = nM S then (fun _ => 0) else S.2.1 a b) else if a = 29 then (if b = 2 * nM S then (fun _ => 0) else if b = 2 * nM S + 1 then (fun _ => 0) else S.2.1 a b) else if a = 32 then (if b = 2 * nM S then (fun _ => 0) else if b = 2 * nM S + 1 then (fun _ => 0) else S.2.1 a b) else S.2.1 a b,
   S.2.2.1, nM S + 1, fun k => if k = nM S then kd else kM S k, sM S)
def adM (ad : Nat → Nat → Nat) (n q : Nat) (a r1 r2 : Nat → Nat) (t k : Nat) : Nat :=
  if t = 26 then (if k = n then q else ad t k) else
  if t = 27 then (if k = n then a 0 else ad t k) else
  if t = 28 then (if k = n then a 1 else ad t k) else
  if t = 29 then (if k = 2 * n then r1 0 else if k = 2 * n + 1 then r1 1 else ad t k) else
  if t = 30 then (if k = n then a 2 else ad t k) else
  if t = 31 then (if k = n then a 3 else ad t k) else
  if t = 32 then (if k = 2 * n then r2 0 else if k = 2 * n + 1 then r2 1 else ad t k) else
  if t = 33 then (if k = n then a 4 else ad t k) else
  if t = 34 then (if k = n then a 5 else ad t k) else ad t k
theorem ids_succ (n : Nat) : ids (n + 1) = ids n ++ idM n := by
  have e : (List.range (n + 1)).flatMap idM = (List.range n).flatMap idM ++ idM n := by
    rw [List.range_succ, List.flatMap_append]
    simp only [List.flatMap_cons, List.flatMap_nil, List.append_nil]
  unfold ids
  rw [e]
  simp only [List.append_assoc]
theorem ad29 (ad : Nat → Nat → Nat) (n q : Nat) (a r1 r2 : Nat → Nat) (k : Nat) : adM ad n q a r1 r2 29 k = if k = 2 * n then r1 0 else if k = 2 * n + 1 then r1 1 else ad 29 k := rfl
theorem ad32 (ad : Nat → Nat → Nat) (n q : Nat) (a r1 r2 : Nat → Nat) (k : Nat) : adM ad n q a r1 r2 32 k = if k = 2 * n then r2 0 else if k = 2 * n + 1 then r2 1 else ad 32 k := rfl
theorem arrV_eq {c : ClassId} {n : Nat} {f g : Nat → Value} (h : ∀ j, j < n → f j = g j) : arrV c n f = arrV c n g := by
  unfold arrV
  have e : (fun j : Fin n => f j.val) = (fun j : Fin n => g j.val) := funext (fun j => h j.val j.isLt)
  rw [e]
theorem at_cong {D : va_G} {b : Nat} {c : ClassId} {n : Nat} {f g : Nat → Option Nat} {H : Heap} (h : ∀ j, j < n → f j = g j) (hat : va_at D vwCl (b, .inl (c, n, .inr (.inr (.inr (.inr f))))) H) : va_at D vwCl (b, .inl (c, n, .inr (.inr (.inr (.inr g))))) H := by
  have e : arrV c n (fun j => va_rf (f j)) = arrV c n (fun j => va_rf (g j)) := arrV_eq (fun j hj => by rw [h j hj])
  show H[b]? = some (arrV c n (fun j => va_rf (g j)))
  rw [← e]
  exact hat
section
variable {D : va_G} {cA : Nat → ClassId} {ad : Nat → Nat → Nat} {S : Sg} {kd : Nat} {a1 a2 a3 : Int32} {q : Nat} {a r1 r2 : Nat → Nat} {H : Heap}
theorem idM_old {t k j n : Nat} (hj : j < n) (h : (t, k) ∈ idM j) : adM ad n q a r1 r2 t k = ad t k := by
  simp only [idM, List.mem_cons, Prod.mk.injEq, List.not_mem_nil, or_false] at h
  rcases h with ⟨rfl, rfl⟩ | ⟨rfl, rfl⟩ | ⟨rfl, rfl⟩ | ⟨rfl, rfl⟩ | ⟨rfl, rfl⟩ | ⟨rfl, rfl⟩ | ⟨rfl, rfl⟩ | ⟨rfl, rfl⟩ | ⟨rfl, rfl⟩ | ⟨rfl, rfl⟩ | ⟨rfl, rfl⟩
  · show (if k = n then _ else _) = _
    rw [if_neg (by omega)]
  · show (if k = n then _ else _) = _
    rw [if_neg (by omega)]
  · show (if k = n then _ else _) = _
    rw [if_neg (by omega)]
  · show (if 2 * j = 2 * n then _ else if 2 * j = 2 * n + 1 then _ else _) = _
    rw [if_neg (by omega), if_neg (by omega)]
  · show (if 2 * j + 1 = 2 * n then _ else if 2 * j + 1 = 2 * n + 1 then _ else _) = _
    rw [if_neg (by omega), if_neg (by omega)]
  · show (if k = n then _ else _) = _
    rw [if_neg (by omega)]
  · show (if k = n then _ else _) = _
    rw [if_neg (by omega)]
  · show (if 2 * j = 2 * n then _ else if 2 * j = 2 * n + 1 then _ else _) = _
    rw [if_neg (by omega), if_neg (by omega)]
  · show (if 2 * j + 1 = 2 * n then _ else if 2 * j + 1 = 2 * n + 1 then _ else _) = _
    rw [if_neg (by omega), if_neg (by omega)]
  · show (if k = n then _ else _) = _
    rw [if_neg (by omega)]
  · show (if k = n then _ else _) = _
    rw [if_neg (by omega)]
theorem fx_tag {t k : Nat} (h : (t, k) ∈ fxI) : t < 26 ∨ 34 < t := by
  have e : fxI.all (fun i => decide (i.1 < 26 ∨ 34 < i.1)) = true := by decide
  exact of_decide_eq_true (List.all_eq_true.mp e _ h)
theorem ids_cases {t k n : Nat} (h : (t, k) ∈ ids n) : (t, k) ∈ fxI ∨ ((t = 19 ∨ t = 21) ∨ t = 25) ∨ (t = 24 ∧ k < 8) ∨ ∃ j, j < n ∧ (t, k) ∈ idM j := by
  rcases List.mem_append.mp h with h | h
  · exact Or.inl h
  rcases List.mem_append.mp h with h | h
  · obtain ⟨r, hr, h⟩ := List.mem_flatMap.mp h
    simp only [List.mem_cons, Prod.mk.injEq, List.not_mem_nil, or_false] at h
    omega
  rcases List.mem_append.mp h with h | h
  · obtain ⟨r, hr, h⟩ := List.mem_flatMap.mp h
    simp only [List.mem_cons, Prod.mk.injEq, List.not_mem_nil, or_false] at h
    have := List.mem_range.mp hr
    omega
  · obtain ⟨r, hr, h⟩ := List.mem_flatMap.mp h
    exact Or.inr (Or.inr (Or.inr ⟨r, List.mem_range.mp hr, h⟩))
theorem adM_lo {t k n : Nat} (h : t < 26 ∨ 34 < t) : adM ad n q a r1 r2 t k = ad t k := by
  unfold adM
  rw [if_neg (by omega), if_neg (by omega), if_neg (by omega), if_neg (by omega), if_neg (by omega), if_neg (by omega), if_neg (by omega), if_neg (by omega), if_neg (by omega)]
theorem ids_old {t k n : Nat} (h : (t, k) ∈ ids n) : adM ad n q a r1 r2 t k = ad t k := by
  rcases ids_cases h with h | h | h | ⟨j, hj, h⟩
  · exact adM_lo (fx_tag h)
  · exact adM_lo (by omega)
  · exact adM_lo (by omega)
  · exact idM_old hj h
set_option maxHeartbeats 4000000 in
theorem at_old {t k b : Nat} (hs : ∀ d j, d < 8 → sM S d = some j → j < nM S) (h : (t, k) ∈ ids (nM S)) (h1 : t ≠ 1) (hat : va_at D vwCl (b, cel cA ad S t k) H) : va_at D vwCl (b, cel cA (adM ad (nM S) q a r1 r2) (nwM S kd a1 a2 a3) t k) H := by
  rcases ids_cases h with h | h | h | ⟨j, hj, h⟩
  · simp only [fxI, List.mem_cons, Prod.mk.injEq, List.not_mem_nil, or_false] at h
    rcases h with ⟨rfl, rfl⟩ | ⟨rfl, rfl⟩ | ⟨rfl, rfl⟩ | ⟨rfl, rfl⟩ | ⟨rfl, rfl⟩ | ⟨rfl, rfl⟩ | ⟨rfl, rfl⟩ | ⟨rfl, rfl⟩ | ⟨rfl, rfl⟩ | ⟨rfl, rfl⟩ | ⟨rfl, rfl⟩ | ⟨rfl, rfl⟩ | ⟨rfl, rfl⟩ | ⟨rfl, rfl⟩ | ⟨rfl, rfl⟩ | ⟨rfl, rfl⟩ | ⟨rfl, rfl⟩ | ⟨rfl, rfl⟩ | ⟨rfl, rfl⟩ | ⟨rfl, rfl⟩ | ⟨rfl, rfl⟩ | ⟨rfl, rfl⟩ | ⟨rfl, rfl⟩ | ⟨rfl, rfl⟩ | ⟨rfl, rfl⟩ | ⟨rfl, rfl⟩ | ⟨rfl, rfl⟩ | ⟨rfl, rfl⟩ | ⟨rfl, rfl⟩ | ⟨rfl, rfl⟩ | ⟨rfl, rfl⟩ | ⟨rfl, rfl⟩ | ⟨rfl, rfl⟩ | ⟨rfl, rfl⟩ | ⟨rfl, rfl⟩ | ⟨rfl, rfl⟩ | ⟨rfl, rfl⟩ | ⟨rfl, rfl⟩ | ⟨rfl, rfl⟩ | ⟨rfl, rfl⟩ | ⟨rfl, rfl⟩ | ⟨rfl, rfl⟩ | ⟨rfl, rfl⟩ | ⟨rfl, rfl⟩ | ⟨rfl, rfl⟩ | ⟨rfl, rfl⟩ | ⟨rfl, rfl⟩ | ⟨rfl, rfl⟩ | ⟨rfl, rfl⟩ | ⟨rfl, rfl⟩ | ⟨rfl, rfl⟩ | ⟨rfl, rfl⟩
    all_goals first | exact absurd rfl h1 | exact hat
  · rcases h with (rfl | rfl) | rfl
    all_goals exact hat
  · obtain ⟨rfl, hk8⟩ := h
    rw [cel_24]
    rw [cel_24] at hat
    have e : (sM (nwM S kd a1 a2 a3) k).map (fun j => adM ad (nM S) q a r1 r2 26 j) = (sM S k).map (fun j => ad 26 j) := by
      show (sM S k).map _ = _
      cases hm : sM S k with
      | none => rfl
      | some j =>
        have hj := hs k j hk8 hm
        show some (if j = nM S then _ else _) = some _
        rw [if_neg (by omega)]
    rw [e]
    exact hat
  · have ea : ∀ {t k : Nat}, (t, k) ∈ idM j → adM ad (nM S) q a r1 r2 t k = ad t k := fun h => idM_old hj h
    simp only [idM, List.mem_cons, Prod.mk.injEq, List.not_mem_nil, or_false] at h
    rcases h with ⟨rfl, rfl⟩ | ⟨rfl, rfl⟩ | ⟨rfl, rfl⟩ | ⟨rfl, rfl⟩ | ⟨rfl, rfl⟩ | ⟨rfl, rfl⟩ | ⟨rfl, rfl⟩ | ⟨rfl, rfl⟩ | ⟨rfl, rfl⟩ | ⟨rfl, rfl⟩ | ⟨rfl, rfl⟩
    · have hk : kM (nwM S kd a1 a2 a3) k = kM S k := if_neg (by omega)
      have hg : gI (nwM S kd a1 a2 a3) 26 k = gI S 26 k := if_neg (by omega)
      rw [cel_26] at hat
      rw [cel_26, hk, hg, ea (t := 27) (k := k) (by simp [idM]), ea (t := 28) (k := k) (by simp [idM]), ea (t := 30) (k := k) (by simp [idM]), ea (t := 31) (k := k) (by simp [idM]), ea (t := 33) (k := k) (by simp [idM]), ea (t := 34) (k := k) (by simp [idM])]
      exact hat
    · have hg : gA (nwM S kd a1 a2 a3) 27 k = gA S 27 k := if_neg (by omega)
      rw [cel_27, hg]
      exact hat
    · rw [cel_28] at hat
      rw [cel_28]
      exact at_cong (fun i hi => by
        have : adM ad (nM S) q a r1 r2 29 (2 * k + i) = ad 29 (2 * k + i) := by
          show (if 2 * k + i = 2 * nM S then _ else if 2 * k + i = 2 * nM S + 1 then _ else _) = _
          rw [if_neg (by omega), if_neg (by omega)]
        rw [this]) hat
    · have hg : gA (nwM S kd a1 a2 a3) 29 (2 * j) = gA S 29 (2 * j) := (if_neg (by omega)).trans (if_neg (by omega))
      rw [cel_29, hg]
      exact hat
    · have hg : gA (nwM S kd a1 a2 a3) 29 (2 * j + 1) = gA S 29 (2 * j + 1) := (if_neg (by omega)).trans (if_neg (by omega))
      rw [cel_29, hg]
      exact hat
    · have hg : gA (nwM S kd a1 a2 a3) 30 k = gA S 30 k := if_neg (by omega)
      rw [cel_30, hg]
      exact hat
    · rw [cel_31] at hat
      rw [cel_31]
      exact at_cong (fun i hi => by
        have : adM ad (nM S) q a r1 r2 32 (2 * k + i) = ad 32 (2 * k + i) := by
          show (if 2 * k + i = 2 * nM S then _ else if 2 * k + i = 2 * nM S + 1 then _ else _) = _
          rw [if_neg (by omega), if_neg (by omega)]
        rw [this]) hat
    · have hg : gA (nwM S kd a1 a2 a3) 32 (2 * j) = gA S 32 (2 * j) := (if_neg (by omega)).trans (if_neg (by omega))
      rw [cel_32, hg]
      exact hat
    · have hg : gA (nwM S kd a1 a2 a3) 32 (2 * j + 1) = gA S 32 (2 * j + 1) := (if_neg (by omega)).trans (if_neg (by omega))
      rw [cel_32, hg]
      exact hat
    · have hg : gA (nwM S kd a1 a2 a3) 33 k = gA S 33 k := if_neg (by omega)
      rw [cel_33, hg]
      exact hat
    · have hg : gA (nwM S kd a1 a2 a3) 34 k = gA S 34 k := if_neg (by omega)
      rw [cel_34, hg]
      exact hat
theorem d1_new (hkd : kd < 4) : cel cA (adM ad (nM S) q a r1 r2) (nwM S kd a1 a2 a3) 26 (nM S) = .inr (d1K kd a1 a2 a3 a) := by
  have e27 : adM ad (nM S) q a r1 r2 27 (nM S) = a 0 := if_pos rfl
  have e28 : adM ad (nM S) q a r1 r2 28 (nM S) = a 1 := if_pos rfl
  have e30 : adM ad (nM S) q a r1 r2 30 (nM S) = a 2 := if_pos rfl
  have e31 : adM ad (nM S) q a r1 r2 31 (nM S) = a 3 := if_pos rfl
  have e33 : adM ad (nM S) q a r1 r2 33 (nM S) = a 4 := if_pos rfl
  have e34 : adM ad (nM S) q a r1 r2 34 (nM S) = a 5 := if_pos rfl
  have hk : kM (nwM S kd a1 a2 a3) (nM S) = kd := if_pos rfl
  have hg : gI (nwM S kd a1 a2 a3) 26 (nM S) = (fun f => if f = 0 then a1 else if f = 1 then a2 else if f = 2 then a3 else 0) := if_pos rfl
  rcases (show kd = 0 ∨ kd = 1 ∨ kd = 2 ∨ kd = 3 by omega) with rfl | rfl | rfl | rfl
  · rw [celM_0 hk, hg, e27, e28, e30, e31, e33, e34]
    rfl
  · rw [celM_1 hk, hg, e27, e28, e30, e31, e33, e34]
    rfl
  · rw [celM_2 hk, hg, e27, e28, e30, e31, e33, e34]
    rfl
  · rw [celM_3 (by rw [hk]; decide), hg, e27, e28, e30, e31, e33, e34]
    rfl
/-- the eleven new cells, each where its number stands -/
theorem at_new (hkd : kd < 4) {t k : Nat} (h : (t, k) ∈ idM (nM S)) : ∃ w ∈ mkMk cA q (d1K kd a1 a2 a3 a) a r1 r2, w.1 = adM ad (nM S) q a r1 r2 t k ∧ (va_at D vwCl w H → va_at D vwCl (w.1, cel cA (adM ad (nM S) q a r1 r2) (nwM S kd a1 a2 a3) t k) H) := by
  simp only [idM, List.mem_cons, Prod.mk.injEq, List.not_mem_nil, or_false] at h
  have p0 : ∀ i, i < 2 → adM ad (nM S) q a r1 r2 29 (2 * nM S + i) = r1 i := fun i hi => by
    rcases (show i = 0 ∨ i = 1 by omega) with rfl | rfl
    · exact if_pos rfl
    · rw [ad29, if_neg (by omega), if_pos rfl]
  have p1 : ∀ i, i < 2 → adM ad (nM S) q a r1 r2 32 (2 * nM S + i) = r2 i := fun i hi => by
    rcases (show i = 0 ∨ i = 1 by omega) with rfl | rfl
    · exact if_pos rfl
    · rw [ad32, if_neg (by omega), if_pos rfl]
  rcases h with ⟨rfl, rfl⟩ | ⟨rfl, rfl⟩ | ⟨rfl, rfl⟩ | ⟨rfl, rfl⟩ | ⟨rfl, rfl⟩ | ⟨rfl, rfl⟩ | ⟨rfl, rfl⟩ | ⟨rfl, rfl⟩ | ⟨rfl, rfl⟩ | ⟨rfl, rfl⟩ | ⟨rfl, rfl⟩
  · exact ⟨(q, .inr (d1K kd a1 a2 a3 a)), List.mem_of_getElem? (i := 0) rfl, (if_pos rfl).symm, fun h => by rw [d1_new hkd]; exact h⟩
  · refine ⟨(a 0, _), List.mem_of_getElem? (i := 1) rfl, (if_pos rfl).symm, fun h => ?_⟩
    have hg : gA (nwM S kd a1 a2 a3) 27 (nM S) = fun _ => 0 := if_pos rfl
    rw [cel_27, hg]
    exact h
  · refine ⟨(a 1, _), List.mem_of_getElem? (i := 2) rfl, (if_pos rfl).symm, fun h => ?_⟩
    rw [cel_28]
    exact at_cong (fun i hi => by rw [if_pos hi, p0 i hi]) h
  · refine ⟨(r1 0, _), List.mem_of_getElem? (i := 3) rfl, (if_pos rfl).symm, fun h => ?_⟩
    have hg : gA (nwM S kd a1 a2 a3) 29 (2 * nM S) = fun _ => 0 := if_pos rfl
    rw [cel_29, hg]
    exact h
  · refine ⟨(r1 1, _), List.mem_of_getElem? (i := 4) rfl, (p0 1 (by omega)).symm, fun h => ?_⟩
    have hg : gA (nwM S kd a1 a2 a3) 29 (2 * nM S + 1) = fun _ => 0 := (if_neg (by omega)).trans (if_pos rfl)
    rw [cel_29, hg]
    exact h
  · refine ⟨(a 2, _), List.mem_of_getElem? (i := 5) rfl, (if_pos rfl).symm, fun h => ?_⟩
    have hg : gA (nwM S kd a1 a2 a3) 30 (nM S) = fun _ => 0 := if_pos rfl
    rw [cel_30, hg]
    exact h
  · refine ⟨(a 3, _), List.mem_of_getElem? (i := 6) rfl, (if_pos rfl).symm, fun h => ?_⟩
    rw [cel_31]
    exact at_cong (fun i hi => by rw [if_pos hi, p1 i hi]) h
  · refine ⟨(r2 0, _), List.mem_of_getElem? (i := 7) rfl, (if_pos rfl).symm, fun h => ?_⟩
    have hg : gA (nwM S kd a1 a2 a3) 32 (2 * nM S) = fun _ => 0 := if_pos rfl
    rw [cel_32, hg]
    exact h
  · refine ⟨(r2 1, _), List.mem_of_getElem? (i := 8) rfl, (p1 1 (by omega)).symm, fun h => ?_⟩
    have hg : gA (nwM S kd a1 a2 a3) 32 (2 * nM S + 1) = fun _ => 0 := (if_neg (by omega)).trans (if_pos rfl)
    rw [cel_32, hg]
    exact h
  · refine ⟨(a 4, _), List.mem_of_getElem? (i := 9) rfl, (if_pos rfl).symm, fun h => ?_⟩
    have hg : gA (nwM S kd a1 a2 a3) 33 (nM S) = fun _ => 0 := if_pos rfl
    rw [cel_33, hg]
    exact h
  · refine ⟨(a 5, _), List.mem_of_getElem? (i := 10) rfl, (if_pos rfl).symm, fun h => ?_⟩
    have hg : gA (nwM S kd a1 a2 a3) 34 (nM S) = fun _ => 0 := if_pos rfl
    rw [cel_34, hg]
    exact h
theorem map_new : (idM (nM S)).map (fun i => adM ad (nM S) q a r1 r2 i.1 i.2) = (mkMk cA q (d1K kd a1 a2 a3 a) a r1 r2).map (fun w => w.1) := by
  have p0 : adM ad (nM S) q a r1 r2 29 (2 * nM S + 1) = r1 1 := by rw [ad29, if_neg (by omega), if_pos rfl]
  have p1 : adM ad (nM S) q a r1 r2 32 (2 * nM S + 1) = r2 1 := by rw [ad32, if_neg (by omega), if_pos rfl]
  have e26 : adM ad (nM S) q a r1 r2 26 (nM S) = q := by
    show (if nM S = nM S then q else ad 26 (nM S)) = q
    rw [if_pos rfl]
  have e27 : adM ad (nM S) q a r1 r2 27 (nM S) = a 0 := if_pos rfl
  have e28 : adM ad (nM S) q a r1 r2 28 (nM S) = a 1 := if_pos rfl
  have e29 : adM ad (nM S) q a r1 r2 29 (2 * nM S) = r1 0 := if_pos rfl
  have e30 : adM ad (nM S) q a r1 r2 30 (nM S) = a 2 := if_pos rfl
  have e31 : adM ad (nM S) q a r1 r2 31 (nM S) = a 3 := if_pos rfl
  have e32 : adM ad (nM S) q a r1 r2 32 (2 * nM S) = r2 0 := if_pos rfl
  have e33 : adM ad (nM S) q a r1 r2 33 (nM S) = a 4 := if_pos rfl
  have e34 : adM ad (nM S) q a r1 r2 34 (nM S) = a 5 := if_pos rfl
  simp only [idM, List.map_cons, List.map_nil, p0, p1, e26, e27, e28, e29, e30, e31, e32, e33, e34]
theorem vd_of_map {A : Nat → Prop} {w w' : va_W} (h : w'.map (fun x => x.1) = w.map (fun x => x.1)) (hD : va_D A w) : va_D A w' := by
  have key : ∀ (i : Nat) (x : Nat × va_E), w'[i]? = some x → ∃ y : Nat × va_E, w[i]? = some y ∧ y.1 = x.1 := fun i x hx => by
    have e : (w'.map (fun x => x.1))[i]? = some x.1 := by rw [List.getElem?_map, hx]; rfl
    rw [h, List.getElem?_map] at e
    cases hw : w[i]? with
    | none => rw [hw] at e; cases e
    | some y => rw [hw] at e; exact ⟨y, rfl, Option.some.inj e⟩
  refine ⟨fun i j x y hx hy he => ?_, fun i x hx => ?_⟩
  · obtain ⟨x', hx', ex⟩ := key i x hx
    obtain ⟨y', hy', ey⟩ := key j y hy
    exact hD.1 i j x' y' hx' hy' (by rw [ex, ey]; exact he)
  · obtain ⟨x', hx', ex⟩ := key i x hx
    rw [← ex]
    exact hD.2 i x' hx'
theorem set_fst {w : va_W} {i : Nat} {x : Nat × va_E} {y : Nat × va_E} (h : w[i]? = some y) (he : x.1 = y.1) : (w.set i x).map (fun z => z.1) = w.map (fun z => z.1) := by
  rw [List.map_set]
  apply List.ext_getElem?
  intro j
  rw [List.getElem?_set]
  by_cases hj : i = j
  · subst hj
    have hl : i < (w.map (fun z => z.1)).length := by
      rw [List.length_map]
      exact (List.getElem?_eq_some_iff.mp h).1
    rw [if_pos rfl, if_pos hl, List.getElem?_map, h, he]
    rfl
  · rw [if_neg hj]
/-- the world behind the aastore is the new state's -/
theorem lW_mark {A : Nat → Prop} {q0 : Nat} (hkd : kd < 4) (hs : ∀ d j, d < 8 → sM S d = some j → j < nM S) (hi : (ids (nM S))[q0]? = some (1, 0)) (hP : va_P D vwCl ((lW cA ad S ++ mkMk cA q (d1K kd a1 a2 a3 a) a r1 r2).set q0 (ad 1 0, .inl (cA 3, 10, .inr (.inr (.inr (.inr (va_up (fun j => if j < nM S then some (ad 26 j) else none) (nM S) (some q)))))))) H) (hD : va_D A ((lW cA ad S ++ mkMk cA q (d1K kd a1 a2 a3 a) a r1 r2).set q0 (ad 1 0, .inl (cA 3, 10, .inr (.inr (.inr (.inr (va_up (fun j => if j < nM S then some (ad 26 j) else none) (nM S) (some q))))))))) : va_P D vwCl (lW cA (adM ad (nM S) q a r1 r2) (nwM S kd a1 a2 a3)) H ∧ va_D A (lW cA (adM ad (nM S) q a r1 r2) (nwM S kd a1 a2 a3)) := by
  have hlW : (lW cA ad S)[q0]? = some (ad 1 0, cel cA ad S 1 0) := by
    unfold lW
    rw [List.getElem?_map, hi]
    rfl
  have hlt : q0 < (lW cA ad S).length := (List.getElem?_eq_some_iff.mp hlW).1
  have hap : (lW cA ad S ++ mkMk cA q (d1K kd a1 a2 a3 a) a r1 r2)[q0]? = some (ad 1 0, cel cA ad S 1 0) := by
    rw [List.getElem?_append_left hlt]
    exact hlW
  constructor
  · intro i x hx
    have hx' : x ∈ lW cA (adM ad (nM S) q a r1 r2) (nwM S kd a1 a2 a3) := List.mem_of_getElem? hx
    unfold lW at hx'
    obtain ⟨⟨t, k⟩, htk, rfl⟩ := List.mem_map.mp hx'
    have htk : (t, k) ∈ ids (nM S + 1) := htk
    rw [ids_succ] at htk
    rcases List.mem_append.mp htk with htk | htk
    · show va_at D vwCl (adM ad (nM S) q a r1 r2 t k, cel cA (adM ad (nM S) q a r1 r2) (nwM S kd a1 a2 a3) t k) H
      rw [ids_old htk]
      obtain ⟨i2, hi2, hl2⟩ := lW_get cA ad S htk
      have hlt2 : i2 < (lW cA ad S).length := (List.getElem?_eq_some_iff.mp hl2).1
      by_cases h1 : i2 = q0
      · subst h1
        rw [hi] at hi2
        injection hi2 with hi2
        injection hi2 with e1 e2
        subst e1
        subst e2
        have hat := hP i2 _ (by rw [List.getElem?_set, if_pos rfl, if_pos (by rw [List.length_append]; omega)])
        have e : va_up (fun j => if j < nM S then some (ad 26 j) else none) (nM S) (some q) = fun j => if j < nM S + 1 then some (adM ad (nM S) q a r1 r2 26 j) else none := by
          funext j
          show (if j = nM S then some q else if j < nM S then some (ad 26 j) else none) = if j < nM S + 1 then some (if j = nM S then q else ad 26 j) else none
          by_cases hj : j = nM S
          · rw [if_pos hj, if_pos (by omega), if_pos hj]
          · rw [if_neg hj, if_neg hj]
            by_cases hj2 : j < nM S
            · rw [if_pos hj2, if_pos (by omega)]
            · rw [if_neg hj2, if_neg (by omega)]
        rw [e] at hat
        exact hat
      · have ht1 : t ≠ 1 := fun e => by
          subst e
          have hk0 : k = 0 := by
            rcases ids_cases htk with h | h | h | ⟨j, -, h⟩
            · simp only [fxI, List.mem_cons, Prod.mk.injEq, List.not_mem_nil, or_false] at h
              omega
            · omega
            · omega
            · simp only [idM, List.mem_cons, Prod.mk.injEq, List.not_mem_nil, or_false] at h
              omega
          subst hk0
          have e1 : (lW cA ad S ++ mkMk cA q (d1K kd a1 a2 a3 a) a r1 r2)[i2]? = some (ad 1 0, cel cA ad S 1 0) := by
            rw [List.getElem?_append_left hlt2]
            exact hl2
          have hD0 : va_D A (lW cA ad S ++ mkMk cA q (d1K kd a1 a2 a3 a) a r1 r2) := vd_of_map (set_fst hap (by rfl)).symm hD
          exact h1 (hD0.1 i2 q0 _ _ e1 hap rfl)
        have hat := hP i2 (ad t k, cel cA ad S t k) (by rw [List.getElem?_set, if_neg (fun e => h1 e.symm), List.getElem?_append_left hlt2]; exact hl2)
        exact at_old hs htk ht1 hat
    · obtain ⟨w, hw, ew, himp⟩ := at_new (D := D) (cA := cA) (ad := ad) (S := S) (kd := kd) (a1 := a1) (a2 := a2) (a3 := a3) (q := q) (a := a) (r1 := r1) (r2 := r2) (H := H) hkd htk
      show va_at D vwCl (adM ad (nM S) q a r1 r2 t k, cel cA (adM ad (nM S) q a r1 r2) (nwM S kd a1 a2 a3) t k) H
      rw [← ew]
      apply himp
      obtain ⟨i3, hi3⟩ := List.getElem?_of_mem hw
      refine hP ((lW cA ad S).length + i3) w ?_
      rw [List.getElem?_set, if_neg (by omega), List.getElem?_append_right (by omega)]
      rw [show (lW cA ad S).length + i3 - (lW cA ad S).length = i3 by omega]
      exact hi3
  · refine vd_of_map ?_ hD
    refine Eq.trans ?_ (set_fst hap (by rfl)).symm
    rw [List.map_append, ← map_new (ad := ad) (S := S)]
    unfold lW
    rw [List.map_map, List.map_map]
    show List.map _ (ids (nM S + 1)) = _
    rw [ids_succ, List.map_append]
    congr 1
    refine List.map_congr_left (fun x hx => ?_)
    exact ids_old (t := x.1) (k := x.2) hx
end
