def uAr (S : Sg) (t k : Nat) (f : Nat → Int32) : Sg := (S.1, fun a b => if a = t ∧ b = k then f else S.2.1 a b, S.2.2)
def uLr (S : Sg) (t k : Nat) (f : Nat → Int64) : Sg := (S.1, S.2.1, fun a b => if a = t ∧ b = k then f else S.2.2.1 a b, S.2.2.2)
theorem gA_uAr (S : Sg) (t k : Nat) (f : Nat → Int32) (a b : Nat) : gA (uAr S t k f) a b = if a = t ∧ b = k then f else gA S a b := rfl
theorem gL_uLr (S : Sg) (t k : Nat) (f : Nat → Int64) (a b : Nat) : gL (uLr S t k f) a b = if a = t ∧ b = k then f else gL S a b := rfl
theorem cel_uAr {cA : Nat → ClassId} {ad : Nat → Nat → Nat} {S : Sg} {t k a b : Nat} {f : Nat → Int32} (h : ¬ (a = t ∧ b = k)) : cel cA ad (uAr S t k f) a b = cel cA ad S a b := cel_congr rfl (by rw [gA_uAr, if_neg h]) rfl rfl rfl rfl
theorem cel_uLr {cA : Nat → ClassId} {ad : Nat → Nat → Nat} {S : Sg} {t k a b : Nat} {f : Nat → Int64} (h : ¬ (a = t ∧ b = k)) : cel cA ad (uLr S t k f) a b = cel cA ad S a b := cel_congr rfl rfl (by rw [gL_uLr, if_neg h]) rfl rfl rfl
theorem vp_lt {i : Int32} {n : Nat} (h : vp_in i n) : i.toNatClampNeg < n := Nat.not_le.mp fun q => h (Or.inr q)
theorem kd4 (S : Sg) (k : Nat) : kM S k = 0 ∨ kM S k = 1 ∨ kM S k = 2 ∨ (¬ kM S k = 0 ∧ ¬ kM S k = 1 ∧ ¬ kM S k = 2) := by omega
theorem celM_0 {cA : Nat → ClassId} {ad : Nat → Nat → Nat} {S : Sg} {k : Nat} (h : kM S k = 0) : cel cA ad S 26 k = .inr (3, [.int (gI S 26 k 0), .int (gI S 26 k 1), .int (gI S 26 k 2), .ref (ad 27 k), .ref (ad 28 k), .ref (ad 30 k), .ref (ad 31 k), .ref (ad 33 k), .ref (ad 34 k), .int (gI S 26 k 3), .int (gI S 26 k 4)]) := by rw [cel_26, if_pos h]
theorem celM_1 {cA : Nat → ClassId} {ad : Nat → Nat → Nat} {S : Sg} {k : Nat} (h : kM S k = 1) : cel cA ad S 26 k = .inr (4, [.int (gI S 26 k 0), .int (gI S 26 k 1), .int (gI S 26 k 2), .ref (ad 27 k), .ref (ad 28 k), .ref (ad 30 k), .ref (ad 31 k), .ref (ad 33 k), .ref (ad 34 k), .int (gI S 26 k 3), .int (gI S 26 k 4), .int (gI S 26 k 5), .int (gI S 26 k 6)]) := by rw [cel_26, if_neg (by omega), if_pos h]
theorem celM_2 {cA : Nat → ClassId} {ad : Nat → Nat → Nat} {S : Sg} {k : Nat} (h : kM S k = 2) : cel cA ad S 26 k = .inr (8, [.int (gI S 26 k 5), .int (gI S 26 k 6), .int (gI S 26 k 0), .int (gI S 26 k 1), .int (gI S 26 k 2), .ref (ad 27 k), .ref (ad 28 k), .ref (ad 30 k), .ref (ad 31 k), .ref (ad 33 k), .ref (ad 34 k), .int (gI S 26 k 3), .int (gI S 26 k 4)]) := by rw [cel_26, if_neg (by omega), if_neg (by omega), if_pos h]
theorem celM_3 {cA : Nat → ClassId} {ad : Nat → Nat → Nat} {S : Sg} {k : Nat} (h : ¬ kM S k = 0 ∧ ¬ kM S k = 1 ∧ ¬ kM S k = 2) : cel cA ad S 26 k = .inr (1, [.int (gI S 26 k 0), .int (gI S 26 k 1), .int (gI S 26 k 2), .ref (ad 27 k), .ref (ad 28 k), .ref (ad 30 k), .ref (ad 31 k), .ref (ad 33 k), .ref (ad 34 k), .int (gI S 26 k 3), .int (gI S 26 k 4)]) := by rw [cel_26, if_neg h.1, if_neg h.2.1, if_neg h.2.2]
theorem mm_27 {n k : Nat} (h : k < n) : (27, k) ∈ ids n := ids_mark h (by simp [idM])
theorem mm_28 {n k : Nat} (h : k < n) : (28, k) ∈ ids n := ids_mark h (by simp [idM])
theorem mm_30 {n k : Nat} (h : k < n) : (30, k) ∈ ids n := ids_mark h (by simp [idM])
theorem mm_31 {n k : Nat} (h : k < n) : (31, k) ∈ ids n := ids_mark h (by simp [idM])
theorem mm_33 {n k : Nat} (h : k < n) : (33, k) ∈ ids n := ids_mark h (by simp [idM])
theorem mm_34 {n k : Nat} (h : k < n) : (34, k) ∈ ids n := ids_mark h (by simp [idM])
theorem mm_26 {n k : Nat} (h : k < n) : (26, k) ∈ ids n := ids_mark h (by simp [idM])
theorem mm_29 {n k j : Nat} (h : k < n) (hj : j < 2) : (29, 2 * k + j) ∈ ids n := by
  refine ids_mark (k := k) h ?_
  rcases (show j = 0 ∨ j = 1 by omega) with rfl | rfl <;> simp [idM]
theorem mm_32 {n k j : Nat} (h : k < n) (hj : j < 2) : (32, 2 * k + j) ∈ ids n := by
  refine ids_mark (k := k) h ?_
  rcases (show j = 0 ∨ j = 1 by omega) with rfl | rfl <;> simp [idM]
theorem sM_same (S : Sg) (d : Nat) (r : Option Nat) : sM (uH S d r) d = r := by
  show va_up S.2.2.2.2.2 d r d = r
  simp [va_up]
theorem cel_uH {cA : Nat → ClassId} {ad : Nat → Nat → Nat} {S : Sg} {k a b : Nat} {r : Option Nat} (h : ¬ (a = 24 ∧ b = k)) : cel cA ad (uH S k r) a b = cel cA ad S a b := by
  by_cases hb : b = k
  · have ha : ¬ a = 24 := fun q => h ⟨q, hb⟩
    unfold cel cl0
    simp only [if_neg ha]
    rfl
  · refine cel_congr rfl rfl rfl rfl rfl ?_
    show va_up S.2.2.2.2.2 k r b = S.2.2.2.2.2 b
    simp [va_up, hb]
section
variable {p : Program} {l : Launch} {e : Env} {R : Room} {s : State} {m : MethodId} {args : Array Value} {below : List Frame} {meth : Method} {c : Code} {nL : Nat} {D : va_G} {cA : Nat → ClassId} {ad : Nat → Nat → Nat} {A : Nat → Prop} {Q : State → Prop} {cc : ByteArray} {Ts : List Cond} {own : String} {pc : Nat} {lv lv' : List (Nat × Value)} {st rest : List Value} {S : Sg}
theorem k_aldg (C : Cx p s m args c cc nL Ts own D cA A) {t k n : Nat} {f : Nat → Nat} {i : Int32} (hm : (t, k) ∈ ids (nM S)) (he : cel cA ad S t k = .inl (cA 5, n, .inr (.inr (.inr (.inr (fun j => some (f j))))))) (hin : vp_in i n) (d : decode cc pc = .ok (.aaload, 1)) (kk : KK p l e R s m args below meth c nL D cA ad A Q (pc + 1) lv (.ref (f i.toNatClampNeg) :: st) S) : KK p l e R s m args below meth c nL D cA ad A Q pc lv (.int i :: .ref (ad t k) :: st) S := fun H locs ls hl hP hD hS => by
  obtain ⟨q, -, hq⟩ := lW_get cA ad S hm
  rw [he] at hq
  have hlt : i.toNatClampNeg < n := vp_lt hin
  exact W.aald (v := .ref (f i.toNatClampNeg)) (ty := .array .int) C.1 C.2.1 (hP q _ hq) ((C.2.2.2.2.2.1.2 5 (cA 5, .array .int) rfl).1 n (fun j => va_rf (some (f j)))) rfl (fun q => by cases q) (by show ¬ (i < 0 ∨ (arrV _ _ _).slots.size ≤ _); rw [arrV_size]; exact hin) (by show (arrV _ _ _).slots[_]? = _; rw [arrV_read _ _ hlt]; rfl) rfl rfl d (kk H locs ls hl hP hD hS)
theorem k_ald2 (C : Cx p s m args c cc nL Ts own D cA A) {i : Int32} (hin : vp_in i 8) (d : decode cc pc = .ok (.aaload, 1)) (kk : KK p l e R s m args below meth c nL D cA ad A Q (pc + 1) lv (.ref (ad 24 i.toNatClampNeg) :: st) S) : KK p l e R s m args below meth c nL D cA ad A Q pc lv (.int i :: .ref (ad 2 0) :: st) S := fun H locs ls hl hP hD hS => by
  obtain ⟨q, -, hq⟩ := lW_get cA ad S (hm_2)
  rw [cel_2] at hq
  exact va_aldq C.1 C.2.1 C.2.2.2.2.2.1 hP q 4 hq rfl hin d (kk H locs ls hl hP hD hS)
theorem k_ald1 (C : Cx p s m args c cc nL Ts own D cA A) {i : Int32} (hin : vp_in i 10) (d : decode cc pc = .ok (.aaload, 1)) (kt : i.toNatClampNeg < nM S → KK p l e R s m args below meth c nL D cA ad A Q (pc + 1) lv (.ref (ad 26 i.toNatClampNeg) :: st) S) (kf : ¬ i.toNatClampNeg < nM S → KK p l e R s m args below meth c nL D cA ad A Q (pc + 1) lv (.null :: st) S) : KK p l e R s m args below meth c nL D cA ad A Q pc lv (.int i :: .ref (ad 1 0) :: st) S := fun H locs ls hl hP hD hS => by
  obtain ⟨q, -, hq⟩ := lW_get cA ad S (hm_1)
  rw [cel_1] at hq
  refine va_aldq C.1 C.2.1 C.2.2.2.2.2.1 hP q 3 hq rfl hin d ?_
  by_cases h : i.toNatClampNeg < nM S
  · rw [if_pos h]
    exact kt h H locs ls hl hP hD hS
  · rw [if_neg h]
    exact kf h H locs ls hl hP hD hS
theorem kG_number (C : Cx p s m args c cc nL Ts own D cA A) {k index : Nat} (h1 : ∀ w ∈ u_ws RX1 TX1 11, w ∈ Ts) (h3 : ∀ w ∈ u_ws RX3 TX3 11, w ∈ Ts) (h4 : ∀ w ∈ u_ws RX4 TX4 13, w ∈ Ts) (h8 : ∀ w ∈ u_ws RX8 TX8 13, w ∈ Ts) (hk : k < nM S) (hf : Cond.fieldLink own index "CreepBoard$Mark" "number" "I" ∈ Ts) (d : decode cc pc = .ok (.getfield index, 3)) (kk : KK p l e R s m args below meth c nL D cA ad A Q (pc + 3) lv (.int (gI S 26 k 0) :: st) S) : KK p l e R s m args below meth c nL D cA ad A Q pc lv (.ref (ad 26 k) :: st) S := by
  rcases kd4 S k with h | h | h | h
  · exact k_get (j := 0) C h3 (mm_26 hk) (celM_0 h) rfl (by decide) hf (fun _ h => h) rfl d kk
  · exact k_get (j := 0) C h4 (mm_26 hk) (celM_1 h) rfl (by decide) hf (fun _ h => h) rfl d kk
  · exact k_get (j := 2) C h8 (mm_26 hk) (celM_2 h) rfl (by decide) hf (fun _ h => h) rfl d kk
  · exact k_get (j := 0) C h1 (mm_26 hk) (celM_3 h) rfl (by decide) hf (fun _ h => h) rfl d kk
theorem kG_x (C : Cx p s m args c cc nL Ts own D cA A) {k index : Nat} (h1 : ∀ w ∈ u_ws RX1 TX1 11, w ∈ Ts) (h3 : ∀ w ∈ u_ws RX3 TX3 11, w ∈ Ts) (h4 : ∀ w ∈ u_ws RX4 TX4 13, w ∈ Ts) (h8 : ∀ w ∈ u_ws RX8 TX8 13, w ∈ Ts) (hk : k < nM S) (hf : Cond.fieldLink own index "CreepBoard$Mark" "x" "I" ∈ Ts) (d : decode cc pc = .ok (.getfield index, 3)) (kk : KK p l e R s m args below meth c nL D cA ad A Q (pc + 3) lv (.int (gI S 26 k 1) :: st) S) : KK p l e R s m args below meth c nL D cA ad A Q pc lv (.ref (ad 26 k) :: st) S := by
  rcases kd4 S k with h | h | h | h
  · exact k_get (j := 1) C h3 (mm_26 hk) (celM_0 h) rfl (by decide) hf (fun _ h => h) rfl d kk
  · exact k_get (j := 1) C h4 (mm_26 hk) (celM_1 h) rfl (by decide) hf (fun _ h => h) rfl d kk
  · exact k_get (j := 3) C h8 (mm_26 hk) (celM_2 h) rfl (by decide) hf (fun _ h => h) rfl d kk
  · exact k_get (j := 1) C h1 (mm_26 hk) (celM_3 h) rfl (by decide) hf (fun _ h => h) rfl d kk
theorem kG_y (C : Cx p s m args c cc nL Ts own D cA A) {k index : Nat} (h1 : ∀ w ∈ u_ws RX1 TX1 11, w ∈ Ts) (h3 : ∀ w ∈ u_ws RX3 TX3 11, w ∈ Ts) (h4 : ∀ w ∈ u_ws RX4 TX4 13, w ∈ Ts) (h8 : ∀ w ∈ u_ws RX8 TX8 13, w ∈ Ts) (hk : k < nM S) (hf : Cond.fieldLink own index "CreepBoard$Mark" "y" "I" ∈ Ts) (d : decode cc pc = .ok (.getfield index, 3)) (kk : KK p l e R s m args below meth c nL D cA ad A Q (pc + 3) lv (.int (gI S 26 k 2) :: st) S) : KK p l e R s m args below meth c nL D cA ad A Q pc lv (.ref (ad 26 k) :: st) S := by
  rcases kd4 S k with h | h | h | h
  · exact k_get (j := 2) C h3 (mm_26 hk) (celM_0 h) rfl (by decide) hf (fun _ h => h) rfl d kk
  · exact k_get (j := 2) C h4 (mm_26 hk) (celM_1 h) rfl (by decide) hf (fun _ h => h) rfl d kk
  · exact k_get (j := 4) C h8 (mm_26 hk) (celM_2 h) rfl (by decide) hf (fun _ h => h) rfl d kk
  · exact k_get (j := 2) C h1 (mm_26 hk) (celM_3 h) rfl (by decide) hf (fun _ h => h) rfl d kk
theorem kG_readingCount (C : Cx p s m args c cc nL Ts own D cA A) {k index : Nat} (h1 : ∀ w ∈ u_ws RX1 TX1 11, w ∈ Ts) (h3 : ∀ w ∈ u_ws RX3 TX3 11, w ∈ Ts) (h4 : ∀ w ∈ u_ws RX4 TX4 13, w ∈ Ts) (h8 : ∀ w ∈ u_ws RX8 TX8 13, w ∈ Ts) (hk : k < nM S) (hf : Cond.fieldLink own index "CreepBoard$Mark" "readingCount" "I" ∈ Ts) (d : decode cc pc = .ok (.getfield index, 3)) (kk : KK p l e R s m args below meth c nL D cA ad A Q (pc + 3) lv (.int (gI S 26 k 3) :: st) S) : KK p l e R s m args below meth c nL D cA ad A Q pc lv (.ref (ad 26 k) :: st) S := by
  rcases kd4 S k with h | h | h | h
  · exact k_get (j := 9) C h3 (mm_26 hk) (celM_0 h) rfl (by decide) hf (fun _ h => h) rfl d kk
  · exact k_get (j := 9) C h4 (mm_26 hk) (celM_1 h) rfl (by decide) hf (fun _ h => h) rfl d kk
  · exact k_get (j := 11) C h8 (mm_26 hk) (celM_2 h) rfl (by decide) hf (fun _ h => h) rfl d kk
  · exact k_get (j := 9) C h1 (mm_26 hk) (celM_3 h) rfl (by decide) hf (fun _ h => h) rfl d kk
theorem kG_stepCount (C : Cx p s m args c cc nL Ts own D cA A) {k index : Nat} (h1 : ∀ w ∈ u_ws RX1 TX1 11, w ∈ Ts) (h3 : ∀ w ∈ u_ws RX3 TX3 11, w ∈ Ts) (h4 : ∀ w ∈ u_ws RX4 TX4 13, w ∈ Ts) (h8 : ∀ w ∈ u_ws RX8 TX8 13, w ∈ Ts) (hk : k < nM S) (hf : Cond.fieldLink own index "CreepBoard$Mark" "stepCount" "I" ∈ Ts) (d : decode cc pc = .ok (.getfield index, 3)) (kk : KK p l e R s m args below meth c nL D cA ad A Q (pc + 3) lv (.int (gI S 26 k 4) :: st) S) : KK p l e R s m args below meth c nL D cA ad A Q pc lv (.ref (ad 26 k) :: st) S := by
  rcases kd4 S k with h | h | h | h
  · exact k_get (j := 10) C h3 (mm_26 hk) (celM_0 h) rfl (by decide) hf (fun _ h => h) rfl d kk
  · exact k_get (j := 10) C h4 (mm_26 hk) (celM_1 h) rfl (by decide) hf (fun _ h => h) rfl d kk
  · exact k_get (j := 12) C h8 (mm_26 hk) (celM_2 h) rfl (by decide) hf (fun _ h => h) rfl d kk
  · exact k_get (j := 10) C h1 (mm_26 hk) (celM_3 h) rfl (by decide) hf (fun _ h => h) rfl d kk
theorem kG_antennaEpoch (C : Cx p s m args c cc nL Ts own D cA A) {k index : Nat} (h4 : ∀ w ∈ u_ws RX4 TX4 13, w ∈ Ts) (h8 : ∀ w ∈ u_ws RX8 TX8 13, w ∈ Ts) (hk : k < nM S) (hκ : kM S k = 1 ∨ kM S k = 2) (hf : Cond.fieldLink own index "CreepBoard$Receiver" "antennaEpoch" "I" ∈ Ts) (d : decode cc pc = .ok (.getfield index, 3)) (kk : KK p l e R s m args below meth c nL D cA ad A Q (pc + 3) lv (.int (gI S 26 k 5) :: st) S) : KK p l e R s m args below meth c nL D cA ad A Q pc lv (.ref (ad 26 k) :: st) S := by
  rcases hκ with h | h
  · exact k_get (j := 11) C h4 (mm_26 hk) (celM_1 h) rfl (by decide) hf (fun _ h => h) rfl d kk
  · exact k_get (j := 0) C h8 (mm_26 hk) (celM_2 h) rfl (by decide) hf (fun _ h => h) rfl d kk
theorem kG_antennaOffset (C : Cx p s m args c cc nL Ts own D cA A) {k index : Nat} (h4 : ∀ w ∈ u_ws RX4 TX4 13, w ∈ Ts) (h8 : ∀ w ∈ u_ws RX8 TX8 13, w ∈ Ts) (hk : k < nM S) (hκ : kM S k = 1 ∨ kM S k = 2) (hf : Cond.fieldLink own index "CreepBoard$Receiver" "antennaOffset" "I" ∈ Ts) (d : decode cc pc = .ok (.getfield index, 3)) (kk : KK p l e R s m args below meth c nL D cA ad A Q (pc + 3) lv (.int (gI S 26 k 6) :: st) S) : KK p l e R s m args below meth c nL D cA ad A Q pc lv (.ref (ad 26 k) :: st) S := by
  rcases hκ with h | h
  · exact k_get (j := 12) C h4 (mm_26 hk) (celM_1 h) rfl (by decide) hf (fun _ h => h) rfl d kk
  · exact k_get (j := 1) C h8 (mm_26 hk) (celM_2 h) rfl (by decide) hf (fun _ h => h) rfl d kk
theorem kG_present (C : Cx p s m args c cc nL Ts own D cA A) {k index : Nat} (h1 : ∀ w ∈ u_ws RX1 TX1 11, w ∈ Ts) (h3 : ∀ w ∈ u_ws RX3 TX3 11, w ∈ Ts) (h4 : ∀ w ∈ u_ws RX4 TX4 13, w ∈ Ts) (h8 : ∀ w ∈ u_ws RX8 TX8 13, w ∈ Ts) (hk : k < nM S) (hf : Cond.fieldLink own index "CreepBoard$Mark" "present" "[Z" ∈ Ts) (d : decode cc pc = .ok (.getfield index, 3)) (kk : KK p l e R s m args below meth c nL D cA ad A Q (pc + 3) lv (.ref (ad 27 k) :: st) S) : KK p l e R s m args below meth c nL D cA ad A Q pc lv (.ref (ad 26 k) :: st) S := by
  rcases kd4 S k with h | h | h | h
  · exact k_get (j := 3) C h3 (mm_26 hk) (celM_0 h) rfl (by decide) hf (fun _ h => h) rfl d kk
  · exact k_get (j := 3) C h4 (mm_26 hk) (celM_1 h) rfl (by decide) hf (fun _ h => h) rfl d kk
  · exact k_get (j := 5) C h8 (mm_26 hk) (celM_2 h) rfl (by decide) hf (fun _ h => h) rfl d kk
  · exact k_get (j := 3) C h1 (mm_26 hk) (celM_3 h) rfl (by decide) hf (fun _ h => h) rfl d kk
theorem kG_readings (C : Cx p s m args c cc nL Ts own D cA A) {k index : Nat} (h1 : ∀ w ∈ u_ws RX1 TX1 11, w ∈ Ts) (h3 : ∀ w ∈ u_ws RX3 TX3 11, w ∈ Ts) (h4 : ∀ w ∈ u_ws RX4 TX4 13, w ∈ Ts) (h8 : ∀ w ∈ u_ws RX8 TX8 13, w ∈ Ts) (hk : k < nM S) (hf : Cond.fieldLink own index "CreepBoard$Mark" "readings" "[[I" ∈ Ts) (d : decode cc pc = .ok (.getfield index, 3)) (kk : KK p l e R s m args below meth c nL D cA ad A Q (pc + 3) lv (.ref (ad 28 k) :: st) S) : KK p l e R s m args below meth c nL D cA ad A Q pc lv (.ref (ad 26 k) :: st) S := by
  rcases kd4 S k with h | h | h | h
  · exact k_get (j := 4) C h3 (mm_26 hk) (celM_0 h) rfl (by decide) hf (fun _ h => h) rfl d kk
  · exact k_get (j := 4) C h4 (mm_26 hk) (celM_1 h) rfl (by decide) hf (fun _ h => h) rfl d kk
  · exact k_get (j := 6) C h8 (mm_26 hk) (celM_2 h) rfl (by decide) hf (fun _ h => h) rfl d kk
  · exact k_get (j := 4) C h1 (mm_26 hk) (celM_3 h) rfl (by decide) hf (fun _ h => h) rfl d kk
theorem kG_stepEpochs (C : Cx p s m args c cc nL Ts own D cA A) {k index : Nat} (h1 : ∀ w ∈ u_ws RX1 TX1 11, w ∈ Ts) (h3 : ∀ w ∈ u_ws RX3 TX3 11, w ∈ Ts) (h4 : ∀ w ∈ u_ws RX4 TX4 13, w ∈ Ts) (h8 : ∀ w ∈ u_ws RX8 TX8 13, w ∈ Ts) (hk : k < nM S) (hf : Cond.fieldLink own index "CreepBoard$Mark" "stepEpochs" "[I" ∈ Ts) (d : decode cc pc = .ok (.getfield index, 3)) (kk : KK p l e R s m args below meth c nL D cA ad A Q (pc + 3) lv (.ref (ad 30 k) :: st) S) : KK p l e R s m args below meth c nL D cA ad A Q pc lv (.ref (ad 26 k) :: st) S := by
  rcases kd4 S k with h | h | h | h
  · exact k_get (j := 5) C h3 (mm_26 hk) (celM_0 h) rfl (by decide) hf (fun _ h => h) rfl d kk
  · exact k_get (j := 5) C h4 (mm_26 hk) (celM_1 h) rfl (by decide) hf (fun _ h => h) rfl d kk
  · exact k_get (j := 7) C h8 (mm_26 hk) (celM_2 h) rfl (by decide) hf (fun _ h => h) rfl d kk
  · exact k_get (j := 5) C h1 (mm_26 hk) (celM_3 h) rfl (by decide) hf (fun _ h => h) rfl d kk
theorem kG_stepSizes (C : Cx p s m args c cc nL Ts own D cA A) {k index : Nat} (h1 : ∀ w ∈ u_ws RX1 TX1 11, w ∈ Ts) (h3 : ∀ w ∈ u_ws RX3 TX3 11, w ∈ Ts) (h4 : ∀ w ∈ u_ws RX4 TX4 13, w ∈ Ts) (h8 : ∀ w ∈ u_ws RX8 TX8 13, w ∈ Ts) (hk : k < nM S) (hf : Cond.fieldLink own index "CreepBoard$Mark" "stepSizes" "[[I" ∈ Ts) (d : decode cc pc = .ok (.getfield index, 3)) (kk : KK p l e R s m args below meth c nL D cA ad A Q (pc + 3) lv (.ref (ad 31 k) :: st) S) : KK p l e R s m args below meth c nL D cA ad A Q pc lv (.ref (ad 26 k) :: st) S := by
  rcases kd4 S k with h | h | h | h
  · exact k_get (j := 6) C h3 (mm_26 hk) (celM_0 h) rfl (by decide) hf (fun _ h => h) rfl d kk
  · exact k_get (j := 6) C h4 (mm_26 hk) (celM_1 h) rfl (by decide) hf (fun _ h => h) rfl d kk
  · exact k_get (j := 8) C h8 (mm_26 hk) (celM_2 h) rfl (by decide) hf (fun _ h => h) rfl d kk
  · exact k_get (j := 6) C h1 (mm_26 hk) (celM_3 h) rfl (by decide) hf (fun _ h => h) rfl d kk
theorem kG_speeds (C : Cx p s m args c cc nL Ts own D cA A) {k index : Nat} (h1 : ∀ w ∈ u_ws RX1 TX1 11, w ∈ Ts) (h3 : ∀ w ∈ u_ws RX3 TX3 11, w ∈ Ts) (h4 : ∀ w ∈ u_ws RX4 TX4 13, w ∈ Ts) (h8 : ∀ w ∈ u_ws RX8 TX8 13, w ∈ Ts) (hk : k < nM S) (hf : Cond.fieldLink own index "CreepBoard$Mark" "speeds" "[I" ∈ Ts) (d : decode cc pc = .ok (.getfield index, 3)) (kk : KK p l e R s m args below meth c nL D cA ad A Q (pc + 3) lv (.ref (ad 33 k) :: st) S) : KK p l e R s m args below meth c nL D cA ad A Q pc lv (.ref (ad 26 k) :: st) S := by
  rcases kd4 S k with h | h | h | h
  · exact k_get (j := 7) C h3 (mm_26 hk) (celM_0 h) rfl (by decide) hf (fun _ h => h) rfl d kk
  · exact k_get (j := 7) C h4 (mm_26 hk) (celM_1 h) rfl (by decide) hf (fun _ h => h) rfl d kk
  · exact k_get (j := 9) C h8 (mm_26 hk) (celM_2 h) rfl (by decide) hf (fun _ h => h) rfl d kk
  · exact k_get (j := 7) C h1 (mm_26 hk) (celM_3 h) rfl (by decide) hf (fun _ h => h) rfl d kk
theorem kG_greens (C : Cx p s m args c cc nL Ts own D cA A) {k index : Nat} (h1 : ∀ w ∈ u_ws RX1 TX1 11, w ∈ Ts) (h3 : ∀ w ∈ u_ws RX3 TX3 11, w ∈ Ts) (h4 : ∀ w ∈ u_ws RX4 TX4 13, w ∈ Ts) (h8 : ∀ w ∈ u_ws RX8 TX8 13, w ∈ Ts) (hk : k < nM S) (hf : Cond.fieldLink own index "CreepBoard$Mark" "greens" "[I" ∈ Ts) (d : decode cc pc = .ok (.getfield index, 3)) (kk : KK p l e R s m args below meth c nL D cA ad A Q (pc + 3) lv (.ref (ad 34 k) :: st) S) : KK p l e R s m args below meth c nL D cA ad A Q pc lv (.ref (ad 26 k) :: st) S := by
  rcases kd4 S k with h | h | h | h
  · exact k_get (j := 8) C h3 (mm_26 hk) (celM_0 h) rfl (by decide) hf (fun _ h => h) rfl d kk
  · exact k_get (j := 8) C h4 (mm_26 hk) (celM_1 h) rfl (by decide) hf (fun _ h => h) rfl d kk
  · exact k_get (j := 10) C h8 (mm_26 hk) (celM_2 h) rfl (by decide) hf (fun _ h => h) rfl d kk
  · exact k_get (j := 8) C h1 (mm_26 hk) (celM_3 h) rfl (by decide) hf (fun _ h => h) rfl d kk
theorem kP_readingCount (C : Cx p s m args c cc nL Ts own D cA A) {k index : Nat} {v : Int32} (h1 : ∀ w ∈ u_ws RX1 TX1 11, w ∈ Ts) (h3 : ∀ w ∈ u_ws RX3 TX3 11, w ∈ Ts) (h4 : ∀ w ∈ u_ws RX4 TX4 13, w ∈ Ts) (h8 : ∀ w ∈ u_ws RX8 TX8 13, w ∈ Ts) (hk : k < nM S) (hf : Cond.fieldLink own index "CreepBoard$Mark" "readingCount" "I" ∈ Ts) (d : decode cc pc = .ok (.putfield index, 3)) (kk : KK p l e R s m args below meth c nL D cA ad A Q (pc + 3) lv st (uI S 26 k 3 v)) : KK p l e R s m args below meth c nL D cA ad A Q pc lv (.int v :: .ref (ad 26 k) :: st) S := by
  rcases kd4 S k with h | h | h | h
  · exact k_put (S' := uI S 26 k 3 v) (j := 9) (ty := .int) C h3 tyX3 tyX3_ok nmX3 (mm_26 hk) (celM_0 h) rfl (by decide) hf (fun _ h => h) rfl (by decide +kernel) rfl rfl (Nat.le_of_ble_eq_true rfl) rfl ((celM_0 (S := uI S 26 k 3 v) h).trans (by rw [gI_same]; rfl)) (fun a b h => cel_uI h) d kk
  · exact k_put (S' := uI S 26 k 3 v) (j := 9) (ty := .int) C h4 tyX4 tyX4_ok nmX4 (mm_26 hk) (celM_1 h) rfl (by decide) hf (fun _ h => h) rfl (by decide +kernel) rfl rfl (Nat.le_of_ble_eq_true rfl) rfl ((celM_1 (S := uI S 26 k 3 v) h).trans (by rw [gI_same]; rfl)) (fun a b h => cel_uI h) d kk
  · exact k_put (S' := uI S 26 k 3 v) (j := 11) (ty := .int) C h8 tyX8 tyX8_ok nmX8 (mm_26 hk) (celM_2 h) rfl (by decide) hf (fun _ h => h) rfl (by decide +kernel) rfl rfl (Nat.le_of_ble_eq_true rfl) rfl ((celM_2 (S := uI S 26 k 3 v) h).trans (by rw [gI_same]; rfl)) (fun a b h => cel_uI h) d kk
  · exact k_put (S' := uI S 26 k 3 v) (j := 9) (ty := .int) C h1 tyX1 tyX1_ok nmX1 (mm_26 hk) (celM_3 h) rfl (by decide) hf (fun _ h => h) rfl (by decide +kernel) rfl rfl (Nat.le_of_ble_eq_true rfl) rfl ((celM_3 (S := uI S 26 k 3 v) h).trans (by rw [gI_same]; rfl)) (fun a b h => cel_uI h) d kk
theorem kP_stepCount (C : Cx p s m args c cc nL Ts own D cA A) {k index : Nat} {v : Int32} (h1 : ∀ w ∈ u_ws RX1 TX1 11, w ∈ Ts) (h3 : ∀ w ∈ u_ws RX3 TX3 11, w ∈ Ts) (h4 : ∀ w ∈ u_ws RX4 TX4 13, w ∈ Ts) (h8 : ∀ w ∈ u_ws RX8 TX8 13, w ∈ Ts) (hk : k < nM S) (hf : Cond.fieldLink own index "CreepBoard$Mark" "stepCount" "I" ∈ Ts) (d : decode cc pc = .ok (.putfield index, 3)) (kk : KK p l e R s m args below meth c nL D cA ad A Q (pc + 3) lv st (uI S 26 k 4 v)) : KK p l e R s m args below meth c nL D cA ad A Q pc lv (.int v :: .ref (ad 26 k) :: st) S := by
  rcases kd4 S k with h | h | h | h
  · exact k_put (S' := uI S 26 k 4 v) (j := 10) (ty := .int) C h3 tyX3 tyX3_ok nmX3 (mm_26 hk) (celM_0 h) rfl (by decide) hf (fun _ h => h) rfl (by decide +kernel) rfl rfl (Nat.le_of_ble_eq_true rfl) rfl ((celM_0 (S := uI S 26 k 4 v) h).trans (by rw [gI_same]; rfl)) (fun a b h => cel_uI h) d kk
  · exact k_put (S' := uI S 26 k 4 v) (j := 10) (ty := .int) C h4 tyX4 tyX4_ok nmX4 (mm_26 hk) (celM_1 h) rfl (by decide) hf (fun _ h => h) rfl (by decide +kernel) rfl rfl (Nat.le_of_ble_eq_true rfl) rfl ((celM_1 (S := uI S 26 k 4 v) h).trans (by rw [gI_same]; rfl)) (fun a b h => cel_uI h) d kk
  · exact k_put (S' := uI S 26 k 4 v) (j := 12) (ty := .int) C h8 tyX8 tyX8_ok nmX8 (mm_26 hk) (celM_2 h) rfl (by decide) hf (fun _ h => h) rfl (by decide +kernel) rfl rfl (Nat.le_of_ble_eq_true rfl) rfl ((celM_2 (S := uI S 26 k 4 v) h).trans (by rw [gI_same]; rfl)) (fun a b h => cel_uI h) d kk
  · exact k_put (S' := uI S 26 k 4 v) (j := 10) (ty := .int) C h1 tyX1 tyX1_ok nmX1 (mm_26 hk) (celM_3 h) rfl (by decide) hf (fun _ h => h) rfl (by decide +kernel) rfl rfl (Nat.le_of_ble_eq_true rfl) rfl ((celM_3 (S := uI S 26 k 4 v) h).trans (by rw [gI_same]; rfl)) (fun a b h => cel_uI h) d kk
theorem kP_antennaEpoch (C : Cx p s m args c cc nL Ts own D cA A) {k index : Nat} {v : Int32} (h4 : ∀ w ∈ u_ws RX4 TX4 13, w ∈ Ts) (h8 : ∀ w ∈ u_ws RX8 TX8 13, w ∈ Ts) (hk : k < nM S) (hκ : kM S k = 1 ∨ kM S k = 2) (hf : Cond.fieldLink own index "CreepBoard$Receiver" "antennaEpoch" "I" ∈ Ts) (d : decode cc pc = .ok (.putfield index, 3)) (kk : KK p l e R s m args below meth c nL D cA ad A Q (pc + 3) lv st (uI S 26 k 5 v)) : KK p l e R s m args below meth c nL D cA ad A Q pc lv (.int v :: .ref (ad 26 k) :: st) S := by
  rcases hκ with h | h
  · exact k_put (S' := uI S 26 k 5 v) (j := 11) (ty := .int) C h4 tyX4 tyX4_ok nmX4 (mm_26 hk) (celM_1 h) rfl (by decide) hf (fun _ h => h) rfl (by decide +kernel) rfl rfl (Nat.le_of_ble_eq_true rfl) rfl ((celM_1 (S := uI S 26 k 5 v) h).trans (by rw [gI_same]; rfl)) (fun a b h => cel_uI h) d kk
  · exact k_put (S' := uI S 26 k 5 v) (j := 0) (ty := .int) C h8 tyX8 tyX8_ok nmX8 (mm_26 hk) (celM_2 h) rfl (by decide) hf (fun _ h => h) rfl (by decide +kernel) rfl rfl (Nat.le_of_ble_eq_true rfl) rfl ((celM_2 (S := uI S 26 k 5 v) h).trans (by rw [gI_same]; rfl)) (fun a b h => cel_uI h) d kk
theorem kP_antennaOffset (C : Cx p s m args c cc nL Ts own D cA A) {k index : Nat} {v : Int32} (h4 : ∀ w ∈ u_ws RX4 TX4 13, w ∈ Ts) (h8 : ∀ w ∈ u_ws RX8 TX8 13, w ∈ Ts) (hk : k < nM S) (hκ : kM S k = 1 ∨ kM S k = 2) (hf : Cond.fieldLink own index "CreepBoard$Receiver" "antennaOffset" "I" ∈ Ts) (d : decode cc pc = .ok (.putfield index, 3)) (kk : KK p l e R s m args below meth c nL D cA ad A Q (pc + 3) lv st (uI S 26 k 6 v)) : KK p l e R s m args below meth c nL D cA ad A Q pc lv (.int v :: .ref (ad 26 k) :: st) S := by
  rcases hκ with h | h
  · exact k_put (S' := uI S 26 k 6 v) (j := 12) (ty := .int) C h4 tyX4 tyX4_ok nmX4 (mm_26 hk) (celM_1 h) rfl (by decide) hf (fun _ h => h) rfl (by decide +kernel) rfl rfl (Nat.le_of_ble_eq_true rfl) rfl ((celM_1 (S := uI S 26 k 6 v) h).trans (by rw [gI_same]; rfl)) (fun a b h => cel_uI h) d kk
  · exact k_put (S' := uI S 26 k 6 v) (j := 1) (ty := .int) C h8 tyX8 tyX8_ok nmX8 (mm_26 hk) (celM_2 h) rfl (by decide) hf (fun _ h => h) rfl (by decide +kernel) rfl rfl (Nat.le_of_ble_eq_true rfl) rfl ((celM_2 (S := uI S 26 k 6 v) h).trans (by rw [gI_same]; rfl)) (fun a b h => cel_uI h) d kk
theorem k_iushr (C : Cx p s m args c cc nL Ts own D cA A) {x y : Int32} (d : decode cc pc = .ok (.iushr, 1)) (kk : KK p l e R s m args below meth c nL D cA ad A Q (pc + 1) lv (.int ((x.toUInt32 >>> (y.toUInt32 &&& Int32.toUInt32 31)).toInt32) :: st) S) : KK p l e R s m args below meth c nL D cA ad A Q pc lv (.int y :: .int x :: st) S := fun H locs ls hl hP hD hS => lv_iushr C.1 C.2.1 d rfl (kk H locs ls hl hP hD hS)
theorem k_null (C : Cx p s m args c cc nL Ts own D cA A) (d : decode cc pc = .ok (.aconst_null, 1)) (kk : KK p l e R s m args below meth c nL D cA ad A Q (pc + 1) lv (.null :: st) S) : KK p l e R s m args below meth c nL D cA ad A Q pc lv st S := fun H locs ls hl hP hD hS => lv_null C.1 C.2.1 d (kk H locs ls hl hP hD hS)
theorem k_ifnull (C : Cx p s m args c cc nL Ts own D cA A) {x : Nat} {off : Int} (d : decode cc pc = .ok (.ifnull off, 3)) (kk : KK p l e R s m args below meth c nL D cA ad A Q (pc + 3) lv st S) : KK p l e R s m args below meth c nL D cA ad A Q pc lv (.ref x :: st) S := fun H locs ls hl hP hD hS => lv_ifnull C.1 C.2.1 d (kk H locs ls hl hP hD hS)
theorem k_ifnullN (C : Cx p s m args c cc nL Ts own D cA A) {off : Int} (tgt : Nat) (d : decode cc pc = .ok (.ifnull off, 3)) (ht : (pc : Int) + off = (tgt : Int)) (kk : KK p l e R s m args below meth c nL D cA ad A Q tgt lv st S) : KK p l e R s m args below meth c nL D cA ad A Q pc lv (.null :: st) S := fun H locs ls hl hP hD hS => lv_ifnullN C.1 C.2.1 d ht (kk H locs ls hl hP hD hS)
theorem k_ifnonnull (C : Cx p s m args c cc nL Ts own D cA A) {x : Nat} {off : Int} (tgt : Nat) (d : decode cc pc = .ok (.ifnonnull off, 3)) (ht : (pc : Int) + off = (tgt : Int)) (kk : KK p l e R s m args below meth c nL D cA ad A Q tgt lv st S) : KK p l e R s m args below meth c nL D cA ad A Q pc lv (.ref x :: st) S := fun H locs ls hl hP hD hS => lv_ifnonnull C.1 C.2.1 d ht (kk H locs ls hl hP hD hS)
theorem k_ifnonnullN (C : Cx p s m args c cc nL Ts own D cA A) {off : Int} (d : decode cc pc = .ok (.ifnonnull off, 3)) (kk : KK p l e R s m args below meth c nL D cA ad A Q (pc + 3) lv st S) : KK p l e R s m args below meth c nL D cA ad A Q pc lv (.null :: st) S := fun H locs ls hl hP hD hS => lv_ifnonnullN C.1 C.2.1 d (kk H locs ls hl hP hD hS)
theorem k_aload_nN (C : Cx p s m args c cc nL Ts own D cA A) {k : Fin 4} {i : Nat} (d : decode cc pc = .ok (.aload_n k, 1)) (j : Nat) (hi : (k : Nat) = i) (hk : lv[j]? = some (i, .null)) (kk : KK p l e R s m args below meth c nL D cA ad A Q (pc + 1) lv (.null :: st) S) : KK p l e R s m args below meth c nL D cA ad A Q pc lv st S := fun H locs ls hl hP hD hS => lv_aload_nN C.1 C.2.1 d hi (lv_at hl j hk) (kk H locs ls hl hP hD hS)
theorem k_aloadN (C : Cx p s m args c cc nL Ts own D cA A) {i : Nat} (d : decode cc pc = .ok (.aload i, 2)) (j : Nat) (hk : lv[j]? = some (i, .null)) (kk : KK p l e R s m args below meth c nL D cA ad A Q (pc + 2) lv (.null :: st) S) : KK p l e R s m args below meth c nL D cA ad A Q pc lv st S := fun H locs ls hl hP hD hS => lv_aloadN C.1 C.2.1 d (lv_at hl j hk) (kk H locs ls hl hP hD hS)
theorem k_astore_nN (C : Cx p s m args c cc nL Ts own D cA A) {k : Fin 4} {i : Nat} (d : decode cc pc = .ok (.astore_n k, 1)) (hi : (k : Nat) = i) (hn : i < nL) (lv' : List (Nat × Value)) (hlv : (i, Value.null) :: lv.filter (fun q => !(q.1 == i) && !(q.1 + 1 == i && q.2.category == 2)) = lv') (kk : KK p l e R s m args below meth c nL D cA ad A Q (pc + 1) lv' st S) : KK p l e R s m args below meth c nL D cA ad A Q pc lv (.null :: st) S := fun H locs ls hl hP hD hS => lv_astore_nN C.1 C.2.1 d hi hl hn hlv (fun ls hl => kk H locs ls hl hP hD hS)
theorem k_astoreN (C : Cx p s m args c cc nL Ts own D cA A) {i : Nat} (d : decode cc pc = .ok (.astore i, 2)) (hn : i < nL) (lv' : List (Nat × Value)) (hlv : (i, Value.null) :: lv.filter (fun q => !(q.1 == i) && !(q.1 + 1 == i && q.2.category == 2)) = lv') (kk : KK p l e R s m args below meth c nL D cA ad A Q (pc + 2) lv' st S) : KK p l e R s m args below meth c nL D cA ad A Q pc lv (.null :: st) S := fun H locs ls hl hP hD hS => lv_astoreN C.1 C.2.1 d hl hn hlv (fun ls hl => kk H locs ls hl hP hD hS)
theorem k_mmax (C : Cx p s m args c cc nL Ts own D cA A) {index : Nat} {x y : Int32} (hl1 : Cond.methodLink own index Lib.Math.max.name ∈ Ts) (hl2 : Cond.static Lib.Math.max.name ∈ Ts) (hl3 : Cond.initialized "java/lang/Math" ∈ Ts) (hl4 : Cond.code Lib.Math.max.name Lib.Math.max.code 2 (some .int) ∈ Ts) (hR : 1 ≤ R.frames ∧ (st.map fun v => v.category).sum + 13 ≤ R.locals) (d : decode cc pc = .ok (.invokestatic index, 3)) (kk : KK p l e R s m args below meth c nL D cA ad A Q (pc + 3) lv (.int (if x < y then y else x) :: st) S) : KK p l e R s m args below meth c nL D cA ad A Q pc lv (.int y :: .int x :: st) S := fun H locs ls hl hP hD hS =>
  va_mmax C.1 C.2.1 (C.2.2.1.trans hl.1.symm) C.2.2.2.1 (C.2.2.2.2.1 _ hl1) (C.2.2.2.2.1 _ hl2) (C.2.2.2.2.1 _ hl3) (C.2.2.2.2.1 _ hl4) hR.1 hR.2 (Nat.zero_le _) (Nat.zero_le _) d (kk H locs ls hl hP hD hS)
theorem k_mmin (C : Cx p s m args c cc nL Ts own D cA A) {index : Nat} {x y : Int32} (hl1 : Cond.methodLink own index Lib.Math.min.name ∈ Ts) (hl2 : Cond.static Lib.Math.min.name ∈ Ts) (hl3 : Cond.initialized "java/lang/Math" ∈ Ts) (hl4 : Cond.code Lib.Math.min.name Lib.Math.min.code 2 (some .int) ∈ Ts) (hR : 1 ≤ R.frames ∧ (st.map fun v => v.category).sum + 13 ≤ R.locals) (d : decode cc pc = .ok (.invokestatic index, 3)) (kk : KK p l e R s m args below meth c nL D cA ad A Q (pc + 3) lv (.int (if y < x then y else x) :: st) S) : KK p l e R s m args below meth c nL D cA ad A Q pc lv (.int y :: .int x :: st) S := fun H locs ls hl hP hD hS =>
  va_mmin C.1 C.2.1 (C.2.2.1.trans hl.1.symm) C.2.2.2.1 (C.2.2.2.2.1 _ hl1) (C.2.2.2.2.1 _ hl2) (C.2.2.2.2.1 _ hl3) (C.2.2.2.2.1 _ hl4) hR.1 hR.2 (Nat.zero_le _) (Nat.zero_le _) d (kk H locs ls hl hP hD hS)
theorem k_mabs (C : Cx p s m args c cc nL Ts own D cA A) {index : Nat} {x : Int32} (hl1 : Cond.methodLink own index Lib.Math.abs.name ∈ Ts) (hl2 : Cond.static Lib.Math.abs.name ∈ Ts) (hl3 : Cond.initialized "java/lang/Math" ∈ Ts) (hl4 : Cond.code Lib.Math.abs.name Lib.Math.abs.code 1 (some .int) ∈ Ts) (hR : 1 ≤ R.frames ∧ (st.map fun v => v.category).sum + 13 ≤ R.locals) (d : decode cc pc = .ok (.invokestatic index, 3)) (kk : KK p l e R s m args below meth c nL D cA ad A Q (pc + 3) lv (.int (if 0 ≤ x then x else 0 - x) :: st) S) : KK p l e R s m args below meth c nL D cA ad A Q pc lv (.int x :: st) S := fun H locs ls hl hP hD hS =>
  va_mabs C.1 C.2.1 (C.2.2.1.trans hl.1.symm) C.2.2.2.1 (C.2.2.2.2.1 _ hl1) (C.2.2.2.2.1 _ hl2) (C.2.2.2.2.1 _ hl3) (C.2.2.2.2.1 _ hl4) hR.1 hR.2 (Nat.zero_le _) (Nat.zero_le _) d (kk H locs ls hl hP hD hS)
theorem k_labs (C : Cx p s m args c cc nL Ts own D cA A) {index : Nat} {x : Int64} (hl1 : Cond.methodLink own index Lib.MathLoose.abs_long.x ∈ Ts) (hl2 : Cond.static Lib.MathLoose.abs_long.x ∈ Ts) (hl3 : Cond.initialized "java/lang/Math" ∈ Ts) (hl4 : Cond.code Lib.MathLoose.abs_long.x Lib.MathLoose.abs_long.code 2 (some .long) ∈ Ts) (hR : 1 ≤ R.frames ∧ (st.map fun v => v.category).sum + 13 ≤ R.locals) (d : decode cc pc = .ok (.invokestatic index, 3)) (kk : KK p l e R s m args below meth c nL D cA ad A Q (pc + 3) lv (.long (if 0 < x then x else -x) :: st) S) : KK p l e R s m args below meth c nL D cA ad A Q pc lv (.long x :: st) S := fun H locs ls hl hP hD hS =>
  va_mabs_long C.1 C.2.1 (C.2.2.1.trans hl.1.symm) C.2.2.2.1 (C.2.2.2.2.1 _ hl1) (C.2.2.2.2.1 _ hl2) (C.2.2.2.2.1 _ hl3) (C.2.2.2.2.1 _ hl4) hR.1 hR.2 (Nat.zero_le _) (Nat.zero_le _) d (kk H locs ls hl hP hD hS)
theorem k_copyi (C : Cx p s m args c cc nL Ts own D cA A) {index t0 k0 n0 t1 k1 n1 : Nat} {sp dp n : Int32} (hl1 : Cond.methodLink own index arraycopyName ∈ Ts) (hl2 : Cond.native arraycopyName ∈ Ts) (hl3 : Cond.static arraycopyName ∈ Ts) (hl4 : Cond.initialized "java/lang/System" ∈ Ts) (hm0 : (t0, k0) ∈ ids (nM S)) (he0 : cel cA ad S t0 k0 = .inl (cA 0, n0, .inl (gA S t0 k0))) (hm1 : (t1, k1) ∈ ids (nM S)) (he1 : ∀ S : Sg, cel cA ad S t1 k1 = .inl (cA 0, n1, .inl (gA S t1 k1))) (h1 : ¬ sp < 0) (h2 : ¬ dp < 0) (h3 : ¬ n < 0) (h4 : sp.toNatClampNeg + n.toNatClampNeg ≤ n0) (h5 : dp.toNatClampNeg + n.toNatClampNeg ≤ n1) (hR : 1 ≤ R.frames ∧ (st.map fun v => v.category).sum + (nativeFrameWords "java/lang/System" "arraycopy" 5 + 11) ≤ R.locals) (d : decode cc pc = .ok (.invokestatic index, 3)) (kk : KK p l e R s m args below meth c nL D cA ad A Q (pc + 3) lv st (uAr S t1 k1 (va_cpy (gA S t0 k0) (gA S t1 k1) sp.toNatClampNeg dp.toNatClampNeg n.toNatClampNeg))) : KK p l e R s m args below meth c nL D cA ad A Q pc lv (.int n :: .int dp :: .ref (ad t1 k1) :: .int sp :: .ref (ad t0 k0) :: st) S := fun H locs ls hl hP hD hS => by
  obtain ⟨q0, -, hq0⟩ := lW_get cA ad S hm0
  obtain ⟨q1, hi, hq1⟩ := lW_get cA ad S hm1
  rw [he0] at hq0
  rw [he1] at hq1
  refine va_copyi C.1 C.2.1 (C.2.2.1.trans hl.1.symm) C.2.2.2.1 (C.2.2.2.2.1 _ hl1) (C.2.2.2.2.1 _ hl2) (C.2.2.2.2.1 _ hl3) (C.2.2.2.2.1 _ hl4) C.2.2.2.2.2.1 hP hD hS q0 q1 0 0 hq0 hq1 rfl rfl rfl h1 h2 h3 h4 h5 (fun i _ => rfl) hR.1 hR.2 d (fun H1 locs1 hP1 hD1 hS1 => ?_)
  have hs := lW_set (S' := uAr S t1 k1 (va_cpy (gA S t0 k0) (gA S t1 k1) sp.toNatClampNeg dp.toNatClampNeg n.toNatClampNeg)) hD hi rfl (he1 _) (fun a b h => cel_uAr h)
  rw [gA_uAr, if_pos ⟨rfl, rfl⟩] at hs
  rw [hs] at hP1 hD1
  exact kk H1 locs1 ls hl hP1 hD1 hS1
theorem k_copyl (C : Cx p s m args c cc nL Ts own D cA A) {index t0 k0 n0 t1 k1 n1 : Nat} {sp dp n : Int32} (hl1 : Cond.methodLink own index arraycopyName ∈ Ts) (hl2 : Cond.native arraycopyName ∈ Ts) (hl3 : Cond.static arraycopyName ∈ Ts) (hl4 : Cond.initialized "java/lang/System" ∈ Ts) (hm0 : (t0, k0) ∈ ids (nM S)) (he0 : cel cA ad S t0 k0 = .inl (cA 2, n0, .inr (.inl (gL S t0 k0)))) (hm1 : (t1, k1) ∈ ids (nM S)) (he1 : ∀ S : Sg, cel cA ad S t1 k1 = .inl (cA 2, n1, .inr (.inl (gL S t1 k1)))) (h1 : ¬ sp < 0) (h2 : ¬ dp < 0) (h3 : ¬ n < 0) (h4 : sp.toNatClampNeg + n.toNatClampNeg ≤ n0) (h5 : dp.toNatClampNeg + n.toNatClampNeg ≤ n1) (hR : 1 ≤ R.frames ∧ (st.map fun v => v.category).sum + (nativeFrameWords "java/lang/System" "arraycopy" 5 + 11) ≤ R.locals) (d : decode cc pc = .ok (.invokestatic index, 3)) (kk : KK p l e R s m args below meth c nL D cA ad A Q (pc + 3) lv st (uLr S t1 k1 (va_cpy (gL S t0 k0) (gL S t1 k1) sp.toNatClampNeg dp.toNatClampNeg n.toNatClampNeg))) : KK p l e R s m args below meth c nL D cA ad A Q pc lv (.int n :: .int dp :: .ref (ad t1 k1) :: .int sp :: .ref (ad t0 k0) :: st) S := fun H locs ls hl hP hD hS => by
  obtain ⟨q0, -, hq0⟩ := lW_get cA ad S hm0
  obtain ⟨q1, hi, hq1⟩ := lW_get cA ad S hm1
  rw [he0] at hq0
  rw [he1] at hq1
  refine va_copyl C.1 C.2.1 (C.2.2.1.trans hl.1.symm) C.2.2.2.1 (C.2.2.2.2.1 _ hl1) (C.2.2.2.2.1 _ hl2) (C.2.2.2.2.1 _ hl3) (C.2.2.2.2.1 _ hl4) C.2.2.2.2.2.1 hP hD hS q0 q1 2 2 hq0 hq1 rfl rfl rfl h1 h2 h3 h4 h5 (fun i _ => rfl) hR.1 hR.2 d (fun H1 locs1 hP1 hD1 hS1 => ?_)
  have hs := lW_set (S' := uLr S t1 k1 (va_cpy (gL S t0 k0) (gL S t1 k1) sp.toNatClampNeg dp.toNatClampNeg n.toNatClampNeg)) hD hi rfl (he1 _) (fun a b h => cel_uLr h)
  rw [gL_uLr, if_pos ⟨rfl, rfl⟩] at hs
  rw [hs] at hP1 hD1
  exact kk H1 locs1 ls hl hP1 hD1 hS1
end
/-- a call at pc runs to the end Qc -/
def Rn (p : Program) (l : Launch) (e : Env) (R : Room) (s : State) (m : MethodId) (args : Array Value) (below : List Frame) (meth : Method) (c : Code) (nL : Nat) (D : va_G) (cA : Nat → ClassId) (ad : Nat → Nat → Nat) (A : Nat → Prop) (pc : Nat) (lv : List (Nat × Value)) (st rest : List Value) (S : Sg) (Qc : (Sg → State → Prop) → (Nat → Prop) → Array Value → State → Outcome → State → Prop) : Prop :=
  ∀ (H : Heap) (locs : List Loc) (ls : Array Slot), lv_has ls nL lv → va_P D vwCl (lW cA ad S) H → va_D A (lW cA ad S) → va_S A s.heap H locs → ∃ av : Array Value, va_Run p l e R s m args below meth c H locs 0 0 0 0 (F0 m pc ls st) rest (Qc (fun S' t => va_P D vwCl (lW cA ad S') t.heap ∧ va_D (va_A (lW cA ad S) H.size) (lW cA ad S')) (va_A (lW cA ad S) H.size) av) (va_A (lW cA ad S) H.size)
section
variable {p : Program} {l : Launch} {e : Env} {R : Room} {s : State} {m : MethodId} {args : Array Value} {below : List Frame} {meth : Method} {c : Code} {nL : Nat} {D : va_G} {cA : Nat → ClassId} {ad : Nat → Nat → Nat} {A : Nat → Prop} {Q : State → Prop} {cc : ByteArray} {Ts : List Cond} {own : String} {pc : Nat} {lv lv' : List (Nat × Value)} {st rest : List Value} {S : Sg}
theorem rn_V (C : Cx p s m args c cc nL Ts own D cA A) {y : MethodName} {ws : List Cond} {rm : Room} {bytes : ByteArray} {maxL n index t k ci : Nat} {ret : Option FieldType} {As : List Value} {Qc : (Sg → State → Prop) → (Nat → Prop) → Array Value → State → Outcome → State → Prop} {Cn : String} {fs : List Value} {q : vw_C} (hM : Ct l y ws rm D cA ad (.ref (ad t k) :: As) S Qc) (cw : CallW R s args own Cn index y bytes maxL ret ws rm 0 0 n) (hm : (t, k) ∈ ids (nM S)) (he : cel cA ad S t k = .inr (ci, fs)) (hcl : vwCl[ci]? = some q) (hCn : q.1 = Cn) (hn : As.length = n) (hst : st = As.reverse ++ .ref (ad t k) :: rest) (hW : (rest.map fun v => v.category).sum ≤ 8) (d : decode cc pc = .ok (.invokevirtual index, 3)) : Rn p l e R s m args below meth c nL D cA ad A pc lv st rest S Qc := fun H locs ls hl hP hD hS => by
  subst hst
  obtain ⟨p0, -, hq⟩ := lW_get cA ad S hm
  rw [he] at hq
  have hrecv := va_recv C.2.2.2.2.2.1 hP hcl hq
  rw [hCn] at hrecv
  exact ⟨_, va_runV (As := As) (rest := rest) ⟨C.1, C.2.1, C.2.2.1, C.2.2.2.1, C.2.2.2.2.1⟩ (hM H.size) cw ⟨pre_blind, hrecv, fun U hU hW => ⟨rfl, by rw [hU], by rw [hU]; exact hP, va_K.moved hW.alike C.2.2.2.2.2.1, hD.weaken (fun _ _ _ _ => trivial)⟩⟩ rfl hn hl.1 rfl (lv_room hW) d ⟨Nat.zero_le _, Nat.zero_le _⟩⟩
theorem rn_U (C : Cx p s m args c cc nL Ts own D cA A) {y : MethodName} {x : MethodName} {owner : String} {ws : List Cond} {rm : Room} {bytes : ByteArray} {maxL n index t k ci : Nat} {ret : Option FieldType} {As : List Value} {Qc : (Sg → State → Prop) → (Nat → Prop) → Array Value → State → Outcome → State → Prop} {Cn : String} {fs : List Value} {q : vw_C} (hM : Ct l y ws rm D cA ad (.ref (ad t k) :: As) S Qc) (cw : va_CU R s args own Cn owner index x y bytes maxL ret ws rm 0 0 n) (hm : (t, k) ∈ ids (nM S)) (he : cel cA ad S t k = .inr (ci, fs)) (hcl : vwCl[ci]? = some q) (hCn : q.1 = Cn) (hn : As.length = n) (hst : st = As.reverse ++ .ref (ad t k) :: rest) (hW : (rest.map fun v => v.category).sum ≤ 8) (d : decode cc pc = .ok (.invokevirtual index, 3)) : Rn p l e R s m args below meth c nL D cA ad A pc lv st rest S Qc := fun H locs ls hl hP hD hS => by
  subst hst
  obtain ⟨p0, -, hq⟩ := lW_get cA ad S hm
  rw [he] at hq
  have hrecv := va_recv C.2.2.2.2.2.1 hP hcl hq
  rw [hCn] at hrecv
  exact ⟨_, va_runU (As := As) (rest := rest) ⟨C.1, C.2.1, C.2.2.1, C.2.2.2.1, C.2.2.2.2.1⟩ (hM H.size) cw ⟨pre_blind, hrecv, fun U hU hW => ⟨rfl, by rw [hU], by rw [hU]; exact hP, va_K.moved hW.alike C.2.2.2.2.2.1, hD.weaken (fun _ _ _ _ => trivial)⟩⟩ rfl hn hl.1 rfl (lv_room hW) d ⟨Nat.zero_le _, Nat.zero_le _⟩⟩
theorem rn_SU (C : Cx p s m args c cc nL Ts own D cA A) {y : MethodName} {ws : List Cond} {rm : Room} {bytes : ByteArray} {maxL n index t k ci : Nat} {ret : Option FieldType} {As : List Value} {Qc : (Sg → State → Prop) → (Nat → Prop) → Array Value → State → Outcome → State → Prop} {Cn : String} {fs : List Value} {q : vw_C} (hM : Ct l y ws rm D cA ad (.ref (ad t k) :: As) S Qc) (cw : va_CS R s args own index y bytes maxL ret ws rm 0 0 n) (hm : (t, k) ∈ ids (nM S)) (he : cel cA ad S t k = .inr (ci, fs)) (hcl : vwCl[ci]? = some q) (hCn : q.1 = Cn) (hn : As.length = n) (hst : st = As.reverse ++ .ref (ad t k) :: rest) (hW : (rest.map fun v => v.category).sum ≤ 8) (d : decode cc pc = .ok (.invokespecial index, 3)) : Rn p l e R s m args below meth c nL D cA ad A pc lv st rest S Qc := fun H locs ls hl hP hD hS => by
  subst hst
  obtain ⟨p0, -, hq⟩ := lW_get cA ad S hm
  rw [he] at hq
  have hrecv := va_recv C.2.2.2.2.2.1 hP hcl hq
  have hat := (C.2.2.2.2.2.1.1 ci q hcl).2
  rw [hCn] at hrecv hat
  exact ⟨_, va_runSU (As := As) (rest := rest) hat ⟨C.1, C.2.1, C.2.2.1, C.2.2.2.1, C.2.2.2.2.1⟩ (hM H.size) cw ⟨pre_blind, hrecv, fun U hU hW => ⟨rfl, by rw [hU], by rw [hU]; exact hP, va_K.moved hW.alike C.2.2.2.2.2.1, hD.weaken (fun _ _ _ _ => trivial)⟩⟩ rfl hn hl.1 rfl (lv_room hW) d ⟨Nat.zero_le _, Nat.zero_le _⟩⟩
theorem rn_S (C : Cx p s m args c cc nL Ts own D cA A) {y : MethodName} {ws : List Cond} {rm : Room} {bytes : ByteArray} {maxL n index : Nat} {ret : Option FieldType} {As : List Value} {Qc : (Sg → State → Prop) → (Nat → Prop) → Array Value → State → Outcome → State → Prop} (hM : Ct l y ws rm D cA ad As S Qc) (cw : CallB R s args own index y bytes maxL ret ws rm 0 0 n ∧ (Cond.static y).before args s = true) (hn : As.length = n) (hst : st = As.reverse ++ rest) (hW : (rest.map fun v => v.category).sum ≤ 8) (d : decode cc pc = .ok (.invokestatic index, 3)) : Rn p l e R s m args below meth c nL D cA ad A pc lv st rest S Qc := fun H locs ls hl hP hD hS => by
  subst hst
  exact ⟨_, va_runS (As := As) (rest := rest) ⟨C.1, C.2.1, C.2.2.1, C.2.2.2.1, C.2.2.2.2.1⟩ (hM H.size) cw ⟨pre_blind, fun U hU hW => ⟨rfl, by rw [hU], by rw [hU]; exact hP, va_K.moved hW.alike C.2.2.2.2.2.1, hD.weaken (fun _ _ _ _ => trivial)⟩⟩ rfl hn hl.1 rfl (lv_room hW) d ⟨Nat.zero_le _, Nat.zero_le _⟩⟩
theorem k_afterI (C : Cx p s m args c cc nL Ts own D cA A) (Wp : (Int32 → Sg → Prop) → Prop) {post : Int32 → Sg → Prop} (hw : Wp post) (hr : ∀ post : Int32 → Sg → Prop, Wp post → Rn p l e R s m args below meth c nL D cA ad A pc lv st rest S (fun B A => va_Qi post B A)) (kk : ∀ (r : Int32) (S' : Sg), post r S' → KK p l e R s m args below meth c nL D cA ad A Q (pc + 3) lv (.int r :: rest) S') : KK p l e R s m args below meth c nL D cA ad A Q pc lv st S := fun H locs ls hl hP hD hS => by
  obtain ⟨av, hrun⟩ := hr post hw H locs ls hl hP hD hS
  have hF := lW_free hD hS C.2.2.2.2.2.2
  refine va_calli hrun hS (fun q _ h => hF q h) hF (fun r S' t H1 locs1 ht hvm hw hB hz1 hk1 hS1 => ?_)
  obtain ⟨hP1, hD1⟩ := hB
  rw [ht] at hP1
  exact kk r S' hw H1 locs1 ls hl hP1 (hD1.weaken (fun _ _ _ h => hF _ h)) hS1
theorem k_afterL (C : Cx p s m args c cc nL Ts own D cA A) (Wp : (Int64 → Sg → Prop) → Prop) {post : Int64 → Sg → Prop} (hw : Wp post) (hr : ∀ post : Int64 → Sg → Prop, Wp post → Rn p l e R s m args below meth c nL D cA ad A pc lv st rest S (fun B A => va_Ql post B A)) (kk : ∀ (r : Int64) (S' : Sg), post r S' → KK p l e R s m args below meth c nL D cA ad A Q (pc + 3) lv (.long r :: rest) S') : KK p l e R s m args below meth c nL D cA ad A Q pc lv st S := fun H locs ls hl hP hD hS => by
  obtain ⟨av, hrun⟩ := hr post hw H locs ls hl hP hD hS
  have hF := lW_free hD hS C.2.2.2.2.2.2
  refine va_calll hrun hS (fun q _ h => hF q h) hF (fun r S' t H1 locs1 ht hvm hw hB hz1 hk1 hS1 => ?_)
  obtain ⟨hP1, hD1⟩ := hB
  rw [ht] at hP1
  exact kk r S' hw H1 locs1 ls hl hP1 (hD1.weaken (fun _ _ _ h => hF _ h)) hS1
theorem k_afterV (C : Cx p s m args c cc nL Ts own D cA A) (Wp : (Sg → Prop) → Prop) {post : Sg → Prop} (hw : Wp post) (hr : ∀ post : Sg → Prop, Wp post → Rn p l e R s m args below meth c nL D cA ad A pc lv st rest S (fun B A => va_Qv post B A)) (kk : ∀ (S' : Sg), post S' → KK p l e R s m args below meth c nL D cA ad A Q (pc + 3) lv rest S') : KK p l e R s m args below meth c nL D cA ad A Q pc lv st S := fun H locs ls hl hP hD hS => by
  obtain ⟨av, hrun⟩ := hr post hw H locs ls hl hP hD hS
  have hF := lW_free hD hS C.2.2.2.2.2.2
  refine va_callv hrun hS (fun q _ h => hF q h) hF (fun S' t H1 locs1 ht hvm hw hB hz1 hk1 hS1 => ?_)
  obtain ⟨hP1, hD1⟩ := hB
  rw [ht] at hP1
  exact kk S' hw H1 locs1 ls hl hP1 (hD1.weaken (fun _ _ _ h => hF _ h)) hS1
theorem k_afterQ (C : Cx p s m args c cc nL Ts own D cA A) (t0 : Nat) (Wp : (Option Nat → Sg → Prop) → Prop) {post : Option Nat → Sg → Prop} (hw : Wp post) (hr : ∀ post : Option Nat → Sg → Prop, Wp post → Rn p l e R s m args below meth c nL D cA ad A pc lv st rest S (fun B A => va_Qq (fun r u => ∃ o : Option Nat, r = o.map (fun j => ad t0 j) ∧ post o u) B A)) (kn : ∀ S' : Sg, post none S' → KK p l e R s m args below meth c nL D cA ad A Q (pc + 3) lv (.null :: rest) S') (ks : ∀ (j : Nat) (S' : Sg), post (some j) S' → KK p l e R s m args below meth c nL D cA ad A Q (pc + 3) lv (.ref (ad t0 j) :: rest) S') : KK p l e R s m args below meth c nL D cA ad A Q pc lv st S := fun H locs ls hl hP hD hS => by
  obtain ⟨av, hrun⟩ := hr post hw H locs ls hl hP hD hS
  have hF := lW_free hD hS C.2.2.2.2.2.2
  refine va_callq hrun hS (fun q _ h => hF q h) hF (fun r S' t H1 locs1 ht hvm hw hB hz1 hk1 hS1 => ?_)
  obtain ⟨hP1, hD1⟩ := hB
  rw [ht] at hP1
  obtain ⟨o, rfl, ho⟩ := hw
  cases o with
  | none => exact kn S' ho H1 locs1 ls hl hP1 (hD1.weaken (fun _ _ _ h => hF _ h)) hS1
  | some j => exact ks j S' ho H1 locs1 ls hl hP1 (hD1.weaken (fun _ _ _ h => hF _ h)) hS1
end
abbrev CtQ (t0 : Nat) (l : Launch) (y : MethodName) (ws : List Cond) (rm : Room) (D : va_G) (cA : Nat → ClassId) (ad : Nat → Nat → Nat) (av : List Value) (S : Sg) (post : Option Nat → Sg → Prop) : Prop := Ct l y ws rm D cA ad av S (fun B A => va_Qq (fun r u => ∃ o : Option Nat, r = o.map (fun j => ad t0 j) ∧ post o u) B A)
theorem ct_ofQ {t0 : Nat} {cn : String} {l : Launch} {y : MethodName} {ws ws' : List Cond} {rm : Room} {D : va_G} {cA : Nat → ClassId} {ad : Nat → Nat → Nat} {av : List Value} {S : Sg} {post : Option Nat → Sg → Prop} {cc : ByteArray} {nL : Nat} (hy : plainName y.cls = true) (hw : ws = Cond.code y cc nL (some (.object cn)) :: ws') (hlen : (lg_sl av).length ≤ nL)
    (body : ∀ (p : Program) (e : Env) (s : State) (m : MethodId) (args : Array Value) (below : List Frame) (meth : Method) (c : Code) (A : Nat → Prop) (Q : State → Prop), Cx p s m args c cc nL ws y.cls D cA A →
      (∀ (pc : Nat) (lv : List (Nat × Value)) (o : Option Nat) (S' : Sg), decode cc pc = .ok (.areturn, 1) → post o S' → KK p l e rm s m args below meth c nL D cA ad A Q pc lv [va_rf (o.map (fun j => ad t0 j))] S') → KK p l e rm s m args below meth c nL D cA ad A Q 0 (lv_args 0 av) [] S) : CtQ t0 l y ws rm D cA ad av S post := by
  refine ct_of (cc := cc) (nL := nL) (ret := some (.object cn)) hy hw hlen ?_
  intro p e s m args below meth c A C hr hk hA
  refine body p e s m args below meth c A _ C (fun pc lv o S' d q => ?_)
  intro H locs ls hl hP hD hS
  refine W.aret C.1 C.2.1 hr (Or.inl ⟨_, rfl⟩) ?_ (fun t ht hW => ⟨⟨o.map (fun j => ad t0 j), S', rfl, ⟨o, rfl, q⟩, by rw [ht]; exact hP, hD⟩, hS.F ht⟩) hS.2.2 d hk
  cases o with
  | none => exact Or.inl rfl
  | some j => exact Or.inr ⟨_, rfl⟩
/-- for a method of the JDK that has a body of its own (plainFor) -/
theorem met_ofWF {l : Launch} {y : MethodName} {ws ws' : List Cond} {rm : Room} {Pc : Array Value → State → Prop} {Qc : Array Value → State → Outcome → State → Prop} {mc ms : Nat} {free : Addr → Prop} {cc : ByteArray} {maxL : Nat} {ret : Option FieldType}
    (hy : plainFor y = true) (hw : ws = Cond.code y cc maxL ret :: ws')
    (body : ∀ p e s m args below meth c s₁, BodyLoose p l y (headSpec ws rm) cc maxL ret e s m args below meth c s₁ → c.maxLocals = maxL → Pc args s →
      W p l e (headSpec ws rm).room s m args below meth c s.heap [] 0 0 (MQ below Qc args s mc ms free) (entryFrame m args maxL)) : Met l y ws rm Pc Qc mc ms free := by
  refine MetFree.of_bodySF (code := cc) (maxLocals := maxL) (ret := ret) hy ?_ ?_
  · intro args s m h hn
    obtain ⟨meth, c, h1, h2, h3, h4, h5, h6, -, -⟩ := Cond.code_spec hn (atoms_spec (ws := ws) h _ (by rw [hw]; exact List.mem_cons_self))
    exact ⟨meth, c, h1, h2, h3, h4, h5, h6⟩
  · intro p e s m args below meth c s₁ B hml hP _
    have hh0 : s₁.heap = s.heap := by rw [B.state]; rfl
    have K := body p e s m args below meth c s₁ B hml hP
    rw [← hh0] at K
    obtain ⟨t, a, o, b1, b2, b3⟩ := K s₁ rfl (Stand.of_body B)
    exact ⟨t, o, a, b1, b2, b3⟩
theorem ct_ofIF {l : Launch} {y : MethodName} {ws ws' : List Cond} {rm : Room} {D : va_G} {cA : Nat → ClassId} {ad : Nat → Nat → Nat} {av : List Value} {S : Sg} {post : Int32 → Sg → Prop} {cc : ByteArray} {nL : Nat} (hy : plainFor y = true) (hw : ws = Cond.code y cc nL (some .int) :: ws') (hlen : (lg_sl av).length ≤ nL)
    (body : ∀ (p : Program) (e : Env) (s : State) (m : MethodId) (args : Array Value) (below : List Frame) (meth : Method) (c : Code) (A : Nat → Prop) (Q : State → Prop), Cx p s m args c cc nL ws y.cls D cA A →
      (∀ (pc : Nat) (lv : List (Nat × Value)) (v : Int32) (S' : Sg), decode cc pc = .ok (.ireturn, 1) → post v S' → KK p l e rm s m args below meth c nL D cA ad A Q pc lv [.int v] S') → KK p l e rm s m args below meth c nL D cA ad A Q 0 (lv_args 0 av) [] S) : CtI l y ws rm D cA ad av S post := by
  intro sz
  refine met_ofWF (cc := cc) (maxL := nL) (ret := some .int) hy hw ?_
  intro p e s m args below meth c s₁ B hml hv
  obtain ⟨rfl, hsz, hP, hK, hD0⟩ := hv
  subst hsz
  have hD := hD0.self (sz := s.heap.size)
  generalize hAe : va_A (lW cA ad S) s.heap.size = A at hD ⊢
  have hA : ∀ q : Nat, s.heap.size ≤ q → A q := fun q h => by rw [← hAe]; exact Or.inr h
  have hl := lv_entry av (n := nL) hlen
  rw [lg_entry_eq]
  have C : Cx p s m av.toArray c cc nL ws y.cls D cA A := ⟨B.exec, B.bytes, hml, findClass_of_methodNamed B.named, atoms_spec (ws := ws) B.pre, hK, hA⟩
  exact body p e s m av.toArray below meth c A _ C (fun pc lv v S' d q => k_iret C B.returns B.notSynchronized d q) s.heap [] _ hl hP hD va_S.rf
section
variable {p : Program} {l : Launch} {e : Env} {R : Room} {s : State} {m : MethodId} {args : Array Value} {below : List Frame} {meth : Method} {c : Code} {nL : Nat} {D : va_G} {cA : Nat → ClassId} {ad : Nat → Nat → Nat} {A : Nat → Prop} {Q : State → Prop} {cc : ByteArray} {Ts : List Cond} {own : String} {pc : Nat} {lv lv' : List (Nat × Value)} {st rest : List Value} {S : Sg}
theorem k_ldcw (C : Cx p s m args c cc nL Ts own D cA A) {index : Nat} {v : Int32} (hc : (Jvm.Cond.constant own index v).before args s = true) (d : decode cc pc = .ok (.ldc_w index, 3)) (kk : KK p l e R s m args below meth c nL D cA ad A Q (pc + 3) lv (.int v :: st) S) : KK p l e R s m args below meth c nL D cA ad A Q pc lv st S :=
  fun H locs ls hl hP hD hS => lv_ldcw C.1 C.2.1 C.2.2.2.1 hc d (kk H locs ls hl hP hD hS)
end
