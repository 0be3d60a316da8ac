/-! the state: ints of the objects (tag, number, field), int and boolean rows, long rows, how many marks, their kinds, the marks on shelves -/
abbrev Sg : Type := (Nat → Nat → Nat → Int32) × (Nat → Nat → Nat → Int32) × (Nat → Nat → Nat → Int64) × Nat × (Nat → Nat) × (Nat → Option Nat)
def gI (S : Sg) (t k : Nat) : Nat → Int32 := S.1 t k
def gA (S : Sg) (t k : Nat) : Nat → Int32 := S.2.1 t k
def gL (S : Sg) (t k : Nat) : Nat → Int64 := S.2.2.1 t k
def nM (S : Sg) : Nat := S.2.2.2.1
def kM (S : Sg) : Nat → Nat := S.2.2.2.2.1
def sM (S : Sg) : Nat → Option Nat := S.2.2.2.2.2
def uI (S : Sg) (t k f : Nat) (v : Int32) : Sg := (fun a b => if a = t ∧ b = k then upd (S.1 t k) f v else S.1 a b, S.2)
def uA (S : Sg) (t k i : Nat) (v : Int32) : Sg := (S.1, fun a b => if a = t ∧ b = k then upd (S.2.1 t k) i v else S.2.1 a b, S.2.2)
def uL (S : Sg) (t k i : Nat) (v : Int64) : Sg := (S.1, S.2.1, fun a b => if a = t ∧ b = k then vp_updL (S.2.2.1 t k) i v else S.2.2.1 a b, S.2.2.2)
def uH (S : Sg) (d : Nat) (r : Option Nat) : Sg := (S.1, S.2.1, S.2.2.1, S.2.2.2.1, S.2.2.2.2.1, va_up S.2.2.2.2.2 d r)
theorem gI_uI (S : Sg) (t k f : Nat) (v : Int32) (a b : Nat) : gI (uI S t k f v) a b = if a = t ∧ b = k then upd (gI S t k) f v else gI S a b := rfl
theorem gA_uA (S : Sg) (t k i : Nat) (v : Int32) (a b : Nat) : gA (uA S t k i v) a b = if a = t ∧ b = k then upd (gA S t k) i v else gA S a b := rfl
theorem gL_uL (S : Sg) (t k i : Nat) (v : Int64) (a b : Nat) : gL (uL S t k i v) a b = if a = t ∧ b = k then vp_updL (gL S t k) i v else gL S a b := rfl
theorem gA_uI (S : Sg) (t k f : Nat) (v : Int32) : gA (uI S t k f v) = gA S := rfl
theorem gL_uI (S : Sg) (t k f : Nat) (v : Int32) : gL (uI S t k f v) = gL S := rfl
theorem gI_uA (S : Sg) (t k f : Nat) (v : Int32) : gI (uA S t k f v) = gI S := rfl
theorem gL_uA (S : Sg) (t k f : Nat) (v : Int32) : gL (uA S t k f v) = gL S := rfl
theorem gI_uL (S : Sg) (t k f : Nat) (v : Int64) : gI (uL S t k f v) = gI S := rfl
theorem gA_uL (S : Sg) (t k f : Nat) (v : Int64) : gA (uL S t k f v) = gA S := rfl
theorem nM_uI (S : Sg) (t k f : Nat) (v : Int32) : nM (uI S t k f v) = nM S := rfl
theorem nM_uA (S : Sg) (t k f : Nat) (v : Int32) : nM (uA S t k f v) = nM S := rfl
theorem nM_uL (S : Sg) (t k f : Nat) (v : Int64) : nM (uL S t k f v) = nM S := rfl
theorem gI_same (S : Sg) (t k f : Nat) (v : Int32) : gI (uI S t k f v) t k = upd (gI S t k) f v := by rw [gI_uI, if_pos ⟨rfl, rfl⟩]
theorem gA_same (S : Sg) (t k i : Nat) (v : Int32) : gA (uA S t k i v) t k = upd (gA S t k) i v := by rw [gA_uA, if_pos ⟨rfl, rfl⟩]
theorem gL_same (S : Sg) (t k i : Nat) (v : Int64) : gL (uL S t k i v) t k = vp_updL (gL S t k) i v := by rw [gL_uL, if_pos ⟨rfl, rfl⟩]
def cl0 (cA : Nat → ClassId) (ad : Nat → Nat → Nat) (I : Nat → Int32) (Ar : Nat → Int32) (Lr : Nat → Int64) (n kd : Nat) (sm : Option Nat) (t k : Nat) : va_E :=
    if t = 0 then .inr (9, [.ref (ad 1 0), .ref (ad 3 0), .ref (ad 6 0), .ref (ad 11 0), .ref (ad 14 0), .ref (ad 2 0), .int (I 6), .int (I 7)]) else
    if t = 1 then .inl (cA 3, 10, .inr (.inr (.inr (.inr (fun j => if j < n then some (ad 26 j) else none))))) else
    if t = 2 then .inl (cA 4, 8, .inr (.inr (.inr (.inr (fun j => some (ad 24 j)))))) else
    if t = 3 then .inr (5, [.ref (ad 4 0), .ref (ad 5 0), .int (I 2)]) else
    if t = 4 then .inl (cA 0, 40, .inl Ar) else
    if t = 5 then .inl (cA 2, 40, .inr (.inl Lr)) else
    if t = 6 then .inr (0, [.ref (ad 7 0), .ref (ad 8 0), .ref (ad 9 0), .ref (ad 10 0), .int (I 4), .int (I 5)]) else
    if t = 7 then .inl (cA 1, 1024, .inl Ar) else
    if t = 8 then .inl (cA 0, 1024, .inl Ar) else
    if t = 9 then .inl (cA 0, 1024, .inl Ar) else
    if t = 10 then .inl (cA 0, 10, .inl Ar) else
    if t = 11 then .inr (7, [.ref (ad 12 0), .ref (ad 13 0), .int (I 2), .int (I 3), .int (I 4), .int (I 5)]) else
    if t = 12 then .inl (cA 0, 3, .inl Ar) else
    if t = 13 then .inl (cA 0, 3, .inl Ar) else
    if t = 14 then .inr (2, [.ref (ad 15 0), .ref (ad 16 0), .ref (ad 17 0), .int (I 3), .ref (ad 18 0), .ref (ad 20 0), .ref (ad 22 0), .ref (ad 23 0), .int (I 8), .int (I 9), .int (I 10)]) else
    if t = 15 then .inl (cA 0, 14, .inl Ar) else
    if t = 16 then .inl (cA 0, 14, .inl Ar) else
    if t = 17 then .inl (cA 0, 14, .inl Ar) else
    if t = 18 then .inl (cA 5, 10, .inr (.inr (.inr (.inr (fun j => some (ad 19 j)))))) else
    if t = 19 then .inl (cA 0, 10, .inl Ar) else
    if t = 20 then .inl (cA 5, 10, .inr (.inr (.inr (.inr (fun j => some (ad 21 j)))))) else
    if t = 21 then .inl (cA 0, 10, .inl Ar) else
    if t = 22 then .inl (cA 0, 10, .inl Ar) else
    if t = 23 then .inl (cA 0, 10, .inl Ar) else
    if t = 24 then .inr (6, [.ref (ad 25 k), .int (I 1), .int (I 2), va_rf (sm.map (fun j => ad 26 j))]) else
    if t = 25 then .inl (cA 2, 60, .inr (.inl Lr)) else
    if t = 26 then if kd = 0 then .inr (3, [.int (I 0), .int (I 1), .int (I 2), .ref (ad 27 k), .ref (ad 28 k), .ref (ad 30 k), .ref (ad 31 k), .ref (ad 33 k), .ref (ad 34 k), .int (I 3), .int (I 4)]) else if kd = 1 then .inr (4, [.int (I 0), .int (I 1), .int (I 2), .ref (ad 27 k), .ref (ad 28 k), .ref (ad 30 k), .ref (ad 31 k), .ref (ad 33 k), .ref (ad 34 k), .int (I 3), .int (I 4), .int (I 5), .int (I 6)]) else if kd = 2 then .inr (8, [.int (I 5), .int (I 6), .int (I 0), .int (I 1), .int (I 2), .ref (ad 27 k), .ref (ad 28 k), .ref (ad 30 k), .ref (ad 31 k), .ref (ad 33 k), .ref (ad 34 k), .int (I 3), .int (I 4)]) else .inr (1, [.int (I 0), .int (I 1), .int (I 2), .ref (ad 27 k), .ref (ad 28 k), .ref (ad 30 k), .ref (ad 31 k), .ref (ad 33 k), .ref (ad 34 k), .int (I 3), .int (I 4)]) else
    if t = 27 then .inl (cA 1, 40, .inl Ar) else
    if t = 28 then .inl (cA 5, 2, .inr (.inr (.inr (.inr (fun j => some (ad 29 (2 * k + j))))))) else
    if t = 29 then .inl (cA 0, 40, .inl Ar) else
    if t = 30 then .inl (cA 0, 10, .inl Ar) else
    if t = 31 then .inl (cA 5, 2, .inr (.inr (.inr (.inr (fun j => some (ad 32 (2 * k + j))))))) else
    if t = 32 then .inl (cA 0, 10, .inl Ar) else
    if t = 33 then .inl (cA 0, 2, .inl Ar) else
    if t = 34 then .inl (cA 0, 3, .inl Ar) else
    if t = 39 then .inl (cA 2, 1, .inr (.inl Lr)) else
    if t = 40 then .inr (10, [.int (I 0), .int (I 1), .ref (ad 41 0), .ref (ad 42 0), .ref (ad 43 0), .ref (ad 44 0), .ref (ad 45 0), .ref (ad 46 0), .ref (ad 47 0), .ref (ad 48 0), .ref (ad 49 0), .ref (ad 50 0), .ref (ad 51 0), .ref (ad 52 0), .ref (ad 53 0), .ref (ad 54 0), .ref (ad 55 0), .int (I 17), .ref (ad 56 0), .int (I 19), .ref (ad 57 0), .ref (ad 58 0), .int (I 22), .ref (ad 59 0), .ref (ad 60 0), .ref (ad 61 0), .ref (ad 62 0), .ref (ad 63 0), .ref (ad 64 0), .ref (ad 65 0), .ref (ad 66 0), .ref (ad 67 0), .ref (ad 68 0)]) else
    if t = 41 then .inl (cA 0, 10, .inl Ar) else
    if t = 42 then .inl (cA 0, 10, .inl Ar) else
    if t = 43 then .inl (cA 0, 10, .inl Ar) else
    if t = 44 then .inl (cA 0, 10, .inl Ar) else
    if t = 45 then .inl (cA 0, 10, .inl Ar) else
    if t = 46 then .inl (cA 0, 10, .inl Ar) else
    if t = 47 then .inl (cA 1, 400, .inl Ar) else
    if t = 48 then .inl (cA 0, 800, .inl Ar) else
    if t = 49 then .inl (cA 0, 100, .inl Ar) else
    if t = 50 then .inl (cA 0, 200, .inl Ar) else
    if t = 51 then .inl (cA 0, 10, .inl Ar) else
    if t = 52 then .inl (cA 0, 10, .inl Ar) else
    if t = 53 then .inl (cA 0, 1024, .inl Ar) else
    if t = 54 then .inl (cA 0, 10, .inl Ar) else
    if t = 55 then .inl (cA 1, 1024, .inl Ar) else
    if t = 56 then .inl (cA 0, 30, .inl Ar) else
    if t = 57 then .inl (cA 0, 3, .inl Ar) else
    if t = 58 then .inl (cA 0, 3, .inl Ar) else
    if t = 59 then .inl (cA 0, 14, .inl Ar) else
    if t = 60 then .inl (cA 0, 14, .inl Ar) else
    if t = 61 then .inl (cA 0, 14, .inl Ar) else
    if t = 62 then .inl (cA 0, 10, .inl Ar) else
    if t = 63 then .inl (cA 2, 10, .inr (.inl Lr)) else
    if t = 64 then .inl (cA 0, 8, .inl Ar) else
    if t = 65 then .inl (cA 0, 8, .inl Ar) else
    if t = 66 then .inl (cA 0, 8, .inl Ar) else
    if t = 67 then .inl (cA 2, 480, .inr (.inl Lr)) else
    .inl (cA 2, 60, .inr (.inl Lr))
def cel (cA : Nat → ClassId) (ad : Nat → Nat → Nat) (S : Sg) (t k : Nat) : va_E := cl0 cA ad (gI S t k) (gA S t k) (gL S t k) (nM S) (kM S k) (sM S k) t k
theorem cel_congr {cA : Nat → ClassId} {ad : Nat → Nat → Nat} {S S' : Sg} {t k : Nat} (h1 : gI S' t k = gI S t k) (h2 : gA S' t k = gA S t k) (h3 : gL S' t k = gL S t k) (h4 : nM S' = nM S) (h5 : kM S' k = kM S k) (h6 : sM S' k = sM S k) : cel cA ad S' t k = cel cA ad S t k := by
  unfold cel
  rw [h1, h2, h3, h4, h5, h6]
theorem cel_uI {cA : Nat → ClassId} {ad : Nat → Nat → Nat} {S : Sg} {t k f a b : Nat} {v : Int32} (h : ¬ (a = t ∧ b = k)) : cel cA ad (uI S t k f v) a b = cel cA ad S a b := cel_congr (by rw [gI_uI, if_neg h]) rfl rfl rfl rfl rfl
theorem cel_uA {cA : Nat → ClassId} {ad : Nat → Nat → Nat} {S : Sg} {t k f a b : Nat} {v : Int32} (h : ¬ (a = t ∧ b = k)) : cel cA ad (uA S t k f v) a b = cel cA ad S a b := cel_congr rfl (by rw [gA_uA, if_neg h]) rfl rfl rfl rfl
theorem cel_uL {cA : Nat → ClassId} {ad : Nat → Nat → Nat} {S : Sg} {t k f a b : Nat} {v : Int64} (h : ¬ (a = t ∧ b = k)) : cel cA ad (uL S t k f v) a b = cel cA ad S a b := cel_congr rfl rfl (by rw [gL_uL, if_neg h]) rfl rfl rfl
theorem cel_0 (cA : Nat → ClassId) (ad : Nat → Nat → Nat) (S : Sg) (k : Nat) : cel cA ad S 0 k = .inr (9, [.ref (ad 1 0), .ref (ad 3 0), .ref (ad 6 0), .ref (ad 11 0), .ref (ad 14 0), .ref (ad 2 0), .int (gI S 0 k 6), .int (gI S 0 k 7)]) := rfl
theorem cel_1 (cA : Nat → ClassId) (ad : Nat → Nat → Nat) (S : Sg) (k : Nat) : cel cA ad S 1 k = .inl (cA 3, 10, .inr (.inr (.inr (.inr (fun j => if j < nM S then some (ad 26 j) else none))))) := rfl
theorem cel_2 (cA : Nat → ClassId) (ad : Nat → Nat → Nat) (S : Sg) (k : Nat) : cel cA ad S 2 k = .inl (cA 4, 8, .inr (.inr (.inr (.inr (fun j => some (ad 24 j)))))) := rfl
theorem cel_3 (cA : Nat → ClassId) (ad : Nat → Nat → Nat) (S : Sg) (k : Nat) : cel cA ad S 3 k = .inr (5, [.ref (ad 4 0), .ref (ad 5 0), .int (gI S 3 k 2)]) := rfl
theorem cel_4 (cA : Nat → ClassId) (ad : Nat → Nat → Nat) (S : Sg) (k : Nat) : cel cA ad S 4 k = .inl (cA 0, 40, .inl (gA S 4 k)) := rfl
theorem cel_5 (cA : Nat → ClassId) (ad : Nat → Nat → Nat) (S : Sg) (k : Nat) : cel cA ad S 5 k = .inl (cA 2, 40, .inr (.inl (gL S 5 k))) := rfl
theorem cel_6 (cA : Nat → ClassId) (ad : Nat → Nat → Nat) (S : Sg) (k : Nat) : cel cA ad S 6 k = .inr (0, [.ref (ad 7 0), .ref (ad 8 0), .ref (ad 9 0), .ref (ad 10 0), .int (gI S 6 k 4), .int (gI S 6 k 5)]) := rfl
theorem cel_7 (cA : Nat → ClassId) (ad : Nat → Nat → Nat) (S : Sg) (k : Nat) : cel cA ad S 7 k = .inl (cA 1, 1024, .inl (gA S 7 k)) := rfl
theorem cel_8 (cA : Nat → ClassId) (ad : Nat → Nat → Nat) (S : Sg) (k : Nat) : cel cA ad S 8 k = .inl (cA 0, 1024, .inl (gA S 8 k)) := rfl
theorem cel_9 (cA : Nat → ClassId) (ad : Nat → Nat → Nat) (S : Sg) (k : Nat) : cel cA ad S 9 k = .inl (cA 0, 1024, .inl (gA S 9 k)) := rfl
theorem cel_10 (cA : Nat → ClassId) (ad : Nat → Nat → Nat) (S : Sg) (k : Nat) : cel cA ad S 10 k = .inl (cA 0, 10, .inl (gA S 10 k)) := rfl
theorem cel_11 (cA : Nat → ClassId) (ad : Nat → Nat → Nat) (S : Sg) (k : Nat) : cel cA ad S 11 k = .inr (7, [.ref (ad 12 0), .ref (ad 13 0), .int (gI S 11 k 2), .int (gI S 11 k 3), .int (gI S 11 k 4), .int (gI S 11 k 5)]) := rfl
theorem cel_12 (cA : Nat → ClassId) (ad : Nat → Nat → Nat) (S : Sg) (k : Nat) : cel cA ad S 12 k = .inl (cA 0, 3, .inl (gA S 12 k)) := rfl
theorem cel_13 (cA : Nat → ClassId) (ad : Nat → Nat → Nat) (S : Sg) (k : Nat) : cel cA ad S 13 k = .inl (cA 0, 3, .inl (gA S 13 k)) := rfl
theorem cel_14 (cA : Nat → ClassId) (ad : Nat → Nat → Nat) (S : Sg) (k : Nat) : cel cA ad S 14 k = .inr (2, [.ref (ad 15 0), .ref (ad 16 0), .ref (ad 17 0), .int (gI S 14 k 3), .ref (ad 18 0), .ref (ad 20 0), .ref (ad 22 0), .ref (ad 23 0), .int (gI S 14 k 8), .int (gI S 14 k 9), .int (gI S 14 k 10)]) := rfl
theorem cel_15 (cA : Nat → ClassId) (ad : Nat → Nat → Nat) (S : Sg) (k : Nat) : cel cA ad S 15 k = .inl (cA 0, 14, .inl (gA S 15 k)) := rfl
theorem cel_16 (cA : Nat → ClassId) (ad : Nat → Nat → Nat) (S : Sg) (k : Nat) : cel cA ad S 16 k = .inl (cA 0, 14, .inl (gA S 16 k)) := rfl
theorem cel_17 (cA : Nat → ClassId) (ad : Nat → Nat → Nat) (S : Sg) (k : Nat) : cel cA ad S 17 k = .inl (cA 0, 14, .inl (gA S 17 k)) := rfl
theorem cel_18 (cA : Nat → ClassId) (ad : Nat → Nat → Nat) (S : Sg) (k : Nat) : cel cA ad S 18 k = .inl (cA 5, 10, .inr (.inr (.inr (.inr (fun j => some (ad 19 j)))))) := rfl
theorem cel_19 (cA : Nat → ClassId) (ad : Nat → Nat → Nat) (S : Sg) (k : Nat) : cel cA ad S 19 k = .inl (cA 0, 10, .inl (gA S 19 k)) := rfl
theorem cel_20 (cA : Nat → ClassId) (ad : Nat → Nat → Nat) (S : Sg) (k : Nat) : cel cA ad S 20 k = .inl (cA 5, 10, .inr (.inr (.inr (.inr (fun j => some (ad 21 j)))))) := rfl
theorem cel_21 (cA : Nat → ClassId) (ad : Nat → Nat → Nat) (S : Sg) (k : Nat) : cel cA ad S 21 k = .inl (cA 0, 10, .inl (gA S 21 k)) := rfl
theorem cel_22 (cA : Nat → ClassId) (ad : Nat → Nat → Nat) (S : Sg) (k : Nat) : cel cA ad S 22 k = .inl (cA 0, 10, .inl (gA S 22 k)) := rfl
theorem cel_23 (cA : Nat → ClassId) (ad : Nat → Nat → Nat) (S : Sg) (k : Nat) : cel cA ad S 23 k = .inl (cA 0, 10, .inl (gA S 23 k)) := rfl
theorem cel_24 (cA : Nat → ClassId) (ad : Nat → Nat → Nat) (S : Sg) (k : Nat) : cel cA ad S 24 k = .inr (6, [.ref (ad 25 k), .int (gI S 24 k 1), .int (gI S 24 k 2), va_rf ((sM S k).map (fun j => ad 26 j))]) := rfl
theorem cel_25 (cA : Nat → ClassId) (ad : Nat → Nat → Nat) (S : Sg) (k : Nat) : cel cA ad S 25 k = .inl (cA 2, 60, .inr (.inl (gL S 25 k))) := rfl
theorem cel_26 (cA : Nat → ClassId) (ad : Nat → Nat → Nat) (S : Sg) (k : Nat) : cel cA ad S 26 k = if kM S k = 0 then .inr (3, [.int (gI S 26 k 0), .int (gI S 26 k 1), .int (gI S 26 k 2), .ref (ad 27 k), .ref (ad 28 k), .ref (ad 30 k), .ref (ad 31 k), .ref (ad 33 k), .ref (ad 34 k), .int (gI S 26 k 3), .int (gI S 26 k 4)]) else if kM S k = 1 then .inr (4, [.int (gI S 26 k 0), .int (gI S 26 k 1), .int (gI S 26 k 2), .ref (ad 27 k), .ref (ad 28 k), .ref (ad 30 k), .ref (ad 31 k), .ref (ad 33 k), .ref (ad 34 k), .int (gI S 26 k 3), .int (gI S 26 k 4), .int (gI S 26 k 5), .int (gI S 26 k 6)]) else if kM S k = 2 then .inr (8, [.int (gI S 26 k 5), .int (gI S 26 k 6), .int (gI S 26 k 0), .int (gI S 26 k 1), .int (gI S 26 k 2), .ref (ad 27 k), .ref (ad 28 k), .ref (ad 30 k), .ref (ad 31 k), .ref (ad 33 k), .ref (ad 34 k), .int (gI S 26 k 3), .int (gI S 26 k 4)]) else .inr (1, [.int (gI S 26 k 0), .int (gI S 26 k 1), .int (gI S 26 k 2), .ref (ad 27 k), .ref (ad 28 k), .ref (ad 30 k), .ref (ad 31 k), .ref (ad 33 k), .ref (ad 34 k), .int (gI S 26 k 3), .int (gI S 26 k 4)]) := rfl
theorem cel_27 (cA : Nat → ClassId) (ad : Nat → Nat → Nat) (S : Sg) (k : Nat) : cel cA ad S 27 k = .inl (cA 1, 40, .inl (gA S 27 k)) := rfl
theorem cel_28 (cA : Nat → ClassId) (ad : Nat → Nat → Nat) (S : Sg) (k : Nat) : cel cA ad S 28 k = .inl (cA 5, 2, .inr (.inr (.inr (.inr (fun j => some (ad 29 (2 * k + j))))))) := rfl
theorem cel_29 (cA : Nat → ClassId) (ad : Nat → Nat → Nat) (S : Sg) (k : Nat) : cel cA ad S 29 k = .inl (cA 0, 40, .inl (gA S 29 k)) := rfl
theorem cel_30 (cA : Nat → ClassId) (ad : Nat → Nat → Nat) (S : Sg) (k : Nat) : cel cA ad S 30 k = .inl (cA 0, 10, .inl (gA S 30 k)) := rfl
theorem cel_31 (cA : Nat → ClassId) (ad : Nat → Nat → Nat) (S : Sg) (k : Nat) : cel cA ad S 31 k = .inl (cA 5, 2, .inr (.inr (.inr (.inr (fun j => some (ad 32 (2 * k + j))))))) := rfl
theorem cel_32 (cA : Nat → ClassId) (ad : Nat → Nat → Nat) (S : Sg) (k : Nat) : cel cA ad S 32 k = .inl (cA 0, 10, .inl (gA S 32 k)) := rfl
theorem cel_33 (cA : Nat → ClassId) (ad : Nat → Nat → Nat) (S : Sg) (k : Nat) : cel cA ad S 33 k = .inl (cA 0, 2, .inl (gA S 33 k)) := rfl
theorem cel_34 (cA : Nat → ClassId) (ad : Nat → Nat → Nat) (S : Sg) (k : Nat) : cel cA ad S 34 k = .inl (cA 0, 3, .inl (gA S 34 k)) := rfl
theorem cel_39 (cA : Nat → ClassId) (ad : Nat → Nat → Nat) (S : Sg) (k : Nat) : cel cA ad S 39 k = .inl (cA 2, 1, .inr (.inl (gL S 39 k))) := rfl
theorem cel_40 (cA : Nat → ClassId) (ad : Nat → Nat → Nat) (S : Sg) (k : Nat) : cel cA ad S 40 k = .inr (10, [.int (gI S 40 k 0), .int (gI S 40 k 1), .ref (ad 41 0), .ref (ad 42 0), .ref (ad 43 0), .ref (ad 44 0), .ref (ad 45 0), .ref (ad 46 0), .ref (ad 47 0), .ref (ad 48 0), .ref (ad 49 0), .ref (ad 50 0), .ref (ad 51 0), .ref (ad 52 0), .ref (ad 53 0), .ref (ad 54 0), .ref (ad 55 0), .int (gI S 40 k 17), .ref (ad 56 0), .int (gI S 40 k 19), .ref (ad 57 0), .ref (ad 58 0), .int (gI S 40 k 22), .ref (ad 59 0), .ref (ad 60 0), .ref (ad 61 0), .ref (ad 62 0), .ref (ad 63 0), .ref (ad 64 0), .ref (ad 65 0), .ref (ad 66 0), .ref (ad 67 0), .ref (ad 68 0)]) := rfl
theorem cel_41 (cA : Nat → ClassId) (ad : Nat → Nat → Nat) (S : Sg) (k : Nat) : cel cA ad S 41 k = .inl (cA 0, 10, .inl (gA S 41 k)) := rfl
theorem cel_42 (cA : Nat → ClassId) (ad : Nat → Nat → Nat) (S : Sg) (k : Nat) : cel cA ad S 42 k = .inl (cA 0, 10, .inl (gA S 42 k)) := rfl
theorem cel_43 (cA : Nat → ClassId) (ad : Nat → Nat → Nat) (S : Sg) (k : Nat) : cel cA ad S 43 k = .inl (cA 0, 10, .inl (gA S 43 k)) := rfl
theorem cel_44 (cA : Nat → ClassId) (ad : Nat → Nat → Nat) (S : Sg) (k : Nat) : cel cA ad S 44 k = .inl (cA 0, 10, .inl (gA S 44 k)) := rfl
theorem cel_45 (cA : Nat → ClassId) (ad : Nat → Nat → Nat) (S : Sg) (k : Nat) : cel cA ad S 45 k = .inl (cA 0, 10, .inl (gA S 45 k)) := rfl
theorem cel_46 (cA : Nat → ClassId) (ad : Nat → Nat → Nat) (S : Sg) (k : Nat) : cel cA ad S 46 k = .inl (cA 0, 10, .inl (gA S 46 k)) := rfl
theorem cel_47 (cA : Nat → ClassId) (ad : Nat → Nat → Nat) (S : Sg) (k : Nat) : cel cA ad S 47 k = .inl (cA 1, 400, .inl (gA S 47 k)) := rfl
theorem cel_48 (cA : Nat → ClassId) (ad : Nat → Nat → Nat) (S : Sg) (k : Nat) : cel cA ad S 48 k = .inl (cA 0, 800, .inl (gA S 48 k)) := rfl
theorem cel_49 (cA : Nat → ClassId) (ad : Nat → Nat → Nat) (S : Sg) (k : Nat) : cel cA ad S 49 k = .inl (cA 0, 100, .inl (gA S 49 k)) := rfl
theorem cel_50 (cA : Nat → ClassId) (ad : Nat → Nat → Nat) (S : Sg) (k : Nat) : cel cA ad S 50 k = .inl (cA 0, 200, .inl (gA S 50 k)) := rfl
theorem cel_51 (cA : Nat → ClassId) (ad : Nat → Nat → Nat) (S : Sg) (k : Nat) : cel cA ad S 51 k = .inl (cA 0, 10, .inl (gA S 51 k)) := rfl
theorem cel_52 (cA : Nat → ClassId) (ad : Nat → Nat → Nat) (S : Sg) (k : Nat) : cel cA ad S 52 k = .inl (cA 0, 10, .inl (gA S 52 k)) := rfl
theorem cel_53 (cA : Nat → ClassId) (ad : Nat → Nat → Nat) (S : Sg) (k : Nat) : cel cA ad S 53 k = .inl (cA 0, 1024, .inl (gA S 53 k)) := rfl
theorem cel_54 (cA : Nat → ClassId) (ad : Nat → Nat → Nat) (S : Sg) (k : Nat) : cel cA ad S 54 k = .inl (cA 0, 10, .inl (gA S 54 k)) := rfl
theorem cel_55 (cA : Nat → ClassId) (ad : Nat → Nat → Nat) (S : Sg) (k : Nat) : cel cA ad S 55 k = .inl (cA 1, 1024, .inl (gA S 55 k)) := rfl
theorem cel_56 (cA : Nat → ClassId) (ad : Nat → Nat → Nat) (S : Sg) (k : Nat) : cel cA ad S 56 k = .inl (cA 0, 30, .inl (gA S 56 k)) := rfl
theorem cel_57 (cA : Nat → ClassId) (ad : Nat → Nat → Nat) (S : Sg) (k : Nat) : cel cA ad S 57 k = .inl (cA 0, 3, .inl (gA S 57 k)) := rfl
theorem cel_58 (cA : Nat → ClassId) (ad : Nat → Nat → Nat) (S : Sg) (k : Nat) : cel cA ad S 58 k = .inl (cA 0, 3, .inl (gA S 58 k)) := rfl
theorem cel_59 (cA : Nat → ClassId) (ad : Nat → Nat → Nat) (S : Sg) (k : Nat) : cel cA ad S 59 k = .inl (cA 0, 14, .inl (gA S 59 k)) := rfl
theorem cel_60 (cA : Nat → ClassId) (ad : Nat → Nat → Nat) (S : Sg) (k : Nat) : cel cA ad S 60 k = .inl (cA 0, 14, .inl (gA S 60 k)) := rfl
theorem cel_61 (cA : Nat → ClassId) (ad : Nat → Nat → Nat) (S : Sg) (k : Nat) : cel cA ad S 61 k = .inl (cA 0, 14, .inl (gA S 61 k)) := rfl
theorem cel_62 (cA : Nat → ClassId) (ad : Nat → Nat → Nat) (S : Sg) (k : Nat) : cel cA ad S 62 k = .inl (cA 0, 10, .inl (gA S 62 k)) := rfl
theorem cel_63 (cA : Nat → ClassId) (ad : Nat → Nat → Nat) (S : Sg) (k : Nat) : cel cA ad S 63 k = .inl (cA 2, 10, .inr (.inl (gL S 63 k))) := rfl
theorem cel_64 (cA : Nat → ClassId) (ad : Nat → Nat → Nat) (S : Sg) (k : Nat) : cel cA ad S 64 k = .inl (cA 0, 8, .inl (gA S 64 k)) := rfl
theorem cel_65 (cA : Nat → ClassId) (ad : Nat → Nat → Nat) (S : Sg) (k : Nat) : cel cA ad S 65 k = .inl (cA 0, 8, .inl (gA S 65 k)) := rfl
theorem cel_66 (cA : Nat → ClassId) (ad : Nat → Nat → Nat) (S : Sg) (k : Nat) : cel cA ad S 66 k = .inl (cA 0, 8, .inl (gA S 66 k)) := rfl
theorem cel_67 (cA : Nat → ClassId) (ad : Nat → Nat → Nat) (S : Sg) (k : Nat) : cel cA ad S 67 k = .inl (cA 2, 480, .inr (.inl (gL S 67 k))) := rfl
theorem cel_68 (cA : Nat → ClassId) (ad : Nat → Nat → Nat) (S : Sg) (k : Nat) : cel cA ad S 68 k = .inl (cA 2, 60, .inr (.inl (gL S 68 k))) := rfl
def fxI : List (Nat × Nat) := [(0, 0), (1, 0), (2, 0), (3, 0), (4, 0), (5, 0), (6, 0), (7, 0), (8, 0), (9, 0), (10, 0), (11, 0), (12, 0), (13, 0), (14, 0), (15, 0), (16, 0), (17, 0), (18, 0), (20, 0), (22, 0), (23, 0), (39, 0), (40, 0), (41, 0), (42, 0), (43, 0), (44, 0), (45, 0), (46, 0), (47, 0), (48, 0), (49, 0), (50, 0), (51, 0), (52, 0), (53, 0), (54, 0), (55, 0), (56, 0), (57, 0), (58, 0), (59, 0), (60, 0), (61, 0), (62, 0), (63, 0), (64, 0), (65, 0), (66, 0), (67, 0), (68, 0)]
def idM (k : Nat) : List (Nat × Nat) := [(26, k), (27, k), (28, k), (29, 2 * k), (29, 2 * k + 1), (30, k), (31, k), (32, 2 * k), (32, 2 * k + 1), (33, k), (34, k)]
def ids (n : Nat) : List (Nat × Nat) := fxI ++ ((List.range 10).flatMap (fun r => [(19, r), (21, r)]) ++ ((List.range 8).flatMap (fun r => [(24, r), (25, r)]) ++ (List.range n).flatMap idM))
theorem ids_fx {n t k : Nat} (h : (t, k) ∈ fxI) : (t, k) ∈ ids n := List.mem_append_left _ h
theorem ids_row {n t r : Nat} (h : r < 10) (ht : t = 19 ∨ t = 21) : (t, r) ∈ ids n := by
  refine List.mem_append_right _ (List.mem_append_left _ (List.mem_flatMap.mpr ⟨r, List.mem_range.mpr h, ?_⟩))
  rcases ht with rfl | rfl
  · exact List.mem_cons_self
  · exact List.mem_cons_of_mem _ List.mem_cons_self
theorem ids_shelf {n t r : Nat} (h : r < 8) (ht : t = 24 ∨ t = 25) : (t, r) ∈ ids n := by
  refine List.mem_append_right _ (List.mem_append_right _ (List.mem_append_left _ (List.mem_flatMap.mpr ⟨r, List.mem_range.mpr h, ?_⟩)))
  rcases ht with rfl | rfl
  · exact List.mem_cons_self
  · exact List.mem_cons_of_mem _ List.mem_cons_self
theorem ids_mark {n t j k : Nat} (h : k < n) (ht : (t, j) ∈ idM k) : (t, j) ∈ ids n := List.mem_append_right _ (List.mem_append_right _ (List.mem_append_right _ (List.mem_flatMap.mpr ⟨k, List.mem_range.mpr h, ht⟩)))
theorem hm_0 {n : Nat} : (0, 0) ∈ ids n := ids_fx (by decide)
theorem hm_1 {n : Nat} : (1, 0) ∈ ids n := ids_fx (by decide)
theorem hm_2 {n : Nat} : (2, 0) ∈ ids n := ids_fx (by decide)
theorem hm_3 {n : Nat} : (3, 0) ∈ ids n := ids_fx (by decide)
theorem hm_4 {n : Nat} : (4, 0) ∈ ids n := ids_fx (by decide)
theorem hm_5 {n : Nat} : (5, 0) ∈ ids n := ids_fx (by decide)
theorem hm_6 {n : Nat} : (6, 0) ∈ ids n := ids_fx (by decide)
theorem hm_7 {n : Nat} : (7, 0) ∈ ids n := ids_fx (by decide)
theorem hm_8 {n : Nat} : (8, 0) ∈ ids n := ids_fx (by decide)
theorem hm_9 {n : Nat} : (9, 0) ∈ ids n := ids_fx (by decide)
theorem hm_10 {n : Nat} : (10, 0) ∈ ids n := ids_fx (by decide)
theorem hm_11 {n : Nat} : (11, 0) ∈ ids n := ids_fx (by decide)
theorem hm_12 {n : Nat} : (12, 0) ∈ ids n := ids_fx (by decide)
theorem hm_13 {n : Nat} : (13, 0) ∈ ids n := ids_fx (by decide)
theorem hm_14 {n : Nat} : (14, 0) ∈ ids n := ids_fx (by decide)
theorem hm_15 {n : Nat} : (15, 0) ∈ ids n := ids_fx (by decide)
theorem hm_16 {n : Nat} : (16, 0) ∈ ids n := ids_fx (by decide)
theorem hm_17 {n : Nat} : (17, 0) ∈ ids n := ids_fx (by decide)
theorem hm_18 {n : Nat} : (18, 0) ∈ ids n := ids_fx (by decide)
theorem hm_20 {n : Nat} : (20, 0) ∈ ids n := ids_fx (by decide)
theorem hm_22 {n : Nat} : (22, 0) ∈ ids n := ids_fx (by decide)
theorem hm_23 {n : Nat} : (23, 0) ∈ ids n := ids_fx (by decide)
theorem hm_39 {n : Nat} : (39, 0) ∈ ids n := ids_fx (by decide)
theorem hm_40 {n : Nat} : (40, 0) ∈ ids n := ids_fx (by decide)
theorem hm_41 {n : Nat} : (41, 0) ∈ ids n := ids_fx (by decide)
theorem hm_42 {n : Nat} : (42, 0) ∈ ids n := ids_fx (by decide)
theorem hm_43 {n : Nat} : (43, 0) ∈ ids n := ids_fx (by decide)
theorem hm_44 {n : Nat} : (44, 0) ∈ ids n := ids_fx (by decide)
theorem hm_45 {n : Nat} : (45, 0) ∈ ids n := ids_fx (by decide)
theorem hm_46 {n : Nat} : (46, 0) ∈ ids n := ids_fx (by decide)
theorem hm_47 {n : Nat} : (47, 0) ∈ ids n := ids_fx (by decide)
theorem hm_48 {n : Nat} : (48, 0) ∈ ids n := ids_fx (by decide)
theorem hm_49 {n : Nat} : (49, 0) ∈ ids n := ids_fx (by decide)
theorem hm_50 {n : Nat} : (50, 0) ∈ ids n := ids_fx (by decide)
theorem hm_51 {n : Nat} : (51, 0) ∈ ids n := ids_fx (by decide)
theorem hm_52 {n : Nat} : (52, 0) ∈ ids n := ids_fx (by decide)
theorem hm_53 {n : Nat} : (53, 0) ∈ ids n := ids_fx (by decide)
theorem hm_54 {n : Nat} : (54, 0) ∈ ids n := ids_fx (by decide)
theorem hm_55 {n : Nat} : (55, 0) ∈ ids n := ids_fx (by decide)
theorem hm_56 {n : Nat} : (56, 0) ∈ ids n := ids_fx (by decide)
theorem hm_57 {n : Nat} : (57, 0) ∈ ids n := ids_fx (by decide)
theorem hm_58 {n : Nat} : (58, 0) ∈ ids n := ids_fx (by decide)
theorem hm_59 {n : Nat} : (59, 0) ∈ ids n := ids_fx (by decide)
theorem hm_60 {n : Nat} : (60, 0) ∈ ids n := ids_fx (by decide)
theorem hm_61 {n : Nat} : (61, 0) ∈ ids n := ids_fx (by decide)
theorem hm_62 {n : Nat} : (62, 0) ∈ ids n := ids_fx (by decide)
theorem hm_63 {n : Nat} : (63, 0) ∈ ids n := ids_fx (by decide)
theorem hm_64 {n : Nat} : (64, 0) ∈ ids n := ids_fx (by decide)
theorem hm_65 {n : Nat} : (65, 0) ∈ ids n := ids_fx (by decide)
theorem hm_66 {n : Nat} : (66, 0) ∈ ids n := ids_fx (by decide)
theorem hm_67 {n : Nat} : (67, 0) ∈ ids n := ids_fx (by decide)
theorem hm_68 {n : Nat} : (68, 0) ∈ ids n := ids_fx (by decide)
def lW (cA : Nat → ClassId) (ad : Nat → Nat → Nat) (S : Sg) : va_W := (ids (nM S)).map (fun i => (ad i.1 i.2, cel cA ad S i.1 i.2))
theorem lW_get (cA : Nat → ClassId) (ad : Nat → Nat → Nat) (S : Sg) {t k : Nat} (h : (t, k) ∈ ids (nM S)) : ∃ q : Nat, (ids (nM S))[q]? = some (t, k) ∧ (lW cA ad S)[q]? = some (ad t k, cel cA ad S t k) := by
  obtain ⟨q, hq⟩ := List.mem_iff_getElem?.mp h
  exact ⟨q, hq, by unfold lW; rw [List.getElem?_map, hq]; rfl⟩
theorem lW_set {A : Nat → Prop} {cA : Nat → ClassId} {ad : Nat → Nat → Nat} {S S' : Sg} {t k q : Nat} {e : va_E} (hD : va_D A (lW cA ad S)) (hq : (ids (nM S))[q]? = some (t, k)) (hn : nM S' = nM S) (he : cel cA ad S' t k = e) (ho : ∀ a b : Nat, ¬ (a = t ∧ b = k) → cel cA ad S' a b = cel cA ad S a b) : (lW cA ad S).set q (ad t k, e) = lW cA ad S' := by
  have hg : ∀ j : Nat, (lW cA ad S)[j]? = ((ids (nM S))[j]?).map (fun i => (ad i.1 i.2, cel cA ad S i.1 i.2)) := fun j => by unfold lW; rw [List.getElem?_map]
  apply List.ext_getElem?
  intro j
  rw [List.getElem?_set]
  have hr : (lW cA ad S')[j]? = ((ids (nM S))[j]?).map (fun i => (ad i.1 i.2, cel cA ad S' i.1 i.2)) := by unfold lW; rw [List.getElem?_map, hn]
  rw [hr, hg]
  by_cases hj : q = j
  · subst hj
    have hlt : q < (lW cA ad S).length := by
      have := (List.getElem?_eq_some_iff.mp hq).1
      unfold lW
      rw [List.length_map]
      exact this
    rw [if_pos rfl, if_pos hlt, hq]
    show some (ad t k, e) = some (ad t k, cel cA ad S' t k)
    rw [he]
  · rw [if_neg hj]
    cases hi : (ids (nM S))[j]? with
    | none => rfl
    | some i =>
      obtain ⟨a, b⟩ := i
      show some (ad a b, cel cA ad S a b) = some (ad a b, cel cA ad S' a b)
      by_cases hab : a = t ∧ b = k
      · obtain ⟨rfl, rfl⟩ := hab
        exact absurd (hD.1 q j _ _ (by rw [hg, hq]; rfl) (by rw [hg, hi]; rfl) rfl) hj
      · rw [ho a b hab]
abbrev tyl (cA : Nat → ClassId) : List (ClassId × FieldType) := [(cA 0, .int), (cA 1, .boolean), (cA 2, .long), (cA 3, .object "CreepBoard$Mark"), (cA 4, .object "CreepBoard$Shelf"), (cA 5, .array .int)]
/-- what stays the same on a walk -/
def Cx (p : Program) (s : State) (m : MethodId) (args : Array Value) (c : Code) (cc : ByteArray) (nL : Nat) (Ts : List Cond) (own : String) (D : va_G) (cA : Nat → ClassId) (A : Nat → Prop) : Prop :=
  p.tables.exec = Jvm.exec ∧ c.code = cc ∧ c.maxLocals = nL ∧ s.vm.findClass own = some m.cls ∧ (∀ w ∈ Ts, w.before args s = true) ∧ va_K D vwCl (tyl cA) s ∧ ∀ q : Nat, s.heap.size ≤ q → A q
/-- from the state S, the locals lv and the stack st the method goes on to Q -/
def KK (p : Program) (l : Launch) (e : Env) (R : Room) (s : State) (m : MethodId) (args : Array Value) (below : List Frame) (meth : Method) (c : Code) (nL : Nat) (D : va_G) (cA : Nat → ClassId) (ad : Nat → Nat → Nat) (A : Nat → Prop) (Q : State → Prop) (pc : Nat) (lv : List (Nat × Value)) (st : List Value) (S : Sg) : Prop :=
  ∀ (H : Heap) (locs : List Loc) (ls : Array Slot), lv_has ls nL lv → va_P D vwCl (lW cA ad S) H → va_D A (lW cA ad S) → va_S A s.heap H locs → W p l e R s m args below meth c H locs 0 0 Q (F0 m pc ls st)
section
variable {p : Program} {l : Launch} {e : Env} {R : Room} {s : State} {m : MethodId} {args : Array Value} {below : List Frame} {meth : Method} {c : Code} {nL : Nat} {D : va_G} {cA : Nat → ClassId} {ad : Nat → Nat → Nat} {A : Nat → Prop} {Q : State → Prop} {cc : ByteArray} {Ts : List Cond} {own : String} {pc : Nat} {lv lv' : List (Nat × Value)} {st : List Value} {S : Sg}
theorem k_iadd (C : Cx p s m args c cc nL Ts own D cA A) {x y : Int32} (d : decode cc pc = .ok (.iadd, 1)) (kk : KK p l e R s m args below meth c nL D cA ad A Q (pc + 1) lv (.int (x + y) :: st) S) : KK p l e R s m args below meth c nL D cA ad A Q pc lv (.int y :: .int x :: st) S :=
  fun H locs ls hl hP hD hS => lv_iadd C.1 C.2.1 d (kk H locs ls hl hP hD hS)
theorem k_isub (C : Cx p s m args c cc nL Ts own D cA A) {x y : Int32} (d : decode cc pc = .ok (.isub, 1)) (kk : KK p l e R s m args below meth c nL D cA ad A Q (pc + 1) lv (.int (x - y) :: st) S) : KK p l e R s m args below meth c nL D cA ad A Q pc lv (.int y :: .int x :: st) S :=
  fun H locs ls hl hP hD hS => lv_isub C.1 C.2.1 d (kk H locs ls hl hP hD hS)
theorem k_imul (C : Cx p s m args c cc nL Ts own D cA A) {x y : Int32} (d : decode cc pc = .ok (.imul, 1)) (kk : KK p l e R s m args below meth c nL D cA ad A Q (pc + 1) lv (.int (x * y) :: st) S) : KK p l e R s m args below meth c nL D cA ad A Q pc lv (.int y :: .int x :: st) S :=
  fun H locs ls hl hP hD hS => lv_imul C.1 C.2.1 d (kk H locs ls hl hP hD hS)
theorem k_iand (C : Cx p s m args c cc nL Ts own D cA A) {x y : Int32} (d : decode cc pc = .ok (.iand, 1)) (kk : KK p l e R s m args below meth c nL D cA ad A Q (pc + 1) lv (.int (x &&& y) :: st) S) : KK p l e R s m args below meth c nL D cA ad A Q pc lv (.int y :: .int x :: st) S :=
  fun H locs ls hl hP hD hS => lv_iand C.1 C.2.1 d (kk H locs ls hl hP hD hS)
theorem k_ior (C : Cx p s m args c cc nL Ts own D cA A) {x y : Int32} (d : decode cc pc = .ok (.ior, 1)) (kk : KK p l e R s m args below meth c nL D cA ad A Q (pc + 1) lv (.int (x ||| y) :: st) S) : KK p l e R s m args below meth c nL D cA ad A Q pc lv (.int y :: .int x :: st) S :=
  fun H locs ls hl hP hD hS => lv_ior C.1 C.2.1 d (kk H locs ls hl hP hD hS)
theorem k_ixor (C : Cx p s m args c cc nL Ts own D cA A) {x y : Int32} (d : decode cc pc = .ok (.ixor, 1)) (kk : KK p l e R s m args below meth c nL D cA ad A Q (pc + 1) lv (.int (x ^^^ y) :: st) S) : KK p l e R s m args below meth c nL D cA ad A Q pc lv (.int y :: .int x :: st) S :=
  fun H locs ls hl hP hD hS => lv_ixor C.1 C.2.1 d (kk H locs ls hl hP hD hS)
theorem k_ishl (C : Cx p s m args c cc nL Ts own D cA A) {x y : Int32} (d : decode cc pc = .ok (.ishl, 1)) (kk : KK p l e R s m args below meth c nL D cA ad A Q (pc + 1) lv (.int (x <<< (y &&& 31)) :: st) S) : KK p l e R s m args below meth c nL D cA ad A Q pc lv (.int y :: .int x :: st) S :=
  fun H locs ls hl hP hD hS => lv_ishl C.1 C.2.1 d (kk H locs ls hl hP hD hS)
theorem k_ishr (C : Cx p s m args c cc nL Ts own D cA A) {x y : Int32} (d : decode cc pc = .ok (.ishr, 1)) (kk : KK p l e R s m args below meth c nL D cA ad A Q (pc + 1) lv (.int (x >>> (y &&& 31)) :: st) S) : KK p l e R s m args below meth c nL D cA ad A Q pc lv (.int y :: .int x :: st) S :=
  fun H locs ls hl hP hD hS => lv_ishr C.1 C.2.1 d (kk H locs ls hl hP hD hS)
theorem k_ladd (C : Cx p s m args c cc nL Ts own D cA A) {x y : Int64} (d : decode cc pc = .ok (.ladd, 1)) (kk : KK p l e R s m args below meth c nL D cA ad A Q (pc + 1) lv (.long (x + y) :: st) S) : KK p l e R s m args below meth c nL D cA ad A Q pc lv (.long y :: .long x :: st) S :=
  fun H locs ls hl hP hD hS => lv_ladd C.1 C.2.1 d (kk H locs ls hl hP hD hS)
theorem k_lsub (C : Cx p s m args c cc nL Ts own D cA A) {x y : Int64} (d : decode cc pc = .ok (.lsub, 1)) (kk : KK p l e R s m args below meth c nL D cA ad A Q (pc + 1) lv (.long (x - y) :: st) S) : KK p l e R s m args below meth c nL D cA ad A Q pc lv (.long y :: .long x :: st) S :=
  fun H locs ls hl hP hD hS => lv_lsub C.1 C.2.1 d (kk H locs ls hl hP hD hS)
theorem k_lmul (C : Cx p s m args c cc nL Ts own D cA A) {x y : Int64} (d : decode cc pc = .ok (.lmul, 1)) (kk : KK p l e R s m args below meth c nL D cA ad A Q (pc + 1) lv (.long (x * y) :: st) S) : KK p l e R s m args below meth c nL D cA ad A Q pc lv (.long y :: .long x :: st) S :=
  fun H locs ls hl hP hD hS => lv_lmul C.1 C.2.1 d (kk H locs ls hl hP hD hS)
theorem k_ineg (C : Cx p s m args c cc nL Ts own D cA A) {x : Int32} (d : decode cc pc = .ok (.ineg, 1)) (kk : KK p l e R s m args below meth c nL D cA ad A Q (pc + 1) lv (.int (-x) :: st) S) : KK p l e R s m args below meth c nL D cA ad A Q pc lv (.int x :: st) S :=
  fun H locs ls hl hP hD hS => lv_ineg C.1 C.2.1 d (kk H locs ls hl hP hD hS)
theorem k_lneg (C : Cx p s m args c cc nL Ts own D cA A) {x : Int64} (d : decode cc pc = .ok (.lneg, 1)) (kk : KK p l e R s m args below meth c nL D cA ad A Q (pc + 1) lv (.long (-x) :: st) S) : KK p l e R s m args below meth c nL D cA ad A Q pc lv (.long x :: st) S :=
  fun H locs ls hl hP hD hS => lv_lneg C.1 C.2.1 d (kk H locs ls hl hP hD hS)
theorem k_idiv (C : Cx p s m args c cc nL Ts own D cA A) {x y : Int32} (d : decode cc pc = .ok (.idiv, 1)) (hne : ¬ y = 0) (kk : KK p l e R s m args below meth c nL D cA ad A Q (pc + 1) lv (.int (x / y) :: st) S) : KK p l e R s m args below meth c nL D cA ad A Q pc lv (.int y :: .int x :: st) S :=
  fun H locs ls hl hP hD hS => lv_idiv C.1 C.2.1 d hne (kk H locs ls hl hP hD hS)
theorem k_irem (C : Cx p s m args c cc nL Ts own D cA A) {x y : Int32} (d : decode cc pc = .ok (.irem, 1)) (hne : ¬ y = 0) (kk : KK p l e R s m args below meth c nL D cA ad A Q (pc + 1) lv (.int (x - x / y * y) :: st) S) : KK p l e R s m args below meth c nL D cA ad A Q pc lv (.int y :: .int x :: st) S :=
  fun H locs ls hl hP hD hS => lv_irem C.1 C.2.1 d hne (kk H locs ls hl hP hD hS)
theorem k_ldiv (C : Cx p s m args c cc nL Ts own D cA A) {x y : Int64} (d : decode cc pc = .ok (.ldiv, 1)) (hne : ¬ y = 0) (kk : KK p l e R s m args below meth c nL D cA ad A Q (pc + 1) lv (.long (x / y) :: st) S) : KK p l e R s m args below meth c nL D cA ad A Q pc lv (.long y :: .long x :: st) S :=
  fun H locs ls hl hP hD hS => lv_ldiv C.1 C.2.1 d hne (kk H locs ls hl hP hD hS)
theorem k_lrem (C : Cx p s m args c cc nL Ts own D cA A) {x y : Int64} (d : decode cc pc = .ok (.lrem, 1)) (hne : ¬ y = 0) (kk : KK p l e R s m args below meth c nL D cA ad A Q (pc + 1) lv (.long (x - x / y * y) :: st) S) : KK p l e R s m args below meth c nL D cA ad A Q pc lv (.long y :: .long x :: st) S :=
  fun H locs ls hl hP hD hS => lv_lrem C.1 C.2.1 d hne (kk H locs ls hl hP hD hS)
theorem k_i2l (C : Cx p s m args c cc nL Ts own D cA A) {x : Int32} (d : decode cc pc = .ok (.i2l, 1)) (kk : KK p l e R s m args below meth c nL D cA ad A Q (pc + 1) lv (.long x.toInt64 :: st) S) : KK p l e R s m args below meth c nL D cA ad A Q pc lv (.int x :: st) S :=
  fun H locs ls hl hP hD hS => lv_i2l C.1 C.2.1 d rfl (kk H locs ls hl hP hD hS)
theorem k_lcmp (C : Cx p s m args c cc nL Ts own D cA A) {x y : Int64} (d : decode cc pc = .ok (.lcmp, 1)) (kk : KK p l e R s m args below meth c nL D cA ad A Q (pc + 1) lv (.int (lg_cmp x y) :: st) S) : KK p l e R s m args below meth c nL D cA ad A Q pc lv (.long y :: .long x :: st) S :=
  fun H locs ls hl hP hD hS => W.lcmp C.1 C.2.1 d (kk H locs ls hl hP hD hS)
theorem k_iconst (C : Cx p s m args c cc nL Ts own D cA A) {n : Int} {v : Int32} (d : decode cc pc = .ok (.iconst n, 1)) (hv : Int32.ofInt n = v) (kk : KK p l e R s m args below meth c nL D cA ad A Q (pc + 1) lv (.int v :: st) S) : KK p l e R s m args below meth c nL D cA ad A Q pc lv st S :=
  fun H locs ls hl hP hD hS => lv_iconst C.1 C.2.1 d hv (kk H locs ls hl hP hD hS)
theorem k_bipush (C : Cx p s m args c cc nL Ts own D cA A) {n : Int} {v : Int32} (d : decode cc pc = .ok (.bipush n, 2)) (hv : (Int8.ofInt n).toInt32 = v) (kk : KK p l e R s m args below meth c nL D cA ad A Q (pc + 2) lv (.int v :: st) S) : KK p l e R s m args below meth c nL D cA ad A Q pc lv st S :=
  fun H locs ls hl hP hD hS => lv_bipush C.1 C.2.1 d hv (kk H locs ls hl hP hD hS)
theorem k_sipush (C : Cx p s m args c cc nL Ts own D cA A) {n : Int} {v : Int32} (d : decode cc pc = .ok (.sipush n, 3)) (hv : (Int16.ofInt n).toInt32 = v) (kk : KK p l e R s m args below meth c nL D cA ad A Q (pc + 3) lv (.int v :: st) S) : KK p l e R s m args below meth c nL D cA ad A Q pc lv st S :=
  fun H locs ls hl hP hD hS => lv_sipush C.1 C.2.1 d hv (kk H locs ls hl hP hD hS)
theorem k_lconst (C : Cx p s m args c cc nL Ts own D cA A) {n : Fin 2} {v : Int64} (d : decode cc pc = .ok (.lconst n, 1)) (hv : Int64.ofNat (n : Nat) = v) (kk : KK p l e R s m args below meth c nL D cA ad A Q (pc + 1) lv (.long v :: st) S) : KK p l e R s m args below meth c nL D cA ad A Q pc lv st S :=
  fun H locs ls hl hP hD hS => lv_lconst C.1 C.2.1 d hv (kk H locs ls hl hP hD hS)
theorem k_ldc (C : Cx p s m args c cc nL Ts own D cA A) {index : Nat} {v : Int32} (hc : (Jvm.Cond.constant own index v).before args s = true) (d : decode cc pc = .ok (.ldc index, 2)) (kk : KK p l e R s m args below meth c nL D cA ad A Q (pc + 2) lv (.int v :: st) S) : KK p l e R s m args below meth c nL D cA ad A Q pc lv st S :=
  fun H locs ls hl hP hD hS => lv_ldc C.1 C.2.1 C.2.2.2.1 hc d (kk H locs ls hl hP hD hS)
theorem k_iload_n (C : Cx p s m args c cc nL Ts own D cA A) {k : Fin 4} {i : Nat} {x : Int32} (d : decode cc pc = .ok (.iload_n k, 1)) (j : Nat) (hi : (k : Nat) = i) (hk : lv[j]? = some (i, .int x)) (kk : KK p l e R s m args below meth c nL D cA ad A Q (pc + 1) lv (.int x :: st) S) : KK p l e R s m args below meth c nL D cA ad A Q pc lv st S :=
  fun H locs ls hl hP hD hS => lv_iload_n C.1 C.2.1 d hi (lv_at hl j hk) (kk H locs ls hl hP hD hS)
theorem k_iload (C : Cx p s m args c cc nL Ts own D cA A) {i : Nat} {x : Int32} (d : decode cc pc = .ok (.iload i, 2)) (j : Nat) (hk : lv[j]? = some (i, .int x)) (kk : KK p l e R s m args below meth c nL D cA ad A Q (pc + 2) lv (.int x :: st) S) : KK p l e R s m args below meth c nL D cA ad A Q pc lv st S :=
  fun H locs ls hl hP hD hS => lv_iload C.1 C.2.1 d (lv_at hl j hk) (kk H locs ls hl hP hD hS)
theorem k_lload_n (C : Cx p s m args c cc nL Ts own D cA A) {k : Fin 4} {i : Nat} {x : Int64} (d : decode cc pc = .ok (.lload_n k, 1)) (j : Nat) (hi : (k : Nat) = i) (hk : lv[j]? = some (i, .long x)) (kk : KK p l e R s m args below meth c nL D cA ad A Q (pc + 1) lv (.long x :: st) S) : KK p l e R s m args below meth c nL D cA ad A Q pc lv st S :=
  fun H locs ls hl hP hD hS => lv_lload_n C.1 C.2.1 d hi (lv_at hl j hk) (kk H locs ls hl hP hD hS)
theorem k_lload (C : Cx p s m args c cc nL Ts own D cA A) {i : Nat} {x : Int64} (d : decode cc pc = .ok (.lload i, 2)) (j : Nat) (hk : lv[j]? = some (i, .long x)) (kk : KK p l e R s m args below meth c nL D cA ad A Q (pc + 2) lv (.long x :: st) S) : KK p l e R s m args below meth c nL D cA ad A Q pc lv st S :=
  fun H locs ls hl hP hD hS => lv_lload C.1 C.2.1 d (lv_at hl j hk) (kk H locs ls hl hP hD hS)
theorem k_aload_n (C : Cx p s m args c cc nL Ts own D cA A) {k : Fin 4} {i : Nat} {x : Nat} (d : decode cc pc = .ok (.aload_n k, 1)) (j : Nat) (hi : (k : Nat) = i) (hk : lv[j]? = some (i, .ref x)) (kk : KK p l e R s m args below meth c nL D cA ad A Q (pc + 1) lv (.ref x :: st) S) : KK p l e R s m args below meth c nL D cA ad A Q pc lv st S :=
  fun H locs ls hl hP hD hS => lv_aload_n C.1 C.2.1 d hi (lv_at hl j hk) (kk H locs ls hl hP hD hS)
theorem k_aload (C : Cx p s m args c cc nL Ts own D cA A) {i : Nat} {x : Nat} (d : decode cc pc = .ok (.aload i, 2)) (j : Nat) (hk : lv[j]? = some (i, .ref x)) (kk : KK p l e R s m args below meth c nL D cA ad A Q (pc + 2) lv (.ref x :: st) S) : KK p l e R s m args below meth c nL D cA ad A Q pc lv st S :=
  fun H locs ls hl hP hD hS => lv_aload C.1 C.2.1 d (lv_at hl j hk) (kk H locs ls hl hP hD hS)
theorem k_istore_n (C : Cx p s m args c cc nL Ts own D cA A) {k : Fin 4} {i : Nat} {x : Int32} (d : decode cc pc = .ok (.istore_n k, 1)) (hi : (k : Nat) = i) (hn : i < nL) (lv' : List (Nat × Value)) (hlv : (i, Value.int x) :: lv.filter (fun q => !(q.1 == i) && !(q.1 + 1 == i && q.2.category == 2)) = lv') (kk : KK p l e R s m args below meth c nL D cA ad A Q (pc + 1) lv' st S) : KK p l e R s m args below meth c nL D cA ad A Q pc lv (.int x :: st) S :=
  fun H locs ls hl hP hD hS => lv_istore_n C.1 C.2.1 d hi hl hn hlv (fun ls hl => kk H locs ls hl hP hD hS)
theorem k_istore (C : Cx p s m args c cc nL Ts own D cA A) {i : Nat} {x : Int32} (d : decode cc pc = .ok (.istore i, 2)) (hn : i < nL) (lv' : List (Nat × Value)) (hlv : (i, Value.int x) :: lv.filter (fun q => !(q.1 == i) && !(q.1 + 1 == i && q.2.category == 2)) = lv') (kk : KK p l e R s m args below meth c nL D cA ad A Q (pc + 2) lv' st S) : KK p l e R s m args below meth c nL D cA ad A Q pc lv (.int x :: st) S :=
  fun H locs ls hl hP hD hS => lv_istore C.1 C.2.1 d hl hn hlv (fun ls hl => kk H locs ls hl hP hD hS)
theorem k_lstore_n (C : Cx p s m args c cc nL Ts own D cA A) {k : Fin 4} {i : Nat} {x : Int64} (d : decode cc pc = .ok (.lstore_n k, 1)) (hi : (k : Nat) = i) (hn : i + 1 < nL) (lv' : List (Nat × Value)) (hlv : (i, Value.long x) :: lv.filter (fun q => !(q.1 == i) && (!(q.1 == i + 1) && !(q.1 + 1 == i && q.2.category == 2))) = lv') (kk : KK p l e R s m args below meth c nL D cA ad A Q (pc + 1) lv' st S) : KK p l e R s m args below meth c nL D cA ad A Q pc lv (.long x :: st) S :=
  fun H locs ls hl hP hD hS => lv_lstore_n C.1 C.2.1 d hi hl hn hlv (fun ls hl => kk H locs ls hl hP hD hS)
theorem k_lstore (C : Cx p s m args c cc nL Ts own D cA A) {i : Nat} {x : Int64} (d : decode cc pc = .ok (.lstore i, 2)) (hn : i + 1 < nL) (lv' : List (Nat × Value)) (hlv : (i, Value.long x) :: lv.filter (fun q => !(q.1 == i) && (!(q.1 == i + 1) && !(q.1 + 1 == i && q.2.category == 2))) = lv') (kk : KK p l e R s m args below meth c nL D cA ad A Q (pc + 2) lv' st S) : KK p l e R s m args below meth c nL D cA ad A Q pc lv (.long x :: st) S :=
  fun H locs ls hl hP hD hS => lv_lstore C.1 C.2.1 d hl hn hlv (fun ls hl => kk H locs ls hl hP hD hS)
theorem k_astore_n (C : Cx p s m args c cc nL Ts own D cA A) {k : Fin 4} {i : Nat} {x : Nat} (d : decode cc pc = .ok (.astore_n k, 1)) (hi : (k : Nat) = i) (hn : i < nL) (lv' : List (Nat × Value)) (hlv : (i, Value.ref x) :: lv.filter (fun q => !(q.1 == i) && !(q.1 + 1 == i && q.2.category == 2)) = lv') (kk : KK p l e R s m args below meth c nL D cA ad A Q (pc + 1) lv' st S) : KK p l e R s m args below meth c nL D cA ad A Q pc lv (.ref x :: st) S :=
  fun H locs ls hl hP hD hS => lv_astore_n C.1 C.2.1 d hi hl hn hlv (fun ls hl => kk H locs ls hl hP hD hS)
theorem k_astore (C : Cx p s m args c cc nL Ts own D cA A) {i : Nat} {x : Nat} (d : decode cc pc = .ok (.astore i, 2)) (hn : i < nL) (lv' : List (Nat × Value)) (hlv : (i, Value.ref x) :: lv.filter (fun q => !(q.1 == i) && !(q.1 + 1 == i && q.2.category == 2)) = lv') (kk : KK p l e R s m args below meth c nL D cA ad A Q (pc + 2) lv' st S) : KK p l e R s m args below meth c nL D cA ad A Q pc lv (.ref x :: st) S :=
  fun H locs ls hl hP hD hS => lv_astore C.1 C.2.1 d hl hn hlv (fun ls hl => kk H locs ls hl hP hD hS)
theorem k_iinc (C : Cx p s m args c cc nL Ts own D cA A) {i j : Nat} {n : Int} {x v : Int32} (d : decode cc pc = .ok (.iinc i n, 3)) (hj : lv[j]? = some (i, .int x)) (hv : x + Int32.ofInt n = v) (hn : i < nL) (lv' : List (Nat × Value)) (hlv : (i, Value.int v) :: lv.filter (fun q => !(q.1 == i) && !(q.1 + 1 == i && q.2.category == 2)) = lv') (kk : KK p l e R s m args below meth c nL D cA ad A Q (pc + 3) lv' st S) : KK p l e R s m args below meth c nL D cA ad A Q pc lv st S :=
  fun H locs ls hl hP hD hS => lv_iinc C.1 C.2.1 d hl hj hv hn hlv (fun ls hl => kk H locs ls hl hP hD hS)
theorem k_topi {x : Int32} (kk : ∀ y : Int32, y = x → KK p l e R s m args below meth c nL D cA ad A Q pc lv (.int y :: st) S) : KK p l e R s m args below meth c nL D cA ad A Q pc lv (.int x :: st) S := kk x rfl
theorem k_topl {x : Int64} (kk : ∀ y : Int64, y = x → KK p l e R s m args below meth c nL D cA ad A Q pc lv (.long y :: st) S) : KK p l e R s m args below meth c nL D cA ad A Q pc lv (.long x :: st) S := kk x rfl
theorem k_nameS (kk : ∀ S' : Sg, S' = S → KK p l e R s m args below meth c nL D cA ad A Q pc lv st S') : KK p l e R s m args below meth c nL D cA ad A Q pc lv st S := kk S rfl
theorem k_sub (ks : List Nat) (lv' : List (Nat × Value)) (h : lv_pick lv ks = lv') (kk : KK p l e R s m args below meth c nL D cA ad A Q pc lv' st S) : KK p l e R s m args below meth c nL D cA ad A Q pc lv st S := fun H locs ls hl => kk H locs ls (lv_sub hl ks h)
theorem k_dup (C : Cx p s m args c cc nL Ts own D cA A) {v : Value} (d : decode cc pc = .ok (.dup, 1)) (hc : v.category = 1) (kk : KK p l e R s m args below meth c nL D cA ad A Q (pc + 1) lv (v :: v :: st) S) : KK p l e R s m args below meth c nL D cA ad A Q pc lv (v :: st) S :=
  fun H locs ls hl hP hD hS => lv_dup C.1 C.2.1 d hc (kk H locs ls hl hP hD hS)
theorem k_pop (C : Cx p s m args c cc nL Ts own D cA A) {v : Value} (d : decode cc pc = .ok (.pop, 1)) (hc : v.category = 1) (kk : KK p l e R s m args below meth c nL D cA ad A Q (pc + 1) lv st S) : KK p l e R s m args below meth c nL D cA ad A Q pc lv (v :: st) S :=
  fun H locs ls hl hP hD hS => lv_pop C.1 C.2.1 d hc (kk H locs ls hl hP hD hS)
theorem k_dup2 (C : Cx p s m args c cc nL Ts own D cA A) {v u : Value} (d : decode cc pc = .ok (.dup2, 1)) (hc : v.category = 1) (hc' : u.category = 1) (kk : KK p l e R s m args below meth c nL D cA ad A Q (pc + 1) lv (v :: u :: v :: u :: st) S) : KK p l e R s m args below meth c nL D cA ad A Q pc lv (v :: u :: st) S :=
  fun H locs ls hl hP hD hS => lv_dup2_11 C.1 C.2.1 d hc hc' (kk H locs ls hl hP hD hS)
theorem k_if_eq (C : Cx p s m args c cc nL Ts own D cA A) {x : Int32} {off : Int} (tgt : Nat) (d : decode cc pc = .ok (.ifCond .eq off, 3)) (ht : (pc : Int) + off = (tgt : Int)) (kt : x = 0 → KK p l e R s m args below meth c nL D cA ad A Q tgt lv st S) (kf : ¬ x = 0 → KK p l e R s m args below meth c nL D cA ad A Q (pc + 3) lv st S) : KK p l e R s m args below meth c nL D cA ad A Q pc lv (.int x :: st) S :=
  fun H locs ls hl hP hD hS => lv_if_eq C.1 C.2.1 d ht (fun q => kt q H locs ls hl hP hD hS) (fun q => kf q H locs ls hl hP hD hS)
theorem k_icmp_eq (C : Cx p s m args c cc nL Ts own D cA A) {x y : Int32} {off : Int} (tgt : Nat) (d : decode cc pc = .ok (.if_icmp .eq off, 3)) (ht : (pc : Int) + off = (tgt : Int)) (kt : x = y → KK p l e R s m args below meth c nL D cA ad A Q tgt lv st S) (kf : ¬ x = y → KK p l e R s m args below meth c nL D cA ad A Q (pc + 3) lv st S) : KK p l e R s m args below meth c nL D cA ad A Q pc lv (.int y :: .int x :: st) S :=
  fun H locs ls hl hP hD hS => lv_icmp_eq C.1 C.2.1 d ht (fun q => kt q H locs ls hl hP hD hS) (fun q => kf q H locs ls hl hP hD hS)
theorem k_if_ne (C : Cx p s m args c cc nL Ts own D cA A) {x : Int32} {off : Int} (tgt : Nat) (d : decode cc pc = .ok (.ifCond .ne off, 3)) (ht : (pc : Int) + off = (tgt : Int)) (kt : ¬ x = 0 → KK p l e R s m args below meth c nL D cA ad A Q tgt lv st S) (kf : x = 0 → KK p l e R s m args below meth c nL D cA ad A Q (pc + 3) lv st S) : KK p l e R s m args below meth c nL D cA ad A Q pc lv (.int x :: st) S :=
  fun H locs ls hl hP hD hS => lv_if_ne C.1 C.2.1 d ht (fun q => kt q H locs ls hl hP hD hS) (fun q => kf q H locs ls hl hP hD hS)
theorem k_icmp_ne (C : Cx p s m args c cc nL Ts own D cA A) {x y : Int32} {off : Int} (tgt : Nat) (d : decode cc pc = .ok (.if_icmp .ne off, 3)) (ht : (pc : Int) + off = (tgt : Int)) (kt : ¬ x = y → KK p l e R s m args below meth c nL D cA ad A Q tgt lv st S) (kf : x = y → KK p l e R s m args below meth c nL D cA ad A Q (pc + 3) lv st S) : KK p l e R s m args below meth c nL D cA ad A Q pc lv (.int y :: .int x :: st) S :=
  fun H locs ls hl hP hD hS => lv_icmp_ne C.1 C.2.1 d ht (fun q => kt q H locs ls hl hP hD hS) (fun q => kf q H locs ls hl hP hD hS)
theorem k_if_lt (C : Cx p s m args c cc nL Ts own D cA A) {x : Int32} {off : Int} (tgt : Nat) (d : decode cc pc = .ok (.ifCond .lt off, 3)) (ht : (pc : Int) + off = (tgt : Int)) (kt : x < 0 → KK p l e R s m args below meth c nL D cA ad A Q tgt lv st S) (kf : ¬ x < 0 → KK p l e R s m args below meth c nL D cA ad A Q (pc + 3) lv st S) : KK p l e R s m args below meth c nL D cA ad A Q pc lv (.int x :: st) S :=
  fun H locs ls hl hP hD hS => lv_if_lt C.1 C.2.1 d ht (fun q => kt q H locs ls hl hP hD hS) (fun q => kf q H locs ls hl hP hD hS)
theorem k_icmp_lt (C : Cx p s m args c cc nL Ts own D cA A) {x y : Int32} {off : Int} (tgt : Nat) (d : decode cc pc = .ok (.if_icmp .lt off, 3)) (ht : (pc : Int) + off = (tgt : Int)) (kt : x < y → KK p l e R s m args below meth c nL D cA ad A Q tgt lv st S) (kf : ¬ x < y → KK p l e R s m args below meth c nL D cA ad A Q (pc + 3) lv st S) : KK p l e R s m args below meth c nL D cA ad A Q pc lv (.int y :: .int x :: st) S :=
  fun H locs ls hl hP hD hS => lv_icmp_lt C.1 C.2.1 d ht (fun q => kt q H locs ls hl hP hD hS) (fun q => kf q H locs ls hl hP hD hS)
theorem k_if_ge (C : Cx p s m args c cc nL Ts own D cA A) {x : Int32} {off : Int} (tgt : Nat) (d : decode cc pc = .ok (.ifCond .ge off, 3)) (ht : (pc : Int) + off = (tgt : Int)) (kt : 0 ≤ x → KK p l e R s m args below meth c nL D cA ad A Q tgt lv st S) (kf : ¬ 0 ≤ x → KK p l e R s m args below meth c nL D cA ad A Q (pc + 3) lv st S) : KK p l e R s m args below meth c nL D cA ad A Q pc lv (.int x :: st) S :=
  fun H locs ls hl hP hD hS => lv_if_ge C.1 C.2.1 d ht (fun q => kt q H locs ls hl hP hD hS) (fun q => kf q H locs ls hl hP hD hS)
theorem k_icmp_ge (C : Cx p s m args c cc nL Ts own D cA A) {x y : Int32} {off : Int} (tgt : Nat) (d : decode cc pc = .ok (.if_icmp .ge off, 3)) (ht : (pc : Int) + off = (tgt : Int)) (kt : y ≤ x → KK p l e R s m args below meth c nL D cA ad A Q tgt lv st S) (kf : ¬ y ≤ x → KK p l e R s m args below meth c nL D cA ad A Q (pc + 3) lv st S) : KK p l e R s m args below meth c nL D cA ad A Q pc lv (.int y :: .int x :: st) S :=
  fun H locs ls hl hP hD hS => lv_icmp_ge C.1 C.2.1 d ht (fun q => kt q H locs ls hl hP hD hS) (fun q => kf q H locs ls hl hP hD hS)
theorem k_if_gt (C : Cx p s m args c cc nL Ts own D cA A) {x : Int32} {off : Int} (tgt : Nat) (d : decode cc pc = .ok (.ifCond .gt off, 3)) (ht : (pc : Int) + off = (tgt : Int)) (kt : 0 < x → KK p l e R s m args below meth c nL D cA ad A Q tgt lv st S) (kf : ¬ 0 < x → KK p l e R s m args below meth c nL D cA ad A Q (pc + 3) lv st S) : KK p l e R s m args below meth c nL D cA ad A Q pc lv (.int x :: st) S :=
  fun H locs ls hl hP hD hS => lv_if_gt C.1 C.2.1 d ht (fun q => kt q H locs ls hl hP hD hS) (fun q => kf q H locs ls hl hP hD hS)
theorem k_icmp_gt (C : Cx p s m args c cc nL Ts own D cA A) {x y : Int32} {off : Int} (tgt : Nat) (d : decode cc pc = .ok (.if_icmp .gt off, 3)) (ht : (pc : Int) + off = (tgt : Int)) (kt : y < x → KK p l e R s m args below meth c nL D cA ad A Q tgt lv st S) (kf : ¬ y < x → KK p l e R s m args below meth c nL D cA ad A Q (pc + 3) lv st S) : KK p l e R s m args below meth c nL D cA ad A Q pc lv (.int y :: .int x :: st) S :=
  fun H locs ls hl hP hD hS => lv_icmp_gt C.1 C.2.1 d ht (fun q => kt q H locs ls hl hP hD hS) (fun q => kf q H locs ls hl hP hD hS)
theorem k_if_le (C : Cx p s m args c cc nL Ts own D cA A) {x : Int32} {off : Int} (tgt : Nat) (d : decode cc pc = .ok (.ifCond .le off, 3)) (ht : (pc : Int) + off = (tgt : Int)) (kt : x ≤ 0 → KK p l e R s m args below meth c nL D cA ad A Q tgt lv st S) (kf : ¬ x ≤ 0 → KK p l e R s m args below meth c nL D cA ad A Q (pc + 3) lv st S) : KK p l e R s m args below meth c nL D cA ad A Q pc lv (.int x :: st) S :=
  fun H locs ls hl hP hD hS => lv_if_le C.1 C.2.1 d ht (fun q => kt q H locs ls hl hP hD hS) (fun q => kf q H locs ls hl hP hD hS)
theorem k_icmp_le (C : Cx p s m args c cc nL Ts own D cA A) {x y : Int32} {off : Int} (tgt : Nat) (d : decode cc pc = .ok (.if_icmp .le off, 3)) (ht : (pc : Int) + off = (tgt : Int)) (kt : x ≤ y → KK p l e R s m args below meth c nL D cA ad A Q tgt lv st S) (kf : ¬ x ≤ y → KK p l e R s m args below meth c nL D cA ad A Q (pc + 3) lv st S) : KK p l e R s m args below meth c nL D cA ad A Q pc lv (.int y :: .int x :: st) S :=
  fun H locs ls hl hP hD hS => lv_icmp_le C.1 C.2.1 d ht (fun q => kt q H locs ls hl hP hD hS) (fun q => kf q H locs ls hl hP hD hS)
theorem k_goto (C : Cx p s m args c cc nL Ts own D cA A) {off : Int} (tgt : Nat) (d : decode cc pc = .ok (.goto off, 3)) (ht : (pc : Int) + off = (tgt : Int)) (kk : KK p l e R s m args below meth c nL D cA ad A Q tgt lv st S) : KK p l e R s m args below meth c nL D cA ad A Q pc lv st S :=
  fun H locs ls hl hP hD hS => lv_goto C.1 C.2.1 d ht (kk H locs ls hl hP hD hS)
theorem k_get (C : Cx p s m args c cc nL Ts own D cA A) {t k ci index j N : Nat} {ref Cn : String} {T : u_T} {fs : List Value} {v : Value} (hin : ∀ w ∈ u_ws Cn T N, w ∈ Ts) (hm : (t, k) ∈ ids (nM S)) (he : cel cA ad S t k = .inr (ci, fs)) (hc : vwCl[ci]? = some (Cn, T, N)) (hj : j < N) (hlink : Cond.fieldLink own index ref (T j).2.1 (T j).2.2.1 ∈ Ts) (hsame : ∀ x, s.fieldFound? (T j).1 (T j).2.1 (T j).2.2.1 = some x → s.fieldFound? ref (T j).2.1 (T j).2.2.1 = some x) (hv : fs[j]? = some v) (d : decode cc pc = .ok (.getfield index, 3)) (kk : KK p l e R s m args below meth c nL D cA ad A Q (pc + 3) lv (v :: st) S) : KK p l e R s m args below meth c nL D cA ad A Q pc lv (.ref (ad t k) :: st) S := fun H locs ls hl hP hD hS => by
  obtain ⟨q, -, hq⟩ := lW_get cA ad S hm
  rw [he] at hq
  exact va_get C.1 C.2.1 C.2.2.2.2.1 hin C.2.2.2.1 C.2.2.2.2.2.1 hP q hq hc j hj (C.2.2.2.2.1 _ hlink) hsame hv d (kk H locs ls hl hP hD hS)
theorem k_put (C : Cx p s m args c cc nL Ts own D cA A) {S' : Sg} {t k ci index j N : Nat} {ref Cn : String} {T : u_T} {fs : List Value} {v : Value} (hin : ∀ w ∈ u_ws Cn T N, w ∈ Ts) (ty0 : Nat → FieldType) (hty : ∀ k, k < N → parseFieldDescriptor (T k).2.2.1 = some (ty0 k)) (hnm : ∀ a, a < N → ∀ b, b < N → a ≠ b → (T a).2.1 ≠ (T b).2.1) (hm : (t, k) ∈ ids (nM S)) (he : cel cA ad S t k = .inr (ci, fs)) (hc : vwCl[ci]? = some (Cn, T, N)) (hj : j < N) (hlink : Cond.fieldLink own index ref (T j).2.1 (T j).2.2.1 ∈ Ts) (hsame : ∀ x, s.fieldFound? (T j).1 (T j).2.1 (T j).2.2.1 = some x → s.fieldFound? ref (T j).2.1 (T j).2.2.1 = some x) (hfin : (T j).2.2.2 = false) {ty : FieldType} (hd : parseFieldDescriptor (T j).2.2.1 = some ty) (hnr : narrow ty v = v) (hfit : fits ty v = true) (hl0 : j < fs.length) (hn : nM S' = nM S) (he' : cel cA ad S' t k = .inr (ci, fs.set j v)) (ho : ∀ a b : Nat, ¬ (a = t ∧ b = k) → cel cA ad S' a b = cel cA ad S a b) (d : decode cc pc = .ok (.putfield index, 3)) (kk : KK p l e R s m args below meth c nL D cA ad A Q (pc + 3) lv st S') : KK p l e R s m args below meth c nL D cA ad A Q pc lv (v :: .ref (ad t k) :: st) S := fun H locs ls hl hP hD hS => by
  obtain ⟨q, hi, hq⟩ := lW_get cA ad S hm
  rw [he] at hq
  refine va_put C.1 C.2.1 C.2.2.2.2.1 hin ty0 hty hnm C.2.2.2.1 C.2.2.2.2.2.1 hP hD hS q hq hc j hj (C.2.2.2.2.1 _ hlink) hsame hfin hd hnr hfit hl0 d (fun H1 locs1 hP1 hD1 hS1 => ?_)
  have hs := lW_set hD hi hn he' ho
  rw [hs] at hP1 hD1
  exact kk H1 locs1 ls hl hP1 hD1 hS1
theorem k_iald (C : Cx p s m args c cc nL Ts own D cA A) {t k n : Nat} {f : Nat → Int32} {i : Int32} (hm : (t, k) ∈ ids (nM S)) (he : cel cA ad S t k = .inl (cA 0, n, .inl f)) (hin : vp_in i n) (d : decode cc pc = .ok (.iaload, 1)) (kk : KK p l e R s m args below meth c nL D cA ad A Q (pc + 1) lv (.int (f i.toNatClampNeg) :: st) S) : KK p l e R s m args below meth c nL D cA ad A Q pc lv (.int i :: .ref (ad t k) :: st) S := fun H locs ls hl hP hD hS => by
  obtain ⟨q, -, hq⟩ := lW_get cA ad S hm
  rw [he] at hq
  exact va_iald C.1 C.2.1 C.2.2.2.2.2.1 hP q 0 hq rfl hin d (kk H locs ls hl hP hD hS)
theorem k_zald (C : Cx p s m args c cc nL Ts own D cA A) {t k n : Nat} {f : Nat → Int32} {i : Int32} (hm : (t, k) ∈ ids (nM S)) (he : cel cA ad S t k = .inl (cA 1, n, .inl f)) (hin : vp_in i n) (d : decode cc pc = .ok (.baload, 1)) (kk : KK p l e R s m args below meth c nL D cA ad A Q (pc + 1) lv (.int (f i.toNatClampNeg) :: st) S) : KK p l e R s m args below meth c nL D cA ad A Q pc lv (.int i :: .ref (ad t k) :: st) S := fun H locs ls hl hP hD hS => by
  obtain ⟨q, -, hq⟩ := lW_get cA ad S hm
  rw [he] at hq
  exact va_zald C.1 C.2.1 C.2.2.2.2.2.1 hP q 1 hq rfl hin d (kk H locs ls hl hP hD hS)
theorem k_lald (C : Cx p s m args c cc nL Ts own D cA A) {t k n : Nat} {f : Nat → Int64} {i : Int32} (hm : (t, k) ∈ ids (nM S)) (he : cel cA ad S t k = .inl (cA 2, n, .inr (.inl f))) (hin : vp_in i n) (d : decode cc pc = .ok (.laload, 1)) (kk : KK p l e R s m args below meth c nL D cA ad A Q (pc + 1) lv (.long (f i.toNatClampNeg) :: st) S) : KK p l e R s m args below meth c nL D cA ad A Q pc lv (.int i :: .ref (ad t k) :: st) S := fun H locs ls hl hP hD hS => by
  obtain ⟨q, -, hq⟩ := lW_get cA ad S hm
  rw [he] at hq
  exact va_lald C.1 C.2.1 C.2.2.2.2.2.1 hP q 2 hq rfl hin d (kk H locs ls hl hP hD hS)
theorem k_iast (C : Cx p s m args c cc nL Ts own D cA A) {t k n : Nat} {i : Int32} {x : Int32} (hm : (t, k) ∈ ids (nM S)) (he : ∀ S : Sg, cel cA ad S t k = .inl (cA 0, n, .inl (gA S t k))) (hin : vp_in i n) (d : decode cc pc = .ok (.iastore, 1)) (kk : KK p l e R s m args below meth c nL D cA ad A Q (pc + 1) lv st (uA S t k i.toNatClampNeg x)) : KK p l e R s m args below meth c nL D cA ad A Q pc lv (.int x :: .int i :: .ref (ad t k) :: st) S := fun H locs ls hl hP hD hS => by
  obtain ⟨q, hi, hq⟩ := lW_get cA ad S hm
  rw [he] at hq
  refine va_iast C.1 C.2.1 C.2.2.2.2.2.1 hP hD hS q 0 hq rfl hin d (fun H1 locs1 hP1 hD1 hS1 => ?_)
  have hs := lW_set (S' := uA S t k i.toNatClampNeg x) hD hi rfl (he _) (fun a b h => cel_uA h)
  rw [gA_same] at hs
  rw [hs] at hP1 hD1
  exact kk H1 locs1 ls hl hP1 hD1 hS1
theorem k_zast (C : Cx p s m args c cc nL Ts own D cA A) {t k n : Nat} {i : Int32} {x : Int32} (hm : (t, k) ∈ ids (nM S)) (he : ∀ S : Sg, cel cA ad S t k = .inl (cA 1, n, .inl (gA S t k))) (hin : vp_in i n) (d : decode cc pc = .ok (.bastore, 1)) (kk : KK p l e R s m args below meth c nL D cA ad A Q (pc + 1) lv st (uA S t k i.toNatClampNeg (vp_nar .boolean x))) : KK p l e R s m args below meth c nL D cA ad A Q pc lv (.int x :: .int i :: .ref (ad t k) :: st) S := fun H locs ls hl hP hD hS => by
  obtain ⟨q, hi, hq⟩ := lW_get cA ad S hm
  rw [he] at hq
  refine va_zast C.1 C.2.1 C.2.2.2.2.2.1 hP hD hS q 1 hq rfl hin d (fun H1 locs1 hP1 hD1 hS1 => ?_)
  have hs := lW_set (S' := uA S t k i.toNatClampNeg (vp_nar .boolean x)) hD hi rfl (he _) (fun a b h => cel_uA h)
  rw [gA_same] at hs
  rw [hs] at hP1 hD1
  exact kk H1 locs1 ls hl hP1 hD1 hS1
theorem k_last (C : Cx p s m args c cc nL Ts own D cA A) {t k n : Nat} {i : Int32} {x : Int64} (hm : (t, k) ∈ ids (nM S)) (he : ∀ S : Sg, cel cA ad S t k = .inl (cA 2, n, .inr (.inl (gL S t k)))) (hin : vp_in i n) (d : decode cc pc = .ok (.lastore, 1)) (kk : KK p l e R s m args below meth c nL D cA ad A Q (pc + 1) lv st (uL S t k i.toNatClampNeg x)) : KK p l e R s m args below meth c nL D cA ad A Q pc lv (.long x :: .int i :: .ref (ad t k) :: st) S := fun H locs ls hl hP hD hS => by
  obtain ⟨q, hi, hq⟩ := lW_get cA ad S hm
  rw [he] at hq
  refine va_last C.1 C.2.1 C.2.2.2.2.2.1 hP hD hS q 2 hq rfl hin d (fun H1 locs1 hP1 hD1 hS1 => ?_)
  have hs := lW_set (S' := uL S t k i.toNatClampNeg x) hD hi rfl (he _) (fun a b h => cel_uL h)
  rw [gL_same] at hs
  rw [hs] at hP1 hD1
  exact kk H1 locs1 ls hl hP1 hD1 hS1
end
/-- a contract over the world: Qc is the kind of end -/
def Ct (l : Launch) (y : MethodName) (ws : List Cond) (rm : Room) (D : va_G) (cA : Nat → ClassId) (ad : Nat → Nat → Nat) (av : List Value) (S : Sg) (Qc : (Sg → State → Prop) → (Nat → Prop) → Array Value → State → Outcome → State → Prop) : Prop :=
  ∀ sz : Nat, Met l y ws rm (va_Pc av (fun U => U.heap.size = sz ∧ va_P D vwCl (lW cA ad S) U.heap ∧ va_K D vwCl (tyl cA) U ∧ va_D (fun _ => True) (lW cA ad S))) (Qc (fun S' t => va_P D vwCl (lW cA ad S') t.heap ∧ va_D (va_A (lW cA ad S) sz) (lW cA ad S')) (va_A (lW cA ad S) sz)) 0 0 (va_A (lW cA ad S) sz)
abbrev CtI (l : Launch) (y : MethodName) (ws : List Cond) (rm : Room) (D : va_G) (cA : Nat → ClassId) (ad : Nat → Nat → Nat) (av : List Value) (S : Sg) (post : Int32 → Sg → Prop) : Prop := Ct l y ws rm D cA ad av S (fun B A => va_Qi post B A)
abbrev CtL (l : Launch) (y : MethodName) (ws : List Cond) (rm : Room) (D : va_G) (cA : Nat → ClassId) (ad : Nat → Nat → Nat) (av : List Value) (S : Sg) (post : Int64 → Sg → Prop) : Prop := Ct l y ws rm D cA ad av S (fun B A => va_Ql post B A)
abbrev CtV (l : Launch) (y : MethodName) (ws : List Cond) (rm : Room) (D : va_G) (cA : Nat → ClassId) (ad : Nat → Nat → Nat) (av : List Value) (S : Sg) (post : Sg → Prop) : Prop := Ct l y ws rm D cA ad av S (fun B A => va_Qv post B A)
abbrev mkR (f lo : Nat) : Room := { frames := f, cells := 0, slots := 0, locals := lo }
theorem pre_blind {av : List Value} {sz : Nat} {D : va_G} {cA : Nat → ClassId} {ad : Nat → Nat → Nat} {S : Sg} : FrameBlind (va_Pc av (fun U => U.heap.size = sz ∧ va_P D vwCl (lW cA ad S) U.heap ∧ va_K D vwCl (tyl cA) U ∧ va_D (fun _ => True) (lW cA ad S))) := fun a U g mk q => by
  obtain ⟨q0, q1, qP, qK, qD⟩ := q
  exact ⟨q0, q1, qP, va_K.moved (u := U) (U := U.calling g mk a) (Vm.Alike.refl U.vm) qK, qD⟩
theorem lW_free {A : Nat → Prop} {cA : Nat → ClassId} {ad : Nat → Nat → Nat} {S : Sg} {H0 H : Heap} {locs : List Loc} (hD : va_D A (lW cA ad S)) (hS : va_S A H0 H locs) (hA : ∀ q, H0.size ≤ q → A q) : ∀ q, va_A (lW cA ad S) H.size q → A q := by
  intro q h
  rcases h with ⟨k, e, hk⟩ | h
  · exact hD.2 k _ hk
  · exact hA q (Nat.le_trans hS.1 h)
/-- a method's body gives its contract -/
theorem ct_of {l : Launch} {y : MethodName} {ws ws' : List Cond} {rm : Room} {D : va_G} {cA : Nat → ClassId} {ad : Nat → Nat → Nat} {av : List Value} {S : Sg} {Qc : (Sg → State → Prop) → (Nat → Prop) → Array Value → State → Outcome → State → Prop} {cc : ByteArray} {nL : Nat} {ret : Option FieldType} (hy : plainName y.cls = true) (hw : ws = Cond.code y cc nL ret :: ws') (hlen : (lg_sl av).length ≤ nL)
    (body : ∀ (p : Program) (e : Env) (s : State) (m : MethodId) (args : Array Value) (below : List Frame) (meth : Method) (c : Code) (A : Nat → Prop), Cx p s m args c cc nL ws y.cls D cA A → meth.sig.returnType = ret → meth.locks = false → A = va_A (lW cA ad S) s.heap.size →
      KK p l e rm s m args below meth c nL D cA ad A (MQ below (Qc (fun S' t => va_P D vwCl (lW cA ad S') t.heap ∧ va_D A (lW cA ad S')) A) args s 0 0 A) 0 (lv_args 0 av) [] S) : Ct l y ws rm D cA ad av S Qc := by
  intro sz
  refine Met.ofW (cc := cc) (maxL := nL) (ret := ret) hy hw ?_
  intro p e s m args below meth c s₁ B hml hv
  obtain ⟨rfl, hsz, hP, hK, hD0⟩ := hv
  subst hsz
  have hD := hD0.self (sz := s.heap.size)
  generalize hAe : va_A (lW cA ad S) s.heap.size = A at hD ⊢
  have hA : ∀ q : Nat, s.heap.size ≤ q → A q := fun q h => by rw [← hAe]; exact Or.inr h
  have hl := lv_entry av (n := nL) hlen
  rw [lg_entry_eq]
  exact body p e s m av.toArray below meth c A ⟨B.exec, B.bytes, hml, findClass_of_methodNamed B.named, atoms_spec (ws := ws) B.pre, hK, hA⟩ B.returns B.notSynchronized hAe.symm s.heap [] _ hl hP hD va_S.rf
section
variable {p : Program} {l : Launch} {e : Env} {R : Room} {s : State} {m : MethodId} {args : Array Value} {below : List Frame} {meth : Method} {c : Code} {nL : Nat} {D : va_G} {cA : Nat → ClassId} {ad : Nat → Nat → Nat} {A : Nat → Prop} {Q : State → Prop} {cc : ByteArray} {Ts : List Cond} {own : String} {pc : Nat} {lv lv' : List (Nat × Value)} {st : List Value} {S : Sg}
theorem k_iret (C : Cx p s m args c cc nL Ts own D cA A) {post : Int32 → Sg → Prop} {v : Int32} (hr : meth.sig.returnType = some .int) (hk : meth.locks = false) (d : decode cc pc = .ok (.ireturn, 1)) (hw : post v S) : KK p l e R s m args below meth c nL D cA ad A (MQ below (va_Qi post (fun S' t => va_P D vwCl (lW cA ad S') t.heap ∧ va_D A (lW cA ad S')) A) args s 0 0 A) pc lv [.int v] S := fun H locs ls hl hP hD hS =>
  W.iret (v := v) C.1 C.2.1 hr (fun t ht hW => ⟨⟨v, S, rfl, hw, by rw [ht]; exact hP, hD⟩, hS.F ht⟩) hS.2.2 d hk
theorem k_zret (C : Cx p s m args c cc nL Ts own D cA A) {post : Int32 → Sg → Prop} {v : Int32} (hr : meth.sig.returnType = some .boolean) (hk : meth.locks = false) (d : decode cc pc = .ok (.ireturn, 1)) (hz : narrow .boolean (.int v) = .int v) (hw : post v S) : KK p l e R s m args below meth c nL D cA ad A (MQ below (va_Qi post (fun S' t => va_P D vwCl (lW cA ad S') t.heap ∧ va_D A (lW cA ad S')) A) args s 0 0 A) pc lv [.int v] S := fun H locs ls hl hP hD hS =>
  W.zret (v := v) (ty := .boolean) C.1 C.2.1 hr hz (fun t ht hW => ⟨⟨v, S, rfl, hw, by rw [ht]; exact hP, hD⟩, hS.F ht⟩) hS.2.2 d hk
theorem k_lret (C : Cx p s m args c cc nL Ts own D cA A) {post : Int64 → Sg → Prop} {v : Int64} (hr : meth.sig.returnType = some .long) (hk : meth.locks = false) (d : decode cc pc = .ok (.lreturn, 1)) (hw : post v S) : KK p l e R s m args below meth c nL D cA ad A (MQ below (va_Ql post (fun S' t => va_P D vwCl (lW cA ad S') t.heap ∧ va_D A (lW cA ad S')) A) args s 0 0 A) pc lv [.long v] S := fun H locs ls hl hP hD hS =>
  W.lret (v := v) C.1 C.2.1 hr (fun t ht hW => ⟨⟨v, S, rfl, hw, by rw [ht]; exact hP, hD⟩, hS.F ht⟩) hS.2.2 d hk
theorem k_vret (C : Cx p s m args c cc nL Ts own D cA A) {post : Sg → Prop} (hr : meth.sig.returnType = none) (hk : meth.locks = false) (d : decode cc pc = .ok (.return_, 1)) (hw : post S) : KK p l e R s m args below meth c nL D cA ad A (MQ below (va_Qv post (fun S' t => va_P D vwCl (lW cA ad S') t.heap ∧ va_D A (lW cA ad S')) A) args s 0 0 A) pc lv [] S := fun H locs ls hl hP hD hS =>
  W.vret C.1 C.2.1 hr (fun t ht hW => ⟨⟨S, rfl, hw, by rw [ht]; exact hP, hD⟩, hS.F ht⟩) hS.2.2 d hk
theorem k_callVi (C : Cx p s m args c cc nL Ts own D cA A) {y : MethodName} {ws : List Cond} {rm : Room} {bytes : ByteArray} {maxL n index t k ci : Nat} {ret : Option FieldType} {As rest : List Value} {post : Int32 → Sg → Prop} {Cn : String} {fs : List Value} {q : vw_C} (hM : CtI l y ws rm D cA ad (.ref (ad t k) :: As) S post) (cw : CallW R s args own Cn index y bytes maxL ret ws rm 0 0 n) (hm : (t, k) ∈ ids (nM S)) (he : cel cA ad S t k = .inr (ci, fs)) (hcl : vwCl[ci]? = some q) (hCn : q.1 = Cn) (hn : As.length = n) (hst : st = As.reverse ++ .ref (ad t k) :: rest) (hW : (rest.map fun v => v.category).sum ≤ 8) (d : decode cc pc = .ok (.invokevirtual index, 3)) (kk : ∀ (r : Int32) (S' : Sg), post r S' → KK p l e R s m args below meth c nL D cA ad A Q (pc + 3) lv (.int r :: rest) S') : KK p l e R s m args below meth c nL D cA ad A Q pc lv st S := fun H locs ls hl hP hD hS => by
  subst hst
  obtain ⟨p0, -, hq⟩ := lW_get cA ad S hm
  rw [he] at hq
  have hF := lW_free hD hS C.2.2.2.2.2.2
  have hrecv := va_recv C.2.2.2.2.2.1 hP hcl hq
  rw [hCn] at hrecv
  refine va_calli (va_runV (As := As) (rest := rest) ⟨C.1, C.2.1, C.2.2.1, C.2.2.2.1, C.2.2.2.2.1⟩ (hM H.size) cw ⟨pre_blind, hrecv, fun U hU hW => ⟨rfl, by rw [hU], by rw [hU]; exact hP, va_K.moved hW.alike C.2.2.2.2.2.1, hD.weaken (fun _ _ _ _ => trivial)⟩⟩ rfl hn hl.1 rfl (lv_room hW) d ⟨Nat.zero_le _, Nat.zero_le _⟩) hS (fun q _ h => hF q h) hF (fun r S' t H1 locs1 ht hvm hw hB hz1 hk1 hS1 => ?_)
  obtain ⟨hP1, hD1⟩ := hB
  rw [ht] at hP1
  exact kk r S' hw H1 locs1 ls hl hP1 (hD1.weaken (fun _ _ _ h => hF _ h)) hS1
theorem k_callVl (C : Cx p s m args c cc nL Ts own D cA A) {y : MethodName} {ws : List Cond} {rm : Room} {bytes : ByteArray} {maxL n index t k ci : Nat} {ret : Option FieldType} {As rest : List Value} {post : Int64 → Sg → Prop} {Cn : String} {fs : List Value} {q : vw_C} (hM : CtL l y ws rm D cA ad (.ref (ad t k) :: As) S post) (cw : CallW R s args own Cn index y bytes maxL ret ws rm 0 0 n) (hm : (t, k) ∈ ids (nM S)) (he : cel cA ad S t k = .inr (ci, fs)) (hcl : vwCl[ci]? = some q) (hCn : q.1 = Cn) (hn : As.length = n) (hst : st = As.reverse ++ .ref (ad t k) :: rest) (hW : (rest.map fun v => v.category).sum ≤ 8) (d : decode cc pc = .ok (.invokevirtual index, 3)) (kk : ∀ (r : Int64) (S' : Sg), post r S' → KK p l e R s m args below meth c nL D cA ad A Q (pc + 3) lv (.long r :: rest) S') : KK p l e R s m args below meth c nL D cA ad A Q pc lv st S := fun H locs ls hl hP hD hS => by
  subst hst
  obtain ⟨p0, -, hq⟩ := lW_get cA ad S hm
  rw [he] at hq
  have hF := lW_free hD hS C.2.2.2.2.2.2
  have hrecv := va_recv C.2.2.2.2.2.1 hP hcl hq
  rw [hCn] at hrecv
  refine va_calll (va_runV (As := As) (rest := rest) ⟨C.1, C.2.1, C.2.2.1, C.2.2.2.1, C.2.2.2.2.1⟩ (hM H.size) cw ⟨pre_blind, hrecv, fun U hU hW => ⟨rfl, by rw [hU], by rw [hU]; exact hP, va_K.moved hW.alike C.2.2.2.2.2.1, hD.weaken (fun _ _ _ _ => trivial)⟩⟩ rfl hn hl.1 rfl (lv_room hW) d ⟨Nat.zero_le _, Nat.zero_le _⟩) hS (fun q _ h => hF q h) hF (fun r S' t H1 locs1 ht hvm hw hB hz1 hk1 hS1 => ?_)
  obtain ⟨hP1, hD1⟩ := hB
  rw [ht] at hP1
  exact kk r S' hw H1 locs1 ls hl hP1 (hD1.weaken (fun _ _ _ h => hF _ h)) hS1
theorem k_callVv (C : Cx p s m args c cc nL Ts own D cA A) {y : MethodName} {ws : List Cond} {rm : Room} {bytes : ByteArray} {maxL n index t k ci : Nat} {ret : Option FieldType} {As rest : List Value} {post : Sg → Prop} {Cn : String} {fs : List Value} {q : vw_C} (hM : CtV l y ws rm D cA ad (.ref (ad t k) :: As) S post) (cw : CallW R s args own Cn index y bytes maxL ret ws rm 0 0 n) (hm : (t, k) ∈ ids (nM S)) (he : cel cA ad S t k = .inr (ci, fs)) (hcl : vwCl[ci]? = some q) (hCn : q.1 = Cn) (hn : As.length = n) (hst : st = As.reverse ++ .ref (ad t k) :: rest) (hW : (rest.map fun v => v.category).sum ≤ 8) (d : decode cc pc = .ok (.invokevirtual index, 3)) (kk : ∀ (S' : Sg), post S' → KK p l e R s m args below meth c nL D cA ad A Q (pc + 3) lv rest S') : KK p l e R s m args below meth c nL D cA ad A Q pc lv st S := fun H locs ls hl hP hD hS => by
  subst hst
  obtain ⟨p0, -, hq⟩ := lW_get cA ad S hm
  rw [he] at hq
  have hF := lW_free hD hS C.2.2.2.2.2.2
  have hrecv := va_recv C.2.2.2.2.2.1 hP hcl hq
  rw [hCn] at hrecv
  refine va_callv (va_runV (As := As) (rest := rest) ⟨C.1, C.2.1, C.2.2.1, C.2.2.2.1, C.2.2.2.2.1⟩ (hM H.size) cw ⟨pre_blind, hrecv, fun U hU hW => ⟨rfl, by rw [hU], by rw [hU]; exact hP, va_K.moved hW.alike C.2.2.2.2.2.1, hD.weaken (fun _ _ _ _ => trivial)⟩⟩ rfl hn hl.1 rfl (lv_room hW) d ⟨Nat.zero_le _, Nat.zero_le _⟩) hS (fun q _ h => hF q h) hF (fun S' t H1 locs1 ht hvm hw hB hz1 hk1 hS1 => ?_)
  obtain ⟨hP1, hD1⟩ := hB
  rw [ht] at hP1
  exact kk S' hw H1 locs1 ls hl hP1 (hD1.weaken (fun _ _ _ h => hF _ h)) hS1
end
section
variable {p : Program} {l : Launch} {e : Env} {R : Room} {s : State} {m : MethodId} {args : Array Value} {below : List Frame} {meth : Method} {c : Code} {nL : Nat} {D : va_G} {cA : Nat → ClassId} {ad : Nat → Nat → Nat} {A : Nat → Prop} {Q : State → Prop} {cc : ByteArray} {Ts : List Cond} {own : String} {pc : Nat} {lv lv' : List (Nat × Value)} {st : List Value} {S : Sg}
theorem k_lif_eq (C : Cx p s m args c cc nL Ts own D cA A) {x y : Int64} {off : Int} (tgt : Nat) (d0 : decode cc pc = .ok (.lcmp, 1)) (d : decode cc (pc + 1) = .ok (.ifCond .eq off, 3)) (ht : ((pc + 1 : Nat) : Int) + off = (tgt : Int)) (kt : x = y → KK p l e R s m args below meth c nL D cA ad A Q tgt lv st S) (kf : ¬ x = y → KK p l e R s m args below meth c nL D cA ad A Q (pc + 1 + 3) lv st S) : KK p l e R s m args below meth c nL D cA ad A Q pc lv (.long y :: .long x :: st) S :=
  k_lcmp C d0 (k_if_eq C tgt d ht (fun q => kt ((lg_cmp_eq x y).mp q)) (fun q => kf (fun h => q ((lg_cmp_eq x y).mpr h))))
theorem k_lif_ne (C : Cx p s m args c cc nL Ts own D cA A) {x y : Int64} {off : Int} (tgt : Nat) (d0 : decode cc pc = .ok (.lcmp, 1)) (d : decode cc (pc + 1) = .ok (.ifCond .ne off, 3)) (ht : ((pc + 1 : Nat) : Int) + off = (tgt : Int)) (kt : ¬ x = y → KK p l e R s m args below meth c nL D cA ad A Q tgt lv st S) (kf : x = y → KK p l e R s m args below meth c nL D cA ad A Q (pc + 1 + 3) lv st S) : KK p l e R s m args below meth c nL D cA ad A Q pc lv (.long y :: .long x :: st) S :=
  k_lcmp C d0 (k_if_ne C tgt d ht (fun q => kt (fun h => q ((lg_cmp_eq x y).mpr h))) (fun q => kf ((lg_cmp_eq x y).mp q)))
theorem k_lif_lt (C : Cx p s m args c cc nL Ts own D cA A) {x y : Int64} {off : Int} (tgt : Nat) (d0 : decode cc pc = .ok (.lcmp, 1)) (d : decode cc (pc + 1) = .ok (.ifCond .lt off, 3)) (ht : ((pc + 1 : Nat) : Int) + off = (tgt : Int)) (kt : x < y → KK p l e R s m args below meth c nL D cA ad A Q tgt lv st S) (kf : ¬ x < y → KK p l e R s m args below meth c nL D cA ad A Q (pc + 1 + 3) lv st S) : KK p l e R s m args below meth c nL D cA ad A Q pc lv (.long y :: .long x :: st) S :=
  k_lcmp C d0 (k_if_lt C tgt d ht (fun q => kt ((lg_cmp_lt x y).mp q)) (fun q => kf (fun h => q ((lg_cmp_lt x y).mpr h))))
theorem k_lif_ge (C : Cx p s m args c cc nL Ts own D cA A) {x y : Int64} {off : Int} (tgt : Nat) (d0 : decode cc pc = .ok (.lcmp, 1)) (d : decode cc (pc + 1) = .ok (.ifCond .ge off, 3)) (ht : ((pc + 1 : Nat) : Int) + off = (tgt : Int)) (kt : y ≤ x → KK p l e R s m args below meth c nL D cA ad A Q tgt lv st S) (kf : ¬ y ≤ x → KK p l e R s m args below meth c nL D cA ad A Q (pc + 1 + 3) lv st S) : KK p l e R s m args below meth c nL D cA ad A Q pc lv (.long y :: .long x :: st) S :=
  k_lcmp C d0 (k_if_ge C tgt d ht (fun q => kt ((lg_cmp_ge x y).mp q)) (fun q => kf (fun h => q ((lg_cmp_ge x y).mpr h))))
theorem k_lif_gt (C : Cx p s m args c cc nL Ts own D cA A) {x y : Int64} {off : Int} (tgt : Nat) (d0 : decode cc pc = .ok (.lcmp, 1)) (d : decode cc (pc + 1) = .ok (.ifCond .gt off, 3)) (ht : ((pc + 1 : Nat) : Int) + off = (tgt : Int)) (kt : y < x → KK p l e R s m args below meth c nL D cA ad A Q tgt lv st S) (kf : ¬ y < x → KK p l e R s m args below meth c nL D cA ad A Q (pc + 1 + 3) lv st S) : KK p l e R s m args below meth c nL D cA ad A Q pc lv (.long y :: .long x :: st) S :=
  k_lcmp C d0 (k_if_gt C tgt d ht (fun q => kt ((lg_cmp_gt x y).mp q)) (fun q => kf (fun h => q ((lg_cmp_gt x y).mpr h))))
theorem k_lif_le (C : Cx p s m args c cc nL Ts own D cA A) {x y : Int64} {off : Int} (tgt : Nat) (d0 : decode cc pc = .ok (.lcmp, 1)) (d : decode cc (pc + 1) = .ok (.ifCond .le off, 3)) (ht : ((pc + 1 : Nat) : Int) + off = (tgt : Int)) (kt : x ≤ y → KK p l e R s m args below meth c nL D cA ad A Q tgt lv st S) (kf : ¬ x ≤ y → KK p l e R s m args below meth c nL D cA ad A Q (pc + 1 + 3) lv st S) : KK p l e R s m args below meth c nL D cA ad A Q pc lv (.long y :: .long x :: st) S :=
  k_lcmp C d0 (k_if_le C tgt d ht (fun q => kt ((lg_cmp_le x y).mp q)) (fun q => kf (fun h => q ((lg_cmp_le x y).mpr h))))
theorem k_tblIn (C : Cx p s m args c cc nL Ts own D cA A) {dflt lo hi : Int} {offs : Array Int} {len : Nat} {x v : Int32} {off : Int} (tgt : Nat) (d : decode cc pc = .ok (.tableswitch dflt lo hi offs, len)) (hv : x = v) (h1 : ¬ v.toInt < lo) (h2 : ¬ hi < v.toInt) (ho : offs[(v.toInt - lo).toNat]? = some off) (ht : (pc : Int) + off = (tgt : Int)) (kk : KK p l e R s m args below meth c nL D cA ad A Q tgt lv st S) : KK p l e R s m args below meth c nL D cA ad A Q pc lv (.int x :: st) S := fun H locs ls hl hP hD hS => by
  subst hv
  exact lv_tableIn C.1 C.2.1 d h1 h2 ho ht (kk H locs ls hl hP hD hS)
theorem k_tblOut (C : Cx p s m args c cc nL Ts own D cA A) {dflt lo hi : Int} {offs : Array Int} {len : Nat} {x : Int32} (tgt : Nat) (d : decode cc pc = .ok (.tableswitch dflt lo hi offs, len)) (h : x.toInt < lo ∨ hi < x.toInt) (ht : (pc : Int) + dflt = (tgt : Int)) (kk : KK p l e R s m args below meth c nL D cA ad A Q tgt lv st S) : KK p l e R s m args below meth c nL D cA ad A Q pc lv (.int x :: st) S := fun H locs ls hl hP hD hS =>
  lv_tableOut C.1 C.2.1 d h ht (kk H locs ls hl hP hD hS)
end
theorem ct_ofI {l : Launch} {y : MethodName} {ws ws' : List Cond} {rm : Room} {D : va_G} {cA : Nat → ClassId} {ad : Nat → Nat → Nat} {av : List Value} {S : Sg} {post : Int32 → Sg → Prop} {cc : ByteArray} {nL : Nat} (hy : plainName y.cls = true) (hw : ws = Cond.code y cc nL (some .int) :: ws') (hlen : (lg_sl av).length ≤ nL)
    (body : ∀ (p : Program) (e : Env) (s : State) (m : MethodId) (args : Array Value) (below : List Frame) (meth : Method) (c : Code) (A : Nat → Prop) (Q : State → Prop), Cx p s m args c cc nL ws y.cls D cA A →
      (∀ (pc : Nat) (lv : List (Nat × Value)) (v : Int32) (S' : Sg), decode cc pc = .ok (.ireturn, 1) → post v S' → KK p l e rm s m args below meth c nL D cA ad A Q pc lv [.int v] S') → KK p l e rm s m args below meth c nL D cA ad A Q 0 (lv_args 0 av) [] S) : CtI l y ws rm D cA ad av S post := by
  refine ct_of (cc := cc) (nL := nL) (ret := some .int) hy hw hlen ?_
  intro p e s m args below meth c A C hr hk hA
  exact body p e s m args below meth c A _ C (fun pc lv v S' d q => k_iret C hr hk d q)
theorem ct_ofZ {l : Launch} {y : MethodName} {ws ws' : List Cond} {rm : Room} {D : va_G} {cA : Nat → ClassId} {ad : Nat → Nat → Nat} {av : List Value} {S : Sg} {post : Int32 → Sg → Prop} {cc : ByteArray} {nL : Nat} (hy : plainName y.cls = true) (hw : ws = Cond.code y cc nL (some .boolean) :: ws') (hlen : (lg_sl av).length ≤ nL)
    (body : ∀ (p : Program) (e : Env) (s : State) (m : MethodId) (args : Array Value) (below : List Frame) (meth : Method) (c : Code) (A : Nat → Prop) (Q : State → Prop), Cx p s m args c cc nL ws y.cls D cA A →
      (∀ (pc : Nat) (lv : List (Nat × Value)) (v : Int32) (S' : Sg), decode cc pc = .ok (.ireturn, 1) → narrow .boolean (.int v) = .int v → post v S' → KK p l e rm s m args below meth c nL D cA ad A Q pc lv [.int v] S') → KK p l e rm s m args below meth c nL D cA ad A Q 0 (lv_args 0 av) [] S) : CtI l y ws rm D cA ad av S post := by
  refine ct_of (cc := cc) (nL := nL) (ret := some .boolean) hy hw hlen ?_
  intro p e s m args below meth c A C hr hk hA
  exact body p e s m args below meth c A _ C (fun pc lv v S' d z q => k_zret C hr hk d z q)
theorem ct_ofL {l : Launch} {y : MethodName} {ws ws' : List Cond} {rm : Room} {D : va_G} {cA : Nat → ClassId} {ad : Nat → Nat → Nat} {av : List Value} {S : Sg} {post : Int64 → Sg → Prop} {cc : ByteArray} {nL : Nat} (hy : plainName y.cls = true) (hw : ws = Cond.code y cc nL (some .long) :: ws') (hlen : (lg_sl av).length ≤ nL)
    (body : ∀ (p : Program) (e : Env) (s : State) (m : MethodId) (args : Array Value) (below : List Frame) (meth : Method) (c : Code) (A : Nat → Prop) (Q : State → Prop), Cx p s m args c cc nL ws y.cls D cA A →
      (∀ (pc : Nat) (lv : List (Nat × Value)) (v : Int64) (S' : Sg), decode cc pc = .ok (.lreturn, 1) → post v S' → KK p l e rm s m args below meth c nL D cA ad A Q pc lv [.long v] S') → KK p l e rm s m args below meth c nL D cA ad A Q 0 (lv_args 0 av) [] S) : CtL l y ws rm D cA ad av S post := by
  refine ct_of (cc := cc) (nL := nL) (ret := some .long) hy hw hlen ?_
  intro p e s m args below meth c A C hr hk hA
  exact body p e s m args below meth c A _ C (fun pc lv v S' d q => k_lret C hr hk d q)
theorem ct_ofV {l : Launch} {y : MethodName} {ws ws' : List Cond} {rm : Room} {D : va_G} {cA : Nat → ClassId} {ad : Nat → Nat → Nat} {av : List Value} {S : Sg} {post : Sg → Prop} {cc : ByteArray} {nL : Nat} (hy : plainName y.cls = true) (hw : ws = Cond.code y cc nL (none) :: ws') (hlen : (lg_sl av).length ≤ nL)
    (body : ∀ (p : Program) (e : Env) (s : State) (m : MethodId) (args : Array Value) (below : List Frame) (meth : Method) (c : Code) (A : Nat → Prop) (Q : State → Prop), Cx p s m args c cc nL ws y.cls D cA A →
      (∀ (pc : Nat) (lv : List (Nat × Value)) (S' : Sg), decode cc pc = .ok (.return_, 1) → post S' → KK p l e rm s m args below meth c nL D cA ad A Q pc lv [] S') → KK p l e rm s m args below meth c nL D cA ad A Q 0 (lv_args 0 av) [] S) : CtV l y ws rm D cA ad av S post := by
  refine ct_of (cc := cc) (nL := nL) (ret := none) hy hw hlen ?_
  intro p e s m args below meth c A C hr hk hA
  exact body p e s m args below meth c A _ C (fun pc lv S' d q => k_vret C hr hk d q)
