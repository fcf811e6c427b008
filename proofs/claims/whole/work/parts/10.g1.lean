/-! THE STATE: a memory of ints by (id, place); ids are logical, ad gives each its address. 0 .. 150: the class's own cells, 151 .. 183: the reference's -/
abbrev Mem : Type := Nat → Nat → Int32
def upm (I : Mem) (k j : Nat) (v : Int32) : Mem := fun a b => if a = k ∧ b = j then v else I a b
def kdT : List Nat := [10, 12, 17, 19, 9, 12, 12, 4, 18, 8, 8, 8, 8, 8, 8, 1, 12, 1, 12, 0, 12, 14, 0, 0, 13, 3, 12, 0, 20, 12, 12, 12, 12, 12, 12, 12, 15, 2, 12, 12, 16]
/-- the kind of an id: 0 .. 11 a class of vwCl; 12 int[], 13 boolean[], 14 .. 19 arrays of objects, 20 int[][] -/
def kd (k : Nat) : Nat := if k < 41 then kdT.getD k 12 else if k < 59 then (if k % 2 = 1 then 7 else 12) else if k < 83 then (if k % 3 = 2 then 9 else 12) else if k < 143 then (if k % 2 = 1 then 5 else 0) else if k < 151 then (if k % 2 = 1 then 6 else 12) else if k = 151 then 11 else if k = 160 ∨ k = 170 then 13 else 12
def lnT : List Nat := [0, 450, 9, 8, 0, 4, 4, 0, 6, 0, 0, 0, 0, 0, 0, 0, 3208, 0, 0, 0, 4, 2, 0, 0, 2, 0, 5, 0, 5, 9, 9, 9, 9, 9, 5, 5, 30, 0, 25, 25, 4]
def lnM : List Nat := [91, 9, 9, 9, 9, 9, 9, 36, 9, 32, 32, 6, 6, 6, 6, 8, 3208, 4, 2, 12, 5, 5, 45, 5, 5, 210, 25, 25, 4, 4, 240, 60]
/-- the length of an array -/
def ln (k : Nat) : Nat := if k < 41 then lnT.getD k 0 else if k < 83 then 4 else if k < 151 then 60 else lnM.getD (k - 152) 0
def rfB : List Nat := [1, 2, 0, 3, 0, 4, 7, 15, 17, 19, 20, 0, 21, 24, 25, 36, 0, 37, 40]
def rfM : List Nat := [152, 0, 153, 154, 155, 156, 157, 158, 159, 160, 0, 161, 162, 0, 163, 164, 165, 166, 0, 167, 0, 0, 0, 0, 0, 0, 168, 169, 0, 170, 171, 172, 0, 0, 0, 0, 0, 173, 174, 175, 176, 0, 0, 177, 178, 179, 180, 181, 182, 183]
/-- where a reference points: (id, place) to id -/
def rf (k j : Nat) : Nat := if k = 0 then rfB.getD j 0 else if k = 2 then 41 + 2 * j else if k = 3 then 59 + 3 * j else if k = 8 then 9 + j else if k = 21 then 22 + j else if k = 28 then 29 + j else if k = 36 then 83 + 2 * j else if k = 40 then 143 + 2 * j else if k = 7 then 8 else if k = 25 then [26, 27, 28, 34, 35].getD j 0 else if k = 151 then rfM.getD j 0 else if k = 15 ∨ k = 17 then (if j = 11 then 1 else k + 1) else if k = 37 then 38 + j else if k = 4 then 5 + j else if k < 59 then k + 1 else if k < 83 then k + 1 + j else k + 1
def nf (c : Nat) : Nat := [6, 13, 2, 6, 3, 3, 3, 8, 4, 2, 19, 50].getD c 0
def isrT : List (List Nat) := [[], [11, 12], [0, 1], [0, 1, 2, 3, 4], [0], [0], [2], [7], [], [0, 1], [0, 1, 3, 5, 6, 7, 8, 9, 10, 12, 13, 14, 15, 17, 18], [0, 2, 3, 4, 5, 6, 7, 8, 9, 11, 12, 14, 15, 16, 17, 19, 26, 27, 29, 30, 31, 37, 38, 39, 40, 43, 44, 45, 46, 47, 48, 49]]
/-- whether a field is a reference -/
def isr (c j : Nat) : Bool := (isrT.getD c []).contains j
/-- ad, the classes' numbers and slots, the arrays' classes, the two static rows -/
abbrev En : Type := (Nat → Nat) × va_G × (Nat → ClassId) × Nat × Nat
def flds (E : En) (I : Mem) (k c : Nat) : List Value := (List.range (nf c)).map fun j => if isr c j then Value.ref (E.1 (rf k j)) else .int (I k j)
def ent (E : En) (I : Mem) (k : Nat) : va_E := if kd k < 12 then .inr (kd k, flds E I k (kd k)) else if kd k < 14 then .inl (E.2.2.1 (kd k), ln k, .inl (I k)) else .inl (E.2.2.1 (kd k), ln k, .inr (.inr (.inr (.inr (fun j => some (E.1 (rf k j)))))))
def wl (E : En) (I : Mem) : va_W := (List.range 184).map fun k => (E.1 k, ent E I k)
abbrev tys (E : En) : List (ClassId × FieldType) := [(E.2.2.1 12, .int), (E.2.2.1 13, .boolean), (E.2.2.1 14, .object "ThrowersBag$Aim"), (E.2.2.1 15, .object "ThrowersBag$Row"), (E.2.2.1 16, .object "ThrowersBag$Sheet"), (E.2.2.1 17, .object "ThrowersBag$Stick"), (E.2.2.1 18, .object "ThrowersBag$Tree"), (E.2.2.1 19, .object "ThrowersBag$Wind"), (E.2.2.1 20, .array .int)]
theorem wl_get (E : En) (I : Mem) {k : Nat} (h : k < 184) : (wl E I)[k]? = some (E.1 k, ent E I k) := by
  simp [wl, h]
theorem ent_obj (E : En) (I : Mem) {k c : Nat} (h : kd k = c) (hc : c < 12) : ent E I k = .inr (c, flds E I k c) := by
  subst h
  simp [ent, hc]
theorem ent_int (E : En) (I : Mem) {k : Nat} (h : kd k = 12) : ent E I k = .inl (E.2.2.1 12, ln k, .inl (I k)) := by
  simp [ent, h]
theorem ent_boo (E : En) (I : Mem) {k : Nat} (h : kd k = 13) : ent E I k = .inl (E.2.2.1 13, ln k, .inl (I k)) := by
  simp [ent, h]
theorem ent_ref (E : En) (I : Mem) {k c : Nat} (h : kd k = c) (hc : 13 < c) : ent E I k = .inl (E.2.2.1 c, ln k, .inr (.inr (.inr (.inr (fun j => some (E.1 (rf k j))))))) := by
  subst h
  have h1 : ¬ kd k < 12 := by omega
  have h2 : ¬ kd k < 14 := by omega
  simp [ent, h1, h2]
theorem flds_int (E : En) (I : Mem) (k : Nat) {c j : Nat} (hj : j < nf c) (hr : isr c j = false) : (flds E I k c)[j]? = some (.int (I k j)) := by
  simp [flds, hj, hr]
theorem flds_ref (E : En) (I : Mem) (k : Nat) {c j : Nat} (hj : j < nf c) (hr : isr c j = true) : (flds E I k c)[j]? = some (.ref (E.1 (rf k j))) := by
  simp [flds, hj, hr]
theorem flds_len (E : En) (I : Mem) (k c : Nat) : (flds E I k c).length = nf c := by simp [flds]
theorem upm_row (I : Mem) (k j : Nat) (v : Int32) : upm I k j v k = upd (I k) j v := by
  funext b
  by_cases h : b = j <;> simp [upm, upd, h]
theorem upm_ne (I : Mem) {k a : Nat} (j : Nat) (v : Int32) (h : a ≠ k) : upm I k j v a = I a := by
  funext b
  simp [upm, h]
theorem upm_eq (I : Mem) (k j : Nat) (v : Int32) : upm I k j v k j = v := by simp [upm]
theorem upm_at (I : Mem) (k j : Nat) (v : Int32) (a b : Nat) : upm I k j v a b = if a = k ∧ b = j then v else I a b := rfl
theorem flds_set (E : En) (I : Mem) (k c j : Nat) (v : Int32) (hr : isr c j = false) : (flds E I k c).set j (.int v) = flds E (upm I k j v) k c := by
  apply List.ext_getElem?
  intro i
  by_cases hi : i < nf c
  · by_cases e : i = j
    · subst e
      simp [flds, hi, hr, upm]
    · have e2 : ¬ j = i := fun q => e q.symm
      simp [flds, hi, e2, upm, e]
  · simp [flds, hi]
theorem flds_ne (E : En) (I : Mem) {k a : Nat} (c j : Nat) (v : Int32) (h : a ≠ k) : flds E (upm I k j v) a c = flds E I a c := by
  simp [flds, upm_ne I j v h]
theorem ent_ne (E : En) (I : Mem) {k a : Nat} (j : Nat) (v : Int32) (h : a ≠ k) : ent E (upm I k j v) a = ent E I a := by
  simp [ent, flds_ne E I _ j v h, upm_ne I j v h]
theorem wl_set (E : En) (I : Mem) (k j : Nat) (v : Int32) : (wl E I).set k (E.1 k, ent E (upm I k j v) k) = wl E (upm I k j v) := by
  apply List.ext_getElem?
  intro i
  by_cases hi : i < 184
  · by_cases e : i = k
    · subst e
      simp [wl, hi]
    · have e2 : ¬ k = i := fun q => e q.symm
      simp [wl, hi, e2, ent_ne E I j v e]
  · simp [wl, hi]
theorem wl_put (E : En) (I : Mem) {k c j : Nat} (v : Int32) (hk : kd k = c) (hc : c < 12) (hr : isr c j = false) : (wl E I).set k (E.1 k, .inr (c, (flds E I k c).set j (.int v))) = wl E (upm I k j v) := by
  rw [flds_set E I k c j v hr, ← ent_obj E (upm I k j v) hk hc]
  exact wl_set E I k j v
theorem wl_ast (E : En) (I : Mem) {k j : Nat} (v : Int32) (hk : kd k = 12) : (wl E I).set k (E.1 k, .inl (E.2.2.1 12, ln k, .inl (upd (I k) j v))) = wl E (upm I k j v) := by
  rw [← upm_row I k j v, ← ent_int E (upm I k j v) hk]
  exact wl_set E I k j v
theorem wl_zst (E : En) (I : Mem) {k j : Nat} (v : Int32) (hk : kd k = 13) : (wl E I).set k (E.1 k, .inl (E.2.2.1 13, ln k, .inl (upd (I k) j v))) = wl E (upm I k j v) := by
  rw [← upm_row I k j v, ← ent_boo E (upm I k j v) hk]
  exact wl_set E I k j v
