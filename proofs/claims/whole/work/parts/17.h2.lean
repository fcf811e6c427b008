/-! LOOPS: locals at a head, rows that are filled place by place -/
def lvs (lv : LV) : LV → Prop
  | [] => True
  | q :: t => lk lv q.1 = some q.2 ∧ lvs lv t
theorem lvs_mem {lv : LV} : ∀ {lv' : LV}, lvs lv lv' → ∀ q ∈ lv', lk lv q.1 = some q.2
  | _ :: _, h, q, hq => (List.mem_cons.mp hq).elim (fun e => e ▸ h.1) (fun m => lvs_mem h.2 q m)
theorem r_at {cc : ByteArray} {own : String} {nL : Nat} {R : Room} {E : En} {g : GT} {I : Mem} {lv : LV} {st : List Value} (h : Sem cc own nL R E g) {pc : Nat} (lv' : LV) (hs : lvs lv lv') (kk : g I pc lv' st) : g I pc lv st := r_to h lv' (lvs_mem hs) kk
/-- row t from place o on, i places new: f 0, f 1 .. -/
def rowQ (I : Mem) (t o : Nat) (f : Nat → Int32) (i : Nat) : Mem := fun a b => if a = t ∧ o ≤ b ∧ b < o + i then f (b - o) else I a b
theorem rowQ_0 (I : Mem) (t o : Nat) (f : Nat → Int32) : rowQ I t o f 0 = I := by
  funext a b
  unfold rowQ
  rw [if_neg (by omega)]
theorem rowQ_ne (I : Mem) {t a : Nat} (o : Nat) (f : Nat → Int32) (i : Nat) (h : a ≠ t) : rowQ I t o f i a = I a := by
  funext b
  unfold rowQ
  rw [if_neg (fun q => h q.1)]
theorem rowQ_out (I : Mem) (t : Nat) {o b i : Nat} (f : Nat → Int32) (h : b < o ∨ o + i ≤ b) : rowQ I t o f i t b = I t b := by
  unfold rowQ
  rw [if_neg (by omega)]
theorem rowQ_in (I : Mem) (t o : Nat) {i j : Nat} (f : Nat → Int32) (h : j < i) : rowQ I t o f i t (o + j) = f j := by
  unfold rowQ
  rw [if_pos (by omega)]
  congr 1
  omega
theorem rowQ_step (I : Mem) (t o : Nat) (f : Nat → Int32) (i : Nat) : upm (rowQ I t o f i) t (o + i) (f i) = rowQ I t o f (i + 1) := by
  funext a b
  unfold upm rowQ
  by_cases h1 : a = t ∧ b = o + i
  · rw [if_pos h1, if_pos (by omega)]
    congr 1
    omega
  · rw [if_neg h1]
    by_cases h2 : a = t ∧ o ≤ b ∧ b < o + i
    · rw [if_pos h2, if_pos (by omega)]
    · rw [if_neg h2, if_neg (by omega)]
theorem nI_tI {i : Nat} (h : i < 1000000) : (nI i).toInt = i := nI_toInt (by omega)
theorem nI_tn {i : Nat} (h : i < 1000000) : (nI i).toNatClampNeg = i := nI_clamp (by omega)
theorem vinI {i n : Nat} (h : i < n) (hn : n < 1000000) : vp_in (nI i) n := vin (by rw [nI_tI (by omega)]; omega) (by rw [nI_tI (by omega)]; omega)
