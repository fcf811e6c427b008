/-! ROWS: an instruction each, over Sem -/
def lk : LV → Nat → Option Value
  | [], _ => none
  | (j, v) :: t, i => cond (Nat.beq j i) (some v) (lk t i)
theorem lk_mem : ∀ {lv : LV} {i : Nat} {v : Value}, lk lv i = some v → (i, v) ∈ lv
  | (j, u) :: t, i, v, h => by
    unfold lk at h
    cases hb : Nat.beq j i with
    | true =>
      rw [hb] at h
      have e : j = i := Nat.eq_of_beq_eq_true hb
      cases h
      subst e
      exact List.mem_cons_self
    | false =>
      rw [hb] at h
      exact List.mem_cons_of_mem _ (lk_mem h)
theorem lk_has {ls : Array Slot} {nL : Nat} {lv : LV} {i : Nat} {v : Value} (h : lv_has ls nL lv) (hl : lk lv i = some v) : ls[i]? = some (.val v) := h.2.2 (i, v) (lk_mem hl)
/-- the locals behind a store -/
def st1 (lv : LV) (i : Nat) (v : Value) : LV := (i, v) :: lv.filter (fun q => !(q.1 == i) && !(q.1 + 1 == i && q.2.category == 2))
def st2 (lv : LV) (i : Nat) (v : Value) : LV := (i, v) :: lv.filter (fun q => !(q.1 == i) && (!(q.1 == i + 1) && !(q.1 + 1 == i && q.2.category == 2)))
section GR
variable {cc : ByteArray} {own : String} {nL : Nat} {R : Room} {E : En} {g : GT} {I : Mem} {lv : LV} {st : List Value}
/-- fewer locals -/
theorem r_sub (h : Sem cc own nL R E g) {pc : Nat} (lv' : LV) (hs : ∀ q ∈ lv', q ∈ lv) (kk : g I pc lv' st) : g I pc lv st := by
  obtain ⟨p, l, e, s, m, args, below, meth, c, A, Z, n1, n2, ⟨hx, hb, hml, hown, hts, hK, hN, hT, hA, hn1, hn2⟩, hg⟩ := h
  have kk := (hg _ _ _ _).mp kk
  refine (hg _ _ _ _).mpr (fun H locs ls hP hD hS hv => ?_)
  exact kk H locs ls hP hD hS ⟨hv.1, hv.2.1, fun q hq => hv.2.2 q (hs q hq)⟩
def lvS (lv lv' : LV) : Bool := lv'.all (fun q => decide (lk lv q.1 = some q.2))
theorem r_to (h : Sem cc own nL R E g) {pc : Nat} (lv' : LV) (hs : ∀ q ∈ lv', lk lv q.1 = some q.2) (kk : g I pc lv' st) : g I pc lv st := r_sub h lv' (fun q hq => lk_mem (hs q hq)) kk
theorem r_iload_n (h : Sem cc own nL R E g) {pc : Nat} {k : Fin 4} {x : Int32} (d : decode cc pc = .ok (.iload_n k, 1)) (hl : lk lv k = some (.int x)) (kk : g I (pc + 1) lv (.int x :: st)) : g I pc lv (st) := by
  obtain ⟨p, l, e, s, m, args, below, meth, c, A, Z, n1, n2, ⟨hx, hb, hml, hown, hts, hK, hN, hT, hA, hn1, hn2⟩, hg⟩ := h
  have kk := (hg _ _ _ _).mp kk
  refine (hg _ _ _ _).mpr (fun H locs ls hP hD hS hv => ?_)
  exact lv_iload_n hx hb d rfl (lk_has hv hl) (kk H locs ls hP hD hS hv)
theorem r_iload (h : Sem cc own nL R E g) {pc : Nat} {k : Nat} {x : Int32} (d : decode cc pc = .ok (.iload k, 2)) (hl : lk lv k = some (.int x)) (kk : g I (pc + 2) lv (.int x :: st)) : g I pc lv (st) := by
  obtain ⟨p, l, e, s, m, args, below, meth, c, A, Z, n1, n2, ⟨hx, hb, hml, hown, hts, hK, hN, hT, hA, hn1, hn2⟩, hg⟩ := h
  have kk := (hg _ _ _ _).mp kk
  refine (hg _ _ _ _).mpr (fun H locs ls hP hD hS hv => ?_)
  exact lv_iload hx hb d (lk_has hv hl) (kk H locs ls hP hD hS hv)
theorem r_aload_n (h : Sem cc own nL R E g) {pc : Nat} {k : Fin 4} {x : Nat} (d : decode cc pc = .ok (.aload_n k, 1)) (hl : lk lv k = some (.ref x)) (kk : g I (pc + 1) lv (.ref x :: st)) : g I pc lv (st) := by
  obtain ⟨p, l, e, s, m, args, below, meth, c, A, Z, n1, n2, ⟨hx, hb, hml, hown, hts, hK, hN, hT, hA, hn1, hn2⟩, hg⟩ := h
  have kk := (hg _ _ _ _).mp kk
  refine (hg _ _ _ _).mpr (fun H locs ls hP hD hS hv => ?_)
  exact lv_aload_n hx hb d rfl (lk_has hv hl) (kk H locs ls hP hD hS hv)
theorem r_aload (h : Sem cc own nL R E g) {pc : Nat} {k : Nat} {x : Nat} (d : decode cc pc = .ok (.aload k, 2)) (hl : lk lv k = some (.ref x)) (kk : g I (pc + 2) lv (.ref x :: st)) : g I pc lv (st) := by
  obtain ⟨p, l, e, s, m, args, below, meth, c, A, Z, n1, n2, ⟨hx, hb, hml, hown, hts, hK, hN, hT, hA, hn1, hn2⟩, hg⟩ := h
  have kk := (hg _ _ _ _).mp kk
  refine (hg _ _ _ _).mpr (fun H locs ls hP hD hS hv => ?_)
  exact lv_aload hx hb d (lk_has hv hl) (kk H locs ls hP hD hS hv)
theorem r_lload_n (h : Sem cc own nL R E g) {pc : Nat} {k : Fin 4} {x : Int64} (d : decode cc pc = .ok (.lload_n k, 1)) (hl : lk lv k = some (.long x)) (kk : g I (pc + 1) lv (.long x :: st)) : g I pc lv (st) := by
  obtain ⟨p, l, e, s, m, args, below, meth, c, A, Z, n1, n2, ⟨hx, hb, hml, hown, hts, hK, hN, hT, hA, hn1, hn2⟩, hg⟩ := h
  have kk := (hg _ _ _ _).mp kk
  refine (hg _ _ _ _).mpr (fun H locs ls hP hD hS hv => ?_)
  exact lv_lload_n hx hb d rfl (lk_has hv hl) (kk H locs ls hP hD hS hv)
theorem r_lload (h : Sem cc own nL R E g) {pc : Nat} {k : Nat} {x : Int64} (d : decode cc pc = .ok (.lload k, 2)) (hl : lk lv k = some (.long x)) (kk : g I (pc + 2) lv (.long x :: st)) : g I pc lv (st) := by
  obtain ⟨p, l, e, s, m, args, below, meth, c, A, Z, n1, n2, ⟨hx, hb, hml, hown, hts, hK, hN, hT, hA, hn1, hn2⟩, hg⟩ := h
  have kk := (hg _ _ _ _).mp kk
  refine (hg _ _ _ _).mpr (fun H locs ls hP hD hS hv => ?_)
  exact lv_lload hx hb d (lk_has hv hl) (kk H locs ls hP hD hS hv)
theorem r_iconst (h : Sem cc own nL R E g) {pc : Nat} {n : Int} {v : Int32} (d : decode cc pc = .ok (.iconst n, 1)) (hv2 : Int32.ofInt n = v) (kk : g I (pc + 1) lv (.int v :: st)) : g I pc lv (st) := by
  obtain ⟨p, l, e, s, m, args, below, meth, c, A, Z, n1, n2, ⟨hx, hb, hml, hown, hts, hK, hN, hT, hA, hn1, hn2⟩, hg⟩ := h
  have kk := (hg _ _ _ _).mp kk
  refine (hg _ _ _ _).mpr (fun H locs ls hP hD hS hv => ?_)
  exact lv_iconst hx hb d hv2 (kk H locs ls hP hD hS hv)
theorem r_bipush (h : Sem cc own nL R E g) {pc : Nat} {n : Int} {v : Int32} (d : decode cc pc = .ok (.bipush n, 2)) (hv2 : (Int8.ofInt n).toInt32 = v) (kk : g I (pc + 2) lv (.int v :: st)) : g I pc lv (st) := by
  obtain ⟨p, l, e, s, m, args, below, meth, c, A, Z, n1, n2, ⟨hx, hb, hml, hown, hts, hK, hN, hT, hA, hn1, hn2⟩, hg⟩ := h
  have kk := (hg _ _ _ _).mp kk
  refine (hg _ _ _ _).mpr (fun H locs ls hP hD hS hv => ?_)
  exact lv_bipush hx hb d hv2 (kk H locs ls hP hD hS hv)
theorem r_sipush (h : Sem cc own nL R E g) {pc : Nat} {n : Int} {v : Int32} (d : decode cc pc = .ok (.sipush n, 3)) (hv2 : (Int16.ofInt n).toInt32 = v) (kk : g I (pc + 3) lv (.int v :: st)) : g I pc lv (st) := by
  obtain ⟨p, l, e, s, m, args, below, meth, c, A, Z, n1, n2, ⟨hx, hb, hml, hown, hts, hK, hN, hT, hA, hn1, hn2⟩, hg⟩ := h
  have kk := (hg _ _ _ _).mp kk
  refine (hg _ _ _ _).mpr (fun H locs ls hP hD hS hv => ?_)
  exact lv_sipush hx hb d hv2 (kk H locs ls hP hD hS hv)
theorem r_lconst (h : Sem cc own nL R E g) {pc : Nat} {n : Fin 2} {v : Int64} (d : decode cc pc = .ok (.lconst n, 1)) (hv2 : Int64.ofNat (n : Nat) = v) (kk : g I (pc + 1) lv (.long v :: st)) : g I pc lv (st) := by
  obtain ⟨p, l, e, s, m, args, below, meth, c, A, Z, n1, n2, ⟨hx, hb, hml, hown, hts, hK, hN, hT, hA, hn1, hn2⟩, hg⟩ := h
  have kk := (hg _ _ _ _).mp kk
  refine (hg _ _ _ _).mpr (fun H locs ls hP hD hS hv => ?_)
  exact lv_lconst hx hb d hv2 (kk H locs ls hP hD hS hv)
theorem r_ldc (h : Sem cc own nL R E g) {pc : Nat} {n : Nat} {v : Int32} (d : decode cc pc = .ok (.ldc n, 2)) (hw : Cond.constant own n v ∈ TB) (kk : g I (pc + 2) lv (.int v :: st)) : g I pc lv (st) := by
  obtain ⟨p, l, e, s, m, args, below, meth, c, A, Z, n1, n2, ⟨hx, hb, hml, hown, hts, hK, hN, hT, hA, hn1, hn2⟩, hg⟩ := h
  have kk := (hg _ _ _ _).mp kk
  refine (hg _ _ _ _).mpr (fun H locs ls hP hD hS hv => ?_)
  exact lv_ldc hx hb hown (hts _ hw) d (kk H locs ls hP hD hS hv)
theorem r_ldc2 (h : Sem cc own nL R E g) {pc : Nat} {n : Nat} {v : Int64} (d : decode cc pc = .ok (.ldc2_w n, 3)) (hw : Cond.constantLong own n v ∈ TB) (kk : g I (pc + 3) lv (.long v :: st)) : g I pc lv (st) := by
  obtain ⟨p, l, e, s, m, args, below, meth, c, A, Z, n1, n2, ⟨hx, hb, hml, hown, hts, hK, hN, hT, hA, hn1, hn2⟩, hg⟩ := h
  have kk := (hg _ _ _ _).mp kk
  refine (hg _ _ _ _).mpr (fun H locs ls hP hD hS hv => ?_)
  exact lv_ldc2 hx hb hown (hts _ hw) d (kk H locs ls hP hD hS hv)
theorem r_dup (h : Sem cc own nL R E g) {pc : Nat} {v : Value} (d : decode cc pc = .ok (.dup, 1)) (hc : v.category = 1) (kk : g I (pc + 1) lv (v :: v :: st)) : g I pc lv (v :: st) := by
  obtain ⟨p, l, e, s, m, args, below, meth, c, A, Z, n1, n2, ⟨hx, hb, hml, hown, hts, hK, hN, hT, hA, hn1, hn2⟩, hg⟩ := h
  have kk := (hg _ _ _ _).mp kk
  refine (hg _ _ _ _).mpr (fun H locs ls hP hD hS hv => ?_)
  exact lv_dup hx hb d hc (kk H locs ls hP hD hS hv)
theorem r_dup2 (h : Sem cc own nL R E g) {pc : Nat} {v u : Value} (d : decode cc pc = .ok (.dup2, 1)) (hc : v.category = 1) (hc2 : u.category = 1) (kk : g I (pc + 1) lv (v :: u :: v :: u :: st)) : g I pc lv (v :: u :: st) := by
  obtain ⟨p, l, e, s, m, args, below, meth, c, A, Z, n1, n2, ⟨hx, hb, hml, hown, hts, hK, hN, hT, hA, hn1, hn2⟩, hg⟩ := h
  have kk := (hg _ _ _ _).mp kk
  refine (hg _ _ _ _).mpr (fun H locs ls hP hD hS hv => ?_)
  exact lv_dup2_11 hx hb d hc hc2 (kk H locs ls hP hD hS hv)
theorem r_pop (h : Sem cc own nL R E g) {pc : Nat} {v : Value} (d : decode cc pc = .ok (.pop, 1)) (hc : v.category = 1) (kk : g I (pc + 1) lv (st)) : g I pc lv (v :: st) := by
  obtain ⟨p, l, e, s, m, args, below, meth, c, A, Z, n1, n2, ⟨hx, hb, hml, hown, hts, hK, hN, hT, hA, hn1, hn2⟩, hg⟩ := h
  have kk := (hg _ _ _ _).mp kk
  refine (hg _ _ _ _).mpr (fun H locs ls hP hD hS hv => ?_)
  exact lv_pop hx hb d hc (kk H locs ls hP hD hS hv)
theorem r_iadd (h : Sem cc own nL R E g) {pc : Nat} {x y : Int32} (d : decode cc pc = .ok (.iadd, 1))  (kk : g I (pc + 1) lv (.int (x + y) :: st)) : g I pc lv (.int y :: .int x :: st) := by
  obtain ⟨p, l, e, s, m, args, below, meth, c, A, Z, n1, n2, ⟨hx, hb, hml, hown, hts, hK, hN, hT, hA, hn1, hn2⟩, hg⟩ := h
  have kk := (hg _ _ _ _).mp kk
  refine (hg _ _ _ _).mpr (fun H locs ls hP hD hS hv => ?_)
  exact lv_iadd hx hb d (kk H locs ls hP hD hS hv)
theorem r_isub (h : Sem cc own nL R E g) {pc : Nat} {x y : Int32} (d : decode cc pc = .ok (.isub, 1))  (kk : g I (pc + 1) lv (.int (x - y) :: st)) : g I pc lv (.int y :: .int x :: st) := by
  obtain ⟨p, l, e, s, m, args, below, meth, c, A, Z, n1, n2, ⟨hx, hb, hml, hown, hts, hK, hN, hT, hA, hn1, hn2⟩, hg⟩ := h
  have kk := (hg _ _ _ _).mp kk
  refine (hg _ _ _ _).mpr (fun H locs ls hP hD hS hv => ?_)
  exact lv_isub hx hb d (kk H locs ls hP hD hS hv)
theorem r_imul (h : Sem cc own nL R E g) {pc : Nat} {x y : Int32} (d : decode cc pc = .ok (.imul, 1))  (kk : g I (pc + 1) lv (.int (x * y) :: st)) : g I pc lv (.int y :: .int x :: st) := by
  obtain ⟨p, l, e, s, m, args, below, meth, c, A, Z, n1, n2, ⟨hx, hb, hml, hown, hts, hK, hN, hT, hA, hn1, hn2⟩, hg⟩ := h
  have kk := (hg _ _ _ _).mp kk
  refine (hg _ _ _ _).mpr (fun H locs ls hP hD hS hv => ?_)
  exact lv_imul hx hb d (kk H locs ls hP hD hS hv)
theorem r_iand (h : Sem cc own nL R E g) {pc : Nat} {x y : Int32} (d : decode cc pc = .ok (.iand, 1))  (kk : g I (pc + 1) lv (.int (x &&& y) :: st)) : g I pc lv (.int y :: .int x :: st) := by
  obtain ⟨p, l, e, s, m, args, below, meth, c, A, Z, n1, n2, ⟨hx, hb, hml, hown, hts, hK, hN, hT, hA, hn1, hn2⟩, hg⟩ := h
  have kk := (hg _ _ _ _).mp kk
  refine (hg _ _ _ _).mpr (fun H locs ls hP hD hS hv => ?_)
  exact lv_iand hx hb d (kk H locs ls hP hD hS hv)
theorem r_ior (h : Sem cc own nL R E g) {pc : Nat} {x y : Int32} (d : decode cc pc = .ok (.ior, 1))  (kk : g I (pc + 1) lv (.int (x ||| y) :: st)) : g I pc lv (.int y :: .int x :: st) := by
  obtain ⟨p, l, e, s, m, args, below, meth, c, A, Z, n1, n2, ⟨hx, hb, hml, hown, hts, hK, hN, hT, hA, hn1, hn2⟩, hg⟩ := h
  have kk := (hg _ _ _ _).mp kk
  refine (hg _ _ _ _).mpr (fun H locs ls hP hD hS hv => ?_)
  exact lv_ior hx hb d (kk H locs ls hP hD hS hv)
theorem r_ixor (h : Sem cc own nL R E g) {pc : Nat} {x y : Int32} (d : decode cc pc = .ok (.ixor, 1))  (kk : g I (pc + 1) lv (.int (x ^^^ y) :: st)) : g I pc lv (.int y :: .int x :: st) := by
  obtain ⟨p, l, e, s, m, args, below, meth, c, A, Z, n1, n2, ⟨hx, hb, hml, hown, hts, hK, hN, hT, hA, hn1, hn2⟩, hg⟩ := h
  have kk := (hg _ _ _ _).mp kk
  refine (hg _ _ _ _).mpr (fun H locs ls hP hD hS hv => ?_)
  exact lv_ixor hx hb d (kk H locs ls hP hD hS hv)
theorem r_ishl (h : Sem cc own nL R E g) {pc : Nat} {x y : Int32} (d : decode cc pc = .ok (.ishl, 1))  (kk : g I (pc + 1) lv (.int (x <<< (y &&& 31)) :: st)) : g I pc lv (.int y :: .int x :: st) := by
  obtain ⟨p, l, e, s, m, args, below, meth, c, A, Z, n1, n2, ⟨hx, hb, hml, hown, hts, hK, hN, hT, hA, hn1, hn2⟩, hg⟩ := h
  have kk := (hg _ _ _ _).mp kk
  refine (hg _ _ _ _).mpr (fun H locs ls hP hD hS hv => ?_)
  exact lv_ishl hx hb d (kk H locs ls hP hD hS hv)
theorem r_ishr (h : Sem cc own nL R E g) {pc : Nat} {x y : Int32} (d : decode cc pc = .ok (.ishr, 1))  (kk : g I (pc + 1) lv (.int (x >>> (y &&& 31)) :: st)) : g I pc lv (.int y :: .int x :: st) := by
  obtain ⟨p, l, e, s, m, args, below, meth, c, A, Z, n1, n2, ⟨hx, hb, hml, hown, hts, hK, hN, hT, hA, hn1, hn2⟩, hg⟩ := h
  have kk := (hg _ _ _ _).mp kk
  refine (hg _ _ _ _).mpr (fun H locs ls hP hD hS hv => ?_)
  exact lv_ishr hx hb d (kk H locs ls hP hD hS hv)
theorem r_iushr (h : Sem cc own nL R E g) {pc : Nat} {x y : Int32} (d : decode cc pc = .ok (.iushr, 1))  (kk : g I (pc + 1) lv (.int ((x.toUInt32 >>> (y.toUInt32 &&& Int32.toUInt32 31)).toInt32) :: st)) : g I pc lv (.int y :: .int x :: st) := by
  obtain ⟨p, l, e, s, m, args, below, meth, c, A, Z, n1, n2, ⟨hx, hb, hml, hown, hts, hK, hN, hT, hA, hn1, hn2⟩, hg⟩ := h
  have kk := (hg _ _ _ _).mp kk
  refine (hg _ _ _ _).mpr (fun H locs ls hP hD hS hv => ?_)
  exact lv_iushr hx hb d rfl (kk H locs ls hP hD hS hv)
theorem r_ineg (h : Sem cc own nL R E g) {pc : Nat} {x : Int32} (d : decode cc pc = .ok (.ineg, 1))  (kk : g I (pc + 1) lv (.int (-x) :: st)) : g I pc lv (.int x :: st) := by
  obtain ⟨p, l, e, s, m, args, below, meth, c, A, Z, n1, n2, ⟨hx, hb, hml, hown, hts, hK, hN, hT, hA, hn1, hn2⟩, hg⟩ := h
  have kk := (hg _ _ _ _).mp kk
  refine (hg _ _ _ _).mpr (fun H locs ls hP hD hS hv => ?_)
  exact lv_ineg hx hb d (kk H locs ls hP hD hS hv)
theorem r_idiv (h : Sem cc own nL R E g) {pc : Nat} {x y : Int32} (d : decode cc pc = .ok (.idiv, 1)) (hne : ¬ y = 0) (kk : g I (pc + 1) lv (.int (x / y) :: st)) : g I pc lv (.int y :: .int x :: st) := by
  obtain ⟨p, l, e, s, m, args, below, meth, c, A, Z, n1, n2, ⟨hx, hb, hml, hown, hts, hK, hN, hT, hA, hn1, hn2⟩, hg⟩ := h
  have kk := (hg _ _ _ _).mp kk
  refine (hg _ _ _ _).mpr (fun H locs ls hP hD hS hv => ?_)
  exact lv_idiv hx hb d hne (kk H locs ls hP hD hS hv)
theorem r_irem (h : Sem cc own nL R E g) {pc : Nat} {x y : Int32} (d : decode cc pc = .ok (.irem, 1)) (hne : ¬ y = 0) (kk : g I (pc + 1) lv (.int (x - x / y * y) :: st)) : g I pc lv (.int y :: .int x :: st) := by
  obtain ⟨p, l, e, s, m, args, below, meth, c, A, Z, n1, n2, ⟨hx, hb, hml, hown, hts, hK, hN, hT, hA, hn1, hn2⟩, hg⟩ := h
  have kk := (hg _ _ _ _).mp kk
  refine (hg _ _ _ _).mpr (fun H locs ls hP hD hS hv => ?_)
  exact lv_irem hx hb d hne (kk H locs ls hP hD hS hv)
theorem r_ladd (h : Sem cc own nL R E g) {pc : Nat} {x y : Int64} (d : decode cc pc = .ok (.ladd, 1))  (kk : g I (pc + 1) lv (.long (x + y) :: st)) : g I pc lv (.long y :: .long x :: st) := by
  obtain ⟨p, l, e, s, m, args, below, meth, c, A, Z, n1, n2, ⟨hx, hb, hml, hown, hts, hK, hN, hT, hA, hn1, hn2⟩, hg⟩ := h
  have kk := (hg _ _ _ _).mp kk
  refine (hg _ _ _ _).mpr (fun H locs ls hP hD hS hv => ?_)
  exact lv_ladd hx hb d (kk H locs ls hP hD hS hv)
theorem r_lsub (h : Sem cc own nL R E g) {pc : Nat} {x y : Int64} (d : decode cc pc = .ok (.lsub, 1))  (kk : g I (pc + 1) lv (.long (x - y) :: st)) : g I pc lv (.long y :: .long x :: st) := by
  obtain ⟨p, l, e, s, m, args, below, meth, c, A, Z, n1, n2, ⟨hx, hb, hml, hown, hts, hK, hN, hT, hA, hn1, hn2⟩, hg⟩ := h
  have kk := (hg _ _ _ _).mp kk
  refine (hg _ _ _ _).mpr (fun H locs ls hP hD hS hv => ?_)
  exact lv_lsub hx hb d (kk H locs ls hP hD hS hv)
theorem r_lmul (h : Sem cc own nL R E g) {pc : Nat} {x y : Int64} (d : decode cc pc = .ok (.lmul, 1))  (kk : g I (pc + 1) lv (.long (x * y) :: st)) : g I pc lv (.long y :: .long x :: st) := by
  obtain ⟨p, l, e, s, m, args, below, meth, c, A, Z, n1, n2, ⟨hx, hb, hml, hown, hts, hK, hN, hT, hA, hn1, hn2⟩, hg⟩ := h
  have kk := (hg _ _ _ _).mp kk
  refine (hg _ _ _ _).mpr (fun H locs ls hP hD hS hv => ?_)
  exact lv_lmul hx hb d (kk H locs ls hP hD hS hv)
theorem r_ldiv (h : Sem cc own nL R E g) {pc : Nat} {x y : Int64} (d : decode cc pc = .ok (.ldiv, 1)) (hne : ¬ y = 0) (kk : g I (pc + 1) lv (.long (x / y) :: st)) : g I pc lv (.long y :: .long x :: st) := by
  obtain ⟨p, l, e, s, m, args, below, meth, c, A, Z, n1, n2, ⟨hx, hb, hml, hown, hts, hK, hN, hT, hA, hn1, hn2⟩, hg⟩ := h
  have kk := (hg _ _ _ _).mp kk
  refine (hg _ _ _ _).mpr (fun H locs ls hP hD hS hv => ?_)
  exact lv_ldiv hx hb d hne (kk H locs ls hP hD hS hv)
theorem r_lcmp (h : Sem cc own nL R E g) {pc : Nat} {x y : Int64} (d : decode cc pc = .ok (.lcmp, 1))  (kk : g I (pc + 1) lv (.int (lg_cmp x y) :: st)) : g I pc lv (.long y :: .long x :: st) := by
  obtain ⟨p, l, e, s, m, args, below, meth, c, A, Z, n1, n2, ⟨hx, hb, hml, hown, hts, hK, hN, hT, hA, hn1, hn2⟩, hg⟩ := h
  have kk := (hg _ _ _ _).mp kk
  refine (hg _ _ _ _).mpr (fun H locs ls hP hD hS hv => ?_)
  exact W.lcmp hx hb d (kk H locs ls hP hD hS hv)
theorem r_i2l (h : Sem cc own nL R E g) {pc : Nat} {x : Int32} (d : decode cc pc = .ok (.i2l, 1))  (kk : g I (pc + 1) lv (.long x.toInt64 :: st)) : g I pc lv (.int x :: st) := by
  obtain ⟨p, l, e, s, m, args, below, meth, c, A, Z, n1, n2, ⟨hx, hb, hml, hown, hts, hK, hN, hT, hA, hn1, hn2⟩, hg⟩ := h
  have kk := (hg _ _ _ _).mp kk
  refine (hg _ _ _ _).mpr (fun H locs ls hP hD hS hv => ?_)
  exact lv_i2l hx hb d rfl (kk H locs ls hP hD hS hv)
theorem r_l2i (h : Sem cc own nL R E g) {pc : Nat} {x : Int64} (d : decode cc pc = .ok (.l2i, 1))  (kk : g I (pc + 1) lv (.int x.toInt32 :: st)) : g I pc lv (.long x :: st) := by
  obtain ⟨p, l, e, s, m, args, below, meth, c, A, Z, n1, n2, ⟨hx, hb, hml, hown, hts, hK, hN, hT, hA, hn1, hn2⟩, hg⟩ := h
  have kk := (hg _ _ _ _).mp kk
  refine (hg _ _ _ _).mpr (fun H locs ls hP hD hS hv => ?_)
  exact lv_l2i hx hb d rfl (kk H locs ls hP hD hS hv)
theorem r_i2b (h : Sem cc own nL R E g) {pc : Nat} {x : Int32} (d : decode cc pc = .ok (.i2b, 1))  (kk : g I (pc + 1) lv (.int x.toInt8.toInt32 :: st)) : g I pc lv (.int x :: st) := by
  obtain ⟨p, l, e, s, m, args, below, meth, c, A, Z, n1, n2, ⟨hx, hb, hml, hown, hts, hK, hN, hT, hA, hn1, hn2⟩, hg⟩ := h
  have kk := (hg _ _ _ _).mp kk
  refine (hg _ _ _ _).mpr (fun H locs ls hP hD hS hv => ?_)
  exact lv_i2b hx hb d rfl (kk H locs ls hP hD hS hv)
theorem r_i2s (h : Sem cc own nL R E g) {pc : Nat} {x : Int32} (d : decode cc pc = .ok (.i2s, 1))  (kk : g I (pc + 1) lv (.int x.toInt16.toInt32 :: st)) : g I pc lv (.int x :: st) := by
  obtain ⟨p, l, e, s, m, args, below, meth, c, A, Z, n1, n2, ⟨hx, hb, hml, hown, hts, hK, hN, hT, hA, hn1, hn2⟩, hg⟩ := h
  have kk := (hg _ _ _ _).mp kk
  refine (hg _ _ _ _).mpr (fun H locs ls hP hD hS hv => ?_)
  exact lv_i2s hx hb d rfl (kk H locs ls hP hD hS hv)
theorem r_istore_n (h : Sem cc own nL R E g) {pc : Nat} {k : Fin 4} {x : Int32} (d : decode cc pc = .ok (.istore_n k, 1)) (hi : (k : Nat) < nL) (kk : g I (pc + 1) (st1 lv k (.int x)) st) : g I pc lv (.int x :: st) := by
  obtain ⟨p, l, e, s, m, args, below, meth, c, A, Z, n1, n2, ⟨hx, hb, hml, hown, hts, hK, hN, hT, hA, hn1, hn2⟩, hg⟩ := h
  have kk := (hg _ _ _ _).mp kk
  refine (hg _ _ _ _).mpr (fun H locs ls hP hD hS hv => ?_)
  exact lv_istore_n hx hb d rfl hv hi rfl (fun ls' hv' => kk H locs ls' hP hD hS hv')
theorem r_istore (h : Sem cc own nL R E g) {pc : Nat} {k : Nat} {x : Int32} (d : decode cc pc = .ok (.istore k, 2)) (hi : (k : Nat) < nL) (kk : g I (pc + 2) (st1 lv k (.int x)) st) : g I pc lv (.int x :: st) := by
  obtain ⟨p, l, e, s, m, args, below, meth, c, A, Z, n1, n2, ⟨hx, hb, hml, hown, hts, hK, hN, hT, hA, hn1, hn2⟩, hg⟩ := h
  have kk := (hg _ _ _ _).mp kk
  refine (hg _ _ _ _).mpr (fun H locs ls hP hD hS hv => ?_)
  exact lv_istore hx hb d hv hi rfl (fun ls' hv' => kk H locs ls' hP hD hS hv')
theorem r_astore_n (h : Sem cc own nL R E g) {pc : Nat} {k : Fin 4} {x : Nat} (d : decode cc pc = .ok (.astore_n k, 1)) (hi : (k : Nat) < nL) (kk : g I (pc + 1) (st1 lv k (.ref x)) st) : g I pc lv (.ref x :: st) := by
  obtain ⟨p, l, e, s, m, args, below, meth, c, A, Z, n1, n2, ⟨hx, hb, hml, hown, hts, hK, hN, hT, hA, hn1, hn2⟩, hg⟩ := h
  have kk := (hg _ _ _ _).mp kk
  refine (hg _ _ _ _).mpr (fun H locs ls hP hD hS hv => ?_)
  exact lv_astore_n hx hb d rfl hv hi rfl (fun ls' hv' => kk H locs ls' hP hD hS hv')
theorem r_astore (h : Sem cc own nL R E g) {pc : Nat} {k : Nat} {x : Nat} (d : decode cc pc = .ok (.astore k, 2)) (hi : (k : Nat) < nL) (kk : g I (pc + 2) (st1 lv k (.ref x)) st) : g I pc lv (.ref x :: st) := by
  obtain ⟨p, l, e, s, m, args, below, meth, c, A, Z, n1, n2, ⟨hx, hb, hml, hown, hts, hK, hN, hT, hA, hn1, hn2⟩, hg⟩ := h
  have kk := (hg _ _ _ _).mp kk
  refine (hg _ _ _ _).mpr (fun H locs ls hP hD hS hv => ?_)
  exact lv_astore hx hb d hv hi rfl (fun ls' hv' => kk H locs ls' hP hD hS hv')
theorem r_lstore_n (h : Sem cc own nL R E g) {pc : Nat} {k : Fin 4} {x : Int64} (d : decode cc pc = .ok (.lstore_n k, 1)) (hi : (k : Nat) + 1 < nL) (kk : g I (pc + 1) (st2 lv k (.long x)) st) : g I pc lv (.long x :: st) := by
  obtain ⟨p, l, e, s, m, args, below, meth, c, A, Z, n1, n2, ⟨hx, hb, hml, hown, hts, hK, hN, hT, hA, hn1, hn2⟩, hg⟩ := h
  have kk := (hg _ _ _ _).mp kk
  refine (hg _ _ _ _).mpr (fun H locs ls hP hD hS hv => ?_)
  exact lv_lstore_n hx hb d rfl hv hi rfl (fun ls' hv' => kk H locs ls' hP hD hS hv')
theorem r_lstore (h : Sem cc own nL R E g) {pc : Nat} {k : Nat} {x : Int64} (d : decode cc pc = .ok (.lstore k, 2)) (hi : (k : Nat) + 1 < nL) (kk : g I (pc + 2) (st2 lv k (.long x)) st) : g I pc lv (.long x :: st) := by
  obtain ⟨p, l, e, s, m, args, below, meth, c, A, Z, n1, n2, ⟨hx, hb, hml, hown, hts, hK, hN, hT, hA, hn1, hn2⟩, hg⟩ := h
  have kk := (hg _ _ _ _).mp kk
  refine (hg _ _ _ _).mpr (fun H locs ls hP hD hS hv => ?_)
  exact lv_lstore hx hb d hv hi rfl (fun ls' hv' => kk H locs ls' hP hD hS hv')
theorem r_iinc (h : Sem cc own nL R E g) {pc : Nat} {k : Nat} {n : Int} {x v : Int32} (d : decode cc pc = .ok (.iinc k n, 3)) (hl : lk lv k = some (.int x)) (hi : k < nL) (hv2 : Int32.ofInt n = v) (kk : g I (pc + 3) (st1 lv k (.int (x + v))) st) : g I pc lv st := by
  obtain ⟨p, l, e, s, m, args, below, meth, c, A, Z, n1, n2, ⟨hx, hb, hml, hown, hts, hK, hN, hT, hA, hn1, hn2⟩, hg⟩ := h
  have kk := (hg _ _ _ _).mp kk
  refine (hg _ _ _ _).mpr (fun H locs ls hP hD hS hv => ?_)
  obtain ⟨j, hj⟩ := List.mem_iff_getElem?.mp (lk_mem hl)
  exact lv_iinc (v := x + v) hx hb d hv hj (by rw [hv2]) hi rfl (fun ls' hv' => kk H locs ls' hP hD hS hv')
theorem r_if_eq (h : Sem cc own nL R E g) {pc : Nat} {x : Int32} {off : Int} (tgt : Nat) (d : decode cc pc = .ok (.ifCond .eq off, 3)) (ht : (pc : Int) + off = (tgt : Int)) (kt : x = 0 → g I tgt lv st) (kf : ¬ x = 0 → g I (pc + 3) lv st) : g I pc lv (.int x :: st) := by
  obtain ⟨p, l, e, s, m, args, below, meth, c, A, Z, n1, n2, ⟨hx, hb, hml, hown, hts, hK, hN, hT, hA, hn1, hn2⟩, hg⟩ := h
  refine (hg _ _ _ _).mpr (fun H locs ls hP hD hS hv => ?_)
  exact lv_if_eq hx hb d ht (fun q => (hg _ _ _ _).mp (kt q) H locs ls hP hD hS hv) (fun q => (hg _ _ _ _).mp (kf q) H locs ls hP hD hS hv)
theorem r_if_ne (h : Sem cc own nL R E g) {pc : Nat} {x : Int32} {off : Int} (tgt : Nat) (d : decode cc pc = .ok (.ifCond .ne off, 3)) (ht : (pc : Int) + off = (tgt : Int)) (kt : ¬ x = 0 → g I tgt lv st) (kf : x = 0 → g I (pc + 3) lv st) : g I pc lv (.int x :: st) := by
  obtain ⟨p, l, e, s, m, args, below, meth, c, A, Z, n1, n2, ⟨hx, hb, hml, hown, hts, hK, hN, hT, hA, hn1, hn2⟩, hg⟩ := h
  refine (hg _ _ _ _).mpr (fun H locs ls hP hD hS hv => ?_)
  exact lv_if_ne hx hb d ht (fun q => (hg _ _ _ _).mp (kt q) H locs ls hP hD hS hv) (fun q => (hg _ _ _ _).mp (kf q) H locs ls hP hD hS hv)
theorem r_if_lt (h : Sem cc own nL R E g) {pc : Nat} {x : Int32} {off : Int} (tgt : Nat) (d : decode cc pc = .ok (.ifCond .lt off, 3)) (ht : (pc : Int) + off = (tgt : Int)) (kt : x < 0 → g I tgt lv st) (kf : ¬ x < 0 → g I (pc + 3) lv st) : g I pc lv (.int x :: st) := by
  obtain ⟨p, l, e, s, m, args, below, meth, c, A, Z, n1, n2, ⟨hx, hb, hml, hown, hts, hK, hN, hT, hA, hn1, hn2⟩, hg⟩ := h
  refine (hg _ _ _ _).mpr (fun H locs ls hP hD hS hv => ?_)
  exact lv_if_lt hx hb d ht (fun q => (hg _ _ _ _).mp (kt q) H locs ls hP hD hS hv) (fun q => (hg _ _ _ _).mp (kf q) H locs ls hP hD hS hv)
theorem r_if_ge (h : Sem cc own nL R E g) {pc : Nat} {x : Int32} {off : Int} (tgt : Nat) (d : decode cc pc = .ok (.ifCond .ge off, 3)) (ht : (pc : Int) + off = (tgt : Int)) (kt : 0 ≤ x → g I tgt lv st) (kf : ¬ 0 ≤ x → g I (pc + 3) lv st) : g I pc lv (.int x :: st) := by
  obtain ⟨p, l, e, s, m, args, below, meth, c, A, Z, n1, n2, ⟨hx, hb, hml, hown, hts, hK, hN, hT, hA, hn1, hn2⟩, hg⟩ := h
  refine (hg _ _ _ _).mpr (fun H locs ls hP hD hS hv => ?_)
  exact lv_if_ge hx hb d ht (fun q => (hg _ _ _ _).mp (kt q) H locs ls hP hD hS hv) (fun q => (hg _ _ _ _).mp (kf q) H locs ls hP hD hS hv)
theorem r_if_gt (h : Sem cc own nL R E g) {pc : Nat} {x : Int32} {off : Int} (tgt : Nat) (d : decode cc pc = .ok (.ifCond .gt off, 3)) (ht : (pc : Int) + off = (tgt : Int)) (kt : 0 < x → g I tgt lv st) (kf : ¬ 0 < x → g I (pc + 3) lv st) : g I pc lv (.int x :: st) := by
  obtain ⟨p, l, e, s, m, args, below, meth, c, A, Z, n1, n2, ⟨hx, hb, hml, hown, hts, hK, hN, hT, hA, hn1, hn2⟩, hg⟩ := h
  refine (hg _ _ _ _).mpr (fun H locs ls hP hD hS hv => ?_)
  exact lv_if_gt hx hb d ht (fun q => (hg _ _ _ _).mp (kt q) H locs ls hP hD hS hv) (fun q => (hg _ _ _ _).mp (kf q) H locs ls hP hD hS hv)
theorem r_if_le (h : Sem cc own nL R E g) {pc : Nat} {x : Int32} {off : Int} (tgt : Nat) (d : decode cc pc = .ok (.ifCond .le off, 3)) (ht : (pc : Int) + off = (tgt : Int)) (kt : x ≤ 0 → g I tgt lv st) (kf : ¬ x ≤ 0 → g I (pc + 3) lv st) : g I pc lv (.int x :: st) := by
  obtain ⟨p, l, e, s, m, args, below, meth, c, A, Z, n1, n2, ⟨hx, hb, hml, hown, hts, hK, hN, hT, hA, hn1, hn2⟩, hg⟩ := h
  refine (hg _ _ _ _).mpr (fun H locs ls hP hD hS hv => ?_)
  exact lv_if_le hx hb d ht (fun q => (hg _ _ _ _).mp (kt q) H locs ls hP hD hS hv) (fun q => (hg _ _ _ _).mp (kf q) H locs ls hP hD hS hv)
theorem r_icmp_eq (h : Sem cc own nL R E g) {pc : Nat} {x y : Int32} {off : Int} (tgt : Nat) (d : decode cc pc = .ok (.if_icmp .eq off, 3)) (ht : (pc : Int) + off = (tgt : Int)) (kt : x = y → g I tgt lv st) (kf : ¬ x = y → g I (pc + 3) lv st) : g I pc lv (.int y :: .int x :: st) := by
  obtain ⟨p, l, e, s, m, args, below, meth, c, A, Z, n1, n2, ⟨hx, hb, hml, hown, hts, hK, hN, hT, hA, hn1, hn2⟩, hg⟩ := h
  refine (hg _ _ _ _).mpr (fun H locs ls hP hD hS hv => ?_)
  exact lv_icmp_eq hx hb d ht (fun q => (hg _ _ _ _).mp (kt q) H locs ls hP hD hS hv) (fun q => (hg _ _ _ _).mp (kf q) H locs ls hP hD hS hv)
theorem r_icmp_ne (h : Sem cc own nL R E g) {pc : Nat} {x y : Int32} {off : Int} (tgt : Nat) (d : decode cc pc = .ok (.if_icmp .ne off, 3)) (ht : (pc : Int) + off = (tgt : Int)) (kt : ¬ x = y → g I tgt lv st) (kf : x = y → g I (pc + 3) lv st) : g I pc lv (.int y :: .int x :: st) := by
  obtain ⟨p, l, e, s, m, args, below, meth, c, A, Z, n1, n2, ⟨hx, hb, hml, hown, hts, hK, hN, hT, hA, hn1, hn2⟩, hg⟩ := h
  refine (hg _ _ _ _).mpr (fun H locs ls hP hD hS hv => ?_)
  exact lv_icmp_ne hx hb d ht (fun q => (hg _ _ _ _).mp (kt q) H locs ls hP hD hS hv) (fun q => (hg _ _ _ _).mp (kf q) H locs ls hP hD hS hv)
theorem r_icmp_lt (h : Sem cc own nL R E g) {pc : Nat} {x y : Int32} {off : Int} (tgt : Nat) (d : decode cc pc = .ok (.if_icmp .lt off, 3)) (ht : (pc : Int) + off = (tgt : Int)) (kt : x < y → g I tgt lv st) (kf : ¬ x < y → g I (pc + 3) lv st) : g I pc lv (.int y :: .int x :: st) := by
  obtain ⟨p, l, e, s, m, args, below, meth, c, A, Z, n1, n2, ⟨hx, hb, hml, hown, hts, hK, hN, hT, hA, hn1, hn2⟩, hg⟩ := h
  refine (hg _ _ _ _).mpr (fun H locs ls hP hD hS hv => ?_)
  exact lv_icmp_lt hx hb d ht (fun q => (hg _ _ _ _).mp (kt q) H locs ls hP hD hS hv) (fun q => (hg _ _ _ _).mp (kf q) H locs ls hP hD hS hv)
theorem r_icmp_ge (h : Sem cc own nL R E g) {pc : Nat} {x y : Int32} {off : Int} (tgt : Nat) (d : decode cc pc = .ok (.if_icmp .ge off, 3)) (ht : (pc : Int) + off = (tgt : Int)) (kt : y ≤ x → g I tgt lv st) (kf : ¬ y ≤ x → g I (pc + 3) lv st) : g I pc lv (.int y :: .int x :: st) := by
  obtain ⟨p, l, e, s, m, args, below, meth, c, A, Z, n1, n2, ⟨hx, hb, hml, hown, hts, hK, hN, hT, hA, hn1, hn2⟩, hg⟩ := h
  refine (hg _ _ _ _).mpr (fun H locs ls hP hD hS hv => ?_)
  exact lv_icmp_ge hx hb d ht (fun q => (hg _ _ _ _).mp (kt q) H locs ls hP hD hS hv) (fun q => (hg _ _ _ _).mp (kf q) H locs ls hP hD hS hv)
theorem r_icmp_gt (h : Sem cc own nL R E g) {pc : Nat} {x y : Int32} {off : Int} (tgt : Nat) (d : decode cc pc = .ok (.if_icmp .gt off, 3)) (ht : (pc : Int) + off = (tgt : Int)) (kt : y < x → g I tgt lv st) (kf : ¬ y < x → g I (pc + 3) lv st) : g I pc lv (.int y :: .int x :: st) := by
  obtain ⟨p, l, e, s, m, args, below, meth, c, A, Z, n1, n2, ⟨hx, hb, hml, hown, hts, hK, hN, hT, hA, hn1, hn2⟩, hg⟩ := h
  refine (hg _ _ _ _).mpr (fun H locs ls hP hD hS hv => ?_)
  exact lv_icmp_gt hx hb d ht (fun q => (hg _ _ _ _).mp (kt q) H locs ls hP hD hS hv) (fun q => (hg _ _ _ _).mp (kf q) H locs ls hP hD hS hv)
theorem r_icmp_le (h : Sem cc own nL R E g) {pc : Nat} {x y : Int32} {off : Int} (tgt : Nat) (d : decode cc pc = .ok (.if_icmp .le off, 3)) (ht : (pc : Int) + off = (tgt : Int)) (kt : x ≤ y → g I tgt lv st) (kf : ¬ x ≤ y → g I (pc + 3) lv st) : g I pc lv (.int y :: .int x :: st) := by
  obtain ⟨p, l, e, s, m, args, below, meth, c, A, Z, n1, n2, ⟨hx, hb, hml, hown, hts, hK, hN, hT, hA, hn1, hn2⟩, hg⟩ := h
  refine (hg _ _ _ _).mpr (fun H locs ls hP hD hS hv => ?_)
  exact lv_icmp_le hx hb d ht (fun q => (hg _ _ _ _).mp (kt q) H locs ls hP hD hS hv) (fun q => (hg _ _ _ _).mp (kf q) H locs ls hP hD hS hv)
theorem r_goto (h : Sem cc own nL R E g) {pc : Nat} {off : Int} (tgt : Nat) (d : decode cc pc = .ok (.goto off, 3)) (ht : (pc : Int) + off = (tgt : Int)) (kk : g I tgt lv st) : g I pc lv st := by
  obtain ⟨p, l, e, s, m, args, below, meth, c, A, Z, n1, n2, ⟨hx, hb, hml, hown, hts, hK, hN, hT, hA, hn1, hn2⟩, hg⟩ := h
  refine (hg _ _ _ _).mpr (fun H locs ls hP hD hS hv => ?_)
  exact lv_goto hx hb d ht ((hg _ _ _ _).mp kk H locs ls hP hD hS hv)
theorem r_tableIn (h : Sem cc own nL R E g) {pc : Nat} {dflt lo hi : Int} {offs : Array Int} {len : Nat} {x : Int32} {off : Int} (tgt : Nat) (d : decode cc pc = .ok (.tableswitch dflt lo hi offs, len)) (h1 : ¬ x.toInt < lo) (h2 : ¬ hi < x.toInt) (ho : offs[(x.toInt - lo).toNat]? = some off) (ht : (pc : Int) + off = (tgt : Int)) (kk : g I tgt lv st) : g I pc lv (.int x :: st) := by
  obtain ⟨p, l, e, s, m, args, below, meth, c, A, Z, n1, n2, ⟨hx, hb, hml, hown, hts, hK, hN, hT, hA, hn1, hn2⟩, hg⟩ := h
  refine (hg _ _ _ _).mpr (fun H locs ls hP hD hS hv => ?_)
  exact lv_tableIn hx hb d h1 h2 ho ht ((hg _ _ _ _).mp kk H locs ls hP hD hS hv)
theorem r_tableOut (h : Sem cc own nL R E g) {pc : Nat} {dflt lo hi : Int} {offs : Array Int} {len : Nat} {x : Int32} (tgt : Nat) (d : decode cc pc = .ok (.tableswitch dflt lo hi offs, len)) (h1 : x.toInt < lo ∨ hi < x.toInt) (ht : (pc : Int) + dflt = (tgt : Int)) (kk : g I tgt lv st) : g I pc lv (.int x :: st) := by
  obtain ⟨p, l, e, s, m, args, below, meth, c, A, Z, n1, n2, ⟨hx, hb, hml, hown, hts, hK, hN, hT, hA, hn1, hn2⟩, hg⟩ := h
  refine (hg _ _ _ _).mpr (fun H locs ls hP hD hS hv => ?_)
  exact lv_tableOut hx hb d h1 ht ((hg _ _ _ _).mp kk H locs ls hP hD hS hv)
theorem r_getI (h : Sem cc own nL R E g) {pc k ci N idx : Nat} {C : String} {T : u_T} (d : decode cc pc = .ok (.getfield idx, 3)) (hc : vwCl[ci]? = some (C, T, N)) (hin : ∀ w ∈ u_ws C T N, w ∈ TB) (j : Nat) (hj : j < N) (hw : Cond.fieldLink own idx (T j).1 (T j).2.1 (T j).2.2.1 ∈ TB) (hci : ci < 12) (hnf : j < nf ci) (hr : isr ci j = false) (hk : k < 184) (hkd : kd k = ci) (kk : g I (pc + 3) lv (.int (I k j) :: st)) : g I pc lv (.ref (E.1 k) :: st) := by
  obtain ⟨p, l, e, s, m, args, below, meth, c, A, Z, n1, n2, ⟨hx, hb, hml, hown, hts, hK, hN, hT, hA, hn1, hn2⟩, hg⟩ := h
  have kk := (hg _ _ _ _).mp kk
  refine (hg _ _ _ _).mpr (fun H locs ls hP hD hS hv => ?_)
  exact va_get hx hb hts hin hown hK hP k ((wl_get E I hk).trans (by rw [ent_obj E I hkd hci])) hc j hj (hts _ hw) (fun _ h9 => h9) (flds_int E I k hnf hr) d (kk H locs ls hP hD hS hv)
theorem r_getR (h : Sem cc own nL R E g) {pc k ci N idx : Nat} {C : String} {T : u_T} (d : decode cc pc = .ok (.getfield idx, 3)) (hc : vwCl[ci]? = some (C, T, N)) (hin : ∀ w ∈ u_ws C T N, w ∈ TB) (j : Nat) (hj : j < N) (hw : Cond.fieldLink own idx (T j).1 (T j).2.1 (T j).2.2.1 ∈ TB) (hci : ci < 12) (hnf : j < nf ci) (hr : isr ci j = true) (hk : k < 184) (hkd : kd k = ci) (kk : g I (pc + 3) lv (.ref (E.1 (rf k j)) :: st)) : g I pc lv (.ref (E.1 k) :: st) := by
  obtain ⟨p, l, e, s, m, args, below, meth, c, A, Z, n1, n2, ⟨hx, hb, hml, hown, hts, hK, hN, hT, hA, hn1, hn2⟩, hg⟩ := h
  have kk := (hg _ _ _ _).mp kk
  refine (hg _ _ _ _).mpr (fun H locs ls hP hD hS hv => ?_)
  exact va_get hx hb hts hin hown hK hP k ((wl_get E I hk).trans (by rw [ent_obj E I hkd hci])) hc j hj (hts _ hw) (fun _ h9 => h9) (flds_ref E I k hnf hr) d (kk H locs ls hP hD hS hv)
theorem r_put (h : Sem cc own nL R E g) {pc k ci N idx : Nat} {C : String} {T : u_T} (d : decode cc pc = .ok (.putfield idx, 3)) (hc : vwCl[ci]? = some (C, T, N)) (hin : ∀ w ∈ u_ws C T N, w ∈ TB) {ty0 : Nat → FieldType} (hty : ∀ k, k < N → parseFieldDescriptor (T k).2.2.1 = some (ty0 k)) (hnm : ∀ a, a < N → ∀ b, b < N → a ≠ b → (T a).2.1 ≠ (T b).2.1) (j : Nat) (hj : j < N) (hw : Cond.fieldLink own idx (T j).1 (T j).2.1 (T j).2.2.1 ∈ TB) (hfin : (T j).2.2.2 = false) {ty : FieldType} (hd : parseFieldDescriptor (T j).2.2.1 = some ty) (hci : ci < 12) (hnf : j < nf ci) (hr : isr ci j = false) {v : Int32} (hn : narrow ty (.int v) = .int v) (hfit : fits ty (.int v) = true) (hk : k < 184) (hkd : kd k = ci) (kk : g (upm I k j v) (pc + 3) lv st) : g I pc lv (.int v :: .ref (E.1 k) :: st) := by
  obtain ⟨p, l, e, s, m, args, below, meth, c, A, Z, n1, n2, ⟨hx, hb, hml, hown, hts, hK, hN, hT, hA, hn1, hn2⟩, hg⟩ := h
  have kk := (hg _ _ _ _).mp kk
  refine (hg _ _ _ _).mpr (fun H locs ls hP hD hS hv => ?_)
  refine va_put hx hb hts hin ty0 hty hnm hown hK hP hD hS k ((wl_get E I hk).trans (by rw [ent_obj E I hkd hci])) hc j hj (hts _ hw) (fun _ h9 => h9) hfin hd hn hfit (by rw [flds_len]; exact hnf) d (fun H1 locs1 hP1 hD1 hS1 => ?_)
  rw [wl_put E I v hkd hci hr] at hP1 hD1
  exact kk H1 locs1 ls hP1 hD1 hS1 hv
theorem r_getIN (h : Sem cc own nL R E g) {pc k ci N idx : Nat} {C : String} {T : u_T} {host : String} (d : decode cc pc = .ok (.getfield idx, 3)) (hc : vwCl[ci]? = some (C, T, N)) (hin : ∀ w ∈ u_ws C T N, w ∈ TB) (j : Nat) (hj : j < N) (hw : Cond.fieldLinkNest own idx (T j).1 (T j).2.1 (T j).2.2.1 host ∈ nestW) (hci : ci < 12) (hnf : j < nf ci) (hr : isr ci j = false) (hk : k < 184) (hkd : kd k = ci) (kk : g I (pc + 3) lv (.int (I k j) :: st)) : g I pc lv (.ref (E.1 k) :: st) := by
  obtain ⟨p, l, e, s, m, args, below, meth, c, A, Z, n1, n2, ⟨hx, hb, hml, hown, hts, hK, hN, hT, hA, hn1, hn2⟩, hg⟩ := h
  have kk := (hg _ _ _ _).mp kk
  refine (hg _ _ _ _).mpr (fun H locs ls hP hD hS hv => ?_)
  exact va_getN hx hb hts hin hown hK hP k ((wl_get E I hk).trans (by rw [ent_obj E I hkd hci])) hc j hj (va_Nw.use rfl (hN _ hw)) (fun _ h9 => h9) (flds_int E I k hnf hr) d (kk H locs ls hP hD hS hv)
theorem r_getRN (h : Sem cc own nL R E g) {pc k ci N idx : Nat} {C : String} {T : u_T} {host : String} (d : decode cc pc = .ok (.getfield idx, 3)) (hc : vwCl[ci]? = some (C, T, N)) (hin : ∀ w ∈ u_ws C T N, w ∈ TB) (j : Nat) (hj : j < N) (hw : Cond.fieldLinkNest own idx (T j).1 (T j).2.1 (T j).2.2.1 host ∈ nestW) (hci : ci < 12) (hnf : j < nf ci) (hr : isr ci j = true) (hk : k < 184) (hkd : kd k = ci) (kk : g I (pc + 3) lv (.ref (E.1 (rf k j)) :: st)) : g I pc lv (.ref (E.1 k) :: st) := by
  obtain ⟨p, l, e, s, m, args, below, meth, c, A, Z, n1, n2, ⟨hx, hb, hml, hown, hts, hK, hN, hT, hA, hn1, hn2⟩, hg⟩ := h
  have kk := (hg _ _ _ _).mp kk
  refine (hg _ _ _ _).mpr (fun H locs ls hP hD hS hv => ?_)
  exact va_getN hx hb hts hin hown hK hP k ((wl_get E I hk).trans (by rw [ent_obj E I hkd hci])) hc j hj (va_Nw.use rfl (hN _ hw)) (fun _ h9 => h9) (flds_ref E I k hnf hr) d (kk H locs ls hP hD hS hv)
theorem r_putN (h : Sem cc own nL R E g) {pc k ci N idx : Nat} {C : String} {T : u_T} {host : String} (d : decode cc pc = .ok (.putfield idx, 3)) (hc : vwCl[ci]? = some (C, T, N)) (hin : ∀ w ∈ u_ws C T N, w ∈ TB) {ty0 : Nat → FieldType} (hty : ∀ k, k < N → parseFieldDescriptor (T k).2.2.1 = some (ty0 k)) (hnm : ∀ a, a < N → ∀ b, b < N → a ≠ b → (T a).2.1 ≠ (T b).2.1) (j : Nat) (hj : j < N) (hw : Cond.fieldLinkNest own idx (T j).1 (T j).2.1 (T j).2.2.1 host ∈ nestW) (hfin : (T j).2.2.2 = false) {ty : FieldType} (hd : parseFieldDescriptor (T j).2.2.1 = some ty) (hci : ci < 12) (hnf : j < nf ci) (hr : isr ci j = false) {v : Int32} (hn : narrow ty (.int v) = .int v) (hfit : fits ty (.int v) = true) (hk : k < 184) (hkd : kd k = ci) (kk : g (upm I k j v) (pc + 3) lv st) : g I pc lv (.int v :: .ref (E.1 k) :: st) := by
  obtain ⟨p, l, e, s, m, args, below, meth, c, A, Z, n1, n2, ⟨hx, hb, hml, hown, hts, hK, hN, hT, hA, hn1, hn2⟩, hg⟩ := h
  have kk := (hg _ _ _ _).mp kk
  refine (hg _ _ _ _).mpr (fun H locs ls hP hD hS hv => ?_)
  refine va_putN hx hb hts hin ty0 hty hnm hown hK hP hD hS k ((wl_get E I hk).trans (by rw [ent_obj E I hkd hci])) hc j hj (va_Nw.use rfl (hN _ hw)) (fun _ h9 => h9) hfin hd hn hfit (by rw [flds_len]; exact hnf) d (fun H1 locs1 hP1 hD1 hS1 => ?_)
  rw [wl_put E I v hkd hci hr] at hP1 hD1
  exact kk H1 locs1 ls hP1 hD1 hS1 hv
theorem r_iald (h : Sem cc own nL R E g) {pc k : Nat} {i : Int32} (d : decode cc pc = .ok (.iaload, 1)) (hk : k < 184) (hkd : kd k = 12) (hin : vp_in i (ln k)) (kk : g I (pc + 1) lv (.int (I k i.toNatClampNeg) :: st)) : g I pc lv (.int i :: .ref (E.1 k) :: st) := by
  obtain ⟨p, l, e, s, m, args, below, meth, c, A, Z, n1, n2, ⟨hx, hb, hml, hown, hts, hK, hN, hT, hA, hn1, hn2⟩, hg⟩ := h
  have kk := (hg _ _ _ _).mp kk
  refine (hg _ _ _ _).mpr (fun H locs ls hP hD hS hv => ?_)
  exact va_iald hx hb hK hP k 0 ((wl_get E I hk).trans (by rw [ent_int E I hkd])) rfl hin d (kk H locs ls hP hD hS hv)
theorem r_zald (h : Sem cc own nL R E g) {pc k : Nat} {i : Int32} (d : decode cc pc = .ok (.baload, 1)) (hk : k < 184) (hkd : kd k = 13) (hin : vp_in i (ln k)) (kk : g I (pc + 1) lv (.int (I k i.toNatClampNeg) :: st)) : g I pc lv (.int i :: .ref (E.1 k) :: st) := by
  obtain ⟨p, l, e, s, m, args, below, meth, c, A, Z, n1, n2, ⟨hx, hb, hml, hown, hts, hK, hN, hT, hA, hn1, hn2⟩, hg⟩ := h
  have kk := (hg _ _ _ _).mp kk
  refine (hg _ _ _ _).mpr (fun H locs ls hP hD hS hv => ?_)
  exact va_zald hx hb hK hP k 1 ((wl_get E I hk).trans (by rw [ent_boo E I hkd])) rfl hin d (kk H locs ls hP hD hS hv)
theorem r_iast (h : Sem cc own nL R E g) {pc k : Nat} {i x : Int32} (d : decode cc pc = .ok (.iastore, 1)) (hk : k < 184) (hkd : kd k = 12) (hin : vp_in i (ln k)) (kk : g (upm I k i.toNatClampNeg x) (pc + 1) lv st) : g I pc lv (.int x :: .int i :: .ref (E.1 k) :: st) := by
  obtain ⟨p, l, e, s, m, args, below, meth, c, A, Z, n1, n2, ⟨hx, hb, hml, hown, hts, hK, hN, hT, hA, hn1, hn2⟩, hg⟩ := h
  have kk := (hg _ _ _ _).mp kk
  refine (hg _ _ _ _).mpr (fun H locs ls hP hD hS hv => ?_)
  refine va_iast hx hb hK hP hD hS k 0 ((wl_get E I hk).trans (by rw [ent_int E I hkd])) rfl hin d (fun H1 locs1 hP1 hD1 hS1 => ?_)
  rw [wl_ast E I x hkd] at hP1 hD1
  exact kk H1 locs1 ls hP1 hD1 hS1 hv
theorem r_zast (h : Sem cc own nL R E g) {pc k : Nat} {i x : Int32} (d : decode cc pc = .ok (.bastore, 1)) (hk : k < 184) (hkd : kd k = 13) (hin : vp_in i (ln k)) (hx01 : vp_nar .boolean x = x) (kk : g (upm I k i.toNatClampNeg x) (pc + 1) lv st) : g I pc lv (.int x :: .int i :: .ref (E.1 k) :: st) := by
  obtain ⟨p, l, e, s, m, args, below, meth, c, A, Z, n1, n2, ⟨hx, hb, hml, hown, hts, hK, hN, hT, hA, hn1, hn2⟩, hg⟩ := h
  have kk := (hg _ _ _ _).mp kk
  refine (hg _ _ _ _).mpr (fun H locs ls hP hD hS hv => ?_)
  refine va_zast hx hb hK hP hD hS k 1 ((wl_get E I hk).trans (by rw [ent_boo E I hkd])) rfl hin d (fun H1 locs1 hP1 hD1 hS1 => ?_)
  rw [hx01, wl_zst E I x hkd] at hP1 hD1
  exact kk H1 locs1 ls hP1 hD1 hS1 hv
theorem r_aald (h : Sem cc own nL R E g) {pc k ci : Nat} {C : String} {i : Int32} (d : decode cc pc = .ok (.aaload, 1)) (t0 : Nat) (ht : (tys E)[t0]? = some (E.2.2.1 ci, .object C)) (hci : 13 < ci) (hk : k < 184) (hkd : kd k = ci) (hin : vp_in i (ln k)) (kk : g I (pc + 1) lv (.ref (E.1 (rf k i.toNatClampNeg)) :: st)) : g I pc lv (.int i :: .ref (E.1 k) :: st) := by
  obtain ⟨p, l, e, s, m, args, below, meth, c, A, Z, n1, n2, ⟨hx, hb, hml, hown, hts, hK, hN, hT, hA, hn1, hn2⟩, hg⟩ := h
  have kk := (hg _ _ _ _).mp kk
  refine (hg _ _ _ _).mpr (fun H locs ls hP hD hS hv => ?_)
  exact va_aldq (f := fun j => some (E.1 (rf k j))) hx hb hK hP k t0 ((wl_get E I hk).trans (by rw [ent_ref E I hkd hci])) ht hin d (kk H locs ls hP hD hS hv)
theorem r_aaldA (h : Sem cc own nL R E g) {pc k : Nat} {i : Int32} (d : decode cc pc = .ok (.aaload, 1)) (hk : k < 184) (hkd : kd k = 20) (hin : vp_in i (ln k)) (kk : g I (pc + 1) lv (.ref (E.1 (rf k i.toNatClampNeg)) :: st)) : g I pc lv (.int i :: .ref (E.1 k) :: st) := by
  obtain ⟨p, l, e, s, m, args, below, meth, c, A, Z, n1, n2, ⟨hx, hb, hml, hown, hts, hK, hN, hT, hA, hn1, hn2⟩, hg⟩ := h
  have kk := (hg _ _ _ _).mp kk
  refine (hg _ _ _ _).mpr (fun H locs ls hP hD hS hv => ?_)
  have hlt : i.toNatClampNeg < ln k := Nat.not_le.mp fun q => hin (Or.inr q)
  have ha : (wl E I)[k]? = some (E.1 k, .inl (E.2.2.1 20, ln k, .inr (.inr (.inr (.inr (fun j => some (E.1 (rf k j)))))))) := (wl_get E I hk).trans (by rw [ent_ref E I hkd (by decide)])
  exact W.aald (v := .ref (E.1 (rf k i.toNatClampNeg))) (ty := .array .int) hx hb (hP k _ ha) ((hK.2 8 _ rfl).1 (ln k) (fun j => va_rf (some (E.1 (rf k j))))) rfl (fun q => by cases q) (by show ¬ (i < 0 ∨ (arrV _ _ _).slots.size ≤ _); rw [arrV_size]; exact hin) (by show (arrV _ _ _).slots[_]? = _; rw [arrV_read _ _ hlt]; rfl) rfl rfl d (kk H locs ls hP hD hS hv)
theorem r_alen (h : Sem cc own nL R E g) {pc k : Nat} {v : Int32} (d : decode cc pc = .ok (.arraylength, 1)) (hk : k < 184) (hkd : kd k = 12) (hn : Int32.ofNat (ln k) = v) (kk : g I (pc + 1) lv (.int v :: st)) : g I pc lv (.ref (E.1 k) :: st) := by
  obtain ⟨p, l, e, s, m, args, below, meth, c, A, Z, n1, n2, ⟨hx, hb, hml, hown, hts, hK, hN, hT, hA, hn1, hn2⟩, hg⟩ := h
  have kk := (hg _ _ _ _).mp kk
  refine (hg _ _ _ _).mpr (fun H locs ls hP hD hS hv => ?_)
  exact va_alen hx hb hK hP k 0 ((wl_get E I hk).trans (by rw [ent_int E I hkd])) rfl hn d (kk H locs ls hP hD hS hv)
/-- what is known of a method that is called -/
def CaV (y : MethodName) (cc : ByteArray) (nL : Nat) (rt : Option FieldType) (C : String) (n : Nat) : Prop := Cond.code y cc nL rt ∈ TB ∧ Cond.initialized y.cls ∈ TB ∧ Cond.instanceMethod y ∈ TB ∧ Cond.selects C y y ∈ TB ∧ (y.cls ≠ "java/lang/invoke/MethodHandle" ∧ y.cls ≠ "java/lang/invoke/VarHandle" ∧ (parseMethodDescriptor y.desc).map (fun d => d.parameters.length) = some n)
def CaS (y : MethodName) (cc : ByteArray) (nL : Nat) (rt : Option FieldType) (n : Nat) : Prop := Cond.code y cc nL rt ∈ TB ∧ Cond.initialized y.cls ∈ TB ∧ Cond.static y ∈ TB ∧ (y.cls ≠ "java/lang/invoke/MethodHandle" ∧ y.cls ≠ "java/lang/invoke/VarHandle" ∧ (parseMethodDescriptor y.desc).map (fun d => d.parameters.length) = some n)
theorem r_callV (h : Sem cc own nL R E g) {pc k ci N idx nL' d' n : Nat} {y : MethodName} {cc' : ByteArray} {rt : Option FieldType} {C : String} {T : u_T} {As stk : List Value} {Q : Option Value → Mem → Prop} (d : decode cc pc = .ok (.invokevirtual idx, 3)) (hw : Cond.methodLink own idx y ∈ TB) (hca : CaV y cc' nL' rt C n) (hc : vwCl[ci]? = some (C, T, N)) (hC : Ctr E y cc' nL' rt d' (.ref (E.1 k) :: As) I Q) (hn : As.length = n) (hstk : stk = As.reverse ++ .ref (E.1 k) :: st) (hcat : (st.map fun v => v.category).sum ≤ 8) (hR : d' + 1 ≤ R.frames ∧ 8 + (nL' + 11) + 64 * d' ≤ R.locals) (hci : ci < 12) (hk : k < 184) (hkd : kd k = ci) (kk : ∀ (v : Option Value) (I1 : Mem), Q v I1 → g I1 (pc + 3) lv (v.toList ++ st)) : g I pc lv stk := by
  obtain ⟨p, l, e, s, m, args, below, meth, c, A, Z, n1, n2, ⟨hx, hb, hml, hown, hts, hK, hN, hT, hA, hn1, hn2⟩, hg⟩ := h
  refine (hg _ _ _ _).mpr (fun H locs ls hP hD hS hv => ?_)
  obtain ⟨c1, c2, c3, c4, c5⟩ := hca
  refine after_call (va_runV (As := As) (rest := st) (Ts := TB) ⟨hx, hb, hml, hown, hts⟩ (hC l H.size) ⟨callB_of n hts (tb_code c1) rfl rfl rfl (hts _ c2) (hts _ hw) c5 hR, hts _ c3, hts _ c4⟩ ⟨pre_blind _ E I H.size, va_recv hK hP (ci := ci) (q0 := k) (q := (C, T, N)) hc ((wl_get E I hk).trans (by rw [ent_obj E I hkd hci])), fun U hU hW => ⟨rfl, pre_at hK hN hT hA hP hD hS hU hW⟩⟩ rfl hn hv.1 hstk (lv_room hcat) d ⟨hn1, hn2⟩) hD hS hA (fun v I1 H1 locs1 hQ hP1 hD1 hS1 => ?_)
  exact (hg _ _ _ _).mp (kk v I1 hQ) H1 locs1 ls hP1 hD1 hS1 hv
theorem r_callS (h : Sem cc own nL R E g) {pc idx nL' d' n : Nat} {y : MethodName} {cc' : ByteArray} {rt : Option FieldType} {As stk : List Value} {Q : Option Value → Mem → Prop} (d : decode cc pc = .ok (.invokestatic idx, 3)) (hw : Cond.methodLink own idx y ∈ TB) (hca : CaS y cc' nL' rt n) (hC : Ctr E y cc' nL' rt d' As I Q) (hn : As.length = n) (hstk : stk = As.reverse ++ st) (hcat : (st.map fun v => v.category).sum ≤ 8) (hR : d' + 1 ≤ R.frames ∧ 8 + (nL' + 11) + 64 * d' ≤ R.locals) (kk : ∀ (v : Option Value) (I1 : Mem), Q v I1 → g I1 (pc + 3) lv (v.toList ++ st)) : g I pc lv stk := by
  obtain ⟨p, l, e, s, m, args, below, meth, c, A, Z, n1, n2, ⟨hx, hb, hml, hown, hts, hK, hN, hT, hA, hn1, hn2⟩, hg⟩ := h
  refine (hg _ _ _ _).mpr (fun H locs ls hP hD hS hv => ?_)
  obtain ⟨c1, c2, c3, c5⟩ := hca
  refine after_call (va_runS (As := As) (rest := st) (Ts := TB) ⟨hx, hb, hml, hown, hts⟩ (hC l H.size) ⟨callB_of n hts (tb_code c1) rfl rfl rfl (hts _ c2) (hts _ hw) c5 hR, hts _ c3⟩ ⟨pre_blind _ E I H.size, fun U hU hW => ⟨rfl, pre_at hK hN hT hA hP hD hS hU hW⟩⟩ rfl hn hv.1 hstk (lv_room hcat) d ⟨hn1, hn2⟩) hD hS hA (fun v I1 H1 locs1 hQ hP1 hD1 hS1 => ?_)
  exact (hg _ _ _ _).mp (kk v I1 hQ) H1 locs1 ls hP1 hD1 hS1 hv
theorem r_callSN (h : Sem cc own nL R E g) {pc idx nL' d' n : Nat} {host : String} {y : MethodName} {cc' : ByteArray} {rt : Option FieldType} {As stk : List Value} {Q : Option Value → Mem → Prop} (d : decode cc pc = .ok (.invokestatic idx, 3)) (hw : Cond.methodLinkNest own idx y host ∈ nestW) (hca : CaS y cc' nL' rt n) (hC : Ctr E y cc' nL' rt d' As I Q) (hn : As.length = n) (hstk : stk = As.reverse ++ st) (hcat : (st.map fun v => v.category).sum ≤ 8) (hR : d' + 1 ≤ R.frames ∧ 8 + (nL' + 11) + 64 * d' ≤ R.locals) (kk : ∀ (v : Option Value) (I1 : Mem), Q v I1 → g I1 (pc + 3) lv (v.toList ++ st)) : g I pc lv stk := by
  obtain ⟨p, l, e, s, m, args, below, meth, c, A, Z, n1, n2, ⟨hx, hb, hml, hown, hts, hK, hN, hT, hA, hn1, hn2⟩, hg⟩ := h
  refine (hg _ _ _ _).mpr (fun H locs ls hP hD hS hv => ?_)
  obtain ⟨c1, c2, c3, c5⟩ := hca
  refine after_call (va_runSN (As := As) (rest := st) (Ts := TB) ⟨hx, hb, hml, hown, hts⟩ (hC l H.size) ⟨va_cnB n hts (tb_code c1) rfl rfl rfl (hN _ hw) (hts _ c2) c5 hR, hts _ c3, trivial⟩ ⟨pre_blind _ E I H.size, fun U hU hW => ⟨rfl, pre_at hK hN hT hA hP hD hS hU hW⟩⟩ rfl hn hv.1 hstk (lv_room hcat) d ⟨hn1, hn2⟩) hD hS hA (fun v I1 H1 locs1 hQ hP1 hD1 hS1 => ?_)
  exact (hg _ _ _ _).mp (kk v I1 hQ) H1 locs1 ls hP1 hD1 hS1 hv
theorem r_callVI (h : Sem cc own nL R E g) {pc k ci N idx nL' d' n : Nat} {C : String} {T : u_T} {y : MethodName} {cc' : ByteArray} {rt : Option FieldType} {As stk : List Value} {Q : Int32 → Mem → Prop} (d : decode cc pc = .ok (.invokevirtual idx, 3)) (hw : Cond.methodLink own idx y ∈ TB) (hca : CaV y cc' nL' rt C n) (hc : vwCl[ci]? = some (C, T, N)) (hC : Ctr E y cc' nL' rt d' (.ref (E.1 k) :: As) I (qI Q)) (hn : As.length = n) (hstk : stk = As.reverse ++ .ref (E.1 k) :: st) (hcat : (st.map fun v => v.category).sum ≤ 8) (hR : d' + 1 ≤ R.frames ∧ 8 + (nL' + 11) + 64 * d' ≤ R.locals) (hci : ci < 12) (hk : k < 184) (hkd : kd k = ci) (kk : ∀ (r : Int32) (I1 : Mem), Q r I1 → g I1 (pc + 3) lv (.int r :: st)) : g I pc lv stk :=
  r_callV h d hw hca hc hC hn hstk hcat hR hci hk hkd (fun v I1 q => by
    obtain ⟨r, rfl, hq⟩ := q
    exact kk r I1 hq)
theorem r_callVV (h : Sem cc own nL R E g) {pc k ci N idx nL' d' n : Nat} {C : String} {T : u_T} {y : MethodName} {cc' : ByteArray} {rt : Option FieldType} {As stk : List Value} {Q : Mem → Prop} (d : decode cc pc = .ok (.invokevirtual idx, 3)) (hw : Cond.methodLink own idx y ∈ TB) (hca : CaV y cc' nL' rt C n) (hc : vwCl[ci]? = some (C, T, N)) (hC : Ctr E y cc' nL' rt d' (.ref (E.1 k) :: As) I (qV Q)) (hn : As.length = n) (hstk : stk = As.reverse ++ .ref (E.1 k) :: st) (hcat : (st.map fun v => v.category).sum ≤ 8) (hR : d' + 1 ≤ R.frames ∧ 8 + (nL' + 11) + 64 * d' ≤ R.locals) (hci : ci < 12) (hk : k < 184) (hkd : kd k = ci) (kk : ∀ (I1 : Mem), Q I1 → g I1 (pc + 3) lv (st)) : g I pc lv stk :=
  r_callV h d hw hca hc hC hn hstk hcat hR hci hk hkd (fun v I1 q => by
    obtain ⟨rfl, hq⟩ := q
    exact kk I1 hq)
theorem r_callSI (h : Sem cc own nL R E g) {pc idx nL' d' n : Nat} {y : MethodName} {cc' : ByteArray} {rt : Option FieldType} {As stk : List Value} {Q : Int32 → Mem → Prop} (d : decode cc pc = .ok (.invokestatic idx, 3)) (hw : Cond.methodLink own idx y ∈ TB) (hca : CaS y cc' nL' rt n) (hC : Ctr E y cc' nL' rt d' As I (qI Q)) (hn : As.length = n) (hstk : stk = As.reverse ++ st) (hcat : (st.map fun v => v.category).sum ≤ 8) (hR : d' + 1 ≤ R.frames ∧ 8 + (nL' + 11) + 64 * d' ≤ R.locals) (kk : ∀ (r : Int32) (I1 : Mem), Q r I1 → g I1 (pc + 3) lv (.int r :: st)) : g I pc lv stk :=
  r_callS h d hw hca hC hn hstk hcat hR (fun v I1 q => by
    obtain ⟨r, rfl, hq⟩ := q
    exact kk r I1 hq)
theorem r_callSV (h : Sem cc own nL R E g) {pc idx nL' d' n : Nat} {y : MethodName} {cc' : ByteArray} {rt : Option FieldType} {As stk : List Value} {Q : Mem → Prop} (d : decode cc pc = .ok (.invokestatic idx, 3)) (hw : Cond.methodLink own idx y ∈ TB) (hca : CaS y cc' nL' rt n) (hC : Ctr E y cc' nL' rt d' As I (qV Q)) (hn : As.length = n) (hstk : stk = As.reverse ++ st) (hcat : (st.map fun v => v.category).sum ≤ 8) (hR : d' + 1 ≤ R.frames ∧ 8 + (nL' + 11) + 64 * d' ≤ R.locals) (kk : ∀ (I1 : Mem), Q I1 → g I1 (pc + 3) lv (st)) : g I pc lv stk :=
  r_callS h d hw hca hC hn hstk hcat hR (fun v I1 q => by
    obtain ⟨rfl, hq⟩ := q
    exact kk I1 hq)
theorem r_callSL (h : Sem cc own nL R E g) {pc idx nL' d' n : Nat} {y : MethodName} {cc' : ByteArray} {rt : Option FieldType} {As stk : List Value} {Q : Int64 → Mem → Prop} (d : decode cc pc = .ok (.invokestatic idx, 3)) (hw : Cond.methodLink own idx y ∈ TB) (hca : CaS y cc' nL' rt n) (hC : Ctr E y cc' nL' rt d' As I (qL Q)) (hn : As.length = n) (hstk : stk = As.reverse ++ st) (hcat : (st.map fun v => v.category).sum ≤ 8) (hR : d' + 1 ≤ R.frames ∧ 8 + (nL' + 11) + 64 * d' ≤ R.locals) (kk : ∀ (r : Int64) (I1 : Mem), Q r I1 → g I1 (pc + 3) lv (.long r :: st)) : g I pc lv stk :=
  r_callS h d hw hca hC hn hstk hcat hR (fun v I1 q => by
    obtain ⟨r, rfl, hq⟩ := q
    exact kk r I1 hq)
theorem r_callSNI (h : Sem cc own nL R E g) {pc idx nL' d' n : Nat} {host : String} {y : MethodName} {cc' : ByteArray} {rt : Option FieldType} {As stk : List Value} {Q : Int32 → Mem → Prop} (d : decode cc pc = .ok (.invokestatic idx, 3)) (hw : Cond.methodLinkNest own idx y host ∈ nestW) (hca : CaS y cc' nL' rt n) (hC : Ctr E y cc' nL' rt d' As I (qI Q)) (hn : As.length = n) (hstk : stk = As.reverse ++ st) (hcat : (st.map fun v => v.category).sum ≤ 8) (hR : d' + 1 ≤ R.frames ∧ 8 + (nL' + 11) + 64 * d' ≤ R.locals) (kk : ∀ (r : Int32) (I1 : Mem), Q r I1 → g I1 (pc + 3) lv (.int r :: st)) : g I pc lv stk :=
  r_callSN h d hw hca hC hn hstk hcat hR (fun v I1 q => by
    obtain ⟨r, rfl, hq⟩ := q
    exact kk r I1 hq)
theorem r_callSNV (h : Sem cc own nL R E g) {pc idx nL' d' n : Nat} {host : String} {y : MethodName} {cc' : ByteArray} {rt : Option FieldType} {As stk : List Value} {Q : Mem → Prop} (d : decode cc pc = .ok (.invokestatic idx, 3)) (hw : Cond.methodLinkNest own idx y host ∈ nestW) (hca : CaS y cc' nL' rt n) (hC : Ctr E y cc' nL' rt d' As I (qV Q)) (hn : As.length = n) (hstk : stk = As.reverse ++ st) (hcat : (st.map fun v => v.category).sum ≤ 8) (hR : d' + 1 ≤ R.frames ∧ 8 + (nL' + 11) + 64 * d' ≤ R.locals) (kk : ∀ (I1 : Mem), Q I1 → g I1 (pc + 3) lv (st)) : g I pc lv stk :=
  r_callSN h d hw hca hC hn hstk hcat hR (fun v I1 q => by
    obtain ⟨rfl, hq⟩ := q
    exact kk I1 hq)
end GR
def b2i (p : Prop) [Decidable p] : Int32 := if p then 1 else 0
theorem b2i_t {p : Prop} [Decidable p] (h : p) : b2i p = 1 := by simp [b2i, h]
theorem b2i_f {p : Prop} [Decidable p] (h : ¬ p) : b2i p = 0 := by simp [b2i, h]
theorem b2i_eq0 {p : Prop} [Decidable p] : b2i p = 0 ↔ ¬ p := by by_cases h : p <;> simp [b2i, h]
theorem b2i_eq1 {p : Prop} [Decidable p] : b2i p = 1 ↔ p := by by_cases h : p <;> simp [b2i, h]
theorem eq0_b2i {p : Prop} [Decidable p] : 0 = b2i p ↔ ¬ p := by by_cases h : p <;> simp [b2i, h]
theorem eq1_b2i {p : Prop} [Decidable p] : 1 = b2i p ↔ p := by by_cases h : p <;> simp [b2i, h]
theorem b2i_nar {p : Prop} [Decidable p] : narrow .boolean (.int (b2i p)) = .int (b2i p) := by by_cases h : p <;> simp [b2i, h] <;> decide
theorem b2i_fit {p : Prop} [Decidable p] : fits .boolean (.int (b2i p)) = true := by by_cases h : p <;> simp [b2i, h] <;> decide
