/-! A WORLD THAT GROWS: n1 cells were made since the start, n2 slots; the next cell comes to sz + n1 -/
def ovC : List String := ["ThrowersBag$Aim", "ThrowersBag$Row", "ThrowersBag$Sheet", "ThrowersBag$Stick", "ThrowersBag$Tree", "ThrowersBag$Wind"]
def ovI (U : State) : Prop := (Cond.arrayOver (.array .int)).before #[] U = true
theorem ovI_moved {u U : State} (hvm : u.vm.Alike U.vm) (h : ovI u) : ovI U := by
  obtain ⟨comp, c, k, h1, h2, h3, h4, h5⟩ := arrayOverA_spec h
  obtain ⟨k', hk', he⟩ := hvm.2.2 _ _ h3
  have hi : (U.vm.classes.findIdx? fun (x : Class) => match x.kind with | .array component _ => component == comp | _ => false) = some c := by
    refine (va_idx_bare U.vm comp).symm.trans ?_
    first | rw [hvm.bare_eq] | rw [← hvm.bare_eq]
    exact (va_idx_bare u.vm comp).trans h2
  have hkind : k'.kind = .array comp (.array .int) := by rw [he]; exact h4
  have f1 : U.vm.findClass (FieldType.array .int).toString = some comp := by rw [hvm.findClass]; exact h1
  have f2 : U.vm.findClass ("[" ++ (FieldType.array .int).toString) = some c := by rw [hvm.findClass]; exact h5
  unfold ovI Cond.before Cond.holds
  simp only [Cond.value]
  rw [f1, Option.bind_some]
  refine (congrArg (fun o : Option Nat => (o.bind (fun c => (U.vm.classes[c]?).map fun (k : Class) => match k.kind with | .array _ ty => decide (ty = FieldType.array .int) && decide (U.vm.findClass ("[" ++ (FieldType.array .int).toString) = some c) | _ => false) == some true)) hi).trans ?_
  simp [hk', hkind, f2]
def OV (U : State) : Prop := (∀ C ∈ ovC, va_AO C U) ∧ ovI U
theorem OV.moved {u U : State} (hvm : u.vm.Alike U.vm) (h : OV u) : OV U := ⟨fun C hC => va_AO.moved hvm (h.1 C hC), ovI_moved hvm h.2⟩
def sinV (f : Nat → Int32) (j : Nat) : Value := .int (f j)
/-- the static row SINES -/
def SX (sn : Nat × (Nat → Int32)) (A : Nat → Prop) (U : State) (H : Heap) : Prop := va_Z "ThrowersBag" "SINES" "[I" (.ref sn.1) A U H ∧ va_T .int sn.1 91 (sinV sn.2) A U H
theorem SX.moved {sn : Nat × (Nat → Int32)} {A : Nat → Prop} {u U : State} {H : Heap} (hvm : u.vm.Alike U.vm) (h : SX sn A u H) : SX sn A U H := ⟨h.1.moved hvm, h.2.moved hvm⟩
theorem SX.kept {sn : Nat × (Nat → Int32)} {A : Nat → Prop} {U : State} {H H1 : Heap} (h : SX sn A U H) (hq : ∀ a : Nat, a < H.size → ¬ A a → H1[a]? = H[a]?) : SX sn A U H1 := ⟨h.1.kept hq, h.2.kept hq⟩
theorem SX.narrow {sn : Nat × (Nat → Int32)} {A B : Nat → Prop} {U : State} {H : Heap} (h : SX sn A U H) (hAB : ∀ q, B q → A q) : SX sn B U H := ⟨h.1.narrow hAB, h.2.narrow hAB⟩
abbrev SN : Type := Nat × (Nat → Int32)
abbrev WT : Type := va_W → Nat → Nat → Nat → LV → List Value → Prop
def rmC (d C S : Nat) : Room := { frames := d, cells := C, slots := S, locals := 64 * d }
def Smw (cc : ByteArray) (own : String) (nL : Nat) (R : Room) (E : En) (sn : SN) (sz : Nat) (mi : Bool) (g : WT) : Prop :=
  ∃ (p : Program) (l : Launch) (e : Env) (s : State) (m : MethodId) (args : Array Value) (below : List Frame) (meth : Method) (c : Code) (A : Nat → Prop) (Z : State → Prop),
    (p.tables.exec = Jvm.exec ∧ c.code = cc ∧ c.maxLocals = nL ∧ s.vm.findClass own = some m.cls ∧ (∀ w ∈ TB, w.before args s = true) ∧ va_K E.2.1 vwCl (tys E) s ∧ NW s ∧ OV s ∧ SX sn A s s.heap ∧ (∀ q, s.heap.size ≤ q → A q) ∧ s.heap.size = sz ∧ (mi = true → meth.name = "<init>")) ∧
    ∀ ws n1 n2 pc lv st, g ws n1 n2 pc lv st ↔ ∀ (H : Heap) (locs : List Loc) (ls : Array Slot), va_P E.2.1 vwCl ws H → va_D A ws → va_S A s.heap H locs → lv_has ls nL lv → W p l e R s m args below meth c H locs n1 n2 Z (F0 m pc ls st)
theorem W.le {p : Program} {l : Launch} {e : Env} {R : Room} {s : State} {m : MethodId} {args : Array Value} {below : List Frame} {meth : Method} {c : Code} {H : Heap} {locs : List Loc} {n1 n2 : Nat} {Z : State → Prop} {fr : JFrame} (kk : H.size ≤ s.heap.size + n1 → W p l e R s m args below meth c H locs n1 n2 Z fr) : W p l e R s m args below meth c H locs n1 n2 Z fr := by
  intro T hT X
  exact kk (by rw [← hT]; exact X.heapSize) T hT X
/-- the newest cell of the world -/
def topAt (ws : va_W) (sz n1 : Nat) : Prop := n1 = 0 ∨ ∃ (k : Nat) (x : va_E), ws[k]? = some (sz + n1 - 1, x)
theorem size_is {ws : va_W} {D : va_G} {cl : List vw_C} {A : Nat → Prop} {H0 H : Heap} {locs : List Loc} {sz n1 : Nat} (hz : H0.size = sz) (ht : topAt ws sz n1) (hP : va_P D cl ws H) (hS : va_S A H0 H locs) (hle : H.size ≤ H0.size + n1) : H.size = sz + n1 := by
  rcases ht with h | ⟨k, x, h⟩
  · have := hS.1
    omega
  · have h1 := (hP k _ h).lt
    have h2 : sz + n1 - 1 < H.size := h1
    omega
theorem ar_i : Cond.arrayClass .int ∈ TB := tb_at 101 (by decide +kernel) (by decide +kernel)
theorem ar_z : Cond.arrayClass .boolean ∈ TB := tb_at 274 (by decide +kernel) (by decide +kernel)
section GW
variable {cc : ByteArray} {own : String} {nL : Nat} {R : Room} {E : En} {sn : SN} {sz : Nat} {mi : Bool} {g : WT} {ws : va_W} {n1 n2 : Nat} {lv : LV} {st : List Value}
theorem w_sub (h : Smw cc own nL R E sn sz mi g) {pc : Nat} (lv' : LV) (hs : ∀ q ∈ lv', q ∈ lv) (kk : g ws n1 n2 pc lv' st) : g ws n1 n2 pc lv st := by
  obtain ⟨p, l, e, s, m, args, below, meth, c, A, Z, ⟨hx, hb, hml, hown, hts, hK, hN, hO, hX, hA, hz, hi0⟩, hg⟩ := h
  have kk := (hg _ _ _ _ _ _).mp kk
  refine (hg _ _ _ _ _ _).mpr (fun H locs ls hP hD hS hv => ?_)
  exact kk H locs ls hP hD hS ⟨hv.1, hv.2.1, fun q hq => hv.2.2 q (hs q hq)⟩
theorem w_to (h : Smw cc own nL R E sn sz mi g) {pc : Nat} (lv' : LV) (hs : ∀ q ∈ lv', lk lv q.1 = some q.2) (kk : g ws n1 n2 pc lv' st) : g ws n1 n2 pc lv st := w_sub h lv' (fun q hq => lk_mem (hs q hq)) kk
theorem w_iload_n (h : Smw cc own nL R E sn sz mi g) {pc : Nat} {k : Fin 4} {x : Int32} (d : decode cc pc = .ok (.iload_n k, 1)) (hl : lk lv k = some (.int x)) (kk : g ws n1 n2 (pc + 1) lv (.int x :: st)) : g ws n1 n2 pc lv (st) := by
  obtain ⟨p, l, e, s, m, args, below, meth, c, A, Z, ⟨hx, hb, hml, hown, hts, hK, hN, hO, hX, hA, hz, hi0⟩, hg⟩ := h
  have kk := (hg _ _ _ _ _ _).mp kk
  refine (hg _ _ _ _ _ _).mpr (fun H locs ls hP hD hS hv => ?_)
  exact lv_iload_n hx hb d rfl (lk_has hv hl) (kk H locs ls hP hD hS hv)
theorem w_iload (h : Smw cc own nL R E sn sz mi g) {pc : Nat} {k : Nat} {x : Int32} (d : decode cc pc = .ok (.iload k, 2)) (hl : lk lv k = some (.int x)) (kk : g ws n1 n2 (pc + 2) lv (.int x :: st)) : g ws n1 n2 pc lv (st) := by
  obtain ⟨p, l, e, s, m, args, below, meth, c, A, Z, ⟨hx, hb, hml, hown, hts, hK, hN, hO, hX, hA, hz, hi0⟩, hg⟩ := h
  have kk := (hg _ _ _ _ _ _).mp kk
  refine (hg _ _ _ _ _ _).mpr (fun H locs ls hP hD hS hv => ?_)
  exact lv_iload hx hb d (lk_has hv hl) (kk H locs ls hP hD hS hv)
theorem w_aload_n (h : Smw cc own nL R E sn sz mi g) {pc : Nat} {k : Fin 4} {x : Nat} (d : decode cc pc = .ok (.aload_n k, 1)) (hl : lk lv k = some (.ref x)) (kk : g ws n1 n2 (pc + 1) lv (.ref x :: st)) : g ws n1 n2 pc lv (st) := by
  obtain ⟨p, l, e, s, m, args, below, meth, c, A, Z, ⟨hx, hb, hml, hown, hts, hK, hN, hO, hX, hA, hz, hi0⟩, hg⟩ := h
  have kk := (hg _ _ _ _ _ _).mp kk
  refine (hg _ _ _ _ _ _).mpr (fun H locs ls hP hD hS hv => ?_)
  exact lv_aload_n hx hb d rfl (lk_has hv hl) (kk H locs ls hP hD hS hv)
theorem w_aload (h : Smw cc own nL R E sn sz mi g) {pc : Nat} {k : Nat} {x : Nat} (d : decode cc pc = .ok (.aload k, 2)) (hl : lk lv k = some (.ref x)) (kk : g ws n1 n2 (pc + 2) lv (.ref x :: st)) : g ws n1 n2 pc lv (st) := by
  obtain ⟨p, l, e, s, m, args, below, meth, c, A, Z, ⟨hx, hb, hml, hown, hts, hK, hN, hO, hX, hA, hz, hi0⟩, hg⟩ := h
  have kk := (hg _ _ _ _ _ _).mp kk
  refine (hg _ _ _ _ _ _).mpr (fun H locs ls hP hD hS hv => ?_)
  exact lv_aload hx hb d (lk_has hv hl) (kk H locs ls hP hD hS hv)
theorem w_iconst (h : Smw cc own nL R E sn sz mi g) {pc : Nat} {n : Int} {v : Int32} (d : decode cc pc = .ok (.iconst n, 1)) (hv2 : Int32.ofInt n = v) (kk : g ws n1 n2 (pc + 1) lv (.int v :: st)) : g ws n1 n2 pc lv (st) := by
  obtain ⟨p, l, e, s, m, args, below, meth, c, A, Z, ⟨hx, hb, hml, hown, hts, hK, hN, hO, hX, hA, hz, hi0⟩, hg⟩ := h
  have kk := (hg _ _ _ _ _ _).mp kk
  refine (hg _ _ _ _ _ _).mpr (fun H locs ls hP hD hS hv => ?_)
  exact lv_iconst hx hb d hv2 (kk H locs ls hP hD hS hv)
theorem w_bipush (h : Smw cc own nL R E sn sz mi g) {pc : Nat} {n : Int} {v : Int32} (d : decode cc pc = .ok (.bipush n, 2)) (hv2 : (Int8.ofInt n).toInt32 = v) (kk : g ws n1 n2 (pc + 2) lv (.int v :: st)) : g ws n1 n2 pc lv (st) := by
  obtain ⟨p, l, e, s, m, args, below, meth, c, A, Z, ⟨hx, hb, hml, hown, hts, hK, hN, hO, hX, hA, hz, hi0⟩, hg⟩ := h
  have kk := (hg _ _ _ _ _ _).mp kk
  refine (hg _ _ _ _ _ _).mpr (fun H locs ls hP hD hS hv => ?_)
  exact lv_bipush hx hb d hv2 (kk H locs ls hP hD hS hv)
theorem w_sipush (h : Smw cc own nL R E sn sz mi g) {pc : Nat} {n : Int} {v : Int32} (d : decode cc pc = .ok (.sipush n, 3)) (hv2 : (Int16.ofInt n).toInt32 = v) (kk : g ws n1 n2 (pc + 3) lv (.int v :: st)) : g ws n1 n2 pc lv (st) := by
  obtain ⟨p, l, e, s, m, args, below, meth, c, A, Z, ⟨hx, hb, hml, hown, hts, hK, hN, hO, hX, hA, hz, hi0⟩, hg⟩ := h
  have kk := (hg _ _ _ _ _ _).mp kk
  refine (hg _ _ _ _ _ _).mpr (fun H locs ls hP hD hS hv => ?_)
  exact lv_sipush hx hb d hv2 (kk H locs ls hP hD hS hv)
theorem w_ldc (h : Smw cc own nL R E sn sz mi g) {pc : Nat} {n : Nat} {v : Int32} (d : decode cc pc = .ok (.ldc n, 2)) (hw : Cond.constant own n v ∈ TB) (kk : g ws n1 n2 (pc + 2) lv (.int v :: st)) : g ws n1 n2 pc lv (st) := by
  obtain ⟨p, l, e, s, m, args, below, meth, c, A, Z, ⟨hx, hb, hml, hown, hts, hK, hN, hO, hX, hA, hz, hi0⟩, hg⟩ := h
  have kk := (hg _ _ _ _ _ _).mp kk
  refine (hg _ _ _ _ _ _).mpr (fun H locs ls hP hD hS hv => ?_)
  exact lv_ldc hx hb hown (hts _ hw) d (kk H locs ls hP hD hS hv)
theorem w_ldcw (h : Smw cc own nL R E sn sz mi g) {pc n : Nat} {v : Int32} (d : decode cc pc = .ok (.ldc_w n, 3)) (hw : Cond.constant own n v ∈ TB) (kk : g ws n1 n2 (pc + 3) lv (.int v :: st)) : g ws n1 n2 pc lv st := by
  obtain ⟨p, l, e, s, m, args, below, meth, c, A, Z, ⟨hx, hb, hml, hown, hts, hK, hN, hO, hX, hA, hz, hi0⟩, hg⟩ := h
  have kk := (hg _ _ _ _ _ _).mp kk
  refine (hg _ _ _ _ _ _).mpr (fun H locs ls hP hD hS hv => ?_)
  exact lv_ldcw hx hb hown (hts _ hw) d (kk H locs ls hP hD hS hv)
theorem w_dup (h : Smw cc own nL R E sn sz mi g) {pc : Nat} {v : Value} (d : decode cc pc = .ok (.dup, 1)) (hc : v.category = 1) (kk : g ws n1 n2 (pc + 1) lv (v :: v :: st)) : g ws n1 n2 pc lv (v :: st) := by
  obtain ⟨p, l, e, s, m, args, below, meth, c, A, Z, ⟨hx, hb, hml, hown, hts, hK, hN, hO, hX, hA, hz, hi0⟩, hg⟩ := h
  have kk := (hg _ _ _ _ _ _).mp kk
  refine (hg _ _ _ _ _ _).mpr (fun H locs ls hP hD hS hv => ?_)
  exact lv_dup hx hb d hc (kk H locs ls hP hD hS hv)
theorem w_iadd (h : Smw cc own nL R E sn sz mi g) {pc : Nat} {x y : Int32} (d : decode cc pc = .ok (.iadd, 1))  (kk : g ws n1 n2 (pc + 1) lv (.int (x + y) :: st)) : g ws n1 n2 pc lv (.int y :: .int x :: st) := by
  obtain ⟨p, l, e, s, m, args, below, meth, c, A, Z, ⟨hx, hb, hml, hown, hts, hK, hN, hO, hX, hA, hz, hi0⟩, hg⟩ := h
  have kk := (hg _ _ _ _ _ _).mp kk
  refine (hg _ _ _ _ _ _).mpr (fun H locs ls hP hD hS hv => ?_)
  exact lv_iadd hx hb d (kk H locs ls hP hD hS hv)
theorem w_isub (h : Smw cc own nL R E sn sz mi g) {pc : Nat} {x y : Int32} (d : decode cc pc = .ok (.isub, 1))  (kk : g ws n1 n2 (pc + 1) lv (.int (x - y) :: st)) : g ws n1 n2 pc lv (.int y :: .int x :: st) := by
  obtain ⟨p, l, e, s, m, args, below, meth, c, A, Z, ⟨hx, hb, hml, hown, hts, hK, hN, hO, hX, hA, hz, hi0⟩, hg⟩ := h
  have kk := (hg _ _ _ _ _ _).mp kk
  refine (hg _ _ _ _ _ _).mpr (fun H locs ls hP hD hS hv => ?_)
  exact lv_isub hx hb d (kk H locs ls hP hD hS hv)
theorem w_imul (h : Smw cc own nL R E sn sz mi g) {pc : Nat} {x y : Int32} (d : decode cc pc = .ok (.imul, 1))  (kk : g ws n1 n2 (pc + 1) lv (.int (x * y) :: st)) : g ws n1 n2 pc lv (.int y :: .int x :: st) := by
  obtain ⟨p, l, e, s, m, args, below, meth, c, A, Z, ⟨hx, hb, hml, hown, hts, hK, hN, hO, hX, hA, hz, hi0⟩, hg⟩ := h
  have kk := (hg _ _ _ _ _ _).mp kk
  refine (hg _ _ _ _ _ _).mpr (fun H locs ls hP hD hS hv => ?_)
  exact lv_imul hx hb d (kk H locs ls hP hD hS hv)
theorem w_ineg (h : Smw cc own nL R E sn sz mi g) {pc : Nat} {x : Int32} (d : decode cc pc = .ok (.ineg, 1))  (kk : g ws n1 n2 (pc + 1) lv (.int (-x) :: st)) : g ws n1 n2 pc lv (.int x :: st) := by
  obtain ⟨p, l, e, s, m, args, below, meth, c, A, Z, ⟨hx, hb, hml, hown, hts, hK, hN, hO, hX, hA, hz, hi0⟩, hg⟩ := h
  have kk := (hg _ _ _ _ _ _).mp kk
  refine (hg _ _ _ _ _ _).mpr (fun H locs ls hP hD hS hv => ?_)
  exact lv_ineg hx hb d (kk H locs ls hP hD hS hv)
theorem w_istore_n (h : Smw cc own nL R E sn sz mi g) {pc : Nat} {k : Fin 4} {x : Int32} (d : decode cc pc = .ok (.istore_n k, 1)) (hi : (k : Nat) < nL) (kk : g ws n1 n2 (pc + 1) (st1 lv k (.int x)) st) : g ws n1 n2 pc lv (.int x :: st) := by
  obtain ⟨p, l, e, s, m, args, below, meth, c, A, Z, ⟨hx, hb, hml, hown, hts, hK, hN, hO, hX, hA, hz, hi0⟩, hg⟩ := h
  have kk := (hg _ _ _ _ _ _).mp kk
  refine (hg _ _ _ _ _ _).mpr (fun H locs ls hP hD hS hv => ?_)
  exact lv_istore_n hx hb d rfl hv hi rfl (fun ls' hv' => kk H locs ls' hP hD hS hv')
theorem w_istore (h : Smw cc own nL R E sn sz mi g) {pc : Nat} {k : Nat} {x : Int32} (d : decode cc pc = .ok (.istore k, 2)) (hi : (k : Nat) < nL) (kk : g ws n1 n2 (pc + 2) (st1 lv k (.int x)) st) : g ws n1 n2 pc lv (.int x :: st) := by
  obtain ⟨p, l, e, s, m, args, below, meth, c, A, Z, ⟨hx, hb, hml, hown, hts, hK, hN, hO, hX, hA, hz, hi0⟩, hg⟩ := h
  have kk := (hg _ _ _ _ _ _).mp kk
  refine (hg _ _ _ _ _ _).mpr (fun H locs ls hP hD hS hv => ?_)
  exact lv_istore hx hb d hv hi rfl (fun ls' hv' => kk H locs ls' hP hD hS hv')
theorem w_astore_n (h : Smw cc own nL R E sn sz mi g) {pc : Nat} {k : Fin 4} {x : Nat} (d : decode cc pc = .ok (.astore_n k, 1)) (hi : (k : Nat) < nL) (kk : g ws n1 n2 (pc + 1) (st1 lv k (.ref x)) st) : g ws n1 n2 pc lv (.ref x :: st) := by
  obtain ⟨p, l, e, s, m, args, below, meth, c, A, Z, ⟨hx, hb, hml, hown, hts, hK, hN, hO, hX, hA, hz, hi0⟩, hg⟩ := h
  have kk := (hg _ _ _ _ _ _).mp kk
  refine (hg _ _ _ _ _ _).mpr (fun H locs ls hP hD hS hv => ?_)
  exact lv_astore_n hx hb d rfl hv hi rfl (fun ls' hv' => kk H locs ls' hP hD hS hv')
theorem w_astore (h : Smw cc own nL R E sn sz mi g) {pc : Nat} {k : Nat} {x : Nat} (d : decode cc pc = .ok (.astore k, 2)) (hi : (k : Nat) < nL) (kk : g ws n1 n2 (pc + 2) (st1 lv k (.ref x)) st) : g ws n1 n2 pc lv (.ref x :: st) := by
  obtain ⟨p, l, e, s, m, args, below, meth, c, A, Z, ⟨hx, hb, hml, hown, hts, hK, hN, hO, hX, hA, hz, hi0⟩, hg⟩ := h
  have kk := (hg _ _ _ _ _ _).mp kk
  refine (hg _ _ _ _ _ _).mpr (fun H locs ls hP hD hS hv => ?_)
  exact lv_astore hx hb d hv hi rfl (fun ls' hv' => kk H locs ls' hP hD hS hv')
theorem w_iinc (h : Smw cc own nL R E sn sz mi g) {pc : Nat} {k : Nat} {n : Int} {x v : Int32} (d : decode cc pc = .ok (.iinc k n, 3)) (hl : lk lv k = some (.int x)) (hi : k < nL) (hv2 : Int32.ofInt n = v) (kk : g ws n1 n2 (pc + 3) (st1 lv k (.int (x + v))) st) : g ws n1 n2 pc lv st := by
  obtain ⟨p, l, e, s, m, args, below, meth, c, A, Z, ⟨hx, hb, hml, hown, hts, hK, hN, hO, hX, hA, hz, hi0⟩, hg⟩ := h
  have kk := (hg _ _ _ _ _ _).mp kk
  refine (hg _ _ _ _ _ _).mpr (fun H locs ls hP hD hS hv => ?_)
  obtain ⟨j, hj⟩ := List.mem_iff_getElem?.mp (lk_mem hl)
  exact lv_iinc (v := x + v) hx hb d hv hj (by rw [hv2]) hi rfl (fun ls' hv' => kk H locs ls' hP hD hS hv')
theorem w_icmp_ge (h : Smw cc own nL R E sn sz mi g) {pc : Nat} {x y : Int32} {off : Int} (tgt : Nat) (d : decode cc pc = .ok (.if_icmp .ge off, 3)) (ht : (pc : Int) + off = (tgt : Int)) (kt : y ≤ x → g ws n1 n2 tgt lv st) (kf : ¬ y ≤ x → g ws n1 n2 (pc + 3) lv st) : g ws n1 n2 pc lv (.int y :: .int x :: st) := by
  obtain ⟨p, l, e, s, m, args, below, meth, c, A, Z, ⟨hx, hb, hml, hown, hts, hK, hN, hO, hX, hA, hz, hi0⟩, hg⟩ := h
  refine (hg _ _ _ _ _ _).mpr (fun H locs ls hP hD hS hv => ?_)
  exact lv_icmp_ge hx hb d ht (fun q => (hg _ _ _ _ _ _).mp (kt q) H locs ls hP hD hS hv) (fun q => (hg _ _ _ _ _ _).mp (kf q) H locs ls hP hD hS hv)
theorem w_icmp_gt (h : Smw cc own nL R E sn sz mi g) {pc : Nat} {x y : Int32} {off : Int} (tgt : Nat) (d : decode cc pc = .ok (.if_icmp .gt off, 3)) (ht : (pc : Int) + off = (tgt : Int)) (kt : y < x → g ws n1 n2 tgt lv st) (kf : ¬ y < x → g ws n1 n2 (pc + 3) lv st) : g ws n1 n2 pc lv (.int y :: .int x :: st) := by
  obtain ⟨p, l, e, s, m, args, below, meth, c, A, Z, ⟨hx, hb, hml, hown, hts, hK, hN, hO, hX, hA, hz, hi0⟩, hg⟩ := h
  refine (hg _ _ _ _ _ _).mpr (fun H locs ls hP hD hS hv => ?_)
  exact lv_icmp_gt hx hb d ht (fun q => (hg _ _ _ _ _ _).mp (kt q) H locs ls hP hD hS hv) (fun q => (hg _ _ _ _ _ _).mp (kf q) H locs ls hP hD hS hv)
theorem w_icmp_lt (h : Smw cc own nL R E sn sz mi g) {pc : Nat} {x y : Int32} {off : Int} (tgt : Nat) (d : decode cc pc = .ok (.if_icmp .lt off, 3)) (ht : (pc : Int) + off = (tgt : Int)) (kt : x < y → g ws n1 n2 tgt lv st) (kf : ¬ x < y → g ws n1 n2 (pc + 3) lv st) : g ws n1 n2 pc lv (.int y :: .int x :: st) := by
  obtain ⟨p, l, e, s, m, args, below, meth, c, A, Z, ⟨hx, hb, hml, hown, hts, hK, hN, hO, hX, hA, hz, hi0⟩, hg⟩ := h
  refine (hg _ _ _ _ _ _).mpr (fun H locs ls hP hD hS hv => ?_)
  exact lv_icmp_lt hx hb d ht (fun q => (hg _ _ _ _ _ _).mp (kt q) H locs ls hP hD hS hv) (fun q => (hg _ _ _ _ _ _).mp (kf q) H locs ls hP hD hS hv)
theorem w_goto (h : Smw cc own nL R E sn sz mi g) {pc : Nat} {off : Int} (tgt : Nat) (d : decode cc pc = .ok (.goto off, 3)) (ht : (pc : Int) + off = (tgt : Int)) (kk : g ws n1 n2 tgt lv st) : g ws n1 n2 pc lv st := by
  obtain ⟨p, l, e, s, m, args, below, meth, c, A, Z, ⟨hx, hb, hml, hown, hts, hK, hN, hO, hX, hA, hz, hi0⟩, hg⟩ := h
  refine (hg _ _ _ _ _ _).mpr (fun H locs ls hP hD hS hv => ?_)
  exact lv_goto hx hb d ht ((hg _ _ _ _ _ _).mp kk H locs ls hP hD hS hv)
theorem w_get (h : Smw cc own nL R E sn sz mi g) {pc k a ci N idx : Nat} {fs : List Value} {v : Value} {C : String} {T : u_T} (d : decode cc pc = .ok (.getfield idx, 3)) (hc : vwCl[ci]? = some (C, T, N)) (hin : ∀ w ∈ u_ws C T N, w ∈ TB) (j : Nat) (hj : j < N) (hw : Cond.fieldLink own idx (T j).1 (T j).2.1 (T j).2.2.1 ∈ TB) (k0 : k = k) (he : ws[k]? = some (a, .inr (ci, fs))) (hv0 : fs[j]? = some v) (kk : g ws n1 n2 (pc + 3) lv (v :: st)) : g ws n1 n2 pc lv (.ref a :: st) := by
  obtain ⟨p, l, e, s, m, args, below, meth, c, A, Z, ⟨hx, hb, hml, hown, hts, hK, hN, hO, hX, hA, hz, hi0⟩, hg⟩ := h
  have kk := (hg _ _ _ _ _ _).mp kk
  refine (hg _ _ _ _ _ _).mpr (fun H locs ls hP hD hS hv => ?_)
  exact va_get hx hb hts hin hown hK hP k he hc j hj (hts _ hw) (fun _ h9 => h9) hv0 d (kk H locs ls hP hD hS hv)
theorem w_put (h : Smw cc own nL R E sn sz mi g) {pc k a ci N idx : Nat} {fs : List Value} {v : Value} {C : String} {T : u_T} {ws2 : va_W} (d : decode cc pc = .ok (.putfield idx, 3)) (hc : vwCl[ci]? = some (C, T, N)) (hin : ∀ w ∈ u_ws C T N, w ∈ TB) {ty0 : Nat → FieldType} (hty : ∀ k, k < N → parseFieldDescriptor (T k).2.2.1 = some (ty0 k)) (hnm : ∀ a, a < N → ∀ b, b < N → a ≠ b → (T a).2.1 ≠ (T b).2.1) (j : Nat) (hj : j < N) (hw : Cond.fieldLink own idx (T j).1 (T j).2.1 (T j).2.2.1 ∈ TB) (hfin : (T j).2.2.2 = false) {ty : FieldType} (hd : parseFieldDescriptor (T j).2.2.1 = some ty) (hn : narrow ty v = v) (hfit : fits ty v = true) (k0 : k = k) (he : ws[k]? = some (a, .inr (ci, fs))) (hl : j < fs.length) (hw2 : ws.set k (a, .inr (ci, fs.set j v)) = ws2) (kk : g ws2 n1 n2 (pc + 3) lv st) : g ws n1 n2 pc lv (v :: .ref a :: st) := by
  obtain ⟨p, l, e, s, m, args, below, meth, c, A, Z, ⟨hx, hb, hml, hown, hts, hK, hN, hO, hX, hA, hz, hi0⟩, hg⟩ := h
  have kk := (hg _ _ _ _ _ _).mp kk
  refine (hg _ _ _ _ _ _).mpr (fun H locs ls hP hD hS hv => ?_)
  refine va_put hx hb hts hin ty0 hty hnm hown hK hP hD hS k he hc j hj (hts _ hw) (fun _ h9 => h9) hfin hd hn hfit hl d (fun H1 locs1 hP1 hD1 hS1 => ?_)
  rw [hw2] at hP1 hD1
  exact kk H1 locs1 ls hP1 hD1 hS1 hv
theorem w_putF (h : Smw cc own nL R E sn sz mi g) {pc k a ci N idx : Nat} {fs : List Value} {v : Value} {C : String} {T : u_T} {ws2 : va_W} (d : decode cc pc = .ok (.putfield idx, 3)) (hc : vwCl[ci]? = some (C, T, N)) (hin : ∀ w ∈ u_ws C T N, w ∈ TB) {ty0 : Nat → FieldType} (hty : ∀ k, k < N → parseFieldDescriptor (T k).2.2.1 = some (ty0 k)) (hnm : ∀ a, a < N → ∀ b, b < N → a ≠ b → (T a).2.1 ≠ (T b).2.1) (j : Nat) (hj : j < N) (hw : Cond.fieldLink own idx (T j).1 (T j).2.1 (T j).2.2.1 ∈ TB) (hfin : (T j).2.2.2 = true) (hmi : mi = true) (hdecl : (T j).1 = own) {ty : FieldType} (hd : parseFieldDescriptor (T j).2.2.1 = some ty) (hn : narrow ty v = v) (hfit : fits ty v = true) (k0 : k = k) (he : ws[k]? = some (a, .inr (ci, fs))) (hl : j < fs.length) (hw2 : ws.set k (a, .inr (ci, fs.set j v)) = ws2) (kk : g ws2 n1 n2 (pc + 3) lv st) : g ws n1 n2 pc lv (v :: .ref a :: st) := by
  obtain ⟨p, l, e, s, m, args, below, meth, c, A, Z, ⟨hx, hb, hml, hown, hts, hK, hN, hO, hX, hA, hz, hi0⟩, hg⟩ := h
  have kk := (hg _ _ _ _ _ _).mp kk
  refine (hg _ _ _ _ _ _).mpr (fun H locs ls hP hD hS hv => ?_)
  refine va_putF hx hb hts hin ty0 hty hnm hown hK hP hD hS k he hc j hj (hts _ hw) (fun _ h9 => h9) hfin (hi0 hmi) hdecl hd hn hfit hl d (fun H1 locs1 hP1 hD1 hS1 => ?_)
  rw [hw2] at hP1 hD1
  exact kk H1 locs1 ls hP1 hD1 hS1 hv
theorem w_iast (h : Smw cc own nL R E sn sz mi g) {pc k a n : Nat} {f : Nat → Int32} {i x : Int32} {ws2 : va_W} (d : decode cc pc = .ok (.iastore, 1)) (k0 : k = k) (he : ws[k]? = some (a, .inl (E.2.2.1 12, n, .inl f))) (hin : vp_in i n) (hw2 : ws.set k (a, .inl (E.2.2.1 12, n, .inl (upd f i.toNatClampNeg x))) = ws2) (kk : g ws2 n1 n2 (pc + 1) lv st) : g ws n1 n2 pc lv (.int x :: .int i :: .ref a :: st) := by
  obtain ⟨p, l, e, s, m, args, below, meth, c, A, Z, ⟨hx, hb, hml, hown, hts, hK, hN, hO, hX, hA, hz, hi0⟩, hg⟩ := h
  have kk := (hg _ _ _ _ _ _).mp kk
  refine (hg _ _ _ _ _ _).mpr (fun H locs ls hP hD hS hv => ?_)
  refine va_iast hx hb hK hP hD hS k 0 he rfl hin d (fun H1 locs1 hP1 hD1 hS1 => ?_)
  rw [hw2] at hP1 hD1
  exact kk H1 locs1 ls hP1 hD1 hS1 hv
theorem w_iald (h : Smw cc own nL R E sn sz mi g) {pc k a n : Nat} {f : Nat → Int32} {i : Int32} (d : decode cc pc = .ok (.iaload, 1)) (k0 : k = k) (he : ws[k]? = some (a, .inl (E.2.2.1 12, n, .inl f))) (hin : vp_in i n) (kk : g ws n1 n2 (pc + 1) lv (.int (f i.toNatClampNeg) :: st)) : g ws n1 n2 pc lv (.int i :: .ref a :: st) := by
  obtain ⟨p, l, e, s, m, args, below, meth, c, A, Z, ⟨hx, hb, hml, hown, hts, hK, hN, hO, hX, hA, hz, hi0⟩, hg⟩ := h
  have kk := (hg _ _ _ _ _ _).mp kk
  refine (hg _ _ _ _ _ _).mpr (fun H locs ls hP hD hS hv => ?_)
  exact va_iald hx hb hK hP k 0 he rfl hin d (kk H locs ls hP hD hS hv)
theorem w_alen (h : Smw cc own nL R E sn sz mi g) {pc k a n : Nat} {f : Nat → Int32} {v : Int32} (d : decode cc pc = .ok (.arraylength, 1)) (k0 : k = k) (he : ws[k]? = some (a, .inl (E.2.2.1 12, n, .inl f))) (hn : Int32.ofNat n = v) (kk : g ws n1 n2 (pc + 1) lv (.int v :: st)) : g ws n1 n2 pc lv (.ref a :: st) := by
  obtain ⟨p, l, e, s, m, args, below, meth, c, A, Z, ⟨hx, hb, hml, hown, hts, hK, hN, hO, hX, hA, hz, hi0⟩, hg⟩ := h
  have kk := (hg _ _ _ _ _ _).mp kk
  refine (hg _ _ _ _ _ _).mpr (fun H locs ls hP hD hS hv => ?_)
  exact va_alen hx hb hK hP k 0 he rfl hn d (kk H locs ls hP hD hS hv)
theorem w_astq (h : Smw cc own nL R E sn sz mi g) {pc k a n kv v ci t0 : Nat} {vs : List Value} {f : Nat → Option Nat} {cA : ClassId} {r : vw_C} {i : Int32} {ws2 : va_W} (d : decode cc pc = .ok (.aastore, 1)) (ht : (tys E)[t0]? = some (cA, .object r.1)) (hc : vwCl[ci]? = some r) (k0 : k = k) (he : ws[k]? = some (a, .inl (cA, n, .inr (.inr (.inr (.inr f)))))) (kv0 : kv = kv) (hv0 : ws[kv]? = some (v, .inr (ci, vs))) (hin : vp_in i n) (hw2 : ws.set k (a, .inl (cA, n, .inr (.inr (.inr (.inr (va_up f i.toNatClampNeg (some v))))))) = ws2) (kk : g ws2 n1 n2 (pc + 1) lv st) : g ws n1 n2 pc lv (.ref v :: .int i :: .ref a :: st) := by
  obtain ⟨p, l, e, s, m, args, below, meth, c, A, Z, ⟨hx, hb, hml, hown, hts, hK, hN, hO, hX, hA, hz, hi0⟩, hg⟩ := h
  have kk := (hg _ _ _ _ _ _).mp kk
  refine (hg _ _ _ _ _ _).mpr (fun H locs ls hP hD hS hv => ?_)
  refine va_astq hx hb hK hP hD hS k t0 kv ci he ht hv0 hc hin d (fun H1 locs1 hP1 hD1 hS1 => ?_)
  rw [hw2] at hP1 hD1
  exact kk H1 locs1 ls hP1 hD1 hS1 hv
theorem w_gets (h : Smw cc RX10 nL R E sn sz mi g) {pc : Nat} (d : decode cc pc = .ok (.getstatic 366, 3)) (kk : g ws n1 n2 (pc + 3) lv (.ref sn.1 :: st)) : g ws n1 n2 pc lv st := by
  obtain ⟨p, l, e, s, m, args, below, meth, c, A, Z, ⟨hx, hb, hml, hown, hts, hK, hN, hO, hX, hA, hz, hi0⟩, hg⟩ := h
  have kk := (hg _ _ _ _ _ _).mp kk
  refine (hg _ _ _ _ _ _).mpr (fun H locs ls hP hD hS hv => ?_)
  exact va_gets hx hb hX.1 hS hown (hts _ wf_X10_366) (fun _ h9 => h9) d (kk H locs ls hP hD hS hv)
theorem w_tald (h : Smw cc own nL R E sn sz mi g) {pc : Nat} {i : Int32} (d : decode cc pc = .ok (.iaload, 1)) (hin : vp_in i 91) (kk : g ws n1 n2 (pc + 1) lv (.int (sn.2 i.toNatClampNeg) :: st)) : g ws n1 n2 pc lv (.int i :: .ref sn.1 :: st) := by
  obtain ⟨p, l, e, s, m, args, below, meth, c, A, Z, ⟨hx, hb, hml, hown, hts, hK, hN, hO, hX, hA, hz, hi0⟩, hg⟩ := h
  have kk := (hg _ _ _ _ _ _).mp kk
  refine (hg _ _ _ _ _ _).mpr (fun H locs ls hP hD hS hv => ?_)
  exact va_ti hx hb hX.2 hS hin rfl d (kk H locs ls hP hD hS hv)
theorem oi_2 : Cond.instanceMethod Lib.objectInit ∈ TB := tb_at 74 (by decide +kernel) (by decide +kernel)
theorem oi_3 : Cond.code Lib.objectInit ⟨#[0xb1]⟩ 1 none ∈ TB := tb_at 75 (by decide +kernel) (by decide +kernel)
theorem w_oi (h : Smw cc own nL R E sn sz mi g) {pc idx a : Nat} (d : decode cc pc = .ok (.invokespecial idx, 3)) (hw : Cond.methodLink own idx Lib.objectInit ∈ TB) (hcat : (st.map fun v => v.category).sum ≤ 8) (hf : 1 ≤ R.frames) (hl : 32 ≤ R.locals) (kk : g ws n1 n2 (pc + 3) lv st) : g ws n1 n2 pc lv (.ref a :: st) := by
  obtain ⟨p, l, e, s, m, args, below, meth, c, A, Z, ⟨hx, hb, hml, hown, hts, hK, hN, hO, hX, hA, hz, hi0⟩, hg⟩ := h
  have kk := (hg _ _ _ _ _ _).mp kk
  refine (hg _ _ _ _ _ _).mpr (fun H locs ls hP hD hS hv => ?_)
  refine W.objInit hx hb hown (hts _ hw) (hts _ oi_2) (hts _ oi_3) rfl (hv.1.trans hml.symm) rfl d hf ?_ (kk H locs ls hP hD hS hv)
  have h8 : 2 * (F0 m pc ls (.ref a :: st)).monitorRoom + (List.map (fun v => v.category) st).sum ≤ 8 := lv_room hcat
  omega
/-! what is made -/
theorem app_new {ws : va_W} {A : Nat → Prop} {H0 H H1 : Heap} {locs : List Loc} {D : va_G} {cl : List vw_C} {x : va_E} {q : Nat} (hP : va_P D cl ws H) (hD : va_D A ws) (hS : va_S A H0 H locs) (hA : ∀ q, H0.size ≤ q → A q) (hq : H.size = q) (hx : va_at D cl (q, x) H1) (z1 : H1.size = q + 1) (o1 : ∀ y, y < q → H1[y]? = H[y]?) : va_P D cl (ws ++ [(q, x)]) H1 ∧ va_D A (ws ++ [(q, x)]) ∧ va_S A H0 H1 locs := by
  subst hq
  have hk : ∀ (k : Nat) (y : Nat × va_E), ws[k]? = some y → H1[y.1]? = H[y.1]? := fun k y hy => o1 y.1 ((hP k y hy).lt)
  refine ⟨(hP.kept hk).app (fun k y hy => ?_), hD.push hP rfl (hA _ hS.1), ⟨Nat.le_trans hS.1 (by omega), fun y h1 h2 => (o1 y (Nat.lt_of_lt_of_le h1 hS.1)).trans (hS.2.1 y h1 h2), hS.2.2⟩⟩
  have hz : k < 1 := (List.getElem?_eq_some_iff.mp hy).1
  rw [show k = 0 by omega] at hy
  cases hy
  exact hx
theorem w_new (h : Smw cc own nL R E sn sz mi g) {pc ci N idx : Nat} {C : String} {T : u_T} {fs : List Value} {ws2 : va_W} (d : decode cc pc = .ok (.new idx, 3)) (hc : vwCl[ci]? = some (C, T, N)) (hin : ∀ w ∈ u_ws C T N, w ∈ TB) {ty0 : Nat → FieldType} (hty : ∀ k, k < N → parseFieldDescriptor (T k).2.2.1 = some (ty0 k)) (hw : Cond.classLink own idx C ∈ TB) (hw1 : Cond.instantiable C N ∈ TB) (hw3 : Cond.initialized C ∈ TB) (hfs : ∀ j, j < N → defaultValue (ty0 j) = vp_V fs j) (hR : n1 + 1 ≤ R.cells ∧ n2 + N ≤ R.slots) (ht : topAt ws sz n1) (hw2 : ws ++ [(sz + n1, .inr (ci, fs))] = ws2) (kk : g ws2 (n1 + 1) (n2 + N) (pc + 3) lv (.ref (sz + n1) :: st)) : g ws n1 n2 pc lv st := by
  obtain ⟨p, l, e, s, m, args, below, meth, c, A, Z, ⟨hx, hb, hml, hown, hts, hK, hN, hO, hX, hA, hz, hi0⟩, hg⟩ := h
  have kk := (hg _ _ _ _ _ _).mp kk
  refine (hg _ _ _ _ _ _).mpr (fun H locs ls hP hD hS hv => ?_)
  refine W.le (fun hle => ?_)
  have hsz := size_is hz ht hP hS hle
  have hKn := hK.1 ci _ hc
  refine W.newcK hx hb hown (hts _ hw) (hts _ hw1) (hts _ hw3) rfl d hR.1 hR.2 hKn.2.1 hsz fun H1 kC hkC e1 z1 o1 => ?_
  obtain ⟨a1, a2, a3⟩ := app_new (x := .inr (ci, fs)) hP hD hS hA hsz ⟨_, hc, (u_born ty0 hts hin hKn hkC e1 hty).to hfs⟩ z1 o1
  rw [hw2] at a1 a2
  exact kk H1 locs ls a1 a2 a3 hv
theorem cA_of {U : State} {a b : ClassId} {n : String} (h1 : U.vm.findClass n = some a) (h2 : U.vm.findClass n = some b) : a = b := Option.some.inj (h1.symm.trans h2)
theorem w_newi (h : Smw cc own nL R E sn sz mi g) {pc N : Nat} {n : Int32} {ws2 : va_W} (d : decode cc pc = .ok (.newarray .int, 2)) (hn : ¬ n < 0) (hNn : n.toNatClampNeg = N) (hb0 : N * 4 ≤ 536870912) (hR : n1 + 1 ≤ R.cells ∧ n2 + N ≤ R.slots) (ht : topAt ws sz n1) (hw2 : ws ++ [(sz + n1, .inl (E.2.2.1 12, N, .inl (fun _ => 0)))] = ws2) (kk : g ws2 (n1 + 1) (n2 + N) (pc + 2) lv (.ref (sz + n1) :: st)) : g ws n1 n2 pc lv (.int n :: st) := by
  obtain ⟨p, l, e, s, m, args, below, meth, c, A, Z, ⟨hx, hb, hml, hown, hts, hK, hN, hO, hX, hA, hz, hi0⟩, hg⟩ := h
  have kk := (hg _ _ _ _ _ _).mp kk
  refine (hg _ _ _ _ _ _).mpr (fun H locs ls hP hD hS hv => ?_)
  refine W.le (fun hle => ?_)
  have hsz := size_is hz ht hP hS hle
  refine va_newaK (atype := .int) hx hb (hts _ ar_i) rfl d rfl hn hNn hb0 hR.1 hR.2 hsz fun H1 cA e1 z1 o1 _ hNm => ?_
  have hcA : cA = E.2.2.1 12 := cA_of hNm (hK.2 0 _ rfl).2
  subst hcA
  obtain ⟨a1, a2, a3⟩ := app_new (x := .inl (E.2.2.1 12, N, .inl (fun _ => 0))) hP hD hS hA hsz (show H1[sz + n1]? = some (vp_cell _ _) from e1) z1 o1
  rw [hw2] at a1 a2
  exact kk H1 locs ls a1 a2 a3 hv
theorem w_newz (h : Smw cc own nL R E sn sz mi g) {pc N : Nat} {n : Int32} {ws2 : va_W} (d : decode cc pc = .ok (.newarray .boolean, 2)) (hn : ¬ n < 0) (hNn : n.toNatClampNeg = N) (hb0 : N * 1 ≤ 536870912) (hR : n1 + 1 ≤ R.cells ∧ n2 + N ≤ R.slots) (ht : topAt ws sz n1) (hw2 : ws ++ [(sz + n1, .inl (E.2.2.1 13, N, .inl (fun _ => 0)))] = ws2) (kk : g ws2 (n1 + 1) (n2 + N) (pc + 2) lv (.ref (sz + n1) :: st)) : g ws n1 n2 pc lv (.int n :: st) := by
  obtain ⟨p, l, e, s, m, args, below, meth, c, A, Z, ⟨hx, hb, hml, hown, hts, hK, hN, hO, hX, hA, hz, hi0⟩, hg⟩ := h
  have kk := (hg _ _ _ _ _ _).mp kk
  refine (hg _ _ _ _ _ _).mpr (fun H locs ls hP hD hS hv => ?_)
  refine W.le (fun hle => ?_)
  have hsz := size_is hz ht hP hS hle
  refine va_newaK (atype := .boolean) hx hb (hts _ ar_z) rfl d rfl hn hNn hb0 hR.1 hR.2 hsz fun H1 cA e1 z1 o1 _ hNm => ?_
  have hcA : cA = E.2.2.1 13 := cA_of hNm (hK.2 1 _ rfl).2
  subst hcA
  obtain ⟨a1, a2, a3⟩ := app_new (x := .inl (E.2.2.1 13, N, .inl (fun _ => 0))) hP hD hS hA hsz (show H1[sz + n1]? = some (vp_cell _ _) from e1) z1 o1
  rw [hw2] at a1 a2
  exact kk H1 locs ls a1 a2 a3 hv
theorem w_newq (h : Smw cc own nL R E sn sz mi g) {pc N idx t0 : Nat} {n : Int32} {C : String} {cA : ClassId} {ws2 : va_W} (d : decode cc pc = .ok (.anewarray idx, 3)) (hw : Cond.classLink own idx C ∈ TB) (hov : C ∈ ovC) (ht0 : (tys E)[t0]? = some (cA, .object C)) (hn : ¬ n < 0) (hNn : n.toNatClampNeg = N) (hb0 : N * 4 ≤ 536870912) (hR : n1 + 1 ≤ R.cells ∧ n2 + N ≤ R.slots) (ht : topAt ws sz n1) (hw2 : ws ++ [(sz + n1, .inl (cA, N, .inr (.inr (.inr (.inr (fun _ => none))))))] = ws2) (kk : g ws2 (n1 + 1) (n2 + N) (pc + 3) lv (.ref (sz + n1) :: st)) : g ws n1 n2 pc lv (.int n :: st) := by
  obtain ⟨p, l, e, s, m, args, below, meth, c, A, Z, ⟨hx, hb, hml, hown, hts, hK, hN, hO, hX, hA, hz, hi0⟩, hg⟩ := h
  have kk := (hg _ _ _ _ _ _).mp kk
  refine (hg _ _ _ _ _ _).mpr (fun H locs ls hP hD hS hv => ?_)
  subst hNn
  refine W.le (fun hle => ?_)
  have hsz := size_is hz ht hP hS hle
  refine W.anew hx hb hown (hts _ hw) (va_AO.use (hO.1 _ hov)) rfl d rfl hn hb0 hR.1 hR.2 fun cA2 kA comp f1 f2 f3 f4 => ?_
  obtain ⟨-, kB, cB, -, -, -, f5⟩ := hK.2 t0 _ ht0
  have hcA : cA2 = cA := cA_of f1 f5
  subst hcA
  generalize hH1 : H.push ({ cls := cA2, slots := Array.replicate n.toNatClampNeg .null, vm := .none } : Cell) = H1
  have z1 : H1.size = sz + n1 + 1 := by rw [← hH1, Array.size_push, hsz]
  have e1 : H1[sz + n1]? = some (arrV cA2 n.toNatClampNeg (fun _ => .null)) := by rw [← hsz, ← hH1, Array.getElem?_push_size, ← arrV_new]
  have o1 : ∀ q : Nat, q < sz + n1 → H1[q]? = H[q]? := fun q hq => by rw [← hH1, Array.getElem?_push, if_neg (by omega)]
  obtain ⟨a1, a2, a3⟩ := app_new (x := .inl (cA2, n.toNatClampNeg, .inr (.inr (.inr (.inr (fun _ => none)))))) hP hD hS hA hsz (show H1[sz + n1]? = some (vp_cell _ _) from e1) z1 o1
  rw [hw2] at a1 a2
  rw [hsz]
  exact kk H1 locs ls a1 a2 a3 hv
end GW
