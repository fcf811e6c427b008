/-! AN int[N][K] BY ONE INSTRUCTION: multianewarray of two dimensions, walked from the machine's own words (Op.multianewarray.sem) -/
/-- the outer array when i of its rows stand; the row j lies at q + 1 + j -/
def mgr_o (cA : ClassId) (N q i : Nat) : Cell := arrV cA N (fun j => if j < i then .ref (q + 1 + j) else .null)
/-- a row of zeros -/
def mgr_r (cI : ClassId) (K : Nat) : Cell := arrV cI K (fun _ => .int 0)
/-- the state when i rows stand -/
def mgr_s (U : State) (cA cI : ClassId) (N K : Nat) : Nat → State
  | 0 => U.pushCell (mgr_o cA N U.heap.size 0)
  | i + 1 => ((mgr_s U cA cI N K i).pushCell (mgr_r cI K)).setCell U.heap.size (mgr_o cA N U.heap.size (i + 1))
theorem mgr_o_zero (cA : ClassId) (N q : Nat) : ({ cls := cA, slots := Array.replicate N .null, vm := .none } : Cell) = mgr_o cA N q 0 := by
  rw [arrV_new]
  exact congrArg (arrV cA N) (funext fun j => by simp)
theorem mgr_o_step (cA : ClassId) (N q i : Nat) : (mgr_o cA N q i).setSlot i (.ref (q + 1 + i)) = mgr_o cA N q (i + 1) := by
  unfold mgr_o
  rw [arrV_store]
  refine congrArg (arrV cA N) (funext fun j => ?_)
  unfold updV
  by_cases e : j = i
  · subst e
    simp
  · by_cases h : j < i
    · simp [e, h, Nat.lt_succ_of_lt h]
    · simp [e, h, show ¬ j < i + 1 by omega]
theorem mgr_top (U : State) (f : JFrame) (cA cI : ClassId) (N K : Nat) : ∀ i : Nat, mgr_s (U.setTop f) cA cI N K i = (mgr_s U cA cI N K i).setTop f
  | 0 => rfl
  | i + 1 => by
    show ((mgr_s (U.setTop f) cA cI N K i).pushCell (mgr_r cI K)).setCell U.heap.size (mgr_o cA N U.heap.size (i + 1)) = _
    rw [mgr_top U f cA cI N K i]
    rfl
theorem mgr_size (U : State) (cA cI : ClassId) (N K : Nat) : ∀ i : Nat, (mgr_s U cA cI N K i).heap.size = U.heap.size + 1 + i
  | 0 => by
    show (U.heap.push _).size = _
    simp
  | i + 1 => by
    show (((mgr_s U cA cI N K i).heap.push _).setIfInBounds _ _).size = _
    rw [Array.size_setIfInBounds, Array.size_push, mgr_size U cA cI N K i]
    omega
theorem mgr_lt (U : State) (cA cI : ClassId) (N K i : Nat) : U.heap.size < (mgr_s U cA cI N K i).heap.size := by
  rw [mgr_size]
  omega
theorem mgr_vm (U : State) (cA cI : ClassId) (N K : Nat) : ∀ i : Nat, (mgr_s U cA cI N K i).vm = U.vm
  | 0 => rfl
  | i + 1 => mgr_vm U cA cI N K i
theorem mgr_used (U : State) (cA cI : ClassId) (N K : Nat) : ∀ i : Nat, (mgr_s U cA cI N K i).slotsUsed = U.slotsUsed + N + i * K
  | 0 => by
    show U.slotsUsed + (mgr_o cA N U.heap.size 0).slots.size = _
    unfold mgr_o
    rw [arrV_size]
    omega
  | i + 1 => by
    show (mgr_s U cA cI N K i).slotsUsed + (mgr_r cI K).slots.size = _
    unfold mgr_r
    rw [arrV_size, mgr_used U cA cI N K i, Nat.succ_mul]
    omega
theorem mgr_old (U : State) (cA cI : ClassId) (N K : Nat) {x : Nat} (hx : x < U.heap.size) : ∀ i : Nat, (mgr_s U cA cI N K i).heap[x]? = U.heap[x]?
  | 0 => by
    show (U.heap.push _)[x]? = _
    rw [Array.getElem?_push_lt hx, Array.getElem?_eq_getElem hx]
  | i + 1 => by
    show (((mgr_s U cA cI N K i).heap.push _).setIfInBounds _ _)[x]? = _
    have hs : x < (mgr_s U cA cI N K i).heap.size := by rw [mgr_size]; omega
    rw [Array.getElem?_setIfInBounds_ne (by omega), Array.getElem?_push_lt hs, ← Array.getElem?_eq_getElem hs]
    exact mgr_old U cA cI N K hx i
theorem mgr_out (U : State) (cA cI : ClassId) (N K : Nat) : ∀ i : Nat, (mgr_s U cA cI N K i).heap[U.heap.size]? = some (mgr_o cA N U.heap.size i)
  | 0 => by
    show (U.heap.push _)[U.heap.size]? = _
    rw [Array.getElem?_push_size]
  | i + 1 => by
    show (((mgr_s U cA cI N K i).heap.push _).setIfInBounds U.heap.size _)[U.heap.size]? = _
    have hs : U.heap.size < ((mgr_s U cA cI N K i).heap.push (mgr_r cI K)).size := by rw [Array.size_push, mgr_size]; omega
    rw [Array.getElem?_setIfInBounds_self_of_lt hs]
theorem mgr_row (U : State) (cA cI : ClassId) (N K : Nat) : ∀ i j : Nat, j < i → (mgr_s U cA cI N K i).heap[U.heap.size + 1 + j]? = some (mgr_r cI K)
  | 0, _, h => absurd h (Nat.not_lt_zero _)
  | i + 1, j, h => by
    show (((mgr_s U cA cI N K i).heap.push _).setIfInBounds _ _)[U.heap.size + 1 + j]? = _
    rw [Array.getElem?_setIfInBounds_ne (by omega)]
    by_cases e : j = i
    · subst e
      rw [← mgr_size U cA cI N K j, Array.getElem?_push_size]
    · have hs : U.heap.size + 1 + j < (mgr_s U cA cI N K i).heap.size := by rw [mgr_size]; omega
      rw [Array.getElem?_push_lt hs, ← Array.getElem?_eq_getElem hs]
      exact mgr_row U cA cI N K i j (by omega)
theorem mgr_tj (U : State) (cA cI : ClassId) (N K : Nat) : ∀ i : Nat, (mgr_s U cA cI N K i).topJava? = U.topJava?
  | 0 => rfl
  | i + 1 => mgr_tj U cA cI N K i
section GRW
variable {E : CtlPost} {e : Env} {d : Bool} {acts : List Action} {U : State}
/-- a new array of one default value -/
theorem mgr_new {Q : Addr → _root_.Jvm.Pre} {cX comp : ClassId} {kX : Class} {t : FieldType} {n : Nat} {v : Value} (hk : U.vm.classes[cX]? = some kX) (hkind : kX.kind = .array comp t) (hl : ¬ n > e.platform.arrayLengthLimit) (hh : ¬ n * componentBytes t > e.platform.maxHeapBytes) (hv : fits t v = true) (h1 : U.heap.size < e.platform.maxCells) (h2 : U.slotsUsed + n ≤ e.platform.maxSlots) (hq : ∀ acts', Q U.heap.size d acts' (U.pushCell (arrV cX n (fun _ => v)))) : wp (Jvm.newArray cX n v) Q E e d acts U := by
  have hfit : ∀ (i : Nat) (x : Value), (Array.replicate n v)[i]? = some x → U.fitsSlot cX .none i x = true := by
    intro i x hx
    rw [Array.getElem?_replicate] at hx
    split at hx
    · cases hx
      simp [State.fitsSlot, State.slotType?, hk, hkind, hv]
    · cases hx
  have hs : ¬ n > e.platform.maxSlots := by omega
  simp only [Jvm.newArray, Jvm.arrayFits, wp_bind', _root_.Jvm.W.ask, _root_.Jvm.W.ite, hl, if_false, wp_pure', _root_.Jvm.W.theClass, hk, Option.some.injEq, exists_eq_left', hkind, hh, hs, _root_.Jvm.W.alloc]
  refine ⟨h1, by rw [Array.size_replicate]; exact h2, hfit, ?_⟩
  rw [arrV_new]
  exact hq _
end GRW
section GRX
variable {E : CtlPost} {e : Env} {d : Bool} {acts : List Action} {U : State}
/-- one row -/
theorem mgr_make1 {Q : Addr → _root_.Jvm.Pre} {cI comp : ClassId} {kI : Class} {k : Int32} (hk : U.vm.classes[cI]? = some kI) (hkind : kI.kind = .array comp .int) (hn : ¬ k < 0) (hl : ¬ k.toNatClampNeg > e.platform.arrayLengthLimit) (hh : ¬ k.toNatClampNeg * componentBytes .int > e.platform.maxHeapBytes) (h1 : U.heap.size < e.platform.maxCells) (h2 : U.slotsUsed + k.toNatClampNeg ≤ e.platform.maxSlots) (hq : ∀ acts', Q U.heap.size d acts' (U.pushCell (mgr_r cI k.toNatClampNeg))) : wp (Op.multianewarray.make cI [k]) Q E e d acts U := by
  rw [Op.multianewarray.make]
  simp only [wp_bind', _root_.Jvm.W.ite, hn, if_false, wp_pure', _root_.Jvm.W.theClass, hk, Option.some.injEq, exists_eq_left', hkind]
  exact mgr_new hk hkind hl hh rfl h1 h2 hq
/-- all rows -/
theorem mgr_make2 {Q : Addr → _root_.Jvm.Pre} {cA cI comp : ClassId} {kA kI : Class} {n k : Int32} (hkA : U.vm.classes[cA]? = some kA) (hkindA : kA.kind = .array cI (.array .int)) (hkI : U.vm.classes[cI]? = some kI) (hkindI : kI.kind = .array comp .int) (hn : ¬ n < 0) (hk : ¬ k < 0)
    (hl1 : ¬ n.toNatClampNeg > e.platform.arrayLengthLimit) (hh1 : ¬ n.toNatClampNeg * componentBytes (.array .int) > e.platform.maxHeapBytes) (hl2 : ¬ k.toNatClampNeg > e.platform.arrayLengthLimit) (hh2 : ¬ k.toNatClampNeg * componentBytes .int > e.platform.maxHeapBytes)
    (h1 : U.heap.size + (1 + n.toNatClampNeg) ≤ e.platform.maxCells) (h2 : U.slotsUsed + (n.toNatClampNeg + n.toNatClampNeg * k.toNatClampNeg) ≤ e.platform.maxSlots)
    (hq : ∀ d' acts', Q U.heap.size d' acts' (mgr_s U cA cI n.toNatClampNeg k.toNatClampNeg n.toNatClampNeg)) : wp (Op.multianewarray.make cA [n, k]) Q E e d acts U := by
  rw [Op.multianewarray.make]
  simp only [wp_bind', _root_.Jvm.W.ite, hn, if_false, wp_pure', _root_.Jvm.W.theClass, hkA, Option.some.injEq, exists_eq_left', hkindA]
  refine mgr_new hkA hkindA hl1 hh1 rfl (by omega) (by omega) (fun acts1 => ?_)
  have hc : ¬ k < 0 := hk
  simp only [List.find?_cons, List.find?_nil, hc, decide_false, wp_pure', Std.Legacy.Range.forIn_eq_forIn_range', ite_self]
  simp only [wp_bind']
  refine wp_forIn_inv (fun (rest : List Nat) (V : State) => ∃ i : Nat, i ≤ n.toNatClampNeg ∧ rest = List.range' i (n.toNatClampNeg - i) ∧ V = mgr_s U cA cI n.toNatClampNeg k.toNatClampNeg i) _ _ ⟨0, Nat.zero_le _, ?_, ?_⟩ ?_ ?_
  · simp [Std.Legacy.Range.size]
  · show U.pushCell _ = U.pushCell _
    rw [← mgr_o_zero, arrV_new]
  · rintro x rest V d1 acts2 Q1 ⟨i, hi, hr, rfl⟩ hnext
    have hlt : i < n.toNatClampNeg := by
      rcases Nat.lt_or_ge i n.toNatClampNeg with h | h
      · exact h
      · rw [Nat.sub_eq_zero_of_le h, List.range'_zero] at hr
        cases hr
    obtain ⟨r, hr2⟩ : ∃ r : Nat, n.toNatClampNeg - i = r + 1 := ⟨n.toNatClampNeg - i - 1, by omega⟩
    rw [hr2, List.range'_succ] at hr
    obtain ⟨rfl, rfl⟩ := List.cons.inj hr
    have hm : (x + 1) * k.toNatClampNeg ≤ n.toNatClampNeg * k.toNatClampNeg := Nat.mul_le_mul_right _ hlt
    rw [Nat.succ_mul] at hm
    simp only [wp_bind']
    refine mgr_make1 (U := mgr_s U cA cI n.toNatClampNeg k.toNatClampNeg x) (by rw [mgr_vm]; exact hkI) hkindI hk hl2 hh2 (by rw [mgr_size]; omega) (by rw [mgr_used]; omega) (fun acts3 => ?_)
    simp only [wp_bind', _root_.Jvm.W.writeLoc, wp_pure']
    refine ⟨mgr_o cA n.toNatClampNeg U.heap.size x, ?_, (fun h => by cases h), by unfold mgr_o; rw [arrV_size]; exact hlt, ?_, ?_⟩
    · exact (State.heap_pushCell_of_lt (mgr_s U cA cI n.toNatClampNeg k.toNatClampNeg x) (mgr_r cI k.toNatClampNeg) (a := U.heap.size) (mgr_lt U cA cI _ _ x)).trans (mgr_out U cA cI _ _ x)
    · show (mgr_s U cA cI n.toNatClampNeg k.toNatClampNeg x).fitsSlot cA .none x _ = true
      simp [State.fitsSlot, State.slotType?, mgr_vm, hkA, hkindA, fits]
    · refine hnext _ _ _ ⟨x + 1, hlt, ?_, ?_⟩
      · rw [show n.toNatClampNeg - (x + 1) = r by omega]
      · rw [mgr_size, mgr_o_step]
        rfl
  · rintro V d1 acts2 ⟨i, hi, hr, rfl⟩
    have he : i = n.toNatClampNeg := by
      have := congrArg List.length hr
      rw [List.length_range'] at this
      have h0 : 0 = n.toNatClampNeg - i := this
      omega
    subst he
    exact hq _ _
/-- the instruction, its entry resolved -/
theorem mgr_sem {Q : Unit → _root_.Jvm.Pre} {f : JFrame} {index : Nat} {rest : List Value} {cA cI comp : ClassId} {kA kI : Class} {n k : Int32} (hs : U.topJava?.isSome) (hr : U.vm.classReady f.method.cls index cA) (hstack : f.stack = .int k :: .int n :: rest) (hkA : U.vm.classes[cA]? = some kA) (hkindA : kA.kind = .array cI (.array .int)) (hkI : U.vm.classes[cI]? = some kI) (hkindI : kI.kind = .array comp .int) (hn : ¬ n < 0) (hk : ¬ k < 0)
    (hl1 : ¬ n.toNatClampNeg > e.platform.arrayLengthLimit) (hh1 : ¬ n.toNatClampNeg * componentBytes (.array .int) > e.platform.maxHeapBytes) (hl2 : ¬ k.toNatClampNeg > e.platform.arrayLengthLimit) (hh2 : ¬ k.toNatClampNeg * componentBytes .int > e.platform.maxHeapBytes)
    (h1 : U.heap.size + (1 + n.toNatClampNeg) ≤ e.platform.maxCells) (h2 : U.slotsUsed + (n.toNatClampNeg + n.toNatClampNeg * k.toNatClampNeg) ≤ e.platform.maxSlots)
    (hq : ∀ acts', Q () true acts' ((mgr_s U cA cI n.toNatClampNeg k.toNatClampNeg n.toNatClampNeg).setTop { f with stack := .ref U.heap.size :: rest })) : wp (Op.multianewarray.sem index 2) Q E e d acts (U.setTop f) := by
  simp only [Op.multianewarray.sem, wp_bind', _root_.Jvm.W.resolveClassAt_ready (State.method?_setTop f hs) hr]
  refine (popN_top (args := [.int n, .int k]) (rest := rest) hs hstack).mpr ?_
  simp only [List.mapM_cons, List.mapM_nil, wp_bind', wp_pure']
  refine mgr_make2 (U := U.setTop _) hkA hkindA hkI hkindI hn hk hl1 hh1 hl2 hh2 h1 h2 (fun d1 acts1 => ?_)
  have ht : (mgr_s U cA cI n.toNatClampNeg k.toNatClampNeg n.toNatClampNeg).topJava?.isSome := by
    rw [mgr_tj]
    exact hs
  rw [mgr_top]
  simp only [wp_bind', _root_.Jvm.W.mark, _root_.Jvm.W.pushRef, State.topJava?_setTop' _ ht, Option.some.injEq, exists_eq_left', State.setTop_setTop]
  exact hq _
/-- the instruction, cold or warm -/
theorem mgr_cold {Q : Unit → _root_.Jvm.Pre} {f : JFrame} {index cA : Nat} {vm' : Vm} (hs : U.topJava?.isSome) (hg : (Jvm.resolveClass f.method.cls index).Gives e.toSetting U.vm (.ok cA) vm') (hr : vm'.classReady f.method.cls index cA) (hsz : vm'.classes.size ≤ U.vm.classes.size) :
    wp (Op.multianewarray.sem index 2) Q E e d acts (U.setTop f) ↔ wp (Op.multianewarray.sem index 2) Q E e d acts ((U.setVm vm').setTop f) := by
  simp only [Op.multianewarray.sem, wp_bind']
  exact _root_.Jvm.W.resolveClassAt_transfer (s := U.setTop f) (State.method?_setTop f hs) hg hr hsz
end GRX
/-- the places that are written on the way: the outer array's own -/
def mgr_l (q : Nat) (locs : List Loc) : Nat → List Loc
  | 0 => locs
  | i + 1 => mgr_l q locs i ++ [⟨q, i⟩]
theorem mgr_l_in {q : Nat} {locs : List Loc} : ∀ (i : Nat) (x : Loc), x ∈ mgr_l q locs i → x ∈ locs ∨ x.base = q
  | 0, _, h => Or.inl h
  | i + 1, x, h => by
    rcases List.mem_append.mp h with h | h
    · exact mgr_l_in i x h
    · rw [List.mem_singleton.mp h]
      exact Or.inr rfl
section GRS
variable {p : Program} {l : Launch} {e : Env} {R : Room} {s : State} {m : MethodId} {args : Array Value} {below : List Frame} {meth : Method} {c : Code} {T : State} {locs : List Loc} {cells slots : Nat}
theorem mgr_stand (X : Stand p l e R s m args below meth c T locs cells slots) (cA cI : ClassId) (N K : Nat) : ∀ i : Nat, Stand p l e R s m args below meth c (mgr_s T cA cI N K i) (mgr_l T.heap.size locs i) (cells + 1 + i) (slots + N + i * K)
  | 0 => by
    have h := X.pushed (mgr_o cA N T.heap.size 0)
    rw [show (mgr_o cA N T.heap.size 0).slots.size = N from arrV_size _ _ _] at h
    rw [Nat.zero_mul]
    exact h
  | i + 1 => by
    have h := (mgr_stand X cA cI N K i).pushed (mgr_r cI K)
    rw [show (mgr_r cI K).slots.size = K from arrV_size _ _ _] at h
    have h2 := h.stored ((State.heap_pushCell_of_lt (mgr_s T cA cI N K i) (mgr_r cI K) (a := T.heap.size) (mgr_lt T cA cI N K i)).trans (mgr_out T cA cI N K i)) i (.ref (T.heap.size + 1 + i))
    rw [mgr_o_step] at h2
    rw [show slots + N + (i + 1) * K = slots + N + i * K + K by rw [Nat.succ_mul]; omega]
    exact h2
theorem mgr_step (X : Stand p l e R s m args below meth c T locs cells slots) (hexec : p.tables.exec = Jvm.exec) {own : String} {index : Nat} (hown : s.vm.findClass own = some m.cls) (hclink : (Cond.classLink own index "[[I").before args s = true) (hover : (Cond.arrayOver (.array .int)).before args s = true) (harr : (Cond.arrayClass .int).before args s = true)
    {g : JFrame} (hg : g.method = m) (hdg : decode c.code g.pc = .ok (.multianewarray index 2, 4)) {n k : Int32} {rest : List Value} (hstack : g.stack = .int k :: .int n :: rest) (hn : ¬ n < 0) (hk : ¬ k < 0) (hb1 : n.toNatClampNeg * 4 ≤ 536870912) (hb2 : k.toNatClampNeg * 4 ≤ 536870912)
    (hcells : cells + (1 + n.toNatClampNeg) ≤ R.cells) (hslots : slots + (n.toNatClampNeg + n.toNatClampNeg * k.toNatClampNeg) ≤ R.slots) :
    ∃ (vm1 : Vm) (cA cI : ClassId), s.vm.findClass "[[I" = some cA ∧ s.vm.findClass "[I" = some cI ∧
      Stand p l e R s m args below meth c (mgr_s (T.setVm vm1) cA cI n.toNatClampNeg k.toNatClampNeg n.toNatClampNeg) (mgr_l T.heap.size locs n.toNatClampNeg) (cells + 1 + n.toNatClampNeg) (slots + n.toNatClampNeg + n.toNatClampNeg * k.toNatClampNeg) ∧
      ∀ target, Steps p.tables e below ((mgr_s (T.setVm vm1) cA cI n.toNatClampNeg k.toNatClampNeg n.toNatClampNeg).setTop { g with pc := g.pc + 4, stack := .ref T.heap.size :: rest }) target → Steps p.tables e below (T.setTop g) target := by
  subst hg
  have hpl : e.platform.magicAccessors = ({} : Platform).magicAccessors := by rw [X.admits.platform]
  obtain ⟨cI, cA, kA, hcI, -, hkA, hkindA, hnameA⟩ := arrayOverA_spec hover
  obtain ⟨cJ, kI, comp, hnI, hkI, hkindI⟩ := Cond.arrayClass_spec harr
  cases hcI.symm.trans hnI
  obtain ⟨cB, hfB, hcl⟩ := Cond.classLink_spec hown hclink e.platform hpl
  cases hnameA.symm.trans hfB
  obtain ⟨hg1, hwarm, hready⟩ := State.classEntry (e := e) X.warmed hcl
  have hsz : (T.vm.noted g.method.cls index (.cls cA)).classes.size ≤ T.vm.classes.size := by no_record
  generalize T.vm.noted g.method.cls index (.cls cA) = vm1 at hg1 hwarm hready hsz
  have hal : s.vm.Alike vm1 := hwarm.alike
  obtain ⟨kA1, hkA1, heA⟩ := hal.2.2 _ _ hkA
  obtain ⟨kI1, hkI1, heI⟩ := hal.2.2 _ _ hkI
  have hkindA1 : kA1.kind = .array cI (.array .int) := by rw [heA]; exact hkindA
  have hkindI1 : kI1.kind = .array comp .int := by rw [heI]; exact hkindI
  obtain ⟨hr1, hr2⟩ := X.roomAbove hcells hslots
  refine ⟨vm1, cA, cI, hfB, hcI, mgr_stand (X.noted hwarm) cA cI _ _ _, fun target hrest => ?_⟩
  refine Steps.instr (c := c) (by simpa using X.here) ?_
  simp only [hdg, hexec, exec, wpRun]
  refine (mgr_cold X.here.top hg1 hready hsz).mpr (mgr_sem (U := T.setVm vm1) X.here.top hready hstack hkA1 hkindA1 hkI1 hkindI1 hn hk ?_ ?_ ?_ ?_ hr1 hr2 (fun acts' => ?_))
  · rw [Launch.admits_arrayLengthLimit X.admits]; omega
  · rw [Launch.admits_maxHeapBytes X.admits]; show ¬ n.toNatClampNeg * 4 > 536870912; omega
  · rw [Launch.admits_arrayLengthLimit X.admits]; omega
  · rw [Launch.admits_maxHeapBytes X.admits]; show ¬ k.toNatClampNeg * 4 > 536870912; omega
  · simp [jvm, mgr_tj]
    exact hrest
end GRS
