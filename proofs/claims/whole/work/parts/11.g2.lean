/-! THE JUDGEMENT. TB: the words, the same for every method; nestW: links to nest mates, carried beside; ST: the two static rows -/
def TB : List Cond := lw_tbl.filter goodWord
theorem tb_of {w : Cond} (h : w ∈ lw_tbl) (hg : goodWord w = true) : w ∈ TB := List.mem_filter.mpr ⟨h, hg⟩
theorem tb_at {w : Cond} (i : Nat) (h : lw_tbl[i]? = some w) (hg : goodWord w = true) : w ∈ TB := tb_of (List.mem_of_getElem? h) hg
theorem tb_ps {ws : List Cond} (ps : List Nat) (hp : ws = ps.filterMap (fun i => lw_tbl[i]?)) (h : ws.all goodWord = true) : ∀ w ∈ ws, w ∈ TB := by
  intro w hw
  have h1 := List.all_eq_true.mp h w hw
  rw [hp] at hw
  obtain ⟨i, -, hi⟩ := List.mem_filterMap.mp hw
  exact tb_at i hi h1
theorem tb_tbl : ∀ w ∈ TB, w ∈ lw_tbl := fun w h => (List.mem_filter.mp h).1
theorem tb_in {ws : List Cond} (h : ∀ w ∈ ws, w ∈ TB) : GoodIn TB ws := fun w hw => ⟨h w hw, good_of_word (List.mem_filter.mp (h w hw)).2⟩
theorem tb_code {c : Cond} (h : c ∈ TB) : GoodIn TB (c :: TB) := tb_in (fun w hw => (List.mem_cons.mp hw).elim (fun e => e ▸ h) id)
def nestW : List Cond := [Jvm.Cond.fieldLinkNest "ThrowersBag$Flight" (96 : Nat) "ThrowersBag$Wind" "speeds" "[I" "ThrowersBag", Jvm.Cond.fieldLinkNest "ThrowersBag" (167 : Nat) "ThrowersBag$Wind" "speeds" "[I" "ThrowersBag", Jvm.Cond.fieldLinkNest "ThrowersBag$Flight" (99 : Nat) "ThrowersBag$Wind" "tos" "[I" "ThrowersBag", Jvm.Cond.fieldLinkNest "ThrowersBag" (170 : Nat) "ThrowersBag$Wind" "tos" "[I" "ThrowersBag", Jvm.Cond.fieldLinkNest "ThrowersBag$Meadow" (25 : Nat) "ThrowersBag$Tree" "x" "I" "ThrowersBag", Jvm.Cond.fieldLinkNest "ThrowersBag$Flight" (122 : Nat) "ThrowersBag$Tree" "x" "I" "ThrowersBag", Jvm.Cond.fieldLinkNest "ThrowersBag$Meadow" (28 : Nat) "ThrowersBag$Tree" "y" "I" "ThrowersBag", Jvm.Cond.fieldLinkNest "ThrowersBag$Flight" (123 : Nat) "ThrowersBag$Tree" "y" "I" "ThrowersBag", Jvm.Cond.fieldLinkNest "ThrowersBag$Meadow" (31 : Nat) "ThrowersBag$Tree" "thick" "I" "ThrowersBag", Jvm.Cond.fieldLinkNest "ThrowersBag$Flight" (124 : Nat) "ThrowersBag$Tree" "thick" "I" "ThrowersBag", Jvm.Cond.fieldLinkNest "ThrowersBag$Meadow" (34 : Nat) "ThrowersBag$Tree" "high" "I" "ThrowersBag", Jvm.Cond.fieldLinkNest "ThrowersBag$Flight" (117 : Nat) "ThrowersBag$Tree" "high" "I" "ThrowersBag", Jvm.Cond.fieldLinkNest "ThrowersBag$Flight" (113 : Nat) "ThrowersBag$Meadow" "trees" "[LThrowersBag$Tree;" "ThrowersBag", Jvm.Cond.fieldLinkNest "ThrowersBag$Flight" (108 : Nat) "ThrowersBag$Meadow" "treeCount" "I" "ThrowersBag", Jvm.Cond.fieldLinkNest "ThrowersBag" (332 : Nat) "ThrowersBag$Meadow" "treeCount" "I" "ThrowersBag", Jvm.Cond.fieldLinkNest "ThrowersBag$Flight" (135 : Nat) "ThrowersBag$Meadow" "ringWide" "I" "ThrowersBag", Jvm.Cond.fieldLinkNest "ThrowersBag" (181 : Nat) "ThrowersBag$Meadow" "ringWide" "I" "ThrowersBag", Jvm.Cond.fieldLinkNest "ThrowersBag" (305 : Nat) "ThrowersBag$Flight" "x" "I" "ThrowersBag", Jvm.Cond.fieldLinkNest "ThrowersBag" (311 : Nat) "ThrowersBag$Flight" "y" "I" "ThrowersBag", Jvm.Cond.fieldLinkNest "ThrowersBag" (204 : Nat) "ThrowersBag$Flight" "tick" "I" "ThrowersBag", Jvm.Cond.fieldLinkNest "ThrowersBag" (363 : Nat) "ThrowersBag$Flight" "ended" "I" "ThrowersBag", Jvm.Cond.fieldLinkNest "ThrowersBag" (207 : Nat) "ThrowersBag$Flight" "treeHit" "I" "ThrowersBag", Jvm.Cond.fieldLinkNest "ThrowersBag" (222 : Nat) "ThrowersBag$Aim" "stick" "I" "ThrowersBag", Jvm.Cond.fieldLinkNest "ThrowersBag$Flight" (58 : Nat) "ThrowersBag$Aim" "lean" "I" "ThrowersBag", Jvm.Cond.fieldLinkNest "ThrowersBag" (399 : Nat) "ThrowersBag$Aim" "lean" "I" "ThrowersBag", Jvm.Cond.fieldLinkNest "ThrowersBag$Flight" (40 : Nat) "ThrowersBag$Aim" "angle" "I" "ThrowersBag", Jvm.Cond.fieldLinkNest "ThrowersBag" (402 : Nat) "ThrowersBag$Aim" "angle" "I" "ThrowersBag", Jvm.Cond.fieldLinkNest "ThrowersBag$Flight" (48 : Nat) "ThrowersBag$Aim" "strength" "I" "ThrowersBag", Jvm.Cond.fieldLinkNest "ThrowersBag" (405 : Nat) "ThrowersBag$Aim" "strength" "I" "ThrowersBag", Jvm.Cond.fieldLinkNest "ThrowersBag$Flight" (54 : Nat) "ThrowersBag$Aim" "spin" "I" "ThrowersBag", Jvm.Cond.fieldLinkNest "ThrowersBag" (369 : Nat) "ThrowersBag$Aim" "wind" "I" "ThrowersBag", Jvm.Cond.fieldLinkNest "ThrowersBag" (238 : Nat) "ThrowersBag$Match" "throwWinds" "[I" "ThrowersBag", Jvm.Cond.fieldLinkNest "ThrowersBag" (245 : Nat) "ThrowersBag$Match" "manner" "LThrowersBag$Aim;" "ThrowersBag", Jvm.Cond.fieldLinkNest "ThrowersBag" (420 : Nat) "ThrowersBag$Match" "pointTable" "[[I" "ThrowersBag", Jvm.Cond.fieldLinkNest "ThrowersBag" (265 : Nat) "ThrowersBag$Match" "bestSticks" "[I" "ThrowersBag", Jvm.Cond.fieldLinkNest "ThrowersBag" (262 : Nat) "ThrowersBag$Match" "mostPoints" "I" "ThrowersBag", Jvm.Cond.fieldLinkNest "ThrowersBag" (320 : Nat) "ThrowersBag$Grass" "weights" "[I" "ThrowersBag", Jvm.Cond.fieldLinkNest "ThrowersBag" (323 : Nat) "ThrowersBag$Grass" "ks" "[I" "ThrowersBag", Jvm.Cond.fieldLinkNest "ThrowersBag$Flight" (71 : Nat) "ThrowersBag$Stick" "weight" "I" "ThrowersBag", Jvm.Cond.fieldLinkNest "ThrowersBag" (143 : Nat) "ThrowersBag$Stick" "weight" "I" "ThrowersBag", Jvm.Cond.fieldLinkNest "ThrowersBag$Flight" (82 : Nat) "ThrowersBag$Stick" "grip" "I" "ThrowersBag", Jvm.Cond.fieldLinkNest "ThrowersBag" (146 : Nat) "ThrowersBag$Stick" "grip" "I" "ThrowersBag", Jvm.Cond.fieldLinkNest "ThrowersBag$Flight" (102 : Nat) "ThrowersBag$Stick" "loss" "I" "ThrowersBag", Jvm.Cond.fieldLinkNest "ThrowersBag" (149 : Nat) "ThrowersBag$Stick" "loss" "I" "ThrowersBag", Jvm.Cond.fieldLinkNest "ThrowersBag$Flight" (105 : Nat) "ThrowersBag$Stick" "drag" "I" "ThrowersBag", Jvm.Cond.fieldLinkNest "ThrowersBag" (152 : Nat) "ThrowersBag$Stick" "drag" "I" "ThrowersBag", Jvm.Cond.fieldLinkNest "ThrowersBag" (155 : Nat) "ThrowersBag$Stick" "hover" "I" "ThrowersBag", Jvm.Cond.fieldLinkNest "ThrowersBag" (136 : Nat) "ThrowersBag$Stick" "bent" "I" "ThrowersBag", Jvm.Cond.fieldLinkNest "ThrowersBag" (158 : Nat) "ThrowersBag$Stick" "inTheBag" "Z" "ThrowersBag", Jvm.Cond.fieldLinkNest "ThrowersBag" (130 : Nat) "ThrowersBag$Stick" "lifts" "[I" "ThrowersBag", Jvm.Cond.fieldLinkNest "ThrowersBag" (424 : Nat) "ThrowersBag$Row" "aim" "LThrowersBag$Aim;" "ThrowersBag", Jvm.Cond.fieldLinkNest "ThrowersBag" (427 : Nat) "ThrowersBag$Row" "x" "I" "ThrowersBag", Jvm.Cond.fieldLinkNest "ThrowersBag" (428 : Nat) "ThrowersBag$Row" "y" "I" "ThrowersBag", Jvm.Cond.fieldLinkNest "ThrowersBag" (354 : Nat) "ThrowersBag$Sheet" "lane" "I" "ThrowersBag", Jvm.Cond.fieldLinkNest "ThrowersBag" (348 : Nat) "ThrowersBag$Sheet" "size" "I" "ThrowersBag", Jvm.Cond.fieldLinkNest "ThrowersBag" (295 : Nat) "ThrowersBag$Sheet" "items" "[I" "ThrowersBag", Jvm.Cond.methodLinkNest "ThrowersBag" (36 : Nat) ({ cls := "ThrowersBag$Wind", name := "<init>", desc := "()V" } : Jvm.MethodName) "ThrowersBag", Jvm.Cond.methodLinkNest "ThrowersBag$Meadow" (24 : Nat) ({ cls := "ThrowersBag$Tree", name := "<init>", desc := "()V" } : Jvm.MethodName) "ThrowersBag", Jvm.Cond.methodLinkNest "ThrowersBag" (62 : Nat) ({ cls := "ThrowersBag$Aim", name := "<init>", desc := "()V" } : Jvm.MethodName) "ThrowersBag", Jvm.Cond.methodLinkNest "ThrowersBag$Match" (17 : Nat) ({ cls := "ThrowersBag$Aim", name := "<init>", desc := "()V" } : Jvm.MethodName) "ThrowersBag", Jvm.Cond.methodLinkNest "ThrowersBag" (111 : Nat) ({ cls := "ThrowersBag$Stick", name := "<init>", desc := "()V" } : Jvm.MethodName) "ThrowersBag", Jvm.Cond.methodLinkNest "ThrowersBag" (112 : Nat) ({ cls := "ThrowersBag$Row", name := "<init>", desc := "()V" } : Jvm.MethodName) "ThrowersBag", Jvm.Cond.methodLinkNest "ThrowersBag$Row" (9 : Nat) ({ cls := "ThrowersBag$Aim", name := "<init>", desc := "()V" } : Jvm.MethodName) "ThrowersBag", Jvm.Cond.methodLinkNest "ThrowersBag" (113 : Nat) ({ cls := "ThrowersBag$Sheet", name := "<init>", desc := "()V" } : Jvm.MethodName) "ThrowersBag", Jvm.Cond.methodLinkNest "ThrowersBag$Flight" (131 : Nat) ({ cls := "ThrowersBag", name := "within", desc := "(III)Z" } : Jvm.MethodName) "ThrowersBag"]
def isNest : Cond → Bool
  | .fieldLinkNest .. => true
  | .methodLinkNest .. => true
  | _ => false
theorem nestW_is : nestW.all isNest = true := by decide +kernel
def NW (U : State) : Prop := ∀ w ∈ nestW, va_Nw w U
theorem nest_tab {w : Cond} (h : isNest w = true) : w.onTables = true := by
  cases w <;> first | rfl | (simp [isNest] at h)
theorem nest_warm {w : Cond} (h : isNest w = true) {s U : State} (hW : s.WarmedH U.vm) (hZ : va_Nw w s) : va_Nw w U := by
  cases w <;> first | exact va_Nw.warmF hW hZ | exact va_Nw.warmM hW hZ | (simp [isNest] at h)
theorem NW.warm {s U : State} (hW : s.WarmedH U.vm) (h : NW s) : NW U := fun w hw => nest_warm (List.all_eq_true.mp nestW_is w hw) hW (h w hw)
theorem NW.same {s U : State} (e : s.vm = U.vm) (h : NW s) : NW U := fun w hw => va_Nw.same (nest_tab (List.all_eq_true.mp nestW_is w hw)) e (h w hw)
def leansV (j : Nat) : Value := .int (if j = 0 then 20 else if j = 1 then 45 else 70)
def strsV (j : Nat) : Value := .int (if j = 0 then 80 else 160)
def ST (E : En) (A : Nat → Prop) (U : State) (H : Heap) : Prop := va_Z "ThrowersBag" "CHOICE_LEANS" "[I" (.ref E.2.2.2.1) A U H ∧ va_T .int E.2.2.2.1 3 leansV A U H ∧ va_Z "ThrowersBag" "CHOICE_STRENGTHS" "[I" (.ref E.2.2.2.2) A U H ∧ va_T .int E.2.2.2.2 2 strsV A U H
theorem ST.moved {E : En} {A : Nat → Prop} {u U : State} {H : Heap} (hvm : u.vm.Alike U.vm) (h : ST E A u H) : ST E A U H := ⟨h.1.moved hvm, h.2.1.moved hvm, h.2.2.1.moved hvm, h.2.2.2.moved hvm⟩
theorem ST.kept {E : En} {A : Nat → Prop} {U : State} {H H1 : Heap} (h : ST E A U H) (hq : ∀ a : Nat, a < H.size → ¬ A a → H1[a]? = H[a]?) : ST E A U H1 := ⟨h.1.kept hq, h.2.1.kept hq, h.2.2.1.kept hq, h.2.2.2.kept hq⟩
theorem ST.narrow {E : En} {A B : Nat → Prop} {U : State} {H : Heap} (h : ST E A U H) (hAB : ∀ q, B q → A q) : ST E B U H := ⟨h.1.narrow hAB, h.2.1.narrow hAB, h.2.2.1.narrow hAB, h.2.2.2.narrow hAB⟩
/-- the room of a method whose calls go d deep -/
def rmL (d : Nat) : Room := { frames := d, cells := 0, slots := 0, locals := 64 * d }
def PreB (E : En) (I : Mem) (sz : Nat) (U : State) : Prop := U.heap.size = sz ∧ va_P E.2.1 vwCl (wl E I) U.heap ∧ va_K E.2.1 vwCl (tys E) U ∧ va_D (fun _ => True) (wl E I) ∧ NW U ∧ ST E (va_A (wl E I) sz) U U.heap
def QQ (E : En) (Q : Option Value → Mem → Prop) (A : Nat → Prop) : Array Value → State → Outcome → State → Prop := fun _ st oc t => (∃ (v : Option Value) (I : Mem), oc = .returned v ∧ Q v I ∧ va_P E.2.1 vwCl (wl E I) t.heap ∧ va_D A (wl E I)) ∧ va_F A st t
/-- A CONTRACT: called with av at memory I, y returns v at memory I' with Q v I' -/
def Ctr (E : En) (y : MethodName) (cc : ByteArray) (nL : Nat) (rt : Option FieldType) (d : Nat) (av : List Value) (I : Mem) (Q : Option Value → Mem → Prop) : Prop :=
  ∀ (l : Launch) (sz : Nat), Met l y (Cond.code y cc nL rt :: TB) (rmL d) (va_Pc av (PreB E I sz)) (QQ E Q (va_A (wl E I) sz)) 0 0 (va_A (wl E I) sz)
abbrev LV : Type := List (Nat × Value)
abbrev GT : Type := Mem → Nat → LV → List Value → Prop
/-- what a walk stands on: inside a method with code cc of class own, room R; g I pc lv st: from there the machine comes to the end that is asked for -/
def Sem (cc : ByteArray) (own : String) (nL : Nat) (R : Room) (E : En) (g : GT) : Prop :=
  ∃ (p : Program) (l : Launch) (e : Env) (s : State) (m : MethodId) (args : Array Value) (below : List Frame) (meth : Method) (c : Code) (A : Nat → Prop) (Z : State → Prop) (n1 n2 : Nat),
    (p.tables.exec = Jvm.exec ∧ c.code = cc ∧ c.maxLocals = nL ∧ s.vm.findClass own = some m.cls ∧ (∀ w ∈ TB, w.before args s = true) ∧ va_K E.2.1 vwCl (tys E) s ∧ NW s ∧ ST E A s s.heap ∧ (∀ q, s.heap.size ≤ q → A q) ∧ n1 ≤ R.cells ∧ n2 ≤ R.slots) ∧
    ∀ I pc lv st, g I pc lv st ↔ ∀ (H : Heap) (locs : List Loc) (ls : Array Slot), va_P E.2.1 vwCl (wl E I) H → va_D A (wl E I) → va_S A s.heap H locs → lv_has ls nL lv → W p l e R s m args below meth c H locs n1 n2 Z (F0 m pc ls st)
/-- what a value's return asks for -/
def RetI (cc : ByteArray) (rt : FieldType) (Q : Int32 → Mem → Prop) (g : GT) : Prop := ∀ (I : Mem) (pc : Nat) (lv : LV) (v : Int32), decode cc pc = .ok (.ireturn, 1) → narrow rt (.int v) = .int v → Q v I → g I pc lv [.int v]
def RetL (cc : ByteArray) (Q : Int64 → Mem → Prop) (g : GT) : Prop := ∀ (I : Mem) (pc : Nat) (lv : LV) (v : Int64), decode cc pc = .ok (.lreturn, 1) → Q v I → g I pc lv [.long v]
def RetV (cc : ByteArray) (Q : Mem → Prop) (g : GT) : Prop := ∀ (I : Mem) (pc : Nat) (lv : LV), decode cc pc = .ok (.return_, 1) → Q I → g I pc lv []
def qI (Q : Int32 → Mem → Prop) : Option Value → Mem → Prop := fun v I => ∃ r, v = some (.int r) ∧ Q r I
def qL (Q : Int64 → Mem → Prop) : Option Value → Mem → Prop := fun v I => ∃ r, v = some (.long r) ∧ Q r I
def qV (Q : Mem → Prop) : Option Value → Mem → Prop := fun v I => v = none ∧ Q I
theorem metW {l : Launch} {y : MethodName} {ws ws' : List Cond} {rm : Room} {Pc : Array Value → State → Prop} {Qc : Array Value → State → Outcome → State → Prop} {mc ms : Nat} {free : Addr → Prop} {cc : ByteArray} {maxL : Nat} {ret : Option FieldType}
    (hy : plainFor y = true) (hw : ws = Cond.code y cc maxL ret :: ws')
    (body : ∀ p e s m args below meth c s₁, BodyLoose p l y (headSpec ws rm) cc maxL ret e s m args below meth c s₁ → c.maxLocals = maxL → Pc args s →
      W p l e (headSpec ws rm).room s m args below meth c s.heap [] 0 0 (MQ below Qc args s mc ms free) (entryFrame m args maxL)) : Met l y ws rm Pc Qc mc ms free := by
  refine MetFree.of_bodySF (code := cc) (maxLocals := maxL) (ret := ret) hy ?_ ?_
  · intro args s m h hn
    obtain ⟨meth, c, h1, h2, h3, h4, h5, h6, -, -⟩ := Cond.code_spec hn (atoms_spec (ws := ws) h _ (by rw [hw]; exact List.mem_cons_self))
    exact ⟨meth, c, h1, h2, h3, h4, h5, h6⟩
  · intro p e s m args below meth c s₁ B hml hP _
    have hh0 : s₁.heap = s.heap := by rw [B.state]; rfl
    obtain ⟨t, a1, o, b1, b2, b3⟩ := body p e s m args below meth c s₁ B hml hP s₁ hh0 (Stand.of_body B)
    exact ⟨t, o, a1, b1, b2, ⟨b3.1, b3.2⟩⟩
set_option maxHeartbeats 1000000 in
theorem Ctr.openI {E : En} {y : MethodName} {cc : ByteArray} {nL : Nat} {rt : FieldType} {d : Nat} {av : List Value} {I : Mem} {Q : Int32 → Mem → Prop} (hy : plainFor y = true) (hn : (lg_sl av).length ≤ nL)
    (k : ∀ g : GT, Sem cc y.cls nL (rmL d) E g → RetI cc rt Q g → g I 0 (lv_args 0 av) []) : Ctr E y cc nL (some rt) d av I (qI Q) := by
  intro l sz
  refine metW (cc := cc) (maxL := nL) (ret := (some rt)) hy rfl ?_
  intro p e s m args below meth c s₁ B hml hv
  obtain ⟨rfl, hsz, hP, hK, hD0, hN, hT⟩ := hv
  have hx := B.exec
  have hb := B.bytes
  have hr := B.returns
  have hts : ∀ w ∈ TB, w.before av.toArray s = true := fun w hw => atoms_spec (ws := Cond.code y cc nL (some rt) :: TB) B.pre w (List.mem_cons_of_mem _ hw)
  have hown : s.vm.findClass y.cls = some m.cls := findClass_of_methodNamed B.named
  have hlocks := B.notSynchronized
  subst hsz
  have hD := hD0.self (sz := s.heap.size)
  have hA : ∀ q : Nat, s.heap.size ≤ q → va_A (wl E I) s.heap.size q := fun q h => Or.inr h
  generalize va_A (wl E I) s.heap.size = A at hD hA hT ⊢
  have hS : va_S A s.heap s.heap [] := va_S.rf
  have hl := lv_entry av (n := nL) hn
  rw [lg_entry_eq]
  generalize (lg_sl av ++ List.replicate (nL - (lg_sl av).length) Slot.unset).toArray = ls at hl ⊢
  have K := k (fun I pc lv st => ∀ (H : Heap) (locs : List Loc) (ls : Array Slot), va_P E.2.1 vwCl (wl E I) H → va_D A (wl E I) → va_S A s.heap H locs → lv_has ls nL lv → W p l e (rmL d) s m av.toArray below meth c H locs 0 0 (MQ below (QQ E (qI Q) A) av.toArray s 0 0 A) (F0 m pc ls st))
    ⟨p, l, e, s, m, av.toArray, below, meth, c, A, _, 0, 0, ⟨hx, hb, hml, hown, hts, hK, hN, hT, hA, Nat.zero_le _, Nat.zero_le _⟩, fun _ _ _ _ => Iff.rfl⟩ ?_
  · exact K s.heap [] ls hP hD hS hl
  · intro I2 pc lv v hd hn2 hq H locs ls hP2 hD2 hS2 _
    exact W.zret (v := v) (ty := rt) hx hb hr hn2 (fun t ht hW => ⟨⟨some (.int v), I2, rfl, ⟨v, rfl, hq⟩, by rw [ht]; exact hP2, hD2⟩, hS2.F ht⟩) hS2.2.2 hd
set_option maxHeartbeats 1000000 in
theorem Ctr.openL {E : En} {y : MethodName} {cc : ByteArray} {nL : Nat} {d : Nat} {av : List Value} {I : Mem} {Q : Int64 → Mem → Prop} (hy : plainFor y = true) (hn : (lg_sl av).length ≤ nL)
    (k : ∀ g : GT, Sem cc y.cls nL (rmL d) E g → RetL cc Q g → g I 0 (lv_args 0 av) []) : Ctr E y cc nL (some .long) d av I (qL Q) := by
  intro l sz
  refine metW (cc := cc) (maxL := nL) (ret := (some .long)) hy rfl ?_
  intro p e s m args below meth c s₁ B hml hv
  obtain ⟨rfl, hsz, hP, hK, hD0, hN, hT⟩ := hv
  have hx := B.exec
  have hb := B.bytes
  have hr := B.returns
  have hts : ∀ w ∈ TB, w.before av.toArray s = true := fun w hw => atoms_spec (ws := Cond.code y cc nL (some .long) :: TB) B.pre w (List.mem_cons_of_mem _ hw)
  have hown : s.vm.findClass y.cls = some m.cls := findClass_of_methodNamed B.named
  have hlocks := B.notSynchronized
  subst hsz
  have hD := hD0.self (sz := s.heap.size)
  have hA : ∀ q : Nat, s.heap.size ≤ q → va_A (wl E I) s.heap.size q := fun q h => Or.inr h
  generalize va_A (wl E I) s.heap.size = A at hD hA hT ⊢
  have hS : va_S A s.heap s.heap [] := va_S.rf
  have hl := lv_entry av (n := nL) hn
  rw [lg_entry_eq]
  generalize (lg_sl av ++ List.replicate (nL - (lg_sl av).length) Slot.unset).toArray = ls at hl ⊢
  have K := k (fun I pc lv st => ∀ (H : Heap) (locs : List Loc) (ls : Array Slot), va_P E.2.1 vwCl (wl E I) H → va_D A (wl E I) → va_S A s.heap H locs → lv_has ls nL lv → W p l e (rmL d) s m av.toArray below meth c H locs 0 0 (MQ below (QQ E (qL Q) A) av.toArray s 0 0 A) (F0 m pc ls st))
    ⟨p, l, e, s, m, av.toArray, below, meth, c, A, _, 0, 0, ⟨hx, hb, hml, hown, hts, hK, hN, hT, hA, Nat.zero_le _, Nat.zero_le _⟩, fun _ _ _ _ => Iff.rfl⟩ ?_
  · exact K s.heap [] ls hP hD hS hl
  · intro I2 pc lv v hd hq H locs ls hP2 hD2 hS2 _
    exact W.lret (v := v) hx hb hr (fun t ht hW => ⟨⟨some (.long v), I2, rfl, ⟨v, rfl, hq⟩, by rw [ht]; exact hP2, hD2⟩, hS2.F ht⟩) hS2.2.2 hd
set_option maxHeartbeats 1000000 in
theorem Ctr.openV {E : En} {y : MethodName} {cc : ByteArray} {nL : Nat} {d : Nat} {av : List Value} {I : Mem} {Q : Mem → Prop} (hy : plainFor y = true) (hn : (lg_sl av).length ≤ nL)
    (k : ∀ g : GT, Sem cc y.cls nL (rmL d) E g → RetV cc Q g → g I 0 (lv_args 0 av) []) : Ctr E y cc nL none d av I (qV Q) := by
  intro l sz
  refine metW (cc := cc) (maxL := nL) (ret := none) hy rfl ?_
  intro p e s m args below meth c s₁ B hml hv
  obtain ⟨rfl, hsz, hP, hK, hD0, hN, hT⟩ := hv
  have hx := B.exec
  have hb := B.bytes
  have hr := B.returns
  have hts : ∀ w ∈ TB, w.before av.toArray s = true := fun w hw => atoms_spec (ws := Cond.code y cc nL none :: TB) B.pre w (List.mem_cons_of_mem _ hw)
  have hown : s.vm.findClass y.cls = some m.cls := findClass_of_methodNamed B.named
  have hlocks := B.notSynchronized
  subst hsz
  have hD := hD0.self (sz := s.heap.size)
  have hA : ∀ q : Nat, s.heap.size ≤ q → va_A (wl E I) s.heap.size q := fun q h => Or.inr h
  generalize va_A (wl E I) s.heap.size = A at hD hA hT ⊢
  have hS : va_S A s.heap s.heap [] := va_S.rf
  have hl := lv_entry av (n := nL) hn
  rw [lg_entry_eq]
  generalize (lg_sl av ++ List.replicate (nL - (lg_sl av).length) Slot.unset).toArray = ls at hl ⊢
  have K := k (fun I pc lv st => ∀ (H : Heap) (locs : List Loc) (ls : Array Slot), va_P E.2.1 vwCl (wl E I) H → va_D A (wl E I) → va_S A s.heap H locs → lv_has ls nL lv → W p l e (rmL d) s m av.toArray below meth c H locs 0 0 (MQ below (QQ E (qV Q) A) av.toArray s 0 0 A) (F0 m pc ls st))
    ⟨p, l, e, s, m, av.toArray, below, meth, c, A, _, 0, 0, ⟨hx, hb, hml, hown, hts, hK, hN, hT, hA, Nat.zero_le _, Nat.zero_le _⟩, fun _ _ _ _ => Iff.rfl⟩ ?_
  · exact K s.heap [] ls hP hD hS hl
  · intro I2 pc lv hd hq H locs ls hP2 hD2 hS2 _
    exact W.vret hx hb hr (fun t ht hW => ⟨⟨none, I2, rfl, ⟨rfl, hq⟩, by rw [ht]; exact hP2, hD2⟩, hS2.F ht⟩) hS2.2.2 hd
theorem Ctr.mono {E : En} {y : MethodName} {cc : ByteArray} {nL d : Nat} {rt : Option FieldType} {av : List Value} {I : Mem} {Q Q' : Option Value → Mem → Prop} (h : Ctr E y cc nL rt d av I Q) (hq : ∀ v I, Q v I → Q' v I) : Ctr E y cc nL rt d av I Q' := by
  intro l sz
  refine (h l sz).mono (fun _ _ q => q) (fun _ _ _ _ _ q => q) (fun a s o t hp q => ⟨?_, q.2⟩)
  obtain ⟨⟨v, I2, e, h1, h2, h3⟩, hF⟩ := q.1
  exact ⟨⟨v, I2, e, hq v I2 h1, h2, h3⟩, hF⟩
theorem Ctr.iMono {E : En} {y : MethodName} {cc : ByteArray} {nL d : Nat} {rt : Option FieldType} {av : List Value} {I : Mem} {Q Q' : Int32 → Mem → Prop} (h : Ctr E y cc nL rt d av I (qI Q)) (hq : ∀ v I, Q v I → Q' v I) : Ctr E y cc nL rt d av I (qI Q') := h.mono (fun _ I ⟨r, e, q⟩ => ⟨r, e, hq r I q⟩)
theorem Ctr.vMono {E : En} {y : MethodName} {cc : ByteArray} {nL d : Nat} {rt : Option FieldType} {av : List Value} {I : Mem} {Q Q' : Mem → Prop} (h : Ctr E y cc nL rt d av I (qV Q)) (hq : ∀ I, Q I → Q' I) : Ctr E y cc nL rt d av I (qV Q') := h.mono (fun _ I ⟨e, q⟩ => ⟨e, hq I q⟩)
theorem pre_blind (av : List Value) (E : En) (I : Mem) (sz : Nat) : FrameBlind (va_Pc av (PreB E I sz)) := by
  intro a U g mk q
  obtain ⟨q0, q1, qP, qK, qD, qN, qT⟩ := q
  exact ⟨q0, q1, qP, va_K.moved (u := U) (U := U.calling g mk a) (Vm.Alike.refl U.vm) qK, qD, NW.same (s := U) (U := U.calling g mk a) rfl qN, ST.moved (u := U) (U := U.calling g mk a) (Vm.Alike.refl U.vm) qT⟩
theorem free_wl {E : En} {I : Mem} {A : Nat → Prop} {H0 H : Heap} {locs : List Loc} (hD : va_D A (wl E I)) (hS : va_S A H0 H locs) (hA : ∀ q, H0.size ≤ q → A q) : ∀ q, va_A (wl E I) H.size q → A q := by
  intro q h
  rcases h with ⟨k, e, hk⟩ | h
  · exact hD.2 k (q, e) hk
  · exact hA q (Nat.le_trans hS.1 h)
theorem pre_at {E : En} {I : Mem} {A : Nat → Prop} {s U : State} {H : Heap} {locs : List Loc} (hK : va_K E.2.1 vwCl (tys E) s) (hN : NW s) (hT : ST E A s s.heap) (hA : ∀ q, s.heap.size ≤ q → A q) (hP : va_P E.2.1 vwCl (wl E I) H) (hD : va_D A (wl E I)) (hS : va_S A s.heap H locs) (hU : U.heap = H) (hW : s.WarmedH U.vm) : PreB E I H.size U := by
  refine ⟨by rw [hU], by rw [hU]; exact hP, va_K.moved hW.alike hK, hD.weaken (fun _ _ _ _ => trivial), NW.warm hW hN, ?_⟩
  rw [hU]
  exact ST.moved hW.alike ((hT.kept hS.2.1).narrow (free_wl hD hS hA))
/-- what comes back from a call -/
theorem after_call {p : Program} {l : Launch} {e : Env} {R : Room} {s : State} {m : MethodId} {args : Array Value} {below : List Frame} {meth : Method} {c : Code} {H : Heap} {locs : List Loc} {n1 n2 : Nat} {Z : State → Prop} {pc : Nat} {ls : Array Slot} {st0 rest : List Value} {E : En} {I : Mem} {A : Nat → Prop} {Q : Option Value → Mem → Prop} {a : Array Value}
    (hr : va_Run p l e R s m args below meth c H locs n1 n2 0 0 (F0 m pc ls st0) rest (QQ E Q (va_A (wl E I) H.size) a) (va_A (wl E I) H.size)) (hD : va_D A (wl E I)) (hS : va_S A s.heap H locs) (hA : ∀ q, s.heap.size ≤ q → A q)
    (kk : ∀ (v : Option Value) (I1 : Mem) (H1 : Heap) (locs1 : List Loc), Q v I1 → va_P E.2.1 vwCl (wl E I1) H1 → va_D A (wl E I1) → va_S A s.heap H1 locs1 → W p l e R s m args below meth c H1 locs1 n1 n2 Z (F0 m (pc + 3) ls (v.toList ++ rest))) : W p l e R s m args below meth c H locs n1 n2 Z (F0 m pc ls st0) := by
  intro T hT X
  obtain ⟨v, st₀, t, T', L, e0, X', hL, e1, e2, ⟨⟨v1, I1, ev, hQ, hP1, hD1⟩, hF⟩, hg⟩ := hr T hT X
  cases ev
  have hfr := free_wl hD hS hA
  have hS1 : va_S A s.heap T'.heap (locs ++ L) := by
    refine ⟨?_, ?_, ?_⟩
    · rw [e1]
      have := hF.1
      rw [e0] at this
      exact Nat.le_trans hS.1 this
    · intro q h1 h2
      rw [e1, hF.2 q (by rw [e0]; exact Nat.lt_of_lt_of_le h1 hS.1) (fun q2 => h2 (hfr q q2)), e0]
      exact hS.2.1 q h1 h2
    · intro x hx
      rcases List.mem_append.mp hx with hx | hx
      · exact hS.2.2 x hx
      · exact hfr _ (hL x hx)
  have hD2 : va_D A (wl E I1) := ⟨hD1.1, fun k q hk => hfr _ (hD1.2 k q hk)⟩
  obtain ⟨t2, s2, z2⟩ := kk v I1 T'.heap (locs ++ L) hQ (by rw [e1]; exact hP1) hD2 hS1 T' rfl X'
  exact ⟨t2, hg t2 s2, z2⟩
