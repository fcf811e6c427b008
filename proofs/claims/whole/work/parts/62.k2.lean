/-! CONTRACTS of what makes cells: from the world ws0, at heap size sz, to the world w1 sz -/
def PreC (E : En) (sn : SN) (ws0 : va_W) (sz : Nat) (U : State) : Prop := U.heap.size = sz ∧ va_P E.2.1 vwCl ws0 U.heap ∧ va_K E.2.1 vwCl (tys E) U ∧ va_D (fun _ => True) ws0 ∧ NW U ∧ OV U ∧ SX sn (va_A ws0 sz) U U.heap
def QC (E : En) (v : Option Value) (w1 : va_W) (A : Nat → Prop) : Array Value → State → Outcome → State → Prop := fun _ st oc t => (oc = .returned v ∧ va_P E.2.1 vwCl w1 t.heap ∧ va_D A w1) ∧ va_F A st t
def CtrC (E : En) (sn : SN) (y : MethodName) (cc : ByteArray) (nL : Nat) (rt : Option FieldType) (d C S : Nat) (av : List Value) (ws0 : va_W) (v1 : Nat → Option Value) (w1 : Nat → va_W) : Prop :=
  ∀ (l : Launch) (sz : Nat), Met l y (Cond.code y cc nL rt :: TB) (rmC d C S) (va_Pc av (PreC E sn ws0 sz)) (QC E (v1 sz) (w1 sz) (va_A ws0 sz)) C S (va_A ws0 sz)
def RetC (cc : ByteArray) (C S : Nat) (w1 : va_W) (g : WT) : Prop := ∀ (ws : va_W) (pc : Nat) (lv : LV), decode cc pc = .ok (.return_, 1) → ws = w1 → g ws C S pc lv []
def RetA (cc : ByteArray) (C S : Nat) (a : Nat) (w1 : va_W) (g : WT) : Prop := ∀ (ws : va_W) (pc : Nat) (lv : LV), decode cc pc = .ok (.areturn, 1) → ws = w1 → g ws C S pc lv [.ref a]
set_option maxHeartbeats 1000000 in
theorem CtrC.openV {E : En} {sn : SN} {y : MethodName} {cc : ByteArray} {nL : Nat} {d C S : Nat} {av : List Value} {ws0 : va_W} {w1 : Nat → va_W}  (hy : plainFor y = true) (hn : (lg_sl av).length ≤ nL)
    (k : ∀ (sz : Nat) (g : WT), Smw cc y.cls nL (rmC d C S) E sn sz (decide (y.name = "<init>")) g → RetC cc C S  (w1 sz) g → g ws0 0 0 0 (lv_args 0 av) []) : CtrC E sn y cc nL none d C S av ws0 (fun _ => none) w1 := by
  intro l sz
  refine metW (cc := cc) (maxL := nL) (ret := none) hy rfl ?_
  intro p e s m args below meth c s₁ B hml hv
  obtain ⟨rfl, hsz, hP, hK, hD0, hN, hO, hX⟩ := hv
  have hx := B.exec
  have hb := B.bytes
  have hr := B.returns
  have hts : ∀ w ∈ TB, w.before av.toArray s = true := fun w hw => atoms_spec (ws := Cond.code y cc nL none :: TB) B.pre w (List.mem_cons_of_mem _ hw)
  have hown : s.vm.findClass y.cls = some m.cls := findClass_of_methodNamed B.named
  have hname : meth.name = y.name := (name_of_methodNamed B.named B.method).1
  have hlocks := B.notSynchronized
  subst hsz
  have hD := hD0.self (sz := s.heap.size)
  have hA : ∀ q : Nat, s.heap.size ≤ q → va_A ws0 s.heap.size q := fun q h => Or.inr h
  generalize va_A ws0 s.heap.size = A at hD hA hX ⊢
  have hS : va_S A s.heap s.heap [] := va_S.rf
  have hl := lv_entry av (n := nL) hn
  rw [lg_entry_eq]
  generalize (lg_sl av ++ List.replicate (nL - (lg_sl av).length) Slot.unset).toArray = ls at hl ⊢
  have K := k s.heap.size (fun ws n1 n2 pc lv st => ∀ (H : Heap) (locs : List Loc) (ls : Array Slot), va_P E.2.1 vwCl ws H → va_D A ws → va_S A s.heap H locs → lv_has ls nL lv → W p l e (rmC d C S) s m av.toArray below meth c H locs n1 n2 (MQ below (QC E ((fun _ => none) s.heap.size) (w1 s.heap.size) A) av.toArray s C S A) (F0 m pc ls st))
    ⟨p, l, e, s, m, av.toArray, below, meth, c, A, _, ⟨hx, hb, hml, hown, hts, hK, hN, hO, hX, hA, rfl, fun hm => hname.trans (of_decide_eq_true hm)⟩, fun _ _ _ _ _ _ => Iff.rfl⟩ ?_
  · exact K s.heap [] ls hP hD hS hl
  · intro ws pc lv hd hq H locs ls hP2 hD2 hS2 _
    subst hq
    exact W.vret hx hb hr (fun t ht hW => ⟨⟨rfl, by rw [ht]; exact hP2, hD2⟩, hS2.F ht⟩) hS2.2.2 hd
set_option maxHeartbeats 1000000 in
theorem CtrC.openA {E : En} {sn : SN} {y : MethodName} {cc : ByteArray} {nL : Nat} {d C S : Nat} {av : List Value} {ws0 : va_W} {w1 : Nat → va_W} {a1 : Nat → Nat} (hy : plainFor y = true) (hn : (lg_sl av).length ≤ nL)
    (k : ∀ (sz : Nat) (g : WT), Smw cc y.cls nL (rmC d C S) E sn sz (decide (y.name = "<init>")) g → RetA cc C S (a1 sz) (w1 sz) g → g ws0 0 0 0 (lv_args 0 av) []) : CtrC E sn y cc nL (some (.array .int)) d C S av ws0 (fun sz => some (.ref (a1 sz))) w1 := by
  intro l sz
  refine metW (cc := cc) (maxL := nL) (ret := (some (.array .int))) hy rfl ?_
  intro p e s m args below meth c s₁ B hml hv
  obtain ⟨rfl, hsz, hP, hK, hD0, hN, hO, hX⟩ := hv
  have hx := B.exec
  have hb := B.bytes
  have hr := B.returns
  have hts : ∀ w ∈ TB, w.before av.toArray s = true := fun w hw => atoms_spec (ws := Cond.code y cc nL (some (.array .int)) :: TB) B.pre w (List.mem_cons_of_mem _ hw)
  have hown : s.vm.findClass y.cls = some m.cls := findClass_of_methodNamed B.named
  have hname : meth.name = y.name := (name_of_methodNamed B.named B.method).1
  have hlocks := B.notSynchronized
  subst hsz
  have hD := hD0.self (sz := s.heap.size)
  have hA : ∀ q : Nat, s.heap.size ≤ q → va_A ws0 s.heap.size q := fun q h => Or.inr h
  generalize va_A ws0 s.heap.size = A at hD hA hX ⊢
  have hS : va_S A s.heap s.heap [] := va_S.rf
  have hl := lv_entry av (n := nL) hn
  rw [lg_entry_eq]
  generalize (lg_sl av ++ List.replicate (nL - (lg_sl av).length) Slot.unset).toArray = ls at hl ⊢
  have K := k s.heap.size (fun ws n1 n2 pc lv st => ∀ (H : Heap) (locs : List Loc) (ls : Array Slot), va_P E.2.1 vwCl ws H → va_D A ws → va_S A s.heap H locs → lv_has ls nL lv → W p l e (rmC d C S) s m av.toArray below meth c H locs n1 n2 (MQ below (QC E ((fun sz => some (.ref (a1 sz))) s.heap.size) (w1 s.heap.size) A) av.toArray s C S A) (F0 m pc ls st))
    ⟨p, l, e, s, m, av.toArray, below, meth, c, A, _, ⟨hx, hb, hml, hown, hts, hK, hN, hO, hX, hA, rfl, fun hm => hname.trans (of_decide_eq_true hm)⟩, fun _ _ _ _ _ _ => Iff.rfl⟩ ?_
  · exact K s.heap [] ls hP hD hS hl
  · intro ws pc lv hd hq H locs ls hP2 hD2 hS2 _
    subst hq
    exact W.aret (v := .ref (a1 s.heap.size)) hx hb hr (Or.inr ⟨_, rfl⟩) (Or.inr ⟨_, rfl⟩) (fun t ht hW => ⟨⟨rfl, by rw [ht]; exact hP2, hD2⟩, hS2.F ht⟩) hS2.2.2 hd
theorem pre_blindC (av : List Value) (E : En) (sn : SN) (ws0 : va_W) (sz : Nat) : FrameBlind (va_Pc av (PreC E sn ws0 sz)) := by
  intro a U g mk q
  obtain ⟨q0, q1, qP, qK, qD, qN, qO, qT⟩ := q
  exact ⟨q0, q1, qP, va_K.moved (u := U) (U := U.calling g mk a) (Vm.Alike.refl U.vm) qK, qD, NW.same (s := U) (U := U.calling g mk a) rfl qN, OV.moved (u := U) (U := U.calling g mk a) (Vm.Alike.refl U.vm) qO, SX.moved (u := U) (U := U.calling g mk a) (Vm.Alike.refl U.vm) qT⟩
/-- the callee's cells lie in the caller's world -/
def inW (ws ws0 : va_W) : Prop := ∃ f : Nat → Nat, ∀ (k : Nat) (q : Nat × va_E), ws0[k]? = some q → ws[f k]? = some q ∧ ∀ (j : Nat) (q2 : Nat × va_E), ws0[j]? = some q2 → f j = f k → j = k
theorem free_in {ws ws0 : va_W} {A : Nat → Prop} {H0 H : Heap} {locs : List Loc} (hi : inW ws ws0) (hD : va_D A ws) (hS : va_S A H0 H locs) (hA : ∀ q, H0.size ≤ q → A q) : ∀ q, va_A ws0 H.size q → A q := by
  obtain ⟨f, hf⟩ := hi
  intro q h
  rcases h with ⟨k, e, hk⟩ | h
  · exact hD.2 _ (q, e) (hf k _ hk).1
  · exact hA q (Nat.le_trans hS.1 h)
theorem pre_atC {E : En} {sn : SN} {ws ws0 : va_W} {A : Nat → Prop} {s U : State} {H : Heap} {locs : List Loc} {sz : Nat} (hi : inW ws ws0) (hK : va_K E.2.1 vwCl (tys E) s) (hN : NW s) (hO : OV s) (hX : SX sn A s s.heap) (hA : ∀ q, s.heap.size ≤ q → A q) (hP : va_P E.2.1 vwCl ws H) (hD : va_D A ws) (hS : va_S A s.heap H locs) (hsz : H.size = sz) (hU : U.heap = H) (hW : s.WarmedH U.vm) : PreC E sn ws0 sz U := by
  subst hsz
  have hf := free_in hi hD hS hA
  obtain ⟨f, hi⟩ := hi
  refine ⟨by rw [hU], by rw [hU]; exact fun k q hk => hP _ q (hi k q hk).1, va_K.moved hW.alike hK, ⟨fun i j x y hx hy hxy => (hi j y hy).2 i x hx (hD.1 _ _ x y (hi i x hx).1 (hi j y hy).1 hxy), fun _ _ _ => trivial⟩, NW.warm hW hN, OV.moved hW.alike hO, ?_⟩
  rw [hU]
  exact SX.moved hW.alike ((hX.kept hS.2.1).narrow hf)
theorem after_callC {p : Program} {l : Launch} {e : Env} {R : Room} {s : State} {m : MethodId} {args : Array Value} {below : List Frame} {meth : Method} {c : Code} {H : Heap} {locs : List Loc} {n1 n2 C S : Nat} {Z : State → Prop} {pc : Nat} {ls : Array Slot} {st0 rest : List Value} {E : En} {ws0 w1 : va_W} {A : Nat → Prop} {v : Option Value} {a : Array Value}
    (hr : va_Run p l e R s m args below meth c H locs n1 n2 C S (F0 m pc ls st0) rest (QC E v w1 (va_A ws0 H.size) a) (va_A ws0 H.size)) (hfr : ∀ q, va_A ws0 H.size q → A q) (hS : va_S A s.heap H locs)
    (kk : ∀ (H1 : Heap) (locs1 : List Loc), va_P E.2.1 vwCl w1 H1 → va_D (va_A ws0 H.size) w1 → (∀ q : Nat, q < H.size → ¬ va_A ws0 H.size q → H1[q]? = H[q]?) → va_S A s.heap H1 locs1 → W p l e R s m args below meth c H1 locs1 (n1 + C) (n2 + S) Z (F0 m (pc + 3) ls (v.toList ++ rest))) : W p l e R s m args below meth c H locs n1 n2 Z (F0 m pc ls st0) := by
  intro T hT X
  obtain ⟨v2, st₀, t, T', L, e0, X', hL, e1, e2, ⟨⟨ev, hP1, hD1⟩, hF⟩, hg⟩ := hr T hT X
  cases ev
  have hS1 : va_S A s.heap T'.heap (locs ++ L) := by
    refine ⟨?_, ?_, ?_⟩
    · rw [e1]
      have := hF.1
      rw [e0] at this
      exact Nat.le_trans hS.1 this
    · intro q h1 h2
      rw [e1, hF.2 q (by rw [e0]; exact Nat.lt_of_lt_of_le h1 hS.1) (fun q2 => h2 (hfr q q2)), e0]
      exact hS.2.1 q h1 h2
    · intro x hx
      rcases List.mem_append.mp hx with hx | hx
      · exact hS.2.2 x hx
      · exact hfr _ (hL x hx)
  obtain ⟨t2, s2, z2⟩ := kk T'.heap (locs ++ L) (by rw [e1]; exact hP1) hD1 (fun q h1 h2 => by rw [e1, hF.2 q (by rw [e0]; exact h1) h2, e0]) hS1 T' rfl X'
  exact ⟨t2, hg t2 s2, z2⟩
theorem inW_app (wr ws0 : va_W) : inW (wr ++ ws0) ws0 := by
  refine ⟨fun k => wr.length + k, fun k q hk => ⟨?_, fun j q2 _ h => by dsimp only at h; omega⟩⟩
  dsimp only
  rw [List.getElem?_append_right (by omega), Nat.add_sub_cancel_left]
  exact hk
theorem inW_one {ws : va_W} {k : Nat} {x : Nat × va_E} (h : ws[k]? = some x) : inW ws [x] := by
  refine ⟨fun _ => k, fun j q hj => ?_⟩
  have hz : j < 1 := (List.getElem?_eq_some_iff.mp hj).1
  have e0 : j = 0 := by omega
  subst e0
  cases hj
  refine ⟨h, fun i q2 hi _ => ?_⟩
  have hz2 : i < 1 := (List.getElem?_eq_some_iff.mp hi).1
  omega
theorem join_app {wr ws0 w1 : va_W} {A : Nat → Prop} {D : va_G} {cl : List vw_C} {H H1 : Heap} (hP : va_P D cl (wr ++ ws0) H) (hD : va_D A (wr ++ ws0)) (hfr : ∀ q, va_A ws0 H.size q → A q) (hP1 : va_P D cl w1 H1) (hD1 : va_D (va_A ws0 H.size) w1) (hk : ∀ q : Nat, q < H.size → ¬ va_A ws0 H.size q → H1[q]? = H[q]?) : va_P D cl (wr ++ w1) H1 ∧ va_D A (wr ++ w1) := by
  have hl : ∀ (k : Nat) (q : Nat × va_E), wr[k]? = some q → (wr ++ ws0)[k]? = some q := fun k q h => by
    rw [List.getElem?_append_left (List.getElem?_eq_some_iff.mp h).1]; exact h
  have hr : ∀ (k : Nat) (q : Nat × va_E), ws0[k]? = some q → (wr ++ ws0)[wr.length + k]? = some q := fun k q h => by
    rw [List.getElem?_append_right (by omega), Nat.add_sub_cancel_left]; exact h
  have hno : ∀ (k : Nat) (q : Nat × va_E), wr[k]? = some q → ¬ va_A ws0 H.size q.1 := by
    intro k q h hA
    have hlt := (hP k q (hl k q h)).lt
    rcases hA with ⟨j, x, hj⟩ | hA
    · have := hD.1 _ _ _ _ (hl k q h) (hr j _ hj) rfl
      have h2 := (List.getElem?_eq_some_iff.mp h).1
      omega
    · omega
  refine ⟨va_P.app (fun k q h => (hP k q (hl k q h)).kept (hk _ (hP k q (hl k q h)).lt (hno k q h))) hP1, va_D.app ⟨fun i j x y hx hy hxy => hD.1 i j x y (hl i x hx) (hl j y hy) hxy, fun k q h => hD.2 k q (hl k q h)⟩ (hD1.weaken (fun k q _ h => hfr q.1 h)) (fun i j x y hx hy hxy => hno i x hx (by rw [hxy]; exact hD1.2 j y hy))⟩
theorem join_set {ws : va_W} {k a : Nat} {x0 x1 : va_E} {A : Nat → Prop} {D : va_G} {cl : List vw_C} {H H1 : Heap} (he : ws[k]? = some (a, x0)) (hP : va_P D cl ws H) (hD : va_D A ws) (hP1 : va_P D cl [(a, x1)] H1) (hk : ∀ q : Nat, q < H.size → ¬ va_A [(a, x0)] H.size q → H1[q]? = H[q]?) : va_P D cl (ws.set k (a, x1)) H1 ∧ va_D A (ws.set k (a, x1)) := by
  refine ⟨fun j q hj => ?_, hD.set he⟩
  by_cases e : k = j
  · subst e
    rw [List.getElem?_set_self (List.getElem?_eq_some_iff.mp he).1] at hj
    cases hj
    exact hP1 0 _ rfl
  · rw [List.getElem?_set_ne e] at hj
    have hlt := (hP j q hj).lt
    refine (hP j q hj).kept (hk _ hlt (fun hA => ?_))
    rcases hA with ⟨i, x, hi⟩ | hA
    · have hz : i < 1 := (List.getElem?_eq_some_iff.mp hi).1
      have e0 : i = 0 := by omega
      subst e0
      have e1 : q.1 = a := by cases hi; rfl
      exact e (hD.1 _ _ _ _ he hj e1.symm)
    · omega
def CaI (y : MethodName) (cc : ByteArray) (nL n : Nat) : Prop := Cond.code y cc nL none ∈ TB ∧ Cond.initialized y.cls ∈ TB ∧ Cond.instanceMethod y ∈ TB ∧ y.name = "<init>" ∧ (y.cls ≠ "java/lang/invoke/MethodHandle" ∧ y.cls ≠ "java/lang/invoke/VarHandle" ∧ (parseMethodDescriptor y.desc).map (fun d => d.parameters.length) = some n)
section GW2
variable {cc : ByteArray} {own : String} {nL : Nat} {R : Room} {E : En} {sn : SN} {sz : Nat} {mi : Bool} {g : WT} {ws : va_W} {n1 n2 : Nat} {lv : LV} {st : List Value}
theorem w_callI (h : Smw cc own nL R E sn sz mi g) {pc idx nL' d' n C S a : Nat} {y : MethodName} {cc' : ByteArray} {x0 : va_E} {As stk : List Value} {w1 : Nat → va_W} {ws2 : va_W} (d : decode cc pc = .ok (.invokespecial idx, 3)) (hw : Cond.methodLink own idx y ∈ TB) (hca : CaI y cc' nL' n) (hC : CtrC E sn y cc' nL' none d' C S (.ref a :: As) [(a, x0)] (fun _ => none) w1) (wr : va_W) (hwr : ws = wr ++ [(a, x0)]) (hn : As.length = n) (hstk : stk = As.reverse ++ .ref a :: st) (hcat : (st.map fun v => v.category).sum ≤ 8) (hR : d' + 1 ≤ R.frames ∧ 8 + (nL' + 11) + 64 * d' ≤ R.locals) (hcs : n1 + C ≤ R.cells ∧ n2 + S ≤ R.slots) (ht : topAt ws sz n1) (hw2 : wr ++ w1 (sz + n1) = ws2) (kk : g ws2 (n1 + C) (n2 + S) (pc + 3) lv st) : g ws n1 n2 pc lv stk := by
  obtain ⟨p, l, e, s, m, args, below, meth, c, A, Z, ⟨hx, hb, hml, hown, hts, hK, hN, hO, hX, hA, hz, hi0⟩, hg⟩ := h
  refine (hg _ _ _ _ _ _).mpr (fun H locs ls hP hD hS hv => ?_)
  refine W.le (fun hle => ?_)
  have hsz := size_is hz ht hP hS hle
  subst hwr
  have hfr := free_in (inW_app wr [(a, x0)]) hD hS hA
  obtain ⟨c1, c2, c3, c4, c5⟩ := hca
  rw [← hsz] at hw2
  refine after_callC (va_runI (As := As) (rest := st) (Ts := TB) ⟨hx, hb, hml, hown, hts⟩ (hC l H.size) ⟨callB_of n hts (tb_code c1) rfl rfl rfl (hts _ c2) (hts _ hw) c5 hR, c4, hts _ c3⟩ ⟨pre_blindC _ E sn _ H.size, fun U hU hW => ⟨rfl, pre_atC (inW_app wr _) hK hN hO hX hA hP hD hS rfl hU hW⟩⟩ rfl hn hv.1 hstk (lv_room hcat) d hcs) hfr hS (fun H1 locs1 hP1 hD1 hk hS1 => ?_)
  obtain ⟨j1, j2⟩ := join_app hP hD hfr hP1 hD1 hk
  rw [hw2] at j1 j2
  exact (hg _ _ _ _ _ _).mp kk H1 locs1 ls j1 j2 hS1 hv
theorem w_callIN (h : Smw cc own nL R E sn sz mi g) {pc idx nL' d' n C S a : Nat} {y : MethodName} {host : String} {cc' : ByteArray} {x0 : va_E} {As stk : List Value} {w1 : Nat → va_W} {ws2 : va_W} (d : decode cc pc = .ok (.invokespecial idx, 3)) (hw : Cond.methodLinkNest own idx y host ∈ nestW) (hca : CaI y cc' nL' n) (hC : CtrC E sn y cc' nL' none d' C S (.ref a :: As) [(a, x0)] (fun _ => none) w1) (wr : va_W) (hwr : ws = wr ++ [(a, x0)]) (hn : As.length = n) (hstk : stk = As.reverse ++ .ref a :: st) (hcat : (st.map fun v => v.category).sum ≤ 8) (hR : d' + 1 ≤ R.frames ∧ 8 + (nL' + 11) + 64 * d' ≤ R.locals) (hcs : n1 + C ≤ R.cells ∧ n2 + S ≤ R.slots) (ht : topAt ws sz n1) (hw2 : wr ++ w1 (sz + n1) = ws2) (kk : g ws2 (n1 + C) (n2 + S) (pc + 3) lv st) : g ws n1 n2 pc lv stk := by
  obtain ⟨p, l, e, s, m, args, below, meth, c, A, Z, ⟨hx, hb, hml, hown, hts, hK, hN, hO, hX, hA, hz, hi0⟩, hg⟩ := h
  refine (hg _ _ _ _ _ _).mpr (fun H locs ls hP hD hS hv => ?_)
  refine W.le (fun hle => ?_)
  have hsz := size_is hz ht hP hS hle
  subst hwr
  have hfr := free_in (inW_app wr [(a, x0)]) hD hS hA
  obtain ⟨c1, c2, c3, c4, c5⟩ := hca
  rw [← hsz] at hw2
  refine after_callC (va_runIN (As := As) (rest := st) (Ts := TB) ⟨hx, hb, hml, hown, hts⟩ (hC l H.size) ⟨va_cnB n hts (tb_code c1) rfl rfl rfl (hN _ hw) (hts _ c2) c5 hR, c4, hts _ c3⟩ ⟨pre_blindC _ E sn _ H.size, fun U hU hW => ⟨rfl, pre_atC (inW_app wr _) hK hN hO hX hA hP hD hS rfl hU hW⟩⟩ rfl hn hv.1 hstk (lv_room hcat) d hcs) hfr hS (fun H1 locs1 hP1 hD1 hk hS1 => ?_)
  obtain ⟨j1, j2⟩ := join_app hP hD hfr hP1 hD1 hk
  rw [hw2] at j1 j2
  exact (hg _ _ _ _ _ _).mp kk H1 locs1 ls j1 j2 hS1 hv
theorem w_callA (h : Smw cc own nL R E sn sz mi g) {pc idx nL' d' n C S : Nat} {y : MethodName} {cc' : ByteArray} {rt : Option FieldType} {a1 : Nat → Nat} {As stk : List Value} {w1 : Nat → va_W} {ws2 : va_W} (d : decode cc pc = .ok (.invokestatic idx, 3)) (hw : Cond.methodLink own idx y ∈ TB) (hca : CaS y cc' nL' rt n) (hC : CtrC E sn y cc' nL' rt d' C S As [] (fun q => some (.ref (a1 q))) w1) (hn : As.length = n) (hstk : stk = As.reverse ++ st) (hcat : (st.map fun v => v.category).sum ≤ 8) (hR : d' + 1 ≤ R.frames ∧ 8 + (nL' + 11) + 64 * d' ≤ R.locals) (hcs : n1 + C ≤ R.cells ∧ n2 + S ≤ R.slots) (ht : topAt ws sz n1) (hw2 : ws ++ w1 (sz + n1) = ws2) (kk : g ws2 (n1 + C) (n2 + S) (pc + 3) lv (.ref (a1 (sz + n1)) :: st)) : g ws n1 n2 pc lv stk := by
  obtain ⟨p, l, e, s, m, args, below, meth, c, A, Z, ⟨hx, hb, hml, hown, hts, hK, hN, hO, hX, hA, hz, hi0⟩, hg⟩ := h
  refine (hg _ _ _ _ _ _).mpr (fun H locs ls hP hD hS hv => ?_)
  refine W.le (fun hle => ?_)
  have hsz := size_is hz ht hP hS hle
  rw [show ws = ws ++ [] by simp] at hP hD
  have hfr := free_in (inW_app ws []) hD hS hA
  obtain ⟨c1, c2, c3, c5⟩ := hca
  rw [← hsz] at hw2 kk
  refine after_callC (va_runS (As := As) (rest := st) (Ts := TB) ⟨hx, hb, hml, hown, hts⟩ (hC l H.size) ⟨callB_of n hts (tb_code c1) rfl rfl rfl (hts _ c2) (hts _ hw) c5 hR, hts _ c3⟩ ⟨pre_blindC _ E sn _ H.size, fun U hU hW => ⟨rfl, pre_atC (inW_app ws []) hK hN hO hX hA hP hD hS rfl hU hW⟩⟩ rfl hn hv.1 hstk (lv_room hcat) d hcs) hfr hS (fun H1 locs1 hP1 hD1 hk hS1 => ?_)
  obtain ⟨j1, j2⟩ := join_app hP hD hfr hP1 hD1 hk
  rw [hw2] at j1 j2
  exact (hg _ _ _ _ _ _).mp kk H1 locs1 ls j1 j2 hS1 hv
theorem w_callS (h : Smw cc own nL R E sn sz mi g) {pc idx nL' d' n k a : Nat} {y : MethodName} {cc' : ByteArray} {x0 x1 : va_E} {As stk : List Value} {ws2 : va_W} (d : decode cc pc = .ok (.invokestatic idx, 3)) (hw : Cond.methodLink own idx y ∈ TB) (hca : CaS y cc' nL' none n) (hC : CtrC E sn y cc' nL' none d' 0 0 As [(a, x0)] (fun _ => none) (fun _ => [(a, x1)])) (k0 : k = k) (he : ws[k]? = some (a, x0)) (hn : As.length = n) (hstk : stk = As.reverse ++ st) (hcat : (st.map fun v => v.category).sum ≤ 8) (hR : d' + 1 ≤ R.frames ∧ 8 + (nL' + 11) + 64 * d' ≤ R.locals) (hcs : n1 ≤ R.cells ∧ n2 ≤ R.slots) (hw2 : ws.set k (a, x1) = ws2) (kk : g ws2 n1 n2 (pc + 3) lv st) : g ws n1 n2 pc lv stk := by
  obtain ⟨p, l, e, s, m, args, below, meth, c, A, Z, ⟨hx, hb, hml, hown, hts, hK, hN, hO, hX, hA, hz, hi0⟩, hg⟩ := h
  refine (hg _ _ _ _ _ _).mpr (fun H locs ls hP hD hS hv => ?_)
  have hfr := free_in (inW_one he) hD hS hA
  obtain ⟨c1, c2, c3, c5⟩ := hca
  refine after_callC (va_runS (As := As) (rest := st) (Ts := TB) ⟨hx, hb, hml, hown, hts⟩ (hC l H.size) ⟨callB_of n hts (tb_code c1) rfl rfl rfl (hts _ c2) (hts _ hw) c5 hR, hts _ c3⟩ ⟨pre_blindC _ E sn _ H.size, fun U hU hW => ⟨rfl, pre_atC (inW_one he) hK hN hO hX hA hP hD hS rfl hU hW⟩⟩ rfl hn hv.1 hstk (lv_room hcat) d hcs) hfr hS (fun H1 locs1 hP1 hD1 hk hS1 => ?_)
  obtain ⟨j1, j2⟩ := join_set he hP hD hP1 hk
  rw [hw2] at j1 j2
  exact (hg _ _ _ _ _ _).mp kk H1 locs1 ls j1 j2 hS1 hv
theorem w_callV (h : Smw cc own nL R E sn sz mi g) {pc idx nL' d' n k a ci N : Nat} {y : MethodName} {cc' : ByteArray} {Cn : String} {T : u_T} {fs0 : List Value} {x1 : va_E} {As stk : List Value} {ws2 : va_W} (d : decode cc pc = .ok (.invokevirtual idx, 3)) (hw : Cond.methodLink own idx y ∈ TB) (hca : CaV y cc' nL' none Cn n) (hc : vwCl[ci]? = some (Cn, T, N)) (hC : CtrC E sn y cc' nL' none d' 0 0 (.ref a :: As) [(a, .inr (ci, fs0))] (fun _ => none) (fun _ => [(a, x1)])) (k0 : k = k) (he : ws[k]? = some (a, .inr (ci, fs0))) (hn : As.length = n) (hstk : stk = As.reverse ++ .ref a :: st) (hcat : (st.map fun v => v.category).sum ≤ 8) (hR : d' + 1 ≤ R.frames ∧ 8 + (nL' + 11) + 64 * d' ≤ R.locals) (hcs : n1 ≤ R.cells ∧ n2 ≤ R.slots) (hw2 : ws.set k (a, x1) = ws2) (kk : g ws2 n1 n2 (pc + 3) lv st) : g ws n1 n2 pc lv stk := by
  obtain ⟨p, l, e, s, m, args, below, meth, c, A, Z, ⟨hx, hb, hml, hown, hts, hK, hN, hO, hX, hA, hz, hi0⟩, hg⟩ := h
  refine (hg _ _ _ _ _ _).mpr (fun H locs ls hP hD hS hv => ?_)
  have hfr := free_in (inW_one he) hD hS hA
  obtain ⟨c1, c2, c3, c4, c5⟩ := hca
  refine after_callC (va_runV (As := As) (rest := st) (Ts := TB) ⟨hx, hb, hml, hown, hts⟩ (hC l H.size) ⟨callB_of n hts (tb_code c1) rfl rfl rfl (hts _ c2) (hts _ hw) c5 hR, hts _ c3, hts _ c4⟩ ⟨pre_blindC _ E sn _ H.size, va_recv hK hP (ci := ci) (q0 := k) (q := (Cn, T, N)) hc he, fun U hU hW => ⟨rfl, pre_atC (inW_one he) hK hN hO hX hA hP hD hS rfl hU hW⟩⟩ rfl hn hv.1 hstk (lv_room hcat) d hcs) hfr hS (fun H1 locs1 hP1 hD1 hk hS1 => ?_)
  obtain ⟨j1, j2⟩ := join_set he hP hD hP1 hk
  rw [hw2] at j1 j2
  exact (hg _ _ _ _ _ _).mp kk H1 locs1 ls j1 j2 hS1 hv
end GW2
theorem wz_X10 : Cond.initialized "ThrowersBag" ∈ TB := tb_at 52 (by decide +kernel) (by decide +kernel)
theorem wz_X9 : Cond.initialized "ThrowersBag$Wind" ∈ TB := tb_at 53 (by decide +kernel) (by decide +kernel)
theorem wz_X4 : Cond.initialized "ThrowersBag$Meadow" ∈ TB := tb_at 54 (by decide +kernel) (by decide +kernel)
theorem wz_X8 : Cond.initialized "ThrowersBag$Tree" ∈ TB := tb_at 55 (by decide +kernel) (by decide +kernel)
theorem wz_X1 : Cond.initialized "ThrowersBag$Flight" ∈ TB := tb_at 56 (by decide +kernel) (by decide +kernel)
theorem wz_X0 : Cond.initialized "ThrowersBag$Aim" ∈ TB := tb_at 57 (by decide +kernel) (by decide +kernel)
theorem wz_X3 : Cond.initialized "ThrowersBag$Match" ∈ TB := tb_at 58 (by decide +kernel) (by decide +kernel)
theorem wz_X2 : Cond.initialized "ThrowersBag$Grass" ∈ TB := tb_at 60 (by decide +kernel) (by decide +kernel)
theorem wz_X7 : Cond.initialized "ThrowersBag$Stick" ∈ TB := tb_at 61 (by decide +kernel) (by decide +kernel)
theorem wz_X5 : Cond.initialized "ThrowersBag$Row" ∈ TB := tb_at 62 (by decide +kernel) (by decide +kernel)
theorem wz_X6 : Cond.initialized "ThrowersBag$Sheet" ∈ TB := tb_at 63 (by decide +kernel) (by decide +kernel)
theorem wz_X11 : Cond.initialized "ThrowersBagModel" ∈ TB := tb_at 64 (by decide +kernel) (by decide +kernel)
theorem wk_L_7 : Cond.classLink "ThrowersBagLaw" 7 "ThrowersBag" ∈ TB := tb_at 68 (by decide +kernel) (by decide +kernel)
theorem wi_X10 : Cond.instantiable "ThrowersBag" 19 ∈ TB := tb_at 69 (by decide +kernel) (by decide +kernel)
theorem ca_X10_init : CaI yX10_init cX10_init 2 0 := ⟨tb_at 72 (by decide +kernel) (by decide +kernel), wz_X10, tb_at 71 (by decide +kernel) (by decide +kernel), rfl, by decide +kernel⟩
theorem wo_X10 : Cond.methodLink RX10 1 Lib.objectInit ∈ TB := tb_at 73 (by decide +kernel) (by decide +kernel)
theorem wk_X10_17 : Cond.classLink "ThrowersBag" 17 "ThrowersBag$Stick" ∈ TB := tb_at 81 (by decide +kernel) (by decide +kernel)
theorem wk_X10_27 : Cond.classLink "ThrowersBag" 27 "ThrowersBag$Wind" ∈ TB := tb_at 83 (by decide +kernel) (by decide +kernel)
theorem wi_X9 : Cond.instantiable "ThrowersBag$Wind" 2 ∈ TB := tb_at 85 (by decide +kernel) (by decide +kernel)
theorem wn_X10_36 : Cond.methodLinkNest RX10 36 yX9_init "ThrowersBag" ∈ nestW := List.mem_of_getElem? (i := 56) (by decide +kernel)
theorem ca_X9_init : CaI yX9_init cX9_init 1 0 := ⟨tb_at 88 (by decide +kernel) (by decide +kernel), wz_X9, tb_at 87 (by decide +kernel) (by decide +kernel), rfl, by decide +kernel⟩
theorem wo_X9 : Cond.methodLink RX9 3 Lib.objectInit ∈ TB := tb_at 89 (by decide +kernel) (by decide +kernel)
theorem wk_X10_41 : Cond.classLink "ThrowersBag" 41 "ThrowersBag$Meadow" ∈ TB := tb_at 102 (by decide +kernel) (by decide +kernel)
theorem wi_X4 : Cond.instantiable "ThrowersBag$Meadow" 3 ∈ TB := tb_at 103 (by decide +kernel) (by decide +kernel)
theorem ca_X4_init : CaI yX4_init cX4_init 2 0 := ⟨tb_at 106 (by decide +kernel) (by decide +kernel), wz_X4, tb_at 105 (by decide +kernel) (by decide +kernel), rfl, by decide +kernel⟩
theorem wo_X4 : Cond.methodLink RX4 3 Lib.objectInit ∈ TB := tb_at 107 (by decide +kernel) (by decide +kernel)
theorem wk_X4_9 : Cond.classLink "ThrowersBag$Meadow" 9 "ThrowersBag$Tree" ∈ TB := tb_at 108 (by decide +kernel) (by decide +kernel)
theorem wi_X8 : Cond.instantiable "ThrowersBag$Tree" 4 ∈ TB := tb_at 110 (by decide +kernel) (by decide +kernel)
theorem wn_X4_24 : Cond.methodLinkNest RX4 24 yX8_init "ThrowersBag" ∈ nestW := List.mem_of_getElem? (i := 57) (by decide +kernel)
theorem ca_X8_init : CaI yX8_init cX8_init 1 0 := ⟨tb_at 113 (by decide +kernel) (by decide +kernel), wz_X8, tb_at 112 (by decide +kernel) (by decide +kernel), rfl, by decide +kernel⟩
theorem wo_X8 : Cond.methodLink RX8 1 Lib.objectInit ∈ TB := tb_at 114 (by decide +kernel) (by decide +kernel)
theorem wk_X10_48 : Cond.classLink "ThrowersBag" 48 "ThrowersBag$Flight" ∈ TB := tb_at 147 (by decide +kernel) (by decide +kernel)
theorem wi_X1 : Cond.instantiable "ThrowersBag$Flight" 13 ∈ TB := tb_at 148 (by decide +kernel) (by decide +kernel)
theorem ca_X1_init : CaI yX1_init cX1_init 3 2 := ⟨tb_at 151 (by decide +kernel) (by decide +kernel), wz_X1, tb_at 150 (by decide +kernel) (by decide +kernel), rfl, by decide +kernel⟩
theorem wo_X1 : Cond.methodLink RX1 3 Lib.objectInit ∈ TB := tb_at 152 (by decide +kernel) (by decide +kernel)
theorem wk_X10_60 : Cond.classLink "ThrowersBag" 60 "ThrowersBag$Aim" ∈ TB := tb_at 198 (by decide +kernel) (by decide +kernel)
theorem wi_X0 : Cond.instantiable "ThrowersBag$Aim" 6 ∈ TB := tb_at 199 (by decide +kernel) (by decide +kernel)
theorem wn_X10_62 : Cond.methodLinkNest RX10 62 yX0_init "ThrowersBag" ∈ nestW := List.mem_of_getElem? (i := 58) (by decide +kernel)
theorem ca_X0_init : CaI yX0_init cX0_init 1 0 := ⟨tb_at 202 (by decide +kernel) (by decide +kernel), wz_X0, tb_at 201 (by decide +kernel) (by decide +kernel), rfl, by decide +kernel⟩
theorem wo_X0 : Cond.methodLink RX0 3 Lib.objectInit ∈ TB := tb_at 203 (by decide +kernel) (by decide +kernel)
theorem wk_X10_82 : Cond.classLink "ThrowersBag" 82 "ThrowersBag$Match" ∈ TB := tb_at 233 (by decide +kernel) (by decide +kernel)
theorem wi_X3 : Cond.instantiable "ThrowersBag$Match" 6 ∈ TB := tb_at 234 (by decide +kernel) (by decide +kernel)
theorem ca_X3_init : CaI yX3_init cX3_init 1 0 := ⟨tb_at 237 (by decide +kernel) (by decide +kernel), wz_X3, tb_at 236 (by decide +kernel) (by decide +kernel), rfl, by decide +kernel⟩
theorem wo_X3 : Cond.methodLink RX3 3 Lib.objectInit ∈ TB := tb_at 238 (by decide +kernel) (by decide +kernel)
theorem wk_X3_15 : Cond.classLink "ThrowersBag$Match" 15 "ThrowersBag$Aim" ∈ TB := tb_at 239 (by decide +kernel) (by decide +kernel)
theorem wn_X3_17 : Cond.methodLinkNest RX3 17 yX0_init "ThrowersBag" ∈ nestW := List.mem_of_getElem? (i := 59) (by decide +kernel)
theorem wk_X3_22 : Cond.classLink "ThrowersBag$Match" 22 "[[I" ∈ TB := tb_at 241 (by decide +kernel) (by decide +kernel)
theorem wk_X10_89 : Cond.classLink "ThrowersBag" 89 "ThrowersBag$Row" ∈ TB := tb_at 275 (by decide +kernel) (by decide +kernel)
theorem wk_X10_98 : Cond.classLink "ThrowersBag" 98 "ThrowersBag$Grass" ∈ TB := tb_at 277 (by decide +kernel) (by decide +kernel)
theorem wi_X2 : Cond.instantiable "ThrowersBag$Grass" 2 ∈ TB := tb_at 278 (by decide +kernel) (by decide +kernel)
theorem ca_X2_init : CaI yX2_init cX2_init 1 0 := ⟨tb_at 281 (by decide +kernel) (by decide +kernel), wz_X2, tb_at 280 (by decide +kernel) (by decide +kernel), rfl, by decide +kernel⟩
theorem wo_X2 : Cond.methodLink RX2 3 Lib.objectInit ∈ TB := tb_at 282 (by decide +kernel) (by decide +kernel)
theorem wk_X10_105 : Cond.classLink "ThrowersBag" 105 "ThrowersBag$Sheet" ∈ TB := tb_at 293 (by decide +kernel) (by decide +kernel)
theorem wi_X7 : Cond.instantiable "ThrowersBag$Stick" 8 ∈ TB := tb_at 295 (by decide +kernel) (by decide +kernel)
theorem wn_X10_111 : Cond.methodLinkNest RX10 111 yX7_init "ThrowersBag" ∈ nestW := List.mem_of_getElem? (i := 60) (by decide +kernel)
theorem ca_X7_init : CaI yX7_init cX7_init 1 0 := ⟨tb_at 298 (by decide +kernel) (by decide +kernel), wz_X7, tb_at 297 (by decide +kernel) (by decide +kernel), rfl, by decide +kernel⟩
theorem wo_X7 : Cond.methodLink RX7 3 Lib.objectInit ∈ TB := tb_at 299 (by decide +kernel) (by decide +kernel)
theorem wi_X5 : Cond.instantiable "ThrowersBag$Row" 3 ∈ TB := tb_at 337 (by decide +kernel) (by decide +kernel)
theorem wn_X10_112 : Cond.methodLinkNest RX10 112 yX5_init "ThrowersBag" ∈ nestW := List.mem_of_getElem? (i := 61) (by decide +kernel)
theorem ca_X5_init : CaI yX5_init cX5_init 1 0 := ⟨tb_at 340 (by decide +kernel) (by decide +kernel), wz_X5, tb_at 339 (by decide +kernel) (by decide +kernel), rfl, by decide +kernel⟩
theorem wo_X5 : Cond.methodLink RX5 1 Lib.objectInit ∈ TB := tb_at 341 (by decide +kernel) (by decide +kernel)
theorem wk_X5_7 : Cond.classLink "ThrowersBag$Row" 7 "ThrowersBag$Aim" ∈ TB := tb_at 342 (by decide +kernel) (by decide +kernel)
theorem wn_X5_9 : Cond.methodLinkNest RX5 9 yX0_init "ThrowersBag" ∈ nestW := List.mem_of_getElem? (i := 62) (by decide +kernel)
theorem wi_X6 : Cond.instantiable "ThrowersBag$Sheet" 3 ∈ TB := tb_at 355 (by decide +kernel) (by decide +kernel)
theorem wn_X10_113 : Cond.methodLinkNest RX10 113 yX6_init "ThrowersBag" ∈ nestW := List.mem_of_getElem? (i := 63) (by decide +kernel)
theorem ca_X6_init : CaI yX6_init cX6_init 1 0 := ⟨tb_at 358 (by decide +kernel) (by decide +kernel), wz_X6, tb_at 357 (by decide +kernel) (by decide +kernel), rfl, by decide +kernel⟩
theorem wo_X6 : Cond.methodLink RX6 1 Lib.objectInit ∈ TB := tb_at 359 (by decide +kernel) (by decide +kernel)
theorem wk_L_10 : Cond.classLink "ThrowersBagLaw" 10 "ThrowersBagModel" ∈ TB := tb_at 852 (by decide +kernel) (by decide +kernel)
theorem wi_X11 : Cond.instantiable "ThrowersBagModel" 50 ∈ TB := tb_at 853 (by decide +kernel) (by decide +kernel)
set_option maxRecDepth 1000000 in
theorem ca_X11_init : CaI yX11_init cX11_init 2 0 := ⟨tb_at 856 (by rfl) (by rfl), wz_X11, tb_at 855 (by decide +kernel) (by decide +kernel), rfl, by decide +kernel⟩
theorem wo_X11 : Cond.methodLink RX11 1 Lib.objectInit ∈ TB := tb_at 857 (by decide +kernel) (by decide +kernel)
