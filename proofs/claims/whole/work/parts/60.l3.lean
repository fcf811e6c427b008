/-! THE CLAIM OUT OF ONE WALK OF THE LAW'S BODY. Your part is whole_start (and what it stands on); all else here is the same for every law, but numbers. -/
def R_law : String := "ThrowersBagLaw"
def lw_P (b : Addr) (xs : List Int32) (args : Array Value) (s : State) : Prop := args = #[.ref b] ∧ s.IntsAt b xs ∧ xs.length ≤ 4096 ∧ (Jvm.Cond.and given_1 narrow_1).before args s = true
def lw_Q (_ : Array Value) (s : State) (o : Outcome) (t : State) : Prop := o = .returned (some (.int 1)) ∧ Framed s o t [] 600000 7302250
def lw_Z (below : List Frame) (a : Array Value) (s : State) : State → Prop := fun t => ∃ o, t.status = .running ∧ Ended t below o ∧ lw_Q a s o t
/-- the law's own end, with 1 on the stack, nothing written that was there before, its room as the claim has it -/
theorem lw_ret {p : Program} {l : Launch} {e : Env} {s : State} {m : MethodId} {below : List Frame} {meth : Method} {c : Code} {b : Nat} (hx : p.tables.exec = Jvm.exec) (hb : c.code = code) (hr : meth.sig.returnType = ret) (hlocks : meth.locks = false) {pc : Nat} {H : Heap} {ls : Array Slot} (hdg : decode code pc = .ok (.ireturn, 1)) : W p l e room_1 s m #[Value.ref b] below meth c H [] 600000 7302250 (lw_Z below #[Value.ref b] s) (F0 m pc ls [.int 1]) := by
  intro T hT X
  obtain ⟨fs, hret, hrun, hended, hW, hframe⟩ := X.leave (v := some (.int 1)) (hlocks := hlocks) (fun h => by rw [hr] at h; cases h)
  have hmeth' : T.vm.method? m = some meth := X.method'
  refine ⟨T.setFrames fs, ?_, .returned (some (.int 1)), hrun, hended, rfl, ⟨_, rfl⟩, hW, hframe⟩
  jvm_step X.here [X.here.top, hx, hb, hdg, hmeth', hr, ret, narrow_b1]
  (try refine ⟨rfl, ?_⟩); (try refine ⟨rfl, ?_⟩)
  first | (intro acts; rw [hret _ acts rfl rfl rfl]) | rw [hret _ _ rfl rfl rfl]
  exact Steps.refl _
/-- what holds at the law's entry: the machine, the code, the tables' words (any of lw_tbl by 'hts w (by decide +kernel)'), the script of L ints xs at the cell b, what the Statement gives of the start (any of its parts by flat_of_before) -/
def lw_At (p : Program) (s : State) (m : MethodId) (meth : Method) (c : Code) (b L : Nat) (xs : Nat → Int32) : Prop :=
  p.tables.exec = Jvm.exec ∧ c.code = code ∧ meth.sig.returnType = ret ∧ c.maxLocals = 4 ∧ s.vm.findClass R_law = some m.cls ∧ (∀ w ∈ lw_tbl, w.before #[Value.ref b] s = true) ∧ va_X b L xs s s.heap ∧ b < s.heap.size ∧ meth.locks = false ∧ (Jvm.Cond.and given_1 narrow_1).before #[Value.ref b] s = true
/-! THE LAW's LOOP -/
set_option maxRecDepth 100000 in
set_option maxHeartbeats 4000000 in
theorem law_loop {E : En} {g : GT} (h : Sem cL_law RL 4 room_1 E g) {b L : Nat} {xs : Nat → Int32} (hL : L ≤ 4096) (hsld : ∀ (I : Mem) (pc : Nat) (lv : LV) (st : List Value) (iv : Int32) (k : Nat), iv = nI k → k < L → decode cL_law pc = .ok (.iaload, 1) → g I (pc + 1) lv (.int (xs k) :: st) → g I pc lv (.int iv :: .ref b :: st)) (hslen : ∀ (I : Mem) (pc : Nat) (lv : LV) (st : List Value), decode cL_law pc = .ok (.arraylength, 1) → g I (pc + 1) lv (.int (Int32.ofNat L) :: st) → g I pc lv (.ref b :: st)) (hret : ∀ (I : Mem) (pc : Nat) (lv : LV), decode cL_law pc = .ok (.ireturn, 1) → g I pc lv [.int 1]) : ∀ (n j : Nat) (I : Mem), L + 17 ≤ j + n → j ≤ L + 8 → Rel I → g I 18 [(0, .ref b), (1, .ref (E.1 0)), (2, .ref (E.1 151)), (3, .int (nI j))] [] := by
  intro n
  induction n with
  | zero =>
    intro j I h1 h2
    omega
  | succ n ih =>
    intro j I h1 h2 H
    have ej := nI_tI (i := j) (by omega)
    have eL : (Int32.ofNat L).toInt = L := nI_tI (i := L) (by omega)
    have e8 : (Int32.ofNat L - 8).toInt = (L : Int) - 8 := by rw [tI_sub (by rw [eL, e8i]; omega) (by rw [eL, e8i]; omega), eL, e8i]
    refine r_iload_n (pc := 18) h dL_law_18 rfl ?_
    refine r_aload_n (pc := 19) h dL_law_19 rfl ?_
    refine hslen _ 20 _ _ dL_law_20 ?_
    refine r_bipush (v := 8) (pc := 21) h dL_law_21 (by decide) ?_
    refine r_isub (pc := 23) h dL_law_23 ?_
    refine r_icmp_gt (pc := 24) h 1727 dL_law_24 (by decide) (fun _ => ?_) (fun c24 => ?_)
    · refine r_iconst (v := 1) (pc := 1727) h dL_law_1727 (by decide) ?_
      exact hret _ 1728 _ dL_law_1728
    · have hj : j + 8 ≤ L := by
        rw [Int32.lt_iff_toInt_lt, e8, ej] at c24
        omega
      have kk : ∀ I2, Rel I2 → g I2 1721 [(0, .ref b), (1, .ref (E.1 0)), (2, .ref (E.1 151)), (3, .int (nI j))] [] := fun I2 H2 => by
        refine r_iinc (v := 8) (pc := 1721) h dL_law_1721 rfl (by decide) (by decide) ?_
        refine r_goto (pc := 1724) h 18 dL_law_1724 (by decide) ?_
        exact r_at h [(0, .ref b), (1, .ref (E.1 0)), (2, .ref (E.1 151)), (3, .int (nI (j + 8)))] ⟨rfl, rfl, rfl, by rw [← nI_c j 8]; rfl, trivial⟩ (ih (j + 8) I2 (by omega) (by omega) H2)
      refine r_aload_n (pc := 27) h dL_law_27 rfl ?_
      refine r_iload_n (pc := 28) h dL_law_28 rfl ?_
      refine hsld _ 29 _ _ _ j rfl (by omega) dL_law_29 ?_
      refine r_bipush (v := 63) (pc := 30) h dL_law_30 (by decide) ?_
      refine r_iand (pc := 32) h dL_law_32 ?_
      generalize xs j &&& 63 = sw
      by_cases hsw : sw.toInt < 0 ∨ 40 < sw.toInt
      · exact r_tableOut (pc := 33) h 1721 dL_law_33 hsw (by decide) (kk I H)
      · rcases (show sw.toInt = 0 ∨ sw.toInt = 1 ∨ sw.toInt = 2 ∨ sw.toInt = 3 ∨ sw.toInt = 4 ∨ sw.toInt = 5 ∨ sw.toInt = 6 ∨ sw.toInt = 7 ∨ sw.toInt = 8 ∨ sw.toInt = 9 ∨ sw.toInt = 10 ∨ sw.toInt = 11 ∨ sw.toInt = 12 ∨ sw.toInt = 13 ∨ sw.toInt = 14 ∨ sw.toInt = 15 ∨ sw.toInt = 16 ∨ sw.toInt = 17 ∨ sw.toInt = 18 ∨ sw.toInt = 19 ∨ sw.toInt = 20 ∨ sw.toInt = 21 ∨ sw.toInt = 22 ∨ sw.toInt = 23 ∨ sw.toInt = 24 ∨ sw.toInt = 25 ∨ sw.toInt = 26 ∨ sw.toInt = 27 ∨ sw.toInt = 28 ∨ sw.toInt = 29 ∨ sw.toInt = 30 ∨ sw.toInt = 31 ∨ sw.toInt = 32 ∨ sw.toInt = 33 ∨ sw.toInt = 34 ∨ sw.toInt = 35 ∨ sw.toInt = 36 ∨ sw.toInt = 37 ∨ sw.toInt = 38 ∨ sw.toInt = 39 ∨ sw.toInt = 40 by omega) with esw | esw | esw | esw | esw | esw | esw | esw | esw | esw | esw | esw | esw | esw | esw | esw | esw | esw | esw | esw | esw | esw | esw | esw | esw | esw | esw | esw | esw | esw | esw | esw | esw | esw | esw | esw | esw | esw | esw | esw | esw
        · exact r_tableIn (pc := 33) h 212 dL_law_33 (by omega) (by omega) (by rw [esw]; rfl) (by decide) (law_plain h hsld j hj I H kk)
        · exact r_tableIn (pc := 33) h 265 dL_law_33 (by omega) (by omega) (by rw [esw]; rfl) (by decide) (law_winged h hsld j hj I H kk)
        · exact r_tableIn (pc := 33) h 328 dL_law_33 (by omega) (by omega) (by rw [esw]; rfl) (by decide) (law_lift h hsld j hj I H kk)
        · exact r_tableIn (pc := 33) h 371 dL_law_33 (by omega) (by omega) (by rw [esw]; rfl) (by decide) (law_bend h hsld j hj I H kk)
        · exact r_tableIn (pc := 33) h 404 dL_law_33 (by omega) (by omega) (by rw [esw]; rfl) (by decide) (law_told h hsld j hj I H kk)
        · exact r_tableIn (pc := 33) h 437 dL_law_33 (by omega) (by omega) (by rw [esw]; rfl) (by decide) (law_lose h hsld j hj I H kk)
        · exact r_tableIn (pc := 33) h 486 dL_law_33 (by omega) (by omega) (by rw [esw]; rfl) (by decide) (law_wind h hsld j hj I H kk)
        · exact r_tableIn (pc := 33) h 499 dL_law_33 (by omega) (by omega) (by rw [esw]; rfl) (by decide) (law_blows h hsld j hj I H kk)
        · exact r_tableIn (pc := 33) h 552 dL_law_33 (by omega) (by omega) (by rw [esw]; rfl) (by decide) (law_swing h hsld j hj I H kk)
        · exact r_tableIn (pc := 33) h 585 dL_law_33 (by omega) (by omega) (by rw [esw]; rfl) (by decide) (law_tree h hsld j hj I H kk)
        · exact r_tableIn (pc := 33) h 638 dL_law_33 (by omega) (by omega) (by rw [esw]; rfl) (by decide) (law_ring h hsld j hj I H kk)
        · exact r_tableIn (pc := 33) h 661 dL_law_33 (by omega) (by omega) (by rw [esw]; rfl) (by decide) (law_table h hsld j hj I H kk)
        · exact r_tableIn (pc := 33) h 694 dL_law_33 (by omega) (by omega) (by rw [esw]; rfl) (by decide) (law_fly h hsld j hj I H kk)
        · exact r_tableIn (pc := 33) h 769 dL_law_33 (by omega) (by omega) (by rw [esw]; rfl) (by decide) (law_at h hsld j hj I H kk)
        · exact r_tableIn (pc := 33) h 802 dL_law_33 (by omega) (by omega) (by rw [esw]; rfl) (by decide) (law_ticks h hsld j hj I H kk)
        · exact r_tableIn (pc := 33) h 815 dL_law_33 (by omega) (by omega) (by rw [esw]; rfl) (by decide) (law_hit h hsld j hj I H kk)
        · exact r_tableIn (pc := 33) h 828 dL_law_33 (by omega) (by omega) (by rw [esw]; rfl) (by decide) (law_choose h hsld j hj I H kk)
        · exact r_tableIn (pc := 33) h 861 dL_law_33 (by omega) (by omega) (by rw [esw]; rfl) (by decide) (law_chosen h hsld j hj I H kk)
        · exact r_tableIn (pc := 33) h 884 dL_law_33 (by omega) (by omega) (by rw [esw]; rfl) (by decide) (law_keep h hsld j hj I H kk)
        · exact r_tableIn (pc := 33) h 971 dL_law_33 (by omega) (by omega) (by rw [esw]; rfl) (by decide) (law_two h hsld j hj I H kk)
        · exact r_tableIn (pc := 33) h 994 dL_law_33 (by omega) (by omega) (by rw [esw]; rfl) (by decide) (law_match h hsld j hj I H kk)
        · exact r_tableIn (pc := 33) h 1027 dL_law_33 (by omega) (by omega) (by rw [esw]; rfl) (by decide) (law_style h hsld j hj I H kk)
        · exact r_tableIn (pc := 33) h 1080 dL_law_33 (by omega) (by omega) (by rw [esw]; rfl) (by decide) (law_points h hsld j hj I H kk)
        · exact r_tableIn (pc := 33) h 1113 dL_law_33 (by omega) (by omega) (by rw [esw]; rfl) (by decide) (law_best h hsld j hj I H kk)
        · exact r_tableIn (pc := 33) h 1126 dL_law_33 (by omega) (by omega) (by rw [esw]; rfl) (by decide) (law_order h hsld j hj I H kk)
        · exact r_tableIn (pc := 33) h 1149 dL_law_33 (by omega) (by omega) (by rw [esw]; rfl) (by decide) (law_row h hsld j hj I H kk)
        · exact r_tableIn (pc := 33) h 1236 dL_law_33 (by omega) (by omega) (by rw [esw]; rfl) (by decide) (law_miss h hsld j hj I H kk)
        · exact r_tableIn (pc := 33) h 1269 dL_law_33 (by omega) (by omega) (by rw [esw]; rfl) (by decide) (law_explain h hsld j hj I H kk)
        · exact r_tableIn (pc := 33) h 1292 dL_law_33 (by omega) (by omega) (by rw [esw]; rfl) (by decide) (law_sure h hsld j hj I H kk)
        · exact r_tableIn (pc := 33) h 1315 dL_law_33 (by omega) (by omega) (by rw [esw]; rfl) (by decide) (law_unrow h hsld j hj I H kk)
        · exact r_tableIn (pc := 33) h 1328 dL_law_33 (by omega) (by omega) (by rw [esw]; rfl) (by decide) (law_rows h hsld j hj I H kk)
        · exact r_tableIn (pc := 33) h 1381 dL_law_33 (by omega) (by omega) (by rw [esw]; rfl) (by decide) (law_seen h hsld j hj I H kk)
        · exact r_tableIn (pc := 33) h 1404 dL_law_33 (by omega) (by omega) (by rw [esw]; rfl) (by decide) (law_patch h hsld j hj I H kk)
        · exact r_tableIn (pc := 33) h 1447 dL_law_33 (by omega) (by omega) (by rw [esw]; rfl) (by decide) (law_grass h hsld j hj I H kk)
        · exact r_tableIn (pc := 33) h 1480 dL_law_33 (by omega) (by omega) (by rw [esw]; rfl) (by decide) (law_next h hsld j hj I H kk)
        · exact r_tableIn (pc := 33) h 1493 dL_law_33 (by omega) (by omega) (by rw [esw]; rfl) (by decide) (law_search h hsld j hj I H kk)
        · exact r_tableIn (pc := 33) h 1516 dL_law_33 (by omega) (by omega) (by rw [esw]; rfl) (by decide) (law_count h hsld j hj I H kk)
        · exact r_tableIn (pc := 33) h 1539 dL_law_33 (by omega) (by omega) (by rw [esw]; rfl) (by decide) (law_sheet h hsld j hj I H kk)
        · exact r_tableIn (pc := 33) h 1582 dL_law_33 (by omega) (by omega) (by rw [esw]; rfl) (by decide) (law_drop h hsld j hj I H kk)
        · exact r_tableIn (pc := 33) h 1605 dL_law_33 (by omega) (by omega) (by rw [esw]; rfl) (by decide) (law_item h hsld j hj I H kk)
        · exact r_tableIn (pc := 33) h 1658 dL_law_33 (by omega) (by omega) (by rw [esw]; rfl) (by decide) (law_copy h hsld j hj I H kk)
/-- from the loop's head on, over the machine -/
theorem law_18 {p : Program} {l : Launch} {e : Env} {s : State} {m : MethodId} {below : List Frame} {meth : Method} {c : Code} {b L : Nat} {xs : Nat → Int32} (hL : L ≤ 4096) (C0 : lw_At p s m meth c b L xs) (E : En) (I : Mem) (H : Rel I) (hK : va_K E.2.1 vwCl (tys E) s) (hN : NW s) (hT : ST E (fun q : Nat => s.heap.size ≤ q) s s.heap) {n1 n2 : Nat} (h1 : n1 ≤ 600000) (h2 : n2 ≤ 7302250) (Hp : Heap) (locs : List Loc) (ls : Array Slot) (hP : va_P E.2.1 vwCl (wl E I) Hp) (hD : va_D (fun q : Nat => s.heap.size ≤ q) (wl E I)) (hS : va_S (fun q : Nat => s.heap.size ≤ q) s.heap Hp locs) (hl : lv_has ls 4 [(0, .ref b), (1, .ref (E.1 0)), (2, .ref (E.1 151)), (3, .int (nI 0))]) : W p l e room_1 s m #[Value.ref b] below meth c Hp locs n1 n2 (lw_Z below #[Value.ref b] s) (F0 m 18 ls []) := by
  obtain ⟨hx, hb, hr, hml, hown, hts, hX, hbl, hlocks, hgv⟩ := C0
  have hbA : ¬ (fun q : Nat => s.heap.size ≤ q) b := Nat.not_le.mpr hbl
  have hSem : Sem cL_law RL 4 room_1 E (fun I pc lv st => ∀ (H : Heap) (locs : List Loc) (ls : Array Slot), va_P E.2.1 vwCl (wl E I) H → va_D (fun q : Nat => s.heap.size ≤ q) (wl E I) → va_S (fun q : Nat => s.heap.size ≤ q) s.heap H locs → lv_has ls 4 lv → W p l e room_1 s m #[Value.ref b] below meth c H locs n1 n2 (lw_Z below #[Value.ref b] s) (F0 m pc ls st)) :=
    ⟨p, l, e, s, m, #[Value.ref b], below, meth, c, _, _, n1, n2, ⟨hx, hb, hml, hown, fun w hw => hts w (tb_tbl w hw), hK, hN, hT, fun _ h => h, h1, h2⟩, fun _ _ _ _ => Iff.rfl⟩
  refine law_loop hSem (b := b) (L := L) (xs := xs) hL ?_ ?_ ?_ (L + 17) 0 I (by omega) (by omega) H Hp locs ls hP hD hS hl
  · intro I pc lv st iv k hiv hk hd kk H locs ls hP hD hS hv
    subst hiv
    have e_ : xs (nI k).toNatClampNeg = xs k := by rw [nI_tn (by omega)]
    exact va_sld hx hb hX hbl hbA hS (vinI hk (by omega)) hd (by rw [e_]; exact kk H locs ls hP hD hS hv)
  · intro I pc lv st hd kk H locs ls hP hD hS hv
    exact va_slen hx hb hX hbl hbA hS hd (kk H locs ls hP hD hS hv)
  · intro I pc lv hd H locs ls hP hD hS hv
    refine va_forget (fun q hq => hS.2.2 q hq) ?_
    refine W.widen (k := 600000) (n := 7302250) h1 h2 ?_
    exact lw_ret hx hb hr hlocks hd
