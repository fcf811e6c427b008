/-! THE START: what the words and the statement give; the two constructors; the law from its first instruction -/
theorem st_cls {args : Array Value} {s : State} (hts : ∀ w ∈ TB, w.before args s = true) : ∃ D : va_G, ∀ (k : Nat) (q : vw_C), vwCl[k]? = some q → u_Kn s q.1 q.2.1 q.2.2 (D.1 k) (D.2 k) := by
  obtain ⟨c0, i0, hk0⟩ := u_known (C := RX0) (T := TX0) (N := 6) (n := 6) hts tinX0 (hts _ wi_X0)
  obtain ⟨c1, i1, hk1⟩ := u_known (C := RX1) (T := TX1) (N := 13) (n := 13) hts tinX1 (hts _ wi_X1)
  obtain ⟨c2, i2, hk2⟩ := u_known (C := RX2) (T := TX2) (N := 2) (n := 2) hts tinX2 (hts _ wi_X2)
  obtain ⟨c3, i3, hk3⟩ := u_known (C := RX3) (T := TX3) (N := 6) (n := 6) hts tinX3 (hts _ wi_X3)
  obtain ⟨c4, i4, hk4⟩ := u_known (C := RX4) (T := TX4) (N := 3) (n := 3) hts tinX4 (hts _ wi_X4)
  obtain ⟨c5, i5, hk5⟩ := u_known (C := RX5) (T := TX5) (N := 3) (n := 3) hts tinX5 (hts _ wi_X5)
  obtain ⟨c6, i6, hk6⟩ := u_known (C := RX6) (T := TX6) (N := 3) (n := 3) hts tinX6 (hts _ wi_X6)
  obtain ⟨c7, i7, hk7⟩ := u_known (C := RX7) (T := TX7) (N := 8) (n := 8) hts tinX7 (hts _ wi_X7)
  obtain ⟨c8, i8, hk8⟩ := u_known (C := RX8) (T := TX8) (N := 4) (n := 4) hts tinX8 (hts _ wi_X8)
  obtain ⟨c9, i9, hk9⟩ := u_known (C := RX9) (T := TX9) (N := 2) (n := 2) hts tinX9 (hts _ wi_X9)
  obtain ⟨c10, i10, hk10⟩ := u_known (C := RX10) (T := TX10) (N := 19) (n := 19) hts tinX10 (hts _ wi_X10)
  obtain ⟨c11, i11, hk11⟩ := u_known (C := RX11) (T := TX11) (N := 50) (n := 50) hts tinX11 (hts _ wi_X11)
  refine ⟨(fun k => if k = 0 then c0 else if k = 1 then c1 else if k = 2 then c2 else if k = 3 then c3 else if k = 4 then c4 else if k = 5 then c5 else if k = 6 then c6 else if k = 7 then c7 else if k = 8 then c8 else if k = 9 then c9 else if k = 10 then c10 else c11, fun k => if k = 0 then i0 else if k = 1 then i1 else if k = 2 then i2 else if k = 3 then i3 else if k = 4 then i4 else if k = 5 then i5 else if k = 6 then i6 else if k = 7 then i7 else if k = 8 then i8 else if k = 9 then i9 else if k = 10 then i10 else i11), ?_⟩
  intro k q hq
  match k, hq with
  | 0, hq => cases hq; exact hk0
  | 1, hq => cases hq; exact hk1
  | 2, hq => cases hq; exact hk2
  | 3, hq => cases hq; exact hk3
  | 4, hq => cases hq; exact hk4
  | 5, hq => cases hq; exact hk5
  | 6, hq => cases hq; exact hk6
  | 7, hq => cases hq; exact hk7
  | 8, hq => cases hq; exact hk8
  | 9, hq => cases hq; exact hk9
  | 10, hq => cases hq; exact hk10
  | 11, hq => cases hq; exact hk11
  | k + 12, hq => simp [vwCl] at hq
theorem arr_of {s : State} {cA comp : ClassId} {kA : Class} {ty : FieldType} (h2 : s.vm.classes[cA]? = some kA) (h3 : kA.kind = .array comp ty) : ArrOfT s cA ty := fun n z => ⟨fun k h => (by cases h), kA, h2, comp, h3⟩
theorem st_prim {args : Array Value} {s : State} {ty : FieldType} (h : (Cond.arrayClass ty).before args s = true) : ∃ cA : ClassId, ArrOfT s cA ty ∧ s.vm.findClass ("[" ++ ty.toString) = some cA := by
  obtain ⟨c, k, comp, h1, h2, h3⟩ := Cond.arrayClass_spec h
  exact ⟨c, arr_of h2 h3, h1⟩
theorem st_obj {s : State} {C : String} (h : va_AO C s) : ∃ cA : ClassId, ArrOfT s cA (.object C) ∧ va_RA s cA (.object C) := by
  obtain ⟨comp, c, k, h1, h2, h3, h4, h5⟩ := Cond.arrayOver_spec h
  exact ⟨c, arr_of h3 h4, k, comp, h3, h4, h1, h5⟩
theorem st_grid {s : State} (h : ovI s) : ∃ cA : ClassId, ArrOfT s cA (.array .int) ∧ s.vm.findClass ("[" ++ (FieldType.array .int).toString) = some cA := by
  obtain ⟨comp, c, k, h1, h2, h3, h4, h5⟩ := arrayOverA_spec h
  exact ⟨c, arr_of h3 h4, h5⟩
theorem st_OV {args : Array Value} {s : State} (hts : ∀ w ∈ lw_tbl, w.before args s = true) : OV s := by
  refine ⟨?_, hts (.arrayOver (.array .int)) (List.mem_of_getElem? (i := 242) (by decide +kernel))⟩
  intro C hC
  simp only [ovC, List.mem_cons, List.not_mem_nil, or_false] at hC
  rcases hC with rfl | rfl | rfl | rfl | rfl | rfl
  · exact va_AO.of (hts (.arrayOver (.object "ThrowersBag$Aim")) (List.mem_of_getElem? (i := 232) (by decide +kernel)))
  · exact va_AO.of (hts (.arrayOver (.object "ThrowersBag$Row")) (List.mem_of_getElem? (i := 276) (by decide +kernel)))
  · exact va_AO.of (hts (.arrayOver (.object "ThrowersBag$Sheet")) (List.mem_of_getElem? (i := 294) (by decide +kernel)))
  · exact va_AO.of (hts (.arrayOver (.object "ThrowersBag$Stick")) (List.mem_of_getElem? (i := 82) (by decide +kernel)))
  · exact va_AO.of (hts (.arrayOver (.object "ThrowersBag$Tree")) (List.mem_of_getElem? (i := 109) (by decide +kernel)))
  · exact va_AO.of (hts (.arrayOver (.object "ThrowersBag$Wind")) (List.mem_of_getElem? (i := 84) (by decide +kernel)))
theorem st_NW {args : Array Value} {s : State} (hts : ∀ w ∈ lw_tbl, w.before args s = true) : NW s := fun w hw => va_Nw.of (nest_tab (List.all_eq_true.mp nestW_is w hw)) (hts w (nestW_in w hw))
theorem st_K {args : Array Value} {s : State} (hts : ∀ w ∈ lw_tbl, w.before args s = true) : ∃ (D : va_G) (cA : Nat → ClassId), ∀ (ad : Nat → Nat) (t1 t2 : Nat), va_K D vwCl (tys (ad, D, cA, t1, t2)) s := by
  have htb : ∀ w ∈ TB, w.before args s = true := fun w hw => hts w (tb_tbl w hw)
  obtain ⟨D, hD⟩ := st_cls htb
  have hO := st_OV hts
  obtain ⟨a12, p12, q12⟩ := st_prim (htb _ ar_i)
  obtain ⟨a13, p13, q13⟩ := st_prim (htb _ ar_z)
  obtain ⟨a14, p14, q14⟩ := st_obj (hO.1 "ThrowersBag$Aim" (by decide))
  obtain ⟨a15, p15, q15⟩ := st_obj (hO.1 "ThrowersBag$Row" (by decide))
  obtain ⟨a16, p16, q16⟩ := st_obj (hO.1 "ThrowersBag$Sheet" (by decide))
  obtain ⟨a17, p17, q17⟩ := st_obj (hO.1 "ThrowersBag$Stick" (by decide))
  obtain ⟨a18, p18, q18⟩ := st_obj (hO.1 "ThrowersBag$Tree" (by decide))
  obtain ⟨a19, p19, q19⟩ := st_obj (hO.1 "ThrowersBag$Wind" (by decide))
  obtain ⟨a20, p20, q20⟩ := st_grid hO.2
  refine ⟨D, fun k => if k = 12 then a12 else if k = 13 then a13 else if k = 14 then a14 else if k = 15 then a15 else if k = 16 then a16 else if k = 17 then a17 else if k = 18 then a18 else if k = 19 then a19 else a20, fun ad t1 t2 => ⟨hD, ?_⟩⟩
  intro k q hq
  match k, hq with
  | 0, hq => cases hq; exact ⟨p12, q12⟩
  | 1, hq => cases hq; exact ⟨p13, q13⟩
  | 2, hq => cases hq; exact ⟨p14, q14⟩
  | 3, hq => cases hq; exact ⟨p15, q15⟩
  | 4, hq => cases hq; exact ⟨p16, q16⟩
  | 5, hq => cases hq; exact ⟨p17, q17⟩
  | 6, hq => cases hq; exact ⟨p18, q18⟩
  | 7, hq => cases hq; exact ⟨p19, q19⟩
  | 8, hq => cases hq; exact ⟨p20, q20⟩
  | k + 9, hq => simp [tys] at hq
theorem st_SINES {args : Array Value} {s : State} (hts : ∀ w ∈ lw_tbl, w.before args s = true) (hgv : (Jvm.Cond.and given_1 narrow_1).before args s = true) : ∃ t : Nat, va_Z "ThrowersBag" "SINES" "[I" (.ref t) (fun q : Nat => s.heap.size ≤ q) s s.heap ∧ va_T .int t 91 (sinV sinTab) (fun q : Nat => s.heap.size ≤ q) s s.heap := by
  have hs := flat_of_before _ hgv
  have hA : ∀ a : Nat, a < s.heap.size → ¬ (fun q : Nat => s.heap.size ≤ q) a := fun a h => Nat.not_le.mpr h
  have hall : ∀ j : Nat, j < 91 → (Cond.eq (.elem (.static "ThrowersBag" "SINES" "[I") (.int (Int32.ofNat j))) (.int (sinTab j))) ∈ flatC (Jvm.Cond.and given_1 narrow_1) := by decide +kernel
  obtain ⟨t, ht, hT⟩ := va_Tof (tm := .static "ThrowersBag" "SINES" "[I") (ty := .int) (N := 91) (f := sinV sinTab) (A := fun q : Nat => s.heap.size ≤ q) (by decide) (hs _ (by decide +kernel)) (va_eqt (hs (.eq (.length (.static "ThrowersBag" "SINES" "[I")) (.int 91)) (by decide +kernel))) (fun j hj => va_eqt (hs _ (hall j hj))) hA
  exact ⟨t, va_Zref (hts _ (List.mem_of_getElem? (i := 80) (by decide +kernel))) (hts _ (tb_tbl _ wz_X10)) ht hA, hT⟩
theorem st_CHOICE_LEANS {args : Array Value} {s : State} (hts : ∀ w ∈ lw_tbl, w.before args s = true) (hgv : (Jvm.Cond.and given_1 narrow_1).before args s = true) : ∃ t : Nat, va_Z "ThrowersBag" "CHOICE_LEANS" "[I" (.ref t) (fun q : Nat => s.heap.size ≤ q) s s.heap ∧ va_T .int t 3 (leansV) (fun q : Nat => s.heap.size ≤ q) s s.heap := by
  have hs := flat_of_before _ hgv
  have hA : ∀ a : Nat, a < s.heap.size → ¬ (fun q : Nat => s.heap.size ≤ q) a := fun a h => Nat.not_le.mpr h
  have hall : ∀ j : Nat, j < 3 → (Cond.eq (.elem (.static "ThrowersBag" "CHOICE_LEANS" "[I") (.int (Int32.ofNat j))) (.int (if j = 0 then 20 else if j = 1 then 45 else 70))) ∈ flatC (Jvm.Cond.and given_1 narrow_1) := by decide +kernel
  obtain ⟨t, ht, hT⟩ := va_Tof (tm := .static "ThrowersBag" "CHOICE_LEANS" "[I") (ty := .int) (N := 3) (f := leansV) (A := fun q : Nat => s.heap.size ≤ q) (by decide) (hs _ (by decide +kernel)) (va_eqt (hs (.eq (.length (.static "ThrowersBag" "CHOICE_LEANS" "[I")) (.int 3)) (by decide +kernel))) (fun j hj => va_eqt (hs _ (hall j hj))) hA
  exact ⟨t, va_Zref (hts _ (List.mem_of_getElem? (i := 614) (by decide +kernel))) (hts _ (tb_tbl _ wz_X10)) ht hA, hT⟩
theorem st_CHOICE_STRENGTHS {args : Array Value} {s : State} (hts : ∀ w ∈ lw_tbl, w.before args s = true) (hgv : (Jvm.Cond.and given_1 narrow_1).before args s = true) : ∃ t : Nat, va_Z "ThrowersBag" "CHOICE_STRENGTHS" "[I" (.ref t) (fun q : Nat => s.heap.size ≤ q) s s.heap ∧ va_T .int t 2 (strsV) (fun q : Nat => s.heap.size ≤ q) s s.heap := by
  have hs := flat_of_before _ hgv
  have hA : ∀ a : Nat, a < s.heap.size → ¬ (fun q : Nat => s.heap.size ≤ q) a := fun a h => Nat.not_le.mpr h
  have hall : ∀ j : Nat, j < 2 → (Cond.eq (.elem (.static "ThrowersBag" "CHOICE_STRENGTHS" "[I") (.int (Int32.ofNat j))) (.int (if j = 0 then 80 else 160))) ∈ flatC (Jvm.Cond.and given_1 narrow_1) := by decide +kernel
  obtain ⟨t, ht, hT⟩ := va_Tof (tm := .static "ThrowersBag" "CHOICE_STRENGTHS" "[I") (ty := .int) (N := 2) (f := strsV) (A := fun q : Nat => s.heap.size ≤ q) (by decide) (hs _ (by decide +kernel)) (va_eqt (hs (.eq (.length (.static "ThrowersBag" "CHOICE_STRENGTHS" "[I")) (.int 2)) (by decide +kernel))) (fun j hj => va_eqt (hs _ (hall j hj))) hA
  exact ⟨t, va_Zref (hts _ (List.mem_of_getElem? (i := 616) (by decide +kernel))) (hts _ (tb_tbl _ wz_X10)) ht hA, hT⟩
