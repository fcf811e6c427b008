/-! row, finds, item of the reference -/
theorem e7i : (7 : Int32).toInt = 7 := by decide
theorem m7x {x : Int32} (h : 0 ≤ x.toInt ∧ x.toInt < 30) : (7 * x).toInt = 7 * x.toInt ∧ (7 * x).toNatClampNeg = 7 * x.toNatClampNeg := by
  have em : (7 * x).toInt = 7 * x.toInt := by rw [tI_mul (by rw [e7i]; omega) (by rw [e7i]; omega), e7i]
  refine ⟨em, ?_⟩
  rw [tn, tn, em]
  omega
theorem m7y {x y : Int32} {m : Nat} (h : 0 ≤ x.toInt ∧ x.toInt < 30) (hy : y.toInt = m) (hm : m < 7) : (7 * x + y).toInt = 7 * x.toInt + m ∧ (7 * x + y).toNatClampNeg = 7 * x.toNatClampNeg + m := by
  have em := (m7x h).1
  have e2 : (7 * x + y).toInt = 7 * x.toInt + m := by rw [tI_add (by rw [em, hy]; omega) (by rw [em, hy]; omega), em, hy]
  refine ⟨e2, ?_⟩
  rw [tn, tn, e2]
  omega
def addR (I : Mem) (s l a st sp x y : Int32) : Mem := upm (upm (upm (upm (upm (upm (upm (upm I 177 (7 * (I 151 42).toNatClampNeg) s) 177 (7 * (I 151 42).toNatClampNeg + 1) l) 177 (7 * (I 151 42).toNatClampNeg + 2) a) 177 (7 * (I 151 42).toNatClampNeg + 3) st) 177 (7 * (I 151 42).toNatClampNeg + 4) sp) 177 (7 * (I 151 42).toNatClampNeg + 5) x) 177 (7 * (I 151 42).toNatClampNeg + 6) y) 151 42 (I 151 42 + 1)
def R_row (I : Mem) (s l a st sp x y : Int32) : Int32 × Mem := if isS s (I 151 1) ∧ styP l a st sp ∧ rowV x y then (if I 151 42 = 30 then (-3, I) else (I 151 42, addR I s l a st sp x y)) else (-1, I)
theorem tL_add {x y : Int64} (h1 : -9223372036854775808 ≤ x.toInt + y.toInt) (h2 : x.toInt + y.toInt < 9223372036854775808) : (x + y).toInt = x.toInt + y.toInt := by
  rw [Int64.toInt_add]
  exact Int.bmod_eq_of_le (by omega) (by omega)
def R_finds (I : Mem) (s l i n : Int32) : Int32 := if (I 180 s.toNatClampNeg).toInt < 0 then -11 else if I 180 s.toNatClampNeg = l then (if i.toInt < 0 ∨ (I 181 s.toNatClampNeg).toInt < i.toInt + n.toInt then -13 else 0) else -12
def R_item (I : Mem) (s l i v : Int32) : Int32 × Mem := if (0 ≤ s.toInt ∧ s.toInt ≤ 3) ∧ (0 ≤ l.toInt ∧ l.toInt ≤ 2) then (if (R_finds I s l i 1).toInt < 0 then (R_finds I s l i 1, I) else (1, upm I 182 (60 * s.toNatClampNeg + i.toNatClampNeg) (laneV l v))) else (-1, I)
theorem finds0 {I : Mem} {s l i n : Int32} (h : ¬ (R_finds I s l i n).toInt < 0) : 0 ≤ i.toInt ∧ i.toInt + n.toInt ≤ (I 181 s.toNatClampNeg).toInt := by
  unfold R_finds at h
  split at h
  · exact absurd (by decide) h
  · split at h
    · split at h
      · exact absurd (by decide) h
      · omega
    · exact absurd (by decide) h
theorem m60v {s i : Int32} (h : 0 ≤ s.toInt ∧ s.toInt ≤ 3) (hi : 0 ≤ i.toInt ∧ i.toInt < 60) : (60 * s + i).toInt = 60 * s.toInt + i.toInt ∧ (60 * s + i).toNatClampNeg = 60 * s.toNatClampNeg + i.toNatClampNeg := by
  have hn := m60 (s := s) (i := i.toNatClampNeg) h (by rw [tn]; omega)
  rw [nI_ofx hi.1] at hn
  refine ⟨?_, hn.2⟩
  rw [hn.1, tnI i hi.1]
set_option maxRecDepth 100000 in
set_option maxHeartbeats 4000000 in
theorem c_X11_isRow (E : En) (I : Mem) (s : Int64) (l : Int64) (a : Int64) (st : Int64) (sp : Int64) (x : Int64) (y : Int64)  : Ctr E yX11_isRow cX11_isRow 15 (some .boolean) 3 [.ref (E.1 151), .long s, .long l, .long a, .long st, .long sp, .long x, .long y] I (qI (fun (r : Int32) (I1 : Mem) => r = b2i ((0 ≤ s.toInt ∧ s.toInt ≤ (I 151 1 - 1).toInt) ∧ ((0 ≤ l.toInt ∧ l.toInt ≤ 90) ∧ (0 ≤ a.toInt ∧ a.toInt ≤ 359) ∧ (30 ≤ st.toInt ∧ st.toInt ≤ 250) ∧ (100 ≤ sp.toInt ∧ sp.toInt ≤ 1000)) ∧ (-9999 ≤ x.toInt ∧ x.toInt ≤ 9999) ∧ (-9999 ≤ y.toInt ∧ y.toInt ≤ 9999)) ∧ I = I1)) := by
  refine Ctr.openI (by decide) (Nat.le_of_ble_eq_true rfl) (fun g h hr => ?_)
  have h : Sem cX11_isRow RX11 15 (rmL 3) E g := h
  show g I 0 [(0, .ref (E.1 151)), (1, .long s), (3, .long l), (5, .long a), (7, .long st), (9, .long sp), (11, .long x), (13, .long y)] []
  refine r_aload_n (pc := 0) h dX11_isRow_0 rfl ?_
  refine r_lload_n (pc := 1) h dX11_isRow_1 rfl ?_
  refine r_lload_n (pc := 2) h dX11_isRow_2 rfl ?_
  refine r_lload (pc := 3) h dX11_isRow_3 rfl ?_
  refine r_lload (pc := 5) h dX11_isRow_5 rfl ?_
  refine r_lload (pc := 7) h dX11_isRow_7 rfl ?_
  refine r_callVI (ci := 11) (pc := 9) h dX11_isRow_9 wm_X11_229 ca_X11_isThrow rfl (c_X11_isThrow E _ _ _ _ _ _) rfl rfl (Nat.le_of_ble_eq_true rfl) (by decide) (by decide) (by decide) (by decide) (fun r I1 hq => ?_)
  obtain ⟨rfl, rfl⟩ := hq
  refine r_if_eq (pc := 12) h 47 dX11_isRow_12 (by decide) (fun c12 => ?_) (fun c12 => ?_)
  · refine r_iconst (v := 0) (pc := 47) h dX11_isRow_47 (by decide) ?_
    exact hr _ _ _ _ dX11_isRow_48 (by first | rfl | decide | exact b2i_nar) (⟨by (try simp only [b2i_eq0, eq0_b2i, eq1_b2i] at *); (try simp only [Int32.reduceToInt, Int64.reduceToInt, Int32.toInt_toInt64] at *); omega, rfl⟩)
  · refine r_lload (pc := 15) h dX11_isRow_15 rfl ?_
    refine r_ldc2 (pc := 17) h dX11_isRow_17 wc_X11_296 ?_
    refine r_ldc2 (pc := 20) h dX11_isRow_20 wc_X11_298 ?_
    refine r_callSI (pc := 23) h dX11_isRow_23 wm_X11_127 ca_X11_in (c_X11_in E _ _ _ _) rfl rfl (Nat.le_of_ble_eq_true rfl) (by decide) (fun r I1 hq => ?_)
    obtain ⟨rfl, rfl⟩ := hq
    refine r_if_eq (pc := 26) h 47 dX11_isRow_26 (by decide) (fun c26 => ?_) (fun c26 => ?_)
    · refine r_iconst (v := 0) (pc := 47) h dX11_isRow_47 (by decide) ?_
      exact hr _ _ _ _ dX11_isRow_48 (by first | rfl | decide | exact b2i_nar) (⟨by (try simp only [b2i_eq0, eq0_b2i, eq1_b2i] at *); (try simp only [Int32.reduceToInt, Int64.reduceToInt, Int32.toInt_toInt64] at *); omega, rfl⟩)
    · refine r_lload (pc := 29) h dX11_isRow_29 rfl ?_
      refine r_ldc2 (pc := 31) h dX11_isRow_31 wc_X11_296 ?_
      refine r_ldc2 (pc := 34) h dX11_isRow_34 wc_X11_298 ?_
      refine r_callSI (pc := 37) h dX11_isRow_37 wm_X11_127 ca_X11_in (c_X11_in E _ _ _ _) rfl rfl (Nat.le_of_ble_eq_true rfl) (by decide) (fun r I1 hq => ?_)
      obtain ⟨rfl, rfl⟩ := hq
      refine r_if_eq (pc := 40) h 47 dX11_isRow_40 (by decide) (fun c40 => ?_) (fun c40 => ?_)
      · refine r_iconst (v := 0) (pc := 47) h dX11_isRow_47 (by decide) ?_
        exact hr _ _ _ _ dX11_isRow_48 (by first | rfl | decide | exact b2i_nar) (⟨by (try simp only [b2i_eq0, eq0_b2i, eq1_b2i] at *); (try simp only [Int32.reduceToInt, Int64.reduceToInt, Int32.toInt_toInt64] at *); omega, rfl⟩)
      · refine r_iconst (v := 1) (pc := 43) h dX11_isRow_43 (by decide) ?_
        refine r_goto (pc := 44) h 48 dX11_isRow_44 (by decide) ?_
        exact hr _ _ _ _ dX11_isRow_48 (by first | rfl | decide | exact b2i_nar) (⟨by (try simp only [b2i_eq0, eq0_b2i, eq1_b2i] at *); (try simp only [Int32.reduceToInt, Int64.reduceToInt, Int32.toInt_toInt64] at *); omega, rfl⟩)
set_option maxRecDepth 100000 in
set_option maxHeartbeats 4000000 in
theorem c_X11_put (E : En) (I : Mem) (s : Int32) (l : Int32) (a : Int32) (st : Int32) (sp : Int32) (x : Int32) (y : Int32) (hr9 : 0 ≤ (I 151 42).toInt ∧ (I 151 42).toInt < 30) : Ctr E yX11_put cX11_put 9 none 1 [.ref (E.1 151), .int s, .int l, .int a, .int st, .int sp, .int x, .int y] I (qV (fun I1 : Mem => I1 = addR I s l a st sp x y)) := by
  refine Ctr.openV (by decide) (Nat.le_of_ble_eq_true rfl) (fun g h hr => ?_)
  have h : Sem cX11_put RX11 9 (rmL 1) E g := h
  show g I 0 [(0, .ref (E.1 151)), (1, .int s), (2, .int l), (3, .int a), (4, .int st), (5, .int sp), (6, .int x), (7, .int y)] []
  refine r_bipush (v := 7) (pc := 0) h dX11_put_0 (by decide) ?_
  refine r_aload_n (pc := 2) h dX11_put_2 rfl ?_
  refine gf_X11_300 (pc := 3) h dX11_put_3 ?_
  refine r_imul (pc := 6) h dX11_put_6 ?_
  refine r_istore (pc := 7) h dX11_put_7 (by decide) ?_
  refine r_aload_n (pc := 9) h dX11_put_9 rfl ?_
  refine gf_X11_102 (pc := 10) h dX11_put_10 ?_
  refine r_iload (pc := 13) h dX11_put_13 rfl ?_
  refine r_iload_n (pc := 15) h dX11_put_15 rfl ?_
  refine r_iastL (j := 7 * (I 151 42).toNatClampNeg) (pc := 16) h dX11_put_16 (by decide) (by decide) ((m7x hr9).2) (vin (n := 210) (by show 0 ≤ (7 * I 151 42).toInt; rw [(m7x hr9).1]; omega) (by show (7 * I 151 42).toInt < _; rw [(m7x hr9).1]; omega)) ?_
  refine r_aload_n (pc := 17) h dX11_put_17 rfl ?_
  refine gf_X11_102 (pc := 18) h dX11_put_18 ?_
  refine r_iload (pc := 21) h dX11_put_21 rfl ?_
  refine r_iconst (v := 1) (pc := 23) h dX11_put_23 (by decide) ?_
  refine r_iadd (pc := 24) h dX11_put_24 ?_
  refine r_iload_n (pc := 25) h dX11_put_25 rfl ?_
  refine r_iastL (j := 7 * (I 151 42).toNatClampNeg + 1) (pc := 26) h dX11_put_26 (by decide) (by decide) ((m7y hr9 (m := 1) (y := 1) (by decide) (by decide)).2) (vin (n := 210) (by show 0 ≤ (7 * I 151 42 + 1).toInt; rw [(m7y hr9 (m := 1) (y := 1) (by decide) (by decide)).1]; omega) (by show (7 * I 151 42 + 1).toInt < _; rw [(m7y hr9 (m := 1) (y := 1) (by decide) (by decide)).1]; omega)) ?_
  refine r_aload_n (pc := 27) h dX11_put_27 rfl ?_
  refine gf_X11_102 (pc := 28) h dX11_put_28 ?_
  refine r_iload (pc := 31) h dX11_put_31 rfl ?_
  refine r_iconst (v := 2) (pc := 33) h dX11_put_33 (by decide) ?_
  refine r_iadd (pc := 34) h dX11_put_34 ?_
  refine r_iload_n (pc := 35) h dX11_put_35 rfl ?_
  refine r_iastL (j := 7 * (I 151 42).toNatClampNeg + 2) (pc := 36) h dX11_put_36 (by decide) (by decide) ((m7y hr9 (m := 2) (y := 2) (by decide) (by decide)).2) (vin (n := 210) (by show 0 ≤ (7 * I 151 42 + 2).toInt; rw [(m7y hr9 (m := 2) (y := 2) (by decide) (by decide)).1]; omega) (by show (7 * I 151 42 + 2).toInt < _; rw [(m7y hr9 (m := 2) (y := 2) (by decide) (by decide)).1]; omega)) ?_
  refine r_aload_n (pc := 37) h dX11_put_37 rfl ?_
  refine gf_X11_102 (pc := 38) h dX11_put_38 ?_
  refine r_iload (pc := 41) h dX11_put_41 rfl ?_
  refine r_iconst (v := 3) (pc := 43) h dX11_put_43 (by decide) ?_
  refine r_iadd (pc := 44) h dX11_put_44 ?_
  refine r_iload (pc := 45) h dX11_put_45 rfl ?_
  refine r_iastL (j := 7 * (I 151 42).toNatClampNeg + 3) (pc := 47) h dX11_put_47 (by decide) (by decide) ((m7y hr9 (m := 3) (y := 3) (by decide) (by decide)).2) (vin (n := 210) (by show 0 ≤ (7 * I 151 42 + 3).toInt; rw [(m7y hr9 (m := 3) (y := 3) (by decide) (by decide)).1]; omega) (by show (7 * I 151 42 + 3).toInt < _; rw [(m7y hr9 (m := 3) (y := 3) (by decide) (by decide)).1]; omega)) ?_
  refine r_aload_n (pc := 48) h dX11_put_48 rfl ?_
  refine gf_X11_102 (pc := 49) h dX11_put_49 ?_
  refine r_iload (pc := 52) h dX11_put_52 rfl ?_
  refine r_iconst (v := 4) (pc := 54) h dX11_put_54 (by decide) ?_
  refine r_iadd (pc := 55) h dX11_put_55 ?_
  refine r_iload (pc := 56) h dX11_put_56 rfl ?_
  refine r_iastL (j := 7 * (I 151 42).toNatClampNeg + 4) (pc := 58) h dX11_put_58 (by decide) (by decide) ((m7y hr9 (m := 4) (y := 4) (by decide) (by decide)).2) (vin (n := 210) (by show 0 ≤ (7 * I 151 42 + 4).toInt; rw [(m7y hr9 (m := 4) (y := 4) (by decide) (by decide)).1]; omega) (by show (7 * I 151 42 + 4).toInt < _; rw [(m7y hr9 (m := 4) (y := 4) (by decide) (by decide)).1]; omega)) ?_
  refine r_aload_n (pc := 59) h dX11_put_59 rfl ?_
  refine gf_X11_102 (pc := 60) h dX11_put_60 ?_
  refine r_iload (pc := 63) h dX11_put_63 rfl ?_
  refine r_iconst (v := 5) (pc := 65) h dX11_put_65 (by decide) ?_
  refine r_iadd (pc := 66) h dX11_put_66 ?_
  refine r_iload (pc := 67) h dX11_put_67 rfl ?_
  refine r_iastL (j := 7 * (I 151 42).toNatClampNeg + 5) (pc := 69) h dX11_put_69 (by decide) (by decide) ((m7y hr9 (m := 5) (y := 5) (by decide) (by decide)).2) (vin (n := 210) (by show 0 ≤ (7 * I 151 42 + 5).toInt; rw [(m7y hr9 (m := 5) (y := 5) (by decide) (by decide)).1]; omega) (by show (7 * I 151 42 + 5).toInt < _; rw [(m7y hr9 (m := 5) (y := 5) (by decide) (by decide)).1]; omega)) ?_
  refine r_aload_n (pc := 70) h dX11_put_70 rfl ?_
  refine gf_X11_102 (pc := 71) h dX11_put_71 ?_
  refine r_iload (pc := 74) h dX11_put_74 rfl ?_
  refine r_bipush (v := 6) (pc := 76) h dX11_put_76 (by decide) ?_
  refine r_iadd (pc := 78) h dX11_put_78 ?_
  refine r_iload (pc := 79) h dX11_put_79 rfl ?_
  refine r_iastL (j := 7 * (I 151 42).toNatClampNeg + 6) (pc := 81) h dX11_put_81 (by decide) (by decide) ((m7y hr9 (m := 6) (y := 6) (by decide) (by decide)).2) (vin (n := 210) (by show 0 ≤ (7 * I 151 42 + 6).toInt; rw [(m7y hr9 (m := 6) (y := 6) (by decide) (by decide)).1]; omega) (by show (7 * I 151 42 + 6).toInt < _; rw [(m7y hr9 (m := 6) (y := 6) (by decide) (by decide)).1]; omega)) ?_
  refine r_aload_n (pc := 82) h dX11_put_82 rfl ?_
  refine r_dup (pc := 83) h dX11_put_83 rfl ?_
  refine gf_X11_300 (pc := 84) h dX11_put_84 ?_
  refine r_iconst (v := 1) (pc := 87) h dX11_put_87 (by decide) ?_
  refine r_iadd (pc := 88) h dX11_put_88 ?_
  refine pf_X11_300 (pc := 89) h dX11_put_89 ?_
  exact hr _ _ _ dX11_put_92 (rfl)
set_option maxRecDepth 100000 in
set_option maxHeartbeats 4000000 in
theorem c_X11_row (E : En) (I : Mem) (s : Int32) (l : Int32) (a : Int32) (st : Int32) (sp : Int32) (x : Int32) (y : Int32) (hc : 0 ≤ (I 151 1).toInt ∧ (I 151 1).toInt ≤ 9) (hcw : 0 ≤ (I 151 10).toInt ∧ (I 151 10).toInt ≤ 8) (hr9 : 0 ≤ (I 151 42).toInt ∧ (I 151 42).toInt ≤ 30) : Ctr E yX11_row cX11_row 8 (some .int) 4 [.ref (E.1 151), .int s, .int l, .int a, .int st, .int sp, .int x, .int y] I (qI (fun (r : Int32) (I1 : Mem) => r = (R_row I s l a st sp x y).1 ∧ (R_row I s l a st sp x y).2 = I1)) := by
  refine Ctr.openI (by decide) (Nat.le_of_ble_eq_true rfl) (fun g h hr => ?_)
  have h : Sem cX11_row RX11 8 (rmL 4) E g := h
  show g I 0 [(0, .ref (E.1 151)), (1, .int s), (2, .int l), (3, .int a), (4, .int st), (5, .int sp), (6, .int x), (7, .int y)] []
  have ec : (I 151 1 - 1).toInt = (I 151 1).toInt - 1 := tI_sub1 (by omega)
  refine r_aload_n (pc := 0) h dX11_row_0 rfl ?_
  refine r_iload_n (pc := 1) h dX11_row_1 rfl ?_
  refine r_i2l (pc := 2) h dX11_row_2 ?_
  refine r_iload_n (pc := 3) h dX11_row_3 rfl ?_
  refine r_i2l (pc := 4) h dX11_row_4 ?_
  refine r_iload_n (pc := 5) h dX11_row_5 rfl ?_
  refine r_i2l (pc := 6) h dX11_row_6 ?_
  refine r_iload (pc := 7) h dX11_row_7 rfl ?_
  refine r_i2l (pc := 9) h dX11_row_9 ?_
  refine r_iload (pc := 10) h dX11_row_10 rfl ?_
  refine r_i2l (pc := 12) h dX11_row_12 ?_
  refine r_iload (pc := 13) h dX11_row_13 rfl ?_
  refine r_i2l (pc := 15) h dX11_row_15 ?_
  refine r_iload (pc := 16) h dX11_row_16 rfl ?_
  refine r_i2l (pc := 18) h dX11_row_18 ?_
  refine r_callVI (ci := 11) (pc := 19) h dX11_row_19 wm_X11_303 ca_X11_isRow rfl (c_X11_isRow E _ _ _ _ _ _ _ _) rfl rfl (Nat.le_of_ble_eq_true rfl) (by decide) (by decide) (by decide) (by decide) (fun r I1 hq => ?_)
  obtain ⟨rfl, rfl⟩ := hq
  refine r_if_ne (pc := 22) h 27 dX11_row_22 (by decide) (fun c22 => ?_) (fun c22 => ?_)
  · have hv : isS s (I 151 1) ∧ styP l a st sp ∧ rowV x y := by (try simp only [b2i_eq0] at *); (try simp only [Int32.reduceToInt, Int64.reduceToInt, Int32.toInt_toInt64] at *); omega
    refine r_aload_n (pc := 27) h dX11_row_27 rfl ?_
    refine gf_X11_300 (pc := 28) h dX11_row_28 ?_
    refine r_bipush (v := 30) (pc := 31) h dX11_row_31 (by decide) ?_
    refine r_icmp_ne (pc := 33) h 39 dX11_row_33 (by decide) (fun c33 => ?_) (fun c33 => ?_)
    · refine r_aload_n (pc := 39) h dX11_row_39 rfl ?_
      refine r_iload_n (pc := 40) h dX11_row_40 rfl ?_
      refine r_iload_n (pc := 41) h dX11_row_41 rfl ?_
      refine r_iload_n (pc := 42) h dX11_row_42 rfl ?_
      refine r_iload (pc := 43) h dX11_row_43 rfl ?_
      refine r_iload (pc := 45) h dX11_row_45 rfl ?_
      refine r_iload (pc := 47) h dX11_row_47 rfl ?_
      refine r_iload (pc := 49) h dX11_row_49 rfl ?_
      refine r_callVV (ci := 11) (pc := 51) h dX11_row_51 wm_X11_307 ca_X11_put rfl (c_X11_put E _ _ _ _ _ _ _ _ ⟨hr9.1, by rw [i32_eq, e30] at c33; omega⟩) rfl rfl (Nat.le_of_ble_eq_true rfl) (by decide) (by decide) (by decide) (by decide) (fun I1 hq => ?_)
      subst hq
      refine r_aload_n (pc := 54) h dX11_row_54 rfl ?_
      refine gf_X11_300 (pc := 55) h dX11_row_55 ?_
      refine r_iconst (v := 1) (pc := 58) h dX11_row_58 (by decide) ?_
      refine r_isub (pc := 59) h dX11_row_59 ?_
      exact hr _ _ _ _ dX11_row_60 (rfl) (by unfold R_row; rw [if_pos hv, if_neg c33]; refine ⟨?_, rfl⟩; unfold addR; rw [upm_eq]; exact add1_sub1 _)
    · refine r_bipush (v := -3) (pc := 36) h dX11_row_36 (by decide) ?_
      exact hr _ _ _ _ dX11_row_38 (rfl) (by unfold R_row; rw [if_pos hv, if_pos c33]; exact ⟨rfl, rfl⟩)
  · refine r_iconst (v := -1) (pc := 25) h dX11_row_25 (by decide) ?_
    exact hr _ _ _ _ dX11_row_26 (rfl) (by unfold R_row; rw [if_neg (by (try simp only [b2i_eq0] at *); (try simp only [Int32.reduceToInt, Int64.reduceToInt, Int32.toInt_toInt64] at *); omega)]; exact ⟨rfl, rfl⟩)
set_option maxRecDepth 100000 in
set_option maxHeartbeats 4000000 in
theorem c_X11_finds (E : En) (I : Mem) (s : Int32) (l : Int32) (i : Int32) (n : Int32) (hs : 0 ≤ s.toInt ∧ s.toInt ≤ 3) : Ctr E yX11_finds cX11_finds 5 (some .int) 1 [.ref (E.1 151), .int s, .int l, .int i, .int n] I (qI (fun (r : Int32) (I1 : Mem) => r = R_finds I s l i n ∧ I = I1)) := by
  refine Ctr.openI (by decide) (Nat.le_of_ble_eq_true rfl) (fun g h hr => ?_)
  have h : Sem cX11_finds RX11 5 (rmL 1) E g := h
  show g I 0 [(0, .ref (E.1 151)), (1, .int s), (2, .int l), (3, .int i), (4, .int n)] []
  refine r_aload_n (pc := 0) h dX11_finds_0 rfl ?_
  refine gf_X11_111 (pc := 1) h dX11_finds_1 ?_
  refine r_iload_n (pc := 4) h dX11_finds_4 rfl ?_
  refine r_iald (pc := 5) h dX11_finds_5 (by decide) (by decide) (vin (n := 4) (by omega) (by omega)) ?_
  refine r_if_ge (pc := 6) h 12 dX11_finds_6 (by decide) (fun c6 => ?_) (fun c6 => ?_)
  · refine r_aload_n (pc := 12) h dX11_finds_12 rfl ?_
    refine gf_X11_111 (pc := 13) h dX11_finds_13 ?_
    refine r_iload_n (pc := 16) h dX11_finds_16 rfl ?_
    refine r_iald (pc := 17) h dX11_finds_17 (by decide) (by decide) (vin (n := 4) (by omega) (by omega)) ?_
    refine r_iload_n (pc := 18) h dX11_finds_18 rfl ?_
    refine r_icmp_eq (pc := 19) h 25 dX11_finds_19 (by decide) (fun c19 => ?_) (fun c19 => ?_)
    · refine r_iload_n (pc := 25) h dX11_finds_25 rfl ?_
      refine r_if_lt (pc := 26) h 46 dX11_finds_26 (by decide) (fun c26 => ?_) (fun c26 => ?_)
      · have hbad : (i.toInt < 0 ∨ (I 181 s.toNatClampNeg).toInt < i.toInt + n.toInt) := by
          first
          | (left; rw [Int32.lt_iff_toInt_lt, z32] at c26; exact c26)
          | (right; rw [lg_cmp_le, Int64.le_iff_toInt_le, eL, Int32.toInt_toInt64] at c43; omega)
        refine r_bipush (v := -13) (pc := 46) h dX11_finds_46 (by decide) ?_
        refine r_goto (pc := 48) h 52 dX11_finds_48 (by decide) ?_
        exact hr _ _ _ _ dX11_finds_52 (rfl) (⟨by unfold R_finds; first | rw [if_pos (by rw [Int32.le_iff_toInt_le, z32] at c6; omega)] | (rw [if_neg (by rw [Int32.le_iff_toInt_le, z32] at c6; omega)]; first | rw [if_neg c19] | (rw [if_pos c19]; first | rw [if_pos hbad] | rw [if_neg hgood])), rfl⟩)
      · have eL : (i.toInt64 + n.toInt64).toInt = i.toInt + n.toInt := by
          have a1 := tI_lo i
          have a2 := tI_hi i
          have a3 := tI_lo n
          have a4 := tI_hi n
          rw [tL_add (by rw [Int32.toInt_toInt64, Int32.toInt_toInt64]; omega) (by rw [Int32.toInt_toInt64, Int32.toInt_toInt64]; omega), Int32.toInt_toInt64, Int32.toInt_toInt64]
        refine r_iload_n (pc := 29) h dX11_finds_29 rfl ?_
        refine r_i2l (pc := 30) h dX11_finds_30 ?_
        refine r_iload (pc := 31) h dX11_finds_31 rfl ?_
        refine r_i2l (pc := 33) h dX11_finds_33 ?_
        refine r_ladd (pc := 34) h dX11_finds_34 ?_
        refine r_aload_n (pc := 35) h dX11_finds_35 rfl ?_
        refine gf_X11_114 (pc := 36) h dX11_finds_36 ?_
        refine r_iload_n (pc := 39) h dX11_finds_39 rfl ?_
        refine r_iald (pc := 40) h dX11_finds_40 (by decide) (by decide) (vin (n := 4) (by omega) (by omega)) ?_
        refine r_i2l (pc := 41) h dX11_finds_41 ?_
        refine r_lcmp (pc := 42) h dX11_finds_42 ?_
        refine r_if_le (pc := 43) h 51 dX11_finds_43 (by decide) (fun c43 => ?_) (fun c43 => ?_)
        · have hgood : ¬ (i.toInt < 0 ∨ (I 181 s.toNatClampNeg).toInt < i.toInt + n.toInt) := by
            rw [lg_cmp_le, Int64.le_iff_toInt_le, eL, Int32.toInt_toInt64] at c43
            rw [Int32.lt_iff_toInt_lt, z32] at c26
            omega
          refine r_iconst (v := 0) (pc := 51) h dX11_finds_51 (by decide) ?_
          exact hr _ _ _ _ dX11_finds_52 (rfl) (⟨by unfold R_finds; first | rw [if_pos (by rw [Int32.le_iff_toInt_le, z32] at c6; omega)] | (rw [if_neg (by rw [Int32.le_iff_toInt_le, z32] at c6; omega)]; first | rw [if_neg c19] | (rw [if_pos c19]; first | rw [if_pos hbad] | rw [if_neg hgood])), rfl⟩)
        · have hbad : (i.toInt < 0 ∨ (I 181 s.toNatClampNeg).toInt < i.toInt + n.toInt) := by
            first
            | (left; rw [Int32.lt_iff_toInt_lt, z32] at c26; exact c26)
            | (right; rw [lg_cmp_le, Int64.le_iff_toInt_le, eL, Int32.toInt_toInt64] at c43; omega)
          refine r_bipush (v := -13) (pc := 46) h dX11_finds_46 (by decide) ?_
          refine r_goto (pc := 48) h 52 dX11_finds_48 (by decide) ?_
          exact hr _ _ _ _ dX11_finds_52 (rfl) (⟨by unfold R_finds; first | rw [if_pos (by rw [Int32.le_iff_toInt_le, z32] at c6; omega)] | (rw [if_neg (by rw [Int32.le_iff_toInt_le, z32] at c6; omega)]; first | rw [if_neg c19] | (rw [if_pos c19]; first | rw [if_pos hbad] | rw [if_neg hgood])), rfl⟩)
    · refine r_bipush (v := -12) (pc := 22) h dX11_finds_22 (by decide) ?_
      exact hr _ _ _ _ dX11_finds_24 (rfl) (⟨by unfold R_finds; first | rw [if_pos (by rw [Int32.le_iff_toInt_le, z32] at c6; omega)] | (rw [if_neg (by rw [Int32.le_iff_toInt_le, z32] at c6; omega)]; first | rw [if_neg c19] | (rw [if_pos c19]; first | rw [if_pos hbad] | rw [if_neg hgood])), rfl⟩)
  · refine r_bipush (v := -11) (pc := 9) h dX11_finds_9 (by decide) ?_
    exact hr _ _ _ _ dX11_finds_11 (rfl) (⟨by unfold R_finds; first | rw [if_pos (by rw [Int32.le_iff_toInt_le, z32] at c6; omega)] | (rw [if_neg (by rw [Int32.le_iff_toInt_le, z32] at c6; omega)]; first | rw [if_neg c19] | (rw [if_pos c19]; first | rw [if_pos hbad] | rw [if_neg hgood])), rfl⟩)
set_option maxRecDepth 100000 in
set_option maxHeartbeats 4000000 in
theorem c_X11_item (E : En) (I : Mem) (s : Int32) (l : Int32) (i : Int32) (v : Int32) (hz : ∀ n, n < 4 → (I 181 n).toInt ≤ 60) : Ctr E yX11_item cX11_item 6 (some .int) 3 [.ref (E.1 151), .int s, .int l, .int i, .int v] I (qI (fun (r : Int32) (I1 : Mem) => r = (R_item I s l i v).1 ∧ (R_item I s l i v).2 = I1)) := by
  refine Ctr.openI (by decide) (Nat.le_of_ble_eq_true rfl) (fun g h hr => ?_)
  have h : Sem cX11_item RX11 6 (rmL 3) E g := h
  show g I 0 [(0, .ref (E.1 151)), (1, .int s), (2, .int l), (3, .int i), (4, .int v)] []
  have sub44 : ∀ (J : Mem) (lv : LV) (st : List Value), lk lv 2 = some (.int l) → lk lv 4 = some (.int v) → g J 67 lv (.int (laneV l v) :: st) → g J 44 lv st := by
    intro J lv st hl2 hl4 kk
    refine r_iload_n (pc := 44) h dX11_item_44 hl2 ?_
    refine r_if_ne (pc := 45) h 54 dX11_item_45 (by decide) (fun c45 => ?_) (fun c45 => ?_)
    · refine r_iload_n (pc := 54) h dX11_item_54 hl2 ?_
      refine r_iconst (v := 1) (pc := 55) h dX11_item_55 (by decide) ?_
      refine r_icmp_ne (pc := 56) h 65 dX11_item_56 (by decide) (fun c56 => ?_) (fun c56 => ?_)
      · refine r_iload (pc := 65) h dX11_item_65 hl4 ?_
        first
        | (rw [show laneV l v = v.toInt8.toInt32 by unfold laneV; rw [if_pos c45]] at kk; exact kk)
        | (rw [show laneV l v = v.toInt16.toInt32 by unfold laneV; rw [if_neg c45, if_pos c56]] at kk; exact kk)
        | (rw [show laneV l v = v by unfold laneV; rw [if_neg c45, if_neg c56]] at kk; exact kk)
      · refine r_iload (pc := 59) h dX11_item_59 hl4 ?_
        refine r_i2s (pc := 61) h dX11_item_61 ?_
        refine r_goto (pc := 62) h 67 dX11_item_62 (by decide) ?_
        first
        | (rw [show laneV l v = v.toInt8.toInt32 by unfold laneV; rw [if_pos c45]] at kk; exact kk)
        | (rw [show laneV l v = v.toInt16.toInt32 by unfold laneV; rw [if_neg c45, if_pos c56]] at kk; exact kk)
        | (rw [show laneV l v = v by unfold laneV; rw [if_neg c45, if_neg c56]] at kk; exact kk)
    · refine r_iload (pc := 48) h dX11_item_48 hl4 ?_
      refine r_i2b (pc := 50) h dX11_item_50 ?_
      refine r_goto (pc := 51) h 67 dX11_item_51 (by decide) ?_
      first
      | (rw [show laneV l v = v.toInt8.toInt32 by unfold laneV; rw [if_pos c45]] at kk; exact kk)
      | (rw [show laneV l v = v.toInt16.toInt32 by unfold laneV; rw [if_neg c45, if_pos c56]] at kk; exact kk)
      | (rw [show laneV l v = v by unfold laneV; rw [if_neg c45, if_neg c56]] at kk; exact kk)
  refine r_iload_n (pc := 0) h dX11_item_0 rfl ?_
  refine r_callSI (pc := 1) h dX11_item_1 wm_X11_334 ca_X11_isSheet (c_X11_isSheet E _ _) rfl rfl (Nat.le_of_ble_eq_true rfl) (by decide) (fun r I1 hq => ?_)
  obtain ⟨rfl, rfl⟩ := hq
  refine r_if_eq (pc := 4) h 14 dX11_item_4 (by decide) (fun c4 => ?_) (fun c4 => ?_)
  · refine r_iconst (v := -1) (pc := 14) h dX11_item_14 (by decide) ?_
    exact hr _ _ _ _ dX11_item_15 (rfl) (by unfold R_item; rw [if_neg (by (try simp only [b2i_eq0] at *); (try simp only [Int32.reduceToInt, Int64.reduceToInt, Int32.toInt_toInt64] at *); omega)]; exact ⟨rfl, rfl⟩)
  · refine r_iload_n (pc := 7) h dX11_item_7 rfl ?_
    refine r_callSI (pc := 8) h dX11_item_8 wm_X11_337 ca_X11_isLane (c_X11_isLane E _ _) rfl rfl (Nat.le_of_ble_eq_true rfl) (by decide) (fun r I1 hq => ?_)
    obtain ⟨rfl, rfl⟩ := hq
    refine r_if_ne (pc := 11) h 16 dX11_item_11 (by decide) (fun c11 => ?_) (fun c11 => ?_)
    · have hv : (0 ≤ s.toInt ∧ s.toInt ≤ 3) ∧ (0 ≤ l.toInt ∧ l.toInt ≤ 2) := by (try simp only [b2i_eq0] at *); (try simp only [Int32.reduceToInt, Int64.reduceToInt, Int32.toInt_toInt64] at *); omega
      have hn : s.toNatClampNeg < 4 := by rw [tn]; omega
      refine r_aload_n (pc := 16) h dX11_item_16 rfl ?_
      refine r_iload_n (pc := 17) h dX11_item_17 rfl ?_
      refine r_iload_n (pc := 18) h dX11_item_18 rfl ?_
      refine r_iload_n (pc := 19) h dX11_item_19 rfl ?_
      refine r_iconst (v := 1) (pc := 20) h dX11_item_20 (by decide) ?_
      refine r_callVI (ci := 11) (pc := 21) h dX11_item_21 wm_X11_340 ca_X11_finds rfl (c_X11_finds E _ _ _ _ _ hv.1) rfl rfl (Nat.le_of_ble_eq_true rfl) (by decide) (by decide) (by decide) (by decide) (fun r I1 hq => ?_)
      obtain ⟨rfl, rfl⟩ := hq
      refine r_istore (pc := 24) h dX11_item_24 (by decide) ?_
      refine r_iload (pc := 26) h dX11_item_26 rfl ?_
      refine r_if_ge (pc := 28) h 34 dX11_item_28 (by decide) (fun c28 => ?_) (fun c28 => ?_)
      · have hf0 : ¬ (R_finds I s l i 1).toInt < 0 := by rw [Int32.le_iff_toInt_le, z32] at c28; omega
        have hf := finds0 hf0
        have hzs := hz _ hn
        rw [i1] at hf
        have hi6 : 0 ≤ i.toInt ∧ i.toInt < 60 := by omega
        refine r_aload_n (pc := 34) h dX11_item_34 rfl ?_
        refine gf_X11_117 (pc := 35) h dX11_item_35 ?_
        refine r_bipush (v := 60) (pc := 38) h dX11_item_38 (by decide) ?_
        refine r_iload_n (pc := 40) h dX11_item_40 rfl ?_
        refine r_imul (pc := 41) h dX11_item_41 ?_
        refine r_iload_n (pc := 42) h dX11_item_42 rfl ?_
        refine r_iadd (pc := 43) h dX11_item_43 ?_
        refine sub44 _ _ _ rfl rfl ?_
        refine r_iastL (j := 60 * s.toNatClampNeg + i.toNatClampNeg) (pc := 67) h dX11_item_67 (by decide) (by decide) ((m60v hv.1 hi6).2) (vin (n := 240) (by rw [(m60v hv.1 hi6).1]; omega) (by rw [(m60v hv.1 hi6).1]; omega)) ?_
        refine r_iconst (v := 1) (pc := 68) h dX11_item_68 (by decide) ?_
        exact hr _ _ _ _ dX11_item_69 (rfl) (by unfold R_item; rw [if_pos hv, if_neg hf0]; exact ⟨rfl, rfl⟩)
      · refine r_iload (pc := 31) h dX11_item_31 rfl ?_
        exact hr _ _ _ _ dX11_item_33 (rfl) (by unfold R_item; rw [if_pos hv, if_pos (by rw [Int32.le_iff_toInt_le, z32] at c28; omega)]; exact ⟨rfl, rfl⟩)
    · refine r_iconst (v := -1) (pc := 14) h dX11_item_14 (by decide) ?_
      exact hr _ _ _ _ dX11_item_15 (rfl) (by unfold R_item; rw [if_neg (by (try simp only [b2i_eq0] at *); (try simp only [Int32.reduceToInt, Int64.reduceToInt, Int32.toInt_toInt64] at *); omega)]; exact ⟨rfl, rfl⟩)
