/-! SHEETS of both: fill, hold, put, sheet, drop, item -/
def holdM (I : Mem) (k : Nat) (l n : Int32) : Mem := rowQ (upm (upm I k 0 l) k 1 n) (k + 1) 0 (fun _ => 0) 60
def laneV (l v : Int32) : Int32 := if l = 0 then v.toInt8.toInt32 else if l = 1 then v.toInt16.toInt32 else v
def F_sheet (I : Mem) (s l n : Int32) : Int32 × Mem := if (0 ≤ s.toInt ∧ s.toInt ≤ 3) ∧ (0 ≤ l.toInt ∧ l.toInt ≤ 2) ∧ n.toInt ≤ 60 then (if n.toInt < 0 then (-14, I) else (n, holdM I (143 + 2 * s.toNatClampNeg) l n)) else (-1, I)
def F_drop (I : Mem) (s : Int32) : Int32 × Mem := if (0 ≤ s.toInt ∧ s.toInt ≤ 3) then (if I (143 + 2 * s.toNatClampNeg) 0 = -1 then (-11, I) else (I (143 + 2 * s.toNatClampNeg) 1, holdM I (143 + 2 * s.toNatClampNeg) (-1) 0)) else (-1, I)
def F_item (I : Mem) (s l i v : Int32) : Int32 × Mem := if F_fault I s l = 0 then (if hasP (I (143 + 2 * s.toNatClampNeg) 1) i 1 then (1, upm I (143 + 2 * s.toNatClampNeg + 1) i.toNatClampNeg (laneV (I (143 + 2 * s.toNatClampNeg) 0) v)) else (-13, I)) else (F_fault I s l, I)
theorem fault0 {I : Mem} {s l : Int32} (h : F_fault I s l = 0) : 0 ≤ s.toInt ∧ s.toInt ≤ 3 := by
  unfold F_fault at h
  split at h
  · rename_i q
    exact q.1
  · exact absurd h (by decide)
def R_sheet (I : Mem) (s l n : Int32) : Int32 × Mem := if (0 ≤ s.toInt ∧ s.toInt ≤ 3) ∧ (0 ≤ l.toInt ∧ l.toInt ≤ 2) ∧ n.toInt ≤ 60 then (if n.toInt < 0 then (-14, I) else (n, rowQ (upm (upm I 180 s.toNatClampNeg l) 181 s.toNatClampNeg n) 182 (60 * s.toNatClampNeg) (fun _ => 0) 60)) else (-1, I)
def R_drop (I : Mem) (s : Int32) : Int32 × Mem := if (0 ≤ s.toInt ∧ s.toInt ≤ 3) then (if (I 180 s.toNatClampNeg).toInt < 0 then (-11, I) else (I 181 s.toNatClampNeg, upm I 180 s.toNatClampNeg (-1))) else (-1, I)
theorem e60 : (60 : Int32).toInt = 60 := by decide
theorem m60 {s : Int32} {i : Nat} (h : 0 ≤ s.toInt ∧ s.toInt ≤ 3) (hi : i < 60) : (60 * s + nI i).toInt = 60 * s.toInt + i ∧ (60 * s + nI i).toNatClampNeg = 60 * s.toNatClampNeg + i := by
  have ei := nI_tI (i := i) (by omega)
  have em : (60 * s).toInt = 60 * s.toInt := by rw [tI_mul (by rw [e60]; omega) (by rw [e60]; omega), e60]
  have e2 : (60 * s + nI i).toInt = 60 * s.toInt + i := by rw [tI_add (by rw [em, ei]; omega) (by rw [em, ei]; omega), em, ei]
  refine ⟨e2, ?_⟩
  rw [tn, tn, e2]
  omega
set_option maxRecDepth 100000 in
set_option maxHeartbeats 4000000 in
theorem c_J7_fill_53178 (E : En) (I : Mem) (k cN : Nat) (v : Int32) (hk : k < 184) (hkd : kd k = 12) (hN : ln k = cN) (hN6 : cN ≤ 60) : Ctr E yJ7_fill_53178 cJ7_fill_53178 4 none 1 [.ref (E.1 k), .int v] I (qV (fun I1 : Mem => I1 = rowQ I k 0 (fun _ => v) cN)) := by
  refine Ctr.openV (by decide +kernel) (Nat.le_of_ble_eq_true rfl) (fun g h hr => ?_)
  have h : Sem cJ7_fill_53178 RJ7 4 (rmL 1) E g := h
  show g I 0 [(0, .ref (E.1 k)), (1, .int v)] []
  refine r_iconst (v := 0) (pc := 0) h dJ7_fill_53178_0 (by decide) ?_
  refine r_istore_n (pc := 1) h dJ7_fill_53178_1 (by decide) ?_
  refine r_aload_n (pc := 2) h dJ7_fill_53178_2 rfl ?_
  refine r_alen (pc := 3) h dJ7_fill_53178_3 (v := nI cN) hk hkd (by rw [hN]; rfl) ?_
  refine r_istore_n (pc := 4) h dJ7_fill_53178_4 (by decide) ?_
  have loop5 : ∀ (m i : Nat), i ≤ cN → cN + 1 ≤ i + m → g (rowQ I k 0 (fun _ => v) i) 5 [(0, .ref (E.1 k)), (1, .int v), (2, .int (nI i)), (3, .int (nI cN))] [] := by
    intro m
    induction m with
    | zero =>
      intro i h1 h2
      omega
    | succ m ih =>
      intro i hi him
      have ei := nI_tI (i := i) (by omega)
      refine r_iload_n (pc := 5) h dJ7_fill_53178_5 rfl ?_
      refine r_iload_n (pc := 6) h dJ7_fill_53178_6 rfl ?_
      refine r_icmp_ge (pc := 7) h 20 dJ7_fill_53178_7 (by decide) (fun c7 => ?_) (fun c7 => ?_)
      · have hge : i = cN := by rw [Int32.le_iff_toInt_le, ei, nI_tI (by omega)] at c7; omega
        exact hr _ _ _ dJ7_fill_53178_20 (by rw [hge])
      · have hlt : i < cN := by rw [Int32.le_iff_toInt_le, ei, nI_tI (by omega)] at c7; omega
        refine r_aload_n (pc := 10) h dJ7_fill_53178_10 rfl ?_
        refine r_iload_n (pc := 11) h dJ7_fill_53178_11 rfl ?_
        refine r_iload_n (pc := 12) h dJ7_fill_53178_12 rfl ?_
        refine r_iast (pc := 13) h dJ7_fill_53178_13 hk hkd (by rw [hN]; exact vinI hlt (by omega)) ?_
        refine r_iinc (v := 1) (pc := 14) h dJ7_fill_53178_14 rfl (by decide) (by decide) ?_
        refine r_goto (pc := 17) h 5 dJ7_fill_53178_17 (by decide) ?_
        rw [← nI_succ]
        rw [show upm (rowQ I k 0 (fun _ => v) i) k (nI i).toNatClampNeg v = (rowQ I k 0 (fun _ => v) (i + 1)) by
          rw [nI_tn (by omega), ← rowQ_step, Nat.zero_add]]
        exact r_at h [(0, .ref (E.1 k)), (1, .int v), (2, .int (nI (i + 1))), (3, .int (nI cN))] ⟨rfl, rfl, rfl, rfl, trivial⟩ (ih (i + 1) (by omega) (by omega))
  have h0 := loop5 (cN + 1) 0 (by omega) (by omega)
  rw [rowQ_0] at h0
  exact r_at h [(0, .ref (E.1 k)), (1, .int v), (2, .int (nI 0)), (3, .int (nI cN))] ⟨rfl, rfl, rfl, rfl, trivial⟩ h0
set_option maxRecDepth 100000 in
set_option maxHeartbeats 4000000 in
theorem c_X6_hold (E : En) (I : Mem) (n : Nat) (l : Int32) (z : Int32) (hn : n < 4) : Ctr E yX6_hold cX6_hold 3 none 2 [.ref (E.1 (143 + 2 * n)), .int l, .int z] I (qV (fun I1 : Mem => I1 = holdM I (143 + 2 * n) l z)) := by
  refine Ctr.openV (by decide) (Nat.le_of_ble_eq_true rfl) (fun g h hr => ?_)
  have h : Sem cX6_hold RX6 3 (rmL 2) E g := h
  show g I 0 [(0, .ref (E.1 (143 + 2 * n))), (1, .int l), (2, .int z)] []
  refine r_aload_n (pc := 0) h dX6_hold_0 rfl ?_
  refine r_iload_n (pc := 1) h dX6_hold_1 rfl ?_
  refine pf_X6_9 (pc := 2) h dX6_hold_2 (by omega) (kdSh _ hn) ?_
  refine r_aload_n (pc := 5) h dX6_hold_5 rfl ?_
  refine r_iload_n (pc := 6) h dX6_hold_6 rfl ?_
  refine pf_X6_13 (pc := 7) h dX6_hold_7 (by omega) (kdSh _ hn) ?_
  refine r_aload_n (pc := 10) h dX6_hold_10 rfl ?_
  refine gf_X6_16 (pc := 11) h dX6_hold_11 (by omega) (kdSh _ hn) (rfSi _ hn) ?_
  refine r_iconst (v := 0) (pc := 14) h dX6_hold_14 (by decide) ?_
  refine r_callSV (pc := 15) h dX6_hold_15 wm_X6_20 ca_J7_fill_53178 (c_J7_fill_53178 E _ _ 60 _ (by omega) (kdSi _ hn) (lnSi _ hn) (by omega)) rfl rfl (Nat.le_of_ble_eq_true rfl) (by decide) (fun I1 hq => ?_)
  subst hq
  exact hr _ _ _ dX6_hold_18 (rfl)
set_option maxRecDepth 100000 in
set_option maxHeartbeats 4000000 in
theorem c_X6_put (E : En) (I : Mem) (n : Nat) (i : Int32) (v : Int32) (hn : n < 4) (hi : 0 ≤ i.toInt ∧ i.toInt < 60) : Ctr E yX6_put cX6_put 3 none 1 [.ref (E.1 (143 + 2 * n)), .int i, .int v] I (qV (fun I1 : Mem => I1 = upm I (143 + 2 * n + 1) i.toNatClampNeg (laneV (I (143 + 2 * n) 0) v))) := by
  refine Ctr.openV (by decide) (Nat.le_of_ble_eq_true rfl) (fun g h hr => ?_)
  have h : Sem cX6_put RX6 3 (rmL 1) E g := h
  show g I 0 [(0, .ref (E.1 (143 + 2 * n))), (1, .int i), (2, .int v)] []
  refine r_aload_n (pc := 0) h dX6_put_0 rfl ?_
  refine gf_X6_9 (pc := 1) h dX6_put_1 (by omega) (kdSh _ hn) ?_
  refine r_if_ne (pc := 4) h 18 dX6_put_4 (by decide) (fun c4 => ?_) (fun c4 => ?_)
  · refine r_aload_n (pc := 18) h dX6_put_18 rfl ?_
    refine gf_X6_9 (pc := 19) h dX6_put_19 (by omega) (kdSh _ hn) ?_
    refine r_iconst (v := 1) (pc := 22) h dX6_put_22 (by decide) ?_
    refine r_icmp_ne (pc := 23) h 37 dX6_put_23 (by decide) (fun c23 => ?_) (fun c23 => ?_)
    · refine r_aload_n (pc := 37) h dX6_put_37 rfl ?_
      refine gf_X6_16 (pc := 38) h dX6_put_38 (by omega) (kdSh _ hn) (rfSi _ hn) ?_
      refine r_iload_n (pc := 41) h dX6_put_41 rfl ?_
      refine r_iload_n (pc := 42) h dX6_put_42 rfl ?_
      refine r_iast (pc := 43) h dX6_put_43 (by omega) (kdSi _ hn) (by rw [lnSi _ hn]; exact vin (by omega) (by omega)) ?_
      exact hr _ _ _ dX6_put_44 (by unfold laneV; first | rw [if_pos c4] | rw [if_neg c4, if_pos c23] | rw [if_neg c4, if_neg c23])
    · refine r_aload_n (pc := 26) h dX6_put_26 rfl ?_
      refine gf_X6_16 (pc := 27) h dX6_put_27 (by omega) (kdSh _ hn) (rfSi _ hn) ?_
      refine r_iload_n (pc := 30) h dX6_put_30 rfl ?_
      refine r_iload_n (pc := 31) h dX6_put_31 rfl ?_
      refine r_i2s (pc := 32) h dX6_put_32 ?_
      refine r_iast (pc := 33) h dX6_put_33 (by omega) (kdSi _ hn) (by rw [lnSi _ hn]; exact vin (by omega) (by omega)) ?_
      refine r_goto (pc := 34) h 44 dX6_put_34 (by decide) ?_
      exact hr _ _ _ dX6_put_44 (by unfold laneV; first | rw [if_pos c4] | rw [if_neg c4, if_pos c23] | rw [if_neg c4, if_neg c23])
  · refine r_aload_n (pc := 7) h dX6_put_7 rfl ?_
    refine gf_X6_16 (pc := 8) h dX6_put_8 (by omega) (kdSh _ hn) (rfSi _ hn) ?_
    refine r_iload_n (pc := 11) h dX6_put_11 rfl ?_
    refine r_iload_n (pc := 12) h dX6_put_12 rfl ?_
    refine r_i2b (pc := 13) h dX6_put_13 ?_
    refine r_iast (pc := 14) h dX6_put_14 (by omega) (kdSi _ hn) (by rw [lnSi _ hn]; exact vin (by omega) (by omega)) ?_
    refine r_goto (pc := 15) h 44 dX6_put_15 (by decide) ?_
    exact hr _ _ _ dX6_put_44 (by unfold laneV; first | rw [if_pos c4] | rw [if_neg c4, if_pos c23] | rw [if_neg c4, if_neg c23])
set_option maxRecDepth 100000 in
set_option maxHeartbeats 4000000 in
theorem c_X10_sheet (E : En) (I : Mem) (s : Int32) (l : Int32) (z : Int32)  : Ctr E yX10_sheet cX10_sheet 4 (some .int) 3 [.ref (E.1 0), .int s, .int l, .int z] I (qI (fun (r : Int32) (I1 : Mem) => r = (F_sheet I s l z).1 ∧ (F_sheet I s l z).2 = I1)) := by
  refine Ctr.openI (by decide) (Nat.le_of_ble_eq_true rfl) (fun g h hr => ?_)
  have h : Sem cX10_sheet RX10 4 (rmL 3) E g := h
  show g I 0 [(0, .ref (E.1 0)), (1, .int s), (2, .int l), (3, .int z)] []
  refine r_iload_n (pc := 0) h dX10_sheet_0 rfl ?_
  refine r_callSI (pc := 1) h dX10_sheet_1 wm_X10_335 ca_X10_isSheet (c_X10_isSheet E _ _) rfl rfl (Nat.le_of_ble_eq_true rfl) (by decide) (fun r I1 hq => ?_)
  obtain ⟨rfl, rfl⟩ := hq
  refine r_if_eq (pc := 4) h 20 dX10_sheet_4 (by decide) (fun c4 => ?_) (fun c4 => ?_)
  · refine r_iconst (v := -1) (pc := 20) h dX10_sheet_20 (by decide) ?_
    exact hr _ _ _ _ dX10_sheet_21 (rfl) (by unfold F_sheet; rw [if_neg (by (try simp only [b2i_eq0] at *); (try simp only [Int32.le_iff_toInt_le, Int32.lt_iff_toInt_lt, Int32.reduceToInt, Int64.reduceToInt, Int32.toInt_toInt64] at *); omega)]; exact ⟨rfl, rfl⟩)
  · refine r_iload_n (pc := 7) h dX10_sheet_7 rfl ?_
    refine r_callSI (pc := 8) h dX10_sheet_8 wm_X10_338 ca_X10_isLane (c_X10_isLane E _ _) rfl rfl (Nat.le_of_ble_eq_true rfl) (by decide) (fun r I1 hq => ?_)
    obtain ⟨rfl, rfl⟩ := hq
    refine r_if_eq (pc := 11) h 20 dX10_sheet_11 (by decide) (fun c11 => ?_) (fun c11 => ?_)
    · refine r_iconst (v := -1) (pc := 20) h dX10_sheet_20 (by decide) ?_
      exact hr _ _ _ _ dX10_sheet_21 (rfl) (by unfold F_sheet; rw [if_neg (by (try simp only [b2i_eq0] at *); (try simp only [Int32.le_iff_toInt_le, Int32.lt_iff_toInt_lt, Int32.reduceToInt, Int64.reduceToInt, Int32.toInt_toInt64] at *); omega)]; exact ⟨rfl, rfl⟩)
    · refine r_iload_n (pc := 14) h dX10_sheet_14 rfl ?_
      refine r_bipush (v := 60) (pc := 15) h dX10_sheet_15 (by decide) ?_
      refine r_icmp_le (pc := 17) h 22 dX10_sheet_17 (by decide) (fun c17 => ?_) (fun c17 => ?_)
      · refine r_iload_n (pc := 22) h dX10_sheet_22 rfl ?_
        refine r_if_ge (pc := 23) h 29 dX10_sheet_23 (by decide) (fun c23 => ?_) (fun c23 => ?_)
        · have hv : (0 ≤ s.toInt ∧ s.toInt ≤ 3) := by (try simp only [b2i_eq0] at *); (try simp only [Int32.le_iff_toInt_le, Int32.lt_iff_toInt_lt, Int32.reduceToInt, Int64.reduceToInt, Int32.toInt_toInt64] at *); omega
          have hn : s.toNatClampNeg < 4 := by rw [tn]; omega
          refine r_aload_n (pc := 29) h dX10_sheet_29 rfl ?_
          refine gf_X10_107 (pc := 30) h dX10_sheet_30 ?_
          refine r_iload_n (pc := 33) h dX10_sheet_33 rfl ?_
          refine r_aa40 (pc := 34) h dX10_sheet_34 (vin (n := 4) (by omega) (by omega)) ?_
          refine r_iload_n (pc := 35) h dX10_sheet_35 rfl ?_
          refine r_iload_n (pc := 36) h dX10_sheet_36 rfl ?_
          refine r_callVV (ci := 6) (pc := 37) h dX10_sheet_37 wm_X10_341 ca_X6_hold rfl (c_X6_hold E _ _ _ _ hn) rfl rfl (Nat.le_of_ble_eq_true rfl) (by decide) (by decide) (by omega) (kdSh _ hn) (fun I1 hq => ?_)
          subst hq
          refine r_iload_n (pc := 40) h dX10_sheet_40 rfl ?_
          exact hr _ _ _ _ dX10_sheet_41 (rfl) (by unfold F_sheet; rw [if_pos (by (try simp only [b2i_eq0] at *); (try simp only [Int32.le_iff_toInt_le, Int32.lt_iff_toInt_lt, Int32.reduceToInt, Int64.reduceToInt, Int32.toInt_toInt64] at *); omega), if_neg (by (try simp only [b2i_eq0] at *); (try simp only [Int32.le_iff_toInt_le, Int32.lt_iff_toInt_lt, Int32.reduceToInt, Int64.reduceToInt, Int32.toInt_toInt64] at *); omega)]; exact ⟨rfl, rfl⟩)
        · refine r_bipush (v := -14) (pc := 26) h dX10_sheet_26 (by decide) ?_
          exact hr _ _ _ _ dX10_sheet_28 (rfl) (by unfold F_sheet; rw [if_pos (by (try simp only [b2i_eq0] at *); (try simp only [Int32.le_iff_toInt_le, Int32.lt_iff_toInt_lt, Int32.reduceToInt, Int64.reduceToInt, Int32.toInt_toInt64] at *); omega), if_pos (by (try simp only [b2i_eq0] at *); (try simp only [Int32.le_iff_toInt_le, Int32.lt_iff_toInt_lt, Int32.reduceToInt, Int64.reduceToInt, Int32.toInt_toInt64] at *); omega)]; exact ⟨rfl, rfl⟩)
      · refine r_iconst (v := -1) (pc := 20) h dX10_sheet_20 (by decide) ?_
        exact hr _ _ _ _ dX10_sheet_21 (rfl) (by unfold F_sheet; rw [if_neg (by (try simp only [b2i_eq0] at *); (try simp only [Int32.le_iff_toInt_le, Int32.lt_iff_toInt_lt, Int32.reduceToInt, Int64.reduceToInt, Int32.toInt_toInt64] at *); omega)]; exact ⟨rfl, rfl⟩)
set_option maxRecDepth 100000 in
set_option maxHeartbeats 4000000 in
theorem c_X10_drop (E : En) (I : Mem) (s : Int32)  : Ctr E yX10_drop cX10_drop 3 (some .int) 3 [.ref (E.1 0), .int s] I (qI (fun (r : Int32) (I1 : Mem) => r = (F_drop I s).1 ∧ (F_drop I s).2 = I1)) := by
  refine Ctr.openI (by decide) (Nat.le_of_ble_eq_true rfl) (fun g h hr => ?_)
  have h : Sem cX10_drop RX10 3 (rmL 3) E g := h
  show g I 0 [(0, .ref (E.1 0)), (1, .int s)] []
  refine r_iload_n (pc := 0) h dX10_drop_0 rfl ?_
  refine r_callSI (pc := 1) h dX10_drop_1 wm_X10_335 ca_X10_isSheet (c_X10_isSheet E _ _) rfl rfl (Nat.le_of_ble_eq_true rfl) (by decide) (fun r I1 hq => ?_)
  obtain ⟨rfl, rfl⟩ := hq
  refine r_if_ne (pc := 4) h 9 dX10_drop_4 (by decide) (fun c4 => ?_) (fun c4 => ?_)
  · have hv : (0 ≤ s.toInt ∧ s.toInt ≤ 3) := by (try simp only [b2i_eq0] at *); (try simp only [Int32.le_iff_toInt_le, Int32.lt_iff_toInt_lt, Int32.reduceToInt, Int64.reduceToInt, Int32.toInt_toInt64] at *); omega
    have hn : s.toNatClampNeg < 4 := by rw [tn]; omega
    refine r_aload_n (pc := 9) h dX10_drop_9 rfl ?_
    refine gf_X10_107 (pc := 10) h dX10_drop_10 ?_
    refine r_iload_n (pc := 13) h dX10_drop_13 rfl ?_
    refine r_aa40 (pc := 14) h dX10_drop_14 (vin (n := 4) (by omega) (by omega)) ?_
    refine r_callVI (ci := 6) (pc := 15) h dX10_drop_15 wm_X10_345 ca_X6_isEmptyHanded rfl (c_X6_isEmptyHanded E _ _ (by omega) (kdSh _ hn)) rfl rfl (Nat.le_of_ble_eq_true rfl) (by decide) (by decide) (by omega) (kdSh _ hn) (fun r I1 hq => ?_)
    obtain ⟨rfl, rfl⟩ := hq
    refine r_if_eq (pc := 18) h 24 dX10_drop_18 (by decide) (fun c18 => ?_) (fun c18 => ?_)
    · refine r_aload_n (pc := 24) h dX10_drop_24 rfl ?_
      refine gf_X10_107 (pc := 25) h dX10_drop_25 ?_
      refine r_iload_n (pc := 28) h dX10_drop_28 rfl ?_
      refine r_aa40 (pc := 29) h dX10_drop_29 (vin (n := 4) (by omega) (by omega)) ?_
      refine gf_X10_348 (pc := 30) h dX10_drop_30 (by omega) (kdSh _ hn) ?_
      refine r_istore_n (pc := 33) h dX10_drop_33 (by decide) ?_
      refine r_aload_n (pc := 34) h dX10_drop_34 rfl ?_
      refine gf_X10_107 (pc := 35) h dX10_drop_35 ?_
      refine r_iload_n (pc := 38) h dX10_drop_38 rfl ?_
      refine r_aa40 (pc := 39) h dX10_drop_39 (vin (n := 4) (by omega) (by omega)) ?_
      refine r_iconst (v := -1) (pc := 40) h dX10_drop_40 (by decide) ?_
      refine r_iconst (v := 0) (pc := 41) h dX10_drop_41 (by decide) ?_
      refine r_callVV (ci := 6) (pc := 42) h dX10_drop_42 wm_X10_341 ca_X6_hold rfl (c_X6_hold E _ _ _ _ hn) rfl rfl (Nat.le_of_ble_eq_true rfl) (by decide) (by decide) (by omega) (kdSh _ hn) (fun I1 hq => ?_)
      subst hq
      refine r_iload_n (pc := 45) h dX10_drop_45 rfl ?_
      exact hr _ _ _ _ dX10_drop_46 (rfl) (by unfold F_drop; rw [if_pos hv, if_neg (b2i_eq0.mp c18)]; exact ⟨rfl, rfl⟩)
    · refine r_bipush (v := -11) (pc := 21) h dX10_drop_21 (by decide) ?_
      exact hr _ _ _ _ dX10_drop_23 (rfl) (by unfold F_drop; rw [if_pos hv, if_pos (by simpa only [b2i_eq0, Classical.not_not] using c18)]; exact ⟨rfl, rfl⟩)
  · refine r_iconst (v := -1) (pc := 7) h dX10_drop_7 (by decide) ?_
    exact hr _ _ _ _ dX10_drop_8 (rfl) (by unfold F_drop; rw [if_neg (by (try simp only [b2i_eq0] at *); (try simp only [Int32.le_iff_toInt_le, Int32.lt_iff_toInt_lt, Int32.reduceToInt, Int64.reduceToInt, Int32.toInt_toInt64] at *); omega)]; exact ⟨rfl, rfl⟩)
set_option maxRecDepth 100000 in
set_option maxHeartbeats 4000000 in
theorem c_X10_item (E : En) (I : Mem) (s : Int32) (l : Int32) (i : Int32) (v : Int32) (hz : ∀ n, n < 4 → 0 ≤ (I (143 + 2 * n) 1).toInt ∧ (I (143 + 2 * n) 1).toInt ≤ 60) : Ctr E yX10_item cX10_item 6 (some .int) 4 [.ref (E.1 0), .int s, .int l, .int i, .int v] I (qI (fun (r : Int32) (I1 : Mem) => r = (F_item I s l i v).1 ∧ (F_item I s l i v).2 = I1)) := by
  refine Ctr.openI (by decide) (Nat.le_of_ble_eq_true rfl) (fun g h hr => ?_)
  have h : Sem cX10_item RX10 6 (rmL 4) E g := h
  show g I 0 [(0, .ref (E.1 0)), (1, .int s), (2, .int l), (3, .int i), (4, .int v)] []
  refine r_aload_n (pc := 0) h dX10_item_0 rfl ?_
  refine r_iload_n (pc := 1) h dX10_item_1 rfl ?_
  refine r_iload_n (pc := 2) h dX10_item_2 rfl ?_
  refine r_callVI (ci := 10) (pc := 3) h dX10_item_3 wm_X10_289 ca_X10_faultOf rfl (c_X10_faultOf E _ _ _) rfl rfl (Nat.le_of_ble_eq_true rfl) (by decide) (by decide) (by decide) (by decide) (fun r I1 hq => ?_)
  obtain ⟨rfl, rfl⟩ := hq
  refine r_istore (pc := 6) h dX10_item_6 (by decide) ?_
  refine r_iload (pc := 8) h dX10_item_8 rfl ?_
  refine r_if_eq (pc := 10) h 16 dX10_item_10 (by decide) (fun c10 => ?_) (fun c10 => ?_)
  · have hv := fault0 c10
    have hn : s.toNatClampNeg < 4 := by rw [tn]; omega
    have hzs := hz _ hn
    refine r_aload_n (pc := 16) h dX10_item_16 rfl ?_
    refine gf_X10_107 (pc := 17) h dX10_item_17 ?_
    refine r_iload_n (pc := 20) h dX10_item_20 rfl ?_
    refine r_aa40 (pc := 21) h dX10_item_21 (vin (n := 4) (by omega) (by omega)) ?_
    refine r_iload_n (pc := 22) h dX10_item_22 rfl ?_
    refine r_iconst (v := 1) (pc := 23) h dX10_item_23 (by decide) ?_
    refine r_callVI (ci := 6) (pc := 24) h dX10_item_24 wm_X10_292 ca_X6_has rfl (c_X6_has E _ _ _ _ (by omega) (kdSh _ hn) hzs) rfl rfl (Nat.le_of_ble_eq_true rfl) (by decide) (by decide) (by omega) (kdSh _ hn) (fun r I1 hq => ?_)
    obtain ⟨rfl, rfl⟩ := hq
    refine r_if_ne (pc := 27) h 33 dX10_item_27 (by decide) (fun c27 => ?_) (fun c27 => ?_)
    · have hha : hasP (I (143 + 2 * s.toNatClampNeg) 1) i 1 := by
        simp only [b2i_eq0, Classical.not_not] at c27
        exact c27
      have hh2 := hha
      rw [hasP, i1] at hh2
      refine r_aload_n (pc := 33) h dX10_item_33 rfl ?_
      refine gf_X10_107 (pc := 34) h dX10_item_34 ?_
      refine r_iload_n (pc := 37) h dX10_item_37 rfl ?_
      refine r_aa40 (pc := 38) h dX10_item_38 (vin (n := 4) (by omega) (by omega)) ?_
      refine r_iload_n (pc := 39) h dX10_item_39 rfl ?_
      refine r_iload (pc := 40) h dX10_item_40 rfl ?_
      refine r_callVV (ci := 6) (pc := 42) h dX10_item_42 wm_X10_351 ca_X6_put rfl (c_X6_put E _ _ _ _ hn (by omega)) rfl rfl (Nat.le_of_ble_eq_true rfl) (by decide) (by decide) (by omega) (kdSh _ hn) (fun I1 hq => ?_)
      subst hq
      refine r_iconst (v := 1) (pc := 45) h dX10_item_45 (by decide) ?_
      exact hr _ _ _ _ dX10_item_46 (rfl) (by unfold F_item; rw [if_pos c10, if_pos hha]; exact ⟨rfl, rfl⟩)
    · refine r_bipush (v := -13) (pc := 30) h dX10_item_30 (by decide) ?_
      exact hr _ _ _ _ dX10_item_32 (rfl) (by unfold F_item; rw [if_pos c10, if_neg (b2i_eq0.mp c27)]; exact ⟨rfl, rfl⟩)
  · refine r_iload (pc := 13) h dX10_item_13 rfl ?_
    exact hr _ _ _ _ dX10_item_15 (rfl) (by unfold F_item; rw [if_neg c10]; exact ⟨rfl, rfl⟩)
set_option maxRecDepth 100000 in
set_option maxHeartbeats 4000000 in
theorem c_X11_sheet (E : En) (I : Mem) (s : Int32) (l : Int32) (z : Int32)  : Ctr E yX11_sheet cX11_sheet 5 (some .int) 3 [.ref (E.1 151), .int s, .int l, .int z] I (qI (fun (r : Int32) (I1 : Mem) => r = (R_sheet I s l z).1 ∧ (R_sheet I s l z).2 = I1)) := by
  refine Ctr.openI (by decide) (Nat.le_of_ble_eq_true rfl) (fun g h hr => ?_)
  have h : Sem cX11_sheet RX11 5 (rmL 3) E g := h
  show g I 0 [(0, .ref (E.1 151)), (1, .int s), (2, .int l), (3, .int z)] []
  refine r_iload_n (pc := 0) h dX11_sheet_0 rfl ?_
  refine r_callSI (pc := 1) h dX11_sheet_1 wm_X11_334 ca_X11_isSheet (c_X11_isSheet E _ _) rfl rfl (Nat.le_of_ble_eq_true rfl) (by decide) (fun r I1 hq => ?_)
  obtain ⟨rfl, rfl⟩ := hq
  refine r_if_eq (pc := 4) h 20 dX11_sheet_4 (by decide) (fun c4 => ?_) (fun c4 => ?_)
  · refine r_iconst (v := -1) (pc := 20) h dX11_sheet_20 (by decide) ?_
    exact hr _ _ _ _ dX11_sheet_21 (rfl) (by unfold R_sheet; rw [if_neg (by (try simp only [b2i_eq0] at *); (try simp only [Int32.le_iff_toInt_le, Int32.lt_iff_toInt_lt, Int32.reduceToInt, Int64.reduceToInt, Int32.toInt_toInt64] at *); omega)]; exact ⟨rfl, rfl⟩)
  · refine r_iload_n (pc := 7) h dX11_sheet_7 rfl ?_
    refine r_callSI (pc := 8) h dX11_sheet_8 wm_X11_337 ca_X11_isLane (c_X11_isLane E _ _) rfl rfl (Nat.le_of_ble_eq_true rfl) (by decide) (fun r I1 hq => ?_)
    obtain ⟨rfl, rfl⟩ := hq
    refine r_if_eq (pc := 11) h 20 dX11_sheet_11 (by decide) (fun c11 => ?_) (fun c11 => ?_)
    · refine r_iconst (v := -1) (pc := 20) h dX11_sheet_20 (by decide) ?_
      exact hr _ _ _ _ dX11_sheet_21 (rfl) (by unfold R_sheet; rw [if_neg (by (try simp only [b2i_eq0] at *); (try simp only [Int32.le_iff_toInt_le, Int32.lt_iff_toInt_lt, Int32.reduceToInt, Int64.reduceToInt, Int32.toInt_toInt64] at *); omega)]; exact ⟨rfl, rfl⟩)
    · refine r_iload_n (pc := 14) h dX11_sheet_14 rfl ?_
      refine r_bipush (v := 60) (pc := 15) h dX11_sheet_15 (by decide) ?_
      refine r_icmp_le (pc := 17) h 22 dX11_sheet_17 (by decide) (fun c17 => ?_) (fun c17 => ?_)
      · refine r_iload_n (pc := 22) h dX11_sheet_22 rfl ?_
        refine r_if_ge (pc := 23) h 29 dX11_sheet_23 (by decide) (fun c23 => ?_) (fun c23 => ?_)
        · have hv : (0 ≤ s.toInt ∧ s.toInt ≤ 3) := by (try simp only [b2i_eq0] at *); (try simp only [Int32.le_iff_toInt_le, Int32.lt_iff_toInt_lt, Int32.reduceToInt, Int64.reduceToInt, Int32.toInt_toInt64] at *); omega
          have hv2 : ((0 ≤ s.toInt ∧ s.toInt ≤ 3) ∧ (0 ≤ l.toInt ∧ l.toInt ≤ 2) ∧ z.toInt ≤ 60) := by (try simp only [b2i_eq0] at *); (try simp only [Int32.le_iff_toInt_le, Int32.lt_iff_toInt_lt, Int32.reduceToInt, Int64.reduceToInt, Int32.toInt_toInt64] at *); omega
          have hv3 : ¬ z.toInt < 0 := by (try simp only [b2i_eq0] at *); (try simp only [Int32.le_iff_toInt_le, Int32.lt_iff_toInt_lt, Int32.reduceToInt, Int64.reduceToInt, Int32.toInt_toInt64] at *); omega
          refine r_aload_n (pc := 29) h dX11_sheet_29 rfl ?_
          refine gf_X11_111 (pc := 30) h dX11_sheet_30 ?_
          refine r_iload_n (pc := 33) h dX11_sheet_33 rfl ?_
          refine r_iload_n (pc := 34) h dX11_sheet_34 rfl ?_
          refine r_iast (pc := 35) h dX11_sheet_35 (by decide) (by decide) (vin (n := 4) (by omega) (by omega)) ?_
          refine r_aload_n (pc := 36) h dX11_sheet_36 rfl ?_
          refine gf_X11_114 (pc := 37) h dX11_sheet_37 ?_
          refine r_iload_n (pc := 40) h dX11_sheet_40 rfl ?_
          refine r_iload_n (pc := 41) h dX11_sheet_41 rfl ?_
          refine r_iast (pc := 42) h dX11_sheet_42 (by decide) (by decide) (vin (n := 4) (by omega) (by omega)) ?_
          refine r_iconst (v := 0) (pc := 43) h dX11_sheet_43 (by decide) ?_
          refine r_istore (pc := 44) h dX11_sheet_44 (by decide) ?_
          have loop46 : ∀ (m i : Nat), i ≤ 60 → 60 + 1 ≤ i + m → g (rowQ (upm (upm I 180 s.toNatClampNeg l) 181 s.toNatClampNeg z) 182 (60 * s.toNatClampNeg) (fun _ => 0) i) 46 [(0, .ref (E.1 151)), (1, .int s), (2, .int l), (3, .int z), (4, .int (nI i))] [] := by
            intro m
            induction m with
            | zero =>
              intro i h1 h2
              omega
            | succ m ih =>
              intro i hi him
              have ei := nI_tI (i := i) (by omega)
              refine r_iload (pc := 46) h dX11_sheet_46 rfl ?_
              refine r_bipush (v := 60) (pc := 48) h dX11_sheet_48 (by decide) ?_
              refine r_icmp_ge (pc := 50) h 72 dX11_sheet_50 (by decide) (fun c50 => ?_) (fun c50 => ?_)
              · have hge : i = 60 := by rw [Int32.le_iff_toInt_le, ei, e60] at c50; omega
                refine r_iload_n (pc := 72) h dX11_sheet_72 rfl ?_
                exact hr _ _ _ _ dX11_sheet_73 (rfl) (by unfold R_sheet; rw [if_pos hv2, if_neg hv3, hge]; exact ⟨rfl, rfl⟩)
              · have hlt : i < 60 := by rw [Int32.le_iff_toInt_le, ei, e60] at c50; omega
                refine r_aload_n (pc := 53) h dX11_sheet_53 rfl ?_
                refine gf_X11_117 (pc := 54) h dX11_sheet_54 ?_
                refine r_bipush (v := 60) (pc := 57) h dX11_sheet_57 (by decide) ?_
                refine r_iload_n (pc := 59) h dX11_sheet_59 rfl ?_
                refine r_imul (pc := 60) h dX11_sheet_60 ?_
                refine r_iload (pc := 61) h dX11_sheet_61 rfl ?_
                refine r_iadd (pc := 63) h dX11_sheet_63 ?_
                refine r_iconst (v := 0) (pc := 64) h dX11_sheet_64 (by decide) ?_
                refine r_iast (pc := 65) h dX11_sheet_65 (by decide) (by decide) (vin (n := 240) (by rw [(m60 hv hlt).1]; omega) (by rw [(m60 hv hlt).1]; omega)) ?_
                refine r_iinc (v := 1) (pc := 66) h dX11_sheet_66 rfl (by decide) (by decide) ?_
                refine r_goto (pc := 69) h 46 dX11_sheet_69 (by decide) ?_
                rw [← nI_succ]
                rw [show upm (rowQ (upm (upm I 180 s.toNatClampNeg l) 181 s.toNatClampNeg z) 182 (60 * s.toNatClampNeg) (fun _ => 0) i) 182 (60 * s + nI i).toNatClampNeg 0 = (rowQ (upm (upm I 180 s.toNatClampNeg l) 181 s.toNatClampNeg z) 182 (60 * s.toNatClampNeg) (fun _ => 0) (i + 1)) by
                  rw [(m60 hv hlt).2, ← rowQ_step]]
                exact r_at h [(0, .ref (E.1 151)), (1, .int s), (2, .int l), (3, .int z), (4, .int (nI (i + 1)))] ⟨rfl, rfl, rfl, rfl, rfl, trivial⟩ (ih (i + 1) (by omega) (by omega))
          have h0 := loop46 61 0 (by omega) (by omega)
          rw [rowQ_0] at h0
          exact r_at h [(0, .ref (E.1 151)), (1, .int s), (2, .int l), (3, .int z), (4, .int (nI 0))] ⟨rfl, rfl, rfl, rfl, rfl, trivial⟩ h0
        · refine r_bipush (v := -14) (pc := 26) h dX11_sheet_26 (by decide) ?_
          exact hr _ _ _ _ dX11_sheet_28 (rfl) (by unfold R_sheet; rw [if_pos (by (try simp only [b2i_eq0] at *); (try simp only [Int32.le_iff_toInt_le, Int32.lt_iff_toInt_lt, Int32.reduceToInt, Int64.reduceToInt, Int32.toInt_toInt64] at *); omega), if_pos (by (try simp only [b2i_eq0] at *); (try simp only [Int32.le_iff_toInt_le, Int32.lt_iff_toInt_lt, Int32.reduceToInt, Int64.reduceToInt, Int32.toInt_toInt64] at *); omega)]; exact ⟨rfl, rfl⟩)
      · refine r_iconst (v := -1) (pc := 20) h dX11_sheet_20 (by decide) ?_
        exact hr _ _ _ _ dX11_sheet_21 (rfl) (by unfold R_sheet; rw [if_neg (by (try simp only [b2i_eq0] at *); (try simp only [Int32.le_iff_toInt_le, Int32.lt_iff_toInt_lt, Int32.reduceToInt, Int64.reduceToInt, Int32.toInt_toInt64] at *); omega)]; exact ⟨rfl, rfl⟩)
set_option maxRecDepth 100000 in
set_option maxHeartbeats 4000000 in
theorem c_X11_drop (E : En) (I : Mem) (s : Int32)  : Ctr E yX11_drop cX11_drop 2 (some .int) 3 [.ref (E.1 151), .int s] I (qI (fun (r : Int32) (I1 : Mem) => r = (R_drop I s).1 ∧ (R_drop I s).2 = I1)) := by
  refine Ctr.openI (by decide) (Nat.le_of_ble_eq_true rfl) (fun g h hr => ?_)
  have h : Sem cX11_drop RX11 2 (rmL 3) E g := h
  show g I 0 [(0, .ref (E.1 151)), (1, .int s)] []
  refine r_iload_n (pc := 0) h dX11_drop_0 rfl ?_
  refine r_callSI (pc := 1) h dX11_drop_1 wm_X11_334 ca_X11_isSheet (c_X11_isSheet E _ _) rfl rfl (Nat.le_of_ble_eq_true rfl) (by decide) (fun r I1 hq => ?_)
  obtain ⟨rfl, rfl⟩ := hq
  refine r_if_ne (pc := 4) h 9 dX11_drop_4 (by decide) (fun c4 => ?_) (fun c4 => ?_)
  · have hv : (0 ≤ s.toInt ∧ s.toInt ≤ 3) := by (try simp only [b2i_eq0] at *); (try simp only [Int32.le_iff_toInt_le, Int32.lt_iff_toInt_lt, Int32.reduceToInt, Int64.reduceToInt, Int32.toInt_toInt64] at *); omega
    refine r_aload_n (pc := 9) h dX11_drop_9 rfl ?_
    refine gf_X11_111 (pc := 10) h dX11_drop_10 ?_
    refine r_iload_n (pc := 13) h dX11_drop_13 rfl ?_
    refine r_iald (pc := 14) h dX11_drop_14 (by decide) (by decide) (vin (n := 4) (by omega) (by omega)) ?_
    refine r_if_ge (pc := 15) h 21 dX11_drop_15 (by decide) (fun c15 => ?_) (fun c15 => ?_)
    · refine r_aload_n (pc := 21) h dX11_drop_21 rfl ?_
      refine gf_X11_111 (pc := 22) h dX11_drop_22 ?_
      refine r_iload_n (pc := 25) h dX11_drop_25 rfl ?_
      refine r_iconst (v := -1) (pc := 26) h dX11_drop_26 (by decide) ?_
      refine r_iast (pc := 27) h dX11_drop_27 (by decide) (by decide) (vin (n := 4) (by omega) (by omega)) ?_
      refine r_aload_n (pc := 28) h dX11_drop_28 rfl ?_
      refine gf_X11_114 (pc := 29) h dX11_drop_29 ?_
      refine r_iload_n (pc := 32) h dX11_drop_32 rfl ?_
      refine r_iald (pc := 33) h dX11_drop_33 (by decide) (by decide) (vin (n := 4) (by omega) (by omega)) ?_
      exact hr _ _ _ _ dX11_drop_34 (rfl) (by unfold R_drop; rw [if_pos hv, if_neg (by rw [Int32.le_iff_toInt_le, z32] at c15; omega)]; exact ⟨rfl, rfl⟩)
    · refine r_bipush (v := -11) (pc := 18) h dX11_drop_18 (by decide) ?_
      exact hr _ _ _ _ dX11_drop_20 (rfl) (by unfold R_drop; rw [if_pos hv, if_pos (by rw [Int32.le_iff_toInt_le, z32] at c15; omega)]; exact ⟨rfl, rfl⟩)
  · refine r_iconst (v := -1) (pc := 7) h dX11_drop_7 (by decide) ?_
    exact hr _ _ _ _ dX11_drop_8 (rfl) (by unfold R_drop; rw [if_neg (by (try simp only [b2i_eq0] at *); (try simp only [Int32.le_iff_toInt_le, Int32.lt_iff_toInt_lt, Int32.reduceToInt, Int64.reduceToInt, Int32.toInt_toInt64] at *); omega)]; exact ⟨rfl, rfl⟩)
