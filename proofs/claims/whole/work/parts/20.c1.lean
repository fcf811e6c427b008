/-! VALIDATORS and small functions: each answers b2i of a predicate over toInt -/
def Bt (v lo hi : Int) : Prop := lo ≤ v ∧ v ≤ hi
theorem nlt_le {x y : Int32} : ¬ x < y ↔ y.toInt ≤ x.toInt := by rw [Int32.lt_iff_toInt_lt]; omega
theorem nle_lt {x y : Int32} : ¬ x ≤ y ↔ y.toInt < x.toInt := by rw [Int32.le_iff_toInt_le]; omega
theorem lg_nlt {x y : Int64} : ¬ lg_cmp x y < 0 ↔ y.toInt ≤ x.toInt := by
  have h := lg_cmp_ge x y
  rw [Int64.le_iff_toInt_le] at h
  rw [← h, Int32.le_iff_toInt_le, Int32.lt_iff_toInt_lt]
  omega
theorem lg_lt {x y : Int64} : lg_cmp x y < 0 ↔ x.toInt < y.toInt := by
  constructor
  · intro h1
    rcases Int.lt_or_le x.toInt y.toInt with q | q
    · exact q
    · exact absurd h1 (lg_nlt.mpr q)
  · intro h1
    by_cases q : lg_cmp x y < 0
    · exact q
    · have := lg_nlt.mp q
      omega
theorem lg_ngt {x y : Int64} : ¬ 0 < lg_cmp x y ↔ x.toInt ≤ y.toInt := by
  have h := lg_cmp_le x y
  rw [Int64.le_iff_toInt_le] at h
  rw [← h, Int32.le_iff_toInt_le, Int32.lt_iff_toInt_lt]
  omega
theorem lg_gt {x y : Int64} : 0 < lg_cmp x y ↔ y.toInt < x.toInt := by
  constructor
  · intro h1
    rcases Int.lt_or_le y.toInt x.toInt with q | q
    · exact q
    · exact absurd h1 (lg_ngt.mpr q)
  · intro h1
    by_cases q : 0 < lg_cmp x y
    · exact q
    · have := lg_ngt.mp q
      omega
theorem i32_eq {x y : Int32} : x = y ↔ x.toInt = y.toInt := Int32.toInt_inj.symm
theorem i32_m1 : (-1 : Int32).toInt = -1 := by decide
set_option maxRecDepth 100000 in
set_option maxHeartbeats 4000000 in
theorem c_X10_within (E : En) (I : Mem) (v : Int32) (lo : Int32) (hi : Int32)  : Ctr E yX10_within cX10_within 3 (some .boolean) 1 [.int v, .int lo, .int hi] I (qI (fun (r : Int32) (I1 : Mem) => r = b2i (lo.toInt ≤ v.toInt ∧ v.toInt ≤ hi.toInt) ∧ I = I1)) := by
  refine Ctr.openI (by decide) (Nat.le_of_ble_eq_true rfl) (fun g h hr => ?_)
  have h : Sem cX10_within RX10 3 (rmL 1) E g := h
  show g I 0 [(0, .int v), (1, .int lo), (2, .int hi)] []
  refine r_iload_n (pc := 0) h dX10_within_0 rfl ?_
  refine r_iload_n (pc := 1) h dX10_within_1 rfl ?_
  refine r_icmp_lt (pc := 2) h 14 dX10_within_2 (by decide) (fun c2 => ?_) (fun c2 => ?_)
  · refine r_iconst (v := 0) (pc := 14) h dX10_within_14 (by decide) ?_
    exact hr _ _ _ _ dX10_within_15 (by first | rfl | decide | exact b2i_nar) (⟨by simp only [Int32.lt_iff_toInt_lt, Int32.le_iff_toInt_le, eq0_b2i, eq1_b2i] at *; omega, rfl⟩)
  · refine r_iload_n (pc := 5) h dX10_within_5 rfl ?_
    refine r_iload_n (pc := 6) h dX10_within_6 rfl ?_
    refine r_icmp_gt (pc := 7) h 14 dX10_within_7 (by decide) (fun c7 => ?_) (fun c7 => ?_)
    · refine r_iconst (v := 0) (pc := 14) h dX10_within_14 (by decide) ?_
      exact hr _ _ _ _ dX10_within_15 (by first | rfl | decide | exact b2i_nar) (⟨by simp only [Int32.lt_iff_toInt_lt, Int32.le_iff_toInt_le, eq0_b2i, eq1_b2i] at *; omega, rfl⟩)
    · refine r_iconst (v := 1) (pc := 10) h dX10_within_10 (by decide) ?_
      refine r_goto (pc := 11) h 15 dX10_within_11 (by decide) ?_
      exact hr _ _ _ _ dX10_within_15 (by first | rfl | decide | exact b2i_nar) (⟨by simp only [Int32.lt_iff_toInt_lt, Int32.le_iff_toInt_le, eq0_b2i, eq1_b2i] at *; omega, rfl⟩)
set_option maxRecDepth 100000 in
set_option maxHeartbeats 4000000 in
theorem c_X11_in (E : En) (I : Mem) (v : Int64) (lo : Int64) (hi : Int64)  : Ctr E yX11_in cX11_in 6 (some .boolean) 1 [.long v, .long lo, .long hi] I (qI (fun (r : Int32) (I1 : Mem) => r = b2i (lo.toInt ≤ v.toInt ∧ v.toInt ≤ hi.toInt) ∧ I = I1)) := by
  refine Ctr.openI (by decide) (Nat.le_of_ble_eq_true rfl) (fun g h hr => ?_)
  have h : Sem cX11_in RX11 6 (rmL 1) E g := h
  show g I 0 [(0, .long v), (2, .long lo), (4, .long hi)] []
  refine r_lload_n (pc := 0) h dX11_in_0 rfl ?_
  refine r_lload_n (pc := 1) h dX11_in_1 rfl ?_
  refine r_lcmp (pc := 2) h dX11_in_2 ?_
  refine r_if_lt (pc := 3) h 17 dX11_in_3 (by decide) (fun c3 => ?_) (fun c3 => ?_)
  · refine r_iconst (v := 0) (pc := 17) h dX11_in_17 (by decide) ?_
    exact hr _ _ _ _ dX11_in_18 (by first | rfl | decide | exact b2i_nar) (⟨by simp only [lg_lt, lg_gt, lg_nlt, lg_ngt, eq0_b2i, eq1_b2i] at *; omega, rfl⟩)
  · refine r_lload_n (pc := 6) h dX11_in_6 rfl ?_
    refine r_lload (pc := 7) h dX11_in_7 rfl ?_
    refine r_lcmp (pc := 9) h dX11_in_9 ?_
    refine r_if_gt (pc := 10) h 17 dX11_in_10 (by decide) (fun c10 => ?_) (fun c10 => ?_)
    · refine r_iconst (v := 0) (pc := 17) h dX11_in_17 (by decide) ?_
      exact hr _ _ _ _ dX11_in_18 (by first | rfl | decide | exact b2i_nar) (⟨by simp only [lg_lt, lg_gt, lg_nlt, lg_ngt, eq0_b2i, eq1_b2i] at *; omega, rfl⟩)
    · refine r_iconst (v := 1) (pc := 13) h dX11_in_13 (by decide) ?_
      refine r_goto (pc := 14) h 18 dX11_in_14 (by decide) ?_
      exact hr _ _ _ _ dX11_in_18 (by first | rfl | decide | exact b2i_nar) (⟨by simp only [lg_lt, lg_gt, lg_nlt, lg_ngt, eq0_b2i, eq1_b2i] at *; omega, rfl⟩)
set_option maxRecDepth 100000 in
set_option maxHeartbeats 4000000 in
theorem c_J9_max_7cf53 (E : En) (I : Mem) (x : Int32) (y : Int32)  : Ctr E yJ9_max_7cf53 cJ9_max_7cf53 2 (some .int) 1 [.int x, .int y] I (qI (fun (r : Int32) (I1 : Mem) => r = (if x < y then y else x) ∧ I = I1)) := by
  refine Ctr.openI (by decide +kernel) (Nat.le_of_ble_eq_true rfl) (fun g h hr => ?_)
  have h : Sem cJ9_max_7cf53 RJ9 2 (rmL 1) E g := h
  show g I 0 [(0, .int x), (1, .int y)] []
  refine r_iload_n (pc := 0) h dJ9_max_7cf53_0 rfl ?_
  refine r_iload_n (pc := 1) h dJ9_max_7cf53_1 rfl ?_
  refine r_icmp_lt (pc := 2) h 9 dJ9_max_7cf53_2 (by decide) (fun c2 => ?_) (fun c2 => ?_)
  · refine r_iload_n (pc := 9) h dJ9_max_7cf53_9 rfl ?_
    exact hr _ _ _ _ dJ9_max_7cf53_10 (rfl) (⟨by first | rw [if_pos (by assumption)] | rw [if_neg (by assumption)], rfl⟩)
  · refine r_iload_n (pc := 5) h dJ9_max_7cf53_5 rfl ?_
    refine r_goto (pc := 6) h 10 dJ9_max_7cf53_6 (by decide) ?_
    exact hr _ _ _ _ dJ9_max_7cf53_10 (rfl) (⟨by first | rw [if_pos (by assumption)] | rw [if_neg (by assumption)], rfl⟩)
set_option maxRecDepth 100000 in
set_option maxHeartbeats 4000000 in
theorem c_J9_min_7cf53 (E : En) (I : Mem) (x : Int32) (y : Int32)  : Ctr E yJ9_min_7cf53 cJ9_min_7cf53 2 (some .int) 1 [.int x, .int y] I (qI (fun (r : Int32) (I1 : Mem) => r = (if y < x then y else x) ∧ I = I1)) := by
  refine Ctr.openI (by decide +kernel) (Nat.le_of_ble_eq_true rfl) (fun g h hr => ?_)
  have h : Sem cJ9_min_7cf53 RJ9 2 (rmL 1) E g := h
  show g I 0 [(0, .int x), (1, .int y)] []
  refine r_iload_n (pc := 0) h dJ9_min_7cf53_0 rfl ?_
  refine r_iload_n (pc := 1) h dJ9_min_7cf53_1 rfl ?_
  refine r_icmp_gt (pc := 2) h 9 dJ9_min_7cf53_2 (by decide) (fun c2 => ?_) (fun c2 => ?_)
  · refine r_iload_n (pc := 9) h dJ9_min_7cf53_9 rfl ?_
    exact hr _ _ _ _ dJ9_min_7cf53_10 (rfl) (⟨by first | rw [if_pos (by assumption)] | rw [if_neg (by assumption)], rfl⟩)
  · refine r_iload_n (pc := 5) h dJ9_min_7cf53_5 rfl ?_
    refine r_goto (pc := 6) h 10 dJ9_min_7cf53_6 (by decide) ?_
    exact hr _ _ _ _ dJ9_min_7cf53_10 (rfl) (⟨by first | rw [if_pos (by assumption)] | rw [if_neg (by assumption)], rfl⟩)
set_option maxRecDepth 100000 in
set_option maxHeartbeats 4000000 in
theorem c_J9_abs_0f7a4 (E : En) (I : Mem) (x : Int32)  : Ctr E yJ9_abs_0f7a4 cJ9_abs_0f7a4 1 (some .int) 1 [.int x] I (qI (fun (r : Int32) (I1 : Mem) => r = (if 0 ≤ x then x else -x) ∧ I = I1)) := by
  refine Ctr.openI (by decide +kernel) (Nat.le_of_ble_eq_true rfl) (fun g h hr => ?_)
  have h : Sem cJ9_abs_0f7a4 RJ9 1 (rmL 1) E g := h
  show g I 0 [(0, .int x)] []
  refine r_iload_n (pc := 0) h dJ9_abs_0f7a4_0 rfl ?_
  refine r_if_ge (pc := 1) h 9 dJ9_abs_0f7a4_1 (by decide) (fun c1 => ?_) (fun c1 => ?_)
  · refine r_iload_n (pc := 9) h dJ9_abs_0f7a4_9 rfl ?_
    exact hr _ _ _ _ dJ9_abs_0f7a4_10 (rfl) (⟨by first | rw [if_pos (by assumption)] | rw [if_neg (by assumption)], rfl⟩)
  · refine r_iload_n (pc := 4) h dJ9_abs_0f7a4_4 rfl ?_
    refine r_ineg (pc := 5) h dJ9_abs_0f7a4_5 ?_
    refine r_goto (pc := 6) h 10 dJ9_abs_0f7a4_6 (by decide) ?_
    exact hr _ _ _ _ dJ9_abs_0f7a4_10 (rfl) (⟨by first | rw [if_pos (by assumption)] | rw [if_neg (by assumption)], rfl⟩)
set_option maxRecDepth 100000 in
set_option maxHeartbeats 4000000 in
theorem c_X10_isDirection (E : En) (I : Mem) (d : Int32)  : Ctr E yX10_isDirection cX10_isDirection 1 (some .boolean) 2 [.int d] I (qI (fun (r : Int32) (I1 : Mem) => r = b2i (0 ≤ d.toInt ∧ d.toInt ≤ 359) ∧ I = I1)) := by
  refine Ctr.openI (by decide) (Nat.le_of_ble_eq_true rfl) (fun g h hr => ?_)
  have h : Sem cX10_isDirection RX10 1 (rmL 2) E g := h
  show g I 0 [(0, .int d)] []
  refine r_iload_n (pc := 0) h dX10_isDirection_0 rfl ?_
  refine r_iconst (v := 0) (pc := 1) h dX10_isDirection_1 (by decide) ?_
  refine r_sipush (v := 359) (pc := 2) h dX10_isDirection_2 (by decide) ?_
  refine r_callSI (pc := 5) h dX10_isDirection_5 wm_X10_118 ca_X10_within (c_X10_within E _ _ _ _) rfl rfl (by decide) (by decide) (fun r I1 hq => ?_)
  obtain ⟨rfl, rfl⟩ := hq
  exact hr _ _ _ _ dX10_isDirection_8 (by first | rfl | decide | exact b2i_nar) (⟨rfl, rfl⟩)
set_option maxRecDepth 100000 in
set_option maxHeartbeats 4000000 in
theorem c_X10_isBend (E : En) (I : Mem) (v : Int32)  : Ctr E yX10_isBend cX10_isBend 1 (some .boolean) 2 [.int v] I (qI (fun (r : Int32) (I1 : Mem) => r = b2i (-9 ≤ v.toInt ∧ v.toInt ≤ 9) ∧ I = I1)) := by
  refine Ctr.openI (by decide) (Nat.le_of_ble_eq_true rfl) (fun g h hr => ?_)
  have h : Sem cX10_isBend RX10 1 (rmL 2) E g := h
  show g I 0 [(0, .int v)] []
  refine r_iload_n (pc := 0) h dX10_isBend_0 rfl ?_
  refine r_bipush (v := -9) (pc := 1) h dX10_isBend_1 (by decide) ?_
  refine r_bipush (v := 9) (pc := 3) h dX10_isBend_3 (by decide) ?_
  refine r_callSI (pc := 5) h dX10_isBend_5 wm_X10_118 ca_X10_within (c_X10_within E _ _ _ _) rfl rfl (by decide) (by decide) (fun r I1 hq => ?_)
  obtain ⟨rfl, rfl⟩ := hq
  exact hr _ _ _ _ dX10_isBend_8 (by first | rfl | decide | exact b2i_nar) (⟨rfl, rfl⟩)
set_option maxRecDepth 100000 in
set_option maxHeartbeats 4000000 in
theorem c_X10_isPatch (E : En) (I : Mem) (p : Int32)  : Ctr E yX10_isPatch cX10_isPatch 1 (some .boolean) 2 [.int p] I (qI (fun (r : Int32) (I1 : Mem) => r = b2i (0 ≤ p.toInt ∧ p.toInt ≤ 24) ∧ I = I1)) := by
  refine Ctr.openI (by decide) (Nat.le_of_ble_eq_true rfl) (fun g h hr => ?_)
  have h : Sem cX10_isPatch RX10 1 (rmL 2) E g := h
  show g I 0 [(0, .int p)] []
  refine r_iload_n (pc := 0) h dX10_isPatch_0 rfl ?_
  refine r_iconst (v := 0) (pc := 1) h dX10_isPatch_1 (by decide) ?_
  refine r_bipush (v := 24) (pc := 2) h dX10_isPatch_2 (by decide) ?_
  refine r_callSI (pc := 4) h dX10_isPatch_4 wm_X10_118 ca_X10_within (c_X10_within E _ _ _ _) rfl rfl (by decide) (by decide) (fun r I1 hq => ?_)
  obtain ⟨rfl, rfl⟩ := hq
  exact hr _ _ _ _ dX10_isPatch_7 (by first | rfl | decide | exact b2i_nar) (⟨rfl, rfl⟩)
set_option maxRecDepth 100000 in
set_option maxHeartbeats 4000000 in
theorem c_X10_isSheet (E : En) (I : Mem) (n : Int32)  : Ctr E yX10_isSheet cX10_isSheet 1 (some .boolean) 2 [.int n] I (qI (fun (r : Int32) (I1 : Mem) => r = b2i (0 ≤ n.toInt ∧ n.toInt ≤ 3) ∧ I = I1)) := by
  refine Ctr.openI (by decide) (Nat.le_of_ble_eq_true rfl) (fun g h hr => ?_)
  have h : Sem cX10_isSheet RX10 1 (rmL 2) E g := h
  show g I 0 [(0, .int n)] []
  refine r_iload_n (pc := 0) h dX10_isSheet_0 rfl ?_
  refine r_iconst (v := 0) (pc := 1) h dX10_isSheet_1 (by decide) ?_
  refine r_iconst (v := 3) (pc := 2) h dX10_isSheet_2 (by decide) ?_
  refine r_callSI (pc := 3) h dX10_isSheet_3 wm_X10_118 ca_X10_within (c_X10_within E _ _ _ _) rfl rfl (by decide) (by decide) (fun r I1 hq => ?_)
  obtain ⟨rfl, rfl⟩ := hq
  exact hr _ _ _ _ dX10_isSheet_6 (by first | rfl | decide | exact b2i_nar) (⟨rfl, rfl⟩)
set_option maxRecDepth 100000 in
set_option maxHeartbeats 4000000 in
theorem c_X10_isLane (E : En) (I : Mem) (n : Int32)  : Ctr E yX10_isLane cX10_isLane 1 (some .boolean) 2 [.int n] I (qI (fun (r : Int32) (I1 : Mem) => r = b2i (0 ≤ n.toInt ∧ n.toInt ≤ 2) ∧ I = I1)) := by
  refine Ctr.openI (by decide) (Nat.le_of_ble_eq_true rfl) (fun g h hr => ?_)
  have h : Sem cX10_isLane RX10 1 (rmL 2) E g := h
  show g I 0 [(0, .int n)] []
  refine r_iload_n (pc := 0) h dX10_isLane_0 rfl ?_
  refine r_iconst (v := 0) (pc := 1) h dX10_isLane_1 (by decide) ?_
  refine r_iconst (v := 2) (pc := 2) h dX10_isLane_2 (by decide) ?_
  refine r_callSI (pc := 3) h dX10_isLane_3 wm_X10_118 ca_X10_within (c_X10_within E _ _ _ _) rfl rfl (by decide) (by decide) (fun r I1 hq => ?_)
  obtain ⟨rfl, rfl⟩ := hq
  exact hr _ _ _ _ dX10_isLane_6 (by first | rfl | decide | exact b2i_nar) (⟨rfl, rfl⟩)
set_option maxRecDepth 100000 in
set_option maxHeartbeats 4000000 in
theorem c_X11_isPatch (E : En) (I : Mem) (p : Int32)  : Ctr E yX11_isPatch cX11_isPatch 1 (some .boolean) 2 [.int p] I (qI (fun (r : Int32) (I1 : Mem) => r = b2i (0 ≤ p.toInt ∧ p.toInt ≤ 24) ∧ I = I1)) := by
  refine Ctr.openI (by decide) (Nat.le_of_ble_eq_true rfl) (fun g h hr => ?_)
  have h : Sem cX11_isPatch RX11 1 (rmL 2) E g := h
  show g I 0 [(0, .int p)] []
  refine r_iload_n (pc := 0) h dX11_isPatch_0 rfl ?_
  refine r_i2l (pc := 1) h dX11_isPatch_1 ?_
  refine r_lconst (v := 0) (pc := 2) h dX11_isPatch_2 (by decide) ?_
  refine r_ldc2 (pc := 3) h dX11_isPatch_3 wc_X11_329 ?_
  refine r_callSI (pc := 6) h dX11_isPatch_6 wm_X11_127 ca_X11_in (c_X11_in E _ _ _ _) rfl rfl (by decide) (by decide) (fun r I1 hq => ?_)
  obtain ⟨rfl, rfl⟩ := hq
  exact hr _ _ _ _ dX11_isPatch_9 (by first | rfl | decide | exact b2i_nar) (⟨by simp, rfl⟩)
set_option maxRecDepth 100000 in
set_option maxHeartbeats 4000000 in
theorem c_X11_isSheet (E : En) (I : Mem) (s : Int32)  : Ctr E yX11_isSheet cX11_isSheet 1 (some .boolean) 2 [.int s] I (qI (fun (r : Int32) (I1 : Mem) => r = b2i (0 ≤ s.toInt ∧ s.toInt ≤ 3) ∧ I = I1)) := by
  refine Ctr.openI (by decide) (Nat.le_of_ble_eq_true rfl) (fun g h hr => ?_)
  have h : Sem cX11_isSheet RX11 1 (rmL 2) E g := h
  show g I 0 [(0, .int s)] []
  refine r_iload_n (pc := 0) h dX11_isSheet_0 rfl ?_
  refine r_i2l (pc := 1) h dX11_isSheet_1 ?_
  refine r_lconst (v := 0) (pc := 2) h dX11_isSheet_2 (by decide) ?_
  refine r_ldc2 (pc := 3) h dX11_isSheet_3 wc_X11_157 ?_
  refine r_callSI (pc := 6) h dX11_isSheet_6 wm_X11_127 ca_X11_in (c_X11_in E _ _ _ _) rfl rfl (by decide) (by decide) (fun r I1 hq => ?_)
  obtain ⟨rfl, rfl⟩ := hq
  exact hr _ _ _ _ dX11_isSheet_9 (by first | rfl | decide | exact b2i_nar) (⟨by simp, rfl⟩)
set_option maxRecDepth 100000 in
set_option maxHeartbeats 4000000 in
theorem c_X11_isLane (E : En) (I : Mem) (lane : Int32)  : Ctr E yX11_isLane cX11_isLane 1 (some .boolean) 2 [.int lane] I (qI (fun (r : Int32) (I1 : Mem) => r = b2i (0 ≤ lane.toInt ∧ lane.toInt ≤ 2) ∧ I = I1)) := by
  refine Ctr.openI (by decide) (Nat.le_of_ble_eq_true rfl) (fun g h hr => ?_)
  have h : Sem cX11_isLane RX11 1 (rmL 2) E g := h
  show g I 0 [(0, .int lane)] []
  refine r_iload_n (pc := 0) h dX11_isLane_0 rfl ?_
  refine r_i2l (pc := 1) h dX11_isLane_1 ?_
  refine r_lconst (v := 0) (pc := 2) h dX11_isLane_2 (by decide) ?_
  refine r_ldc2 (pc := 3) h dX11_isLane_3 wc_X11_267 ?_
  refine r_callSI (pc := 6) h dX11_isLane_6 wm_X11_127 ca_X11_in (c_X11_in E _ _ _ _) rfl rfl (by decide) (by decide) (fun r I1 hq => ?_)
  obtain ⟨rfl, rfl⟩ := hq
  exact hr _ _ _ _ dX11_isLane_9 (by first | rfl | decide | exact b2i_nar) (⟨by simp, rfl⟩)
set_option maxRecDepth 100000 in
set_option maxHeartbeats 4000000 in
theorem c_X10_isStyle (E : En) (I : Mem) (lean : Int32) (angle : Int32) (strength : Int32) (spin : Int32)  : Ctr E yX10_isStyle cX10_isStyle 4 (some .boolean) 3 [.int lean, .int angle, .int strength, .int spin] I (qI (fun (r : Int32) (I1 : Mem) => r = b2i ((0 ≤ lean.toInt ∧ lean.toInt ≤ 90) ∧ (0 ≤ angle.toInt ∧ angle.toInt ≤ 359) ∧ (30 ≤ strength.toInt ∧ strength.toInt ≤ 250) ∧ (100 ≤ spin.toInt ∧ spin.toInt ≤ 1000)) ∧ I = I1)) := by
  refine Ctr.openI (by decide) (Nat.le_of_ble_eq_true rfl) (fun g h hr => ?_)
  have h : Sem cX10_isStyle RX10 4 (rmL 3) E g := h
  show g I 0 [(0, .int lean), (1, .int angle), (2, .int strength), (3, .int spin)] []
  refine r_iload_n (pc := 0) h dX10_isStyle_0 rfl ?_
  refine r_iconst (v := 0) (pc := 1) h dX10_isStyle_1 (by decide) ?_
  refine r_bipush (v := 90) (pc := 2) h dX10_isStyle_2 (by decide) ?_
  refine r_callSI (pc := 4) h dX10_isStyle_4 wm_X10_118 ca_X10_within (c_X10_within E _ _ _ _) rfl rfl (by decide) (by decide) (fun r I1 hq => ?_)
  obtain ⟨rfl, rfl⟩ := hq
  refine r_if_eq (pc := 7) h 45 dX10_isStyle_7 (by decide) (fun c7 => ?_) (fun c7 => ?_)
  · refine r_iconst (v := 0) (pc := 45) h dX10_isStyle_45 (by decide) ?_
    exact hr _ _ _ _ dX10_isStyle_46 (by first | rfl | decide | exact b2i_nar) (⟨by (try simp only [b2i_eq0, eq0_b2i, eq1_b2i] at *); (try simp only [i32_eq, i32_m1, Int32.reduceToInt, true_or, or_true, and_true, true_and, not_true_eq_false, not_false_eq_true] at *); omega, rfl⟩)
  · refine r_iload_n (pc := 10) h dX10_isStyle_10 rfl ?_
    refine r_callSI (pc := 11) h dX10_isStyle_11 wm_X10_164 ca_X10_isDirection (c_X10_isDirection E _ _) rfl rfl (by decide) (by decide) (fun r I1 hq => ?_)
    obtain ⟨rfl, rfl⟩ := hq
    refine r_if_eq (pc := 14) h 45 dX10_isStyle_14 (by decide) (fun c14 => ?_) (fun c14 => ?_)
    · refine r_iconst (v := 0) (pc := 45) h dX10_isStyle_45 (by decide) ?_
      exact hr _ _ _ _ dX10_isStyle_46 (by first | rfl | decide | exact b2i_nar) (⟨by (try simp only [b2i_eq0, eq0_b2i, eq1_b2i] at *); (try simp only [i32_eq, i32_m1, Int32.reduceToInt, true_or, or_true, and_true, true_and, not_true_eq_false, not_false_eq_true] at *); omega, rfl⟩)
    · refine r_iload_n (pc := 17) h dX10_isStyle_17 rfl ?_
      refine r_bipush (v := 30) (pc := 18) h dX10_isStyle_18 (by decide) ?_
      refine r_sipush (v := 250) (pc := 20) h dX10_isStyle_20 (by decide) ?_
      refine r_callSI (pc := 23) h dX10_isStyle_23 wm_X10_118 ca_X10_within (c_X10_within E _ _ _ _) rfl rfl (by decide) (by decide) (fun r I1 hq => ?_)
      obtain ⟨rfl, rfl⟩ := hq
      refine r_if_eq (pc := 26) h 45 dX10_isStyle_26 (by decide) (fun c26 => ?_) (fun c26 => ?_)
      · refine r_iconst (v := 0) (pc := 45) h dX10_isStyle_45 (by decide) ?_
        exact hr _ _ _ _ dX10_isStyle_46 (by first | rfl | decide | exact b2i_nar) (⟨by (try simp only [b2i_eq0, eq0_b2i, eq1_b2i] at *); (try simp only [i32_eq, i32_m1, Int32.reduceToInt, true_or, or_true, and_true, true_and, not_true_eq_false, not_false_eq_true] at *); omega, rfl⟩)
      · refine r_iload_n (pc := 29) h dX10_isStyle_29 rfl ?_
        refine r_bipush (v := 100) (pc := 30) h dX10_isStyle_30 (by decide) ?_
        refine r_sipush (v := 1000) (pc := 32) h dX10_isStyle_32 (by decide) ?_
        refine r_callSI (pc := 35) h dX10_isStyle_35 wm_X10_118 ca_X10_within (c_X10_within E _ _ _ _) rfl rfl (by decide) (by decide) (fun r I1 hq => ?_)
        obtain ⟨rfl, rfl⟩ := hq
        refine r_if_eq (pc := 38) h 45 dX10_isStyle_38 (by decide) (fun c38 => ?_) (fun c38 => ?_)
        · refine r_iconst (v := 0) (pc := 45) h dX10_isStyle_45 (by decide) ?_
          exact hr _ _ _ _ dX10_isStyle_46 (by first | rfl | decide | exact b2i_nar) (⟨by (try simp only [b2i_eq0, eq0_b2i, eq1_b2i] at *); (try simp only [i32_eq, i32_m1, Int32.reduceToInt, true_or, or_true, and_true, true_and, not_true_eq_false, not_false_eq_true] at *); omega, rfl⟩)
        · refine r_iconst (v := 1) (pc := 41) h dX10_isStyle_41 (by decide) ?_
          refine r_goto (pc := 42) h 46 dX10_isStyle_42 (by decide) ?_
          exact hr _ _ _ _ dX10_isStyle_46 (by first | rfl | decide | exact b2i_nar) (⟨by (try simp only [b2i_eq0, eq0_b2i, eq1_b2i] at *); (try simp only [i32_eq, i32_m1, Int32.reduceToInt, true_or, or_true, and_true, true_and, not_true_eq_false, not_false_eq_true] at *); omega, rfl⟩)
set_option maxRecDepth 100000 in
set_option maxHeartbeats 4000000 in
theorem c_X10_isStick (E : En) (I : Mem) (n : Int32)  : Ctr E yX10_isStick cX10_isStick 2 (some .boolean) 2 [.ref (E.1 0), .int n] I (qI (fun (r : Int32) (I1 : Mem) => r = b2i (0 ≤ n.toInt ∧ n.toInt ≤ (I 0 2 - 1).toInt) ∧ I = I1)) := by
  refine Ctr.openI (by decide) (Nat.le_of_ble_eq_true rfl) (fun g h hr => ?_)
  have h : Sem cX10_isStick RX10 2 (rmL 2) E g := h
  show g I 0 [(0, .ref (E.1 0)), (1, .int n)] []
  refine r_iload_n (pc := 0) h dX10_isStick_0 rfl ?_
  refine r_iconst (v := 0) (pc := 1) h dX10_isStick_1 (by decide) ?_
  refine r_aload_n (pc := 2) h dX10_isStick_2 rfl ?_
  refine gf_X10_23 (pc := 3) h dX10_isStick_3 ?_
  refine r_iconst (v := 1) (pc := 6) h dX10_isStick_6 (by decide) ?_
  refine r_isub (pc := 7) h dX10_isStick_7 ?_
  refine r_callSI (pc := 8) h dX10_isStick_8 wm_X10_118 ca_X10_within (c_X10_within E _ _ _ _) rfl rfl (by decide) (by decide) (fun r I1 hq => ?_)
  obtain ⟨rfl, rfl⟩ := hq
  exact hr _ _ _ _ dX10_isStick_11 (by first | rfl | decide | exact b2i_nar) (⟨rfl, rfl⟩)
set_option maxRecDepth 100000 in
set_option maxHeartbeats 4000000 in
theorem c_X10_isWind (E : En) (I : Mem) (n : Int32)  : Ctr E yX10_isWind cX10_isWind 2 (some .boolean) 2 [.ref (E.1 0), .int n] I (qI (fun (r : Int32) (I1 : Mem) => r = b2i (0 ≤ n.toInt ∧ n.toInt ≤ (I 0 4 - 1).toInt) ∧ I = I1)) := by
  refine Ctr.openI (by decide) (Nat.le_of_ble_eq_true rfl) (fun g h hr => ?_)
  have h : Sem cX10_isWind RX10 2 (rmL 2) E g := h
  show g I 0 [(0, .ref (E.1 0)), (1, .int n)] []
  refine r_iload_n (pc := 0) h dX10_isWind_0 rfl ?_
  refine r_iconst (v := 0) (pc := 1) h dX10_isWind_1 (by decide) ?_
  refine r_aload_n (pc := 2) h dX10_isWind_2 rfl ?_
  refine gf_X10_33 (pc := 3) h dX10_isWind_3 ?_
  refine r_iconst (v := 1) (pc := 6) h dX10_isWind_6 (by decide) ?_
  refine r_isub (pc := 7) h dX10_isWind_7 ?_
  refine r_callSI (pc := 8) h dX10_isWind_8 wm_X10_118 ca_X10_within (c_X10_within E _ _ _ _) rfl rfl (by decide) (by decide) (fun r I1 hq => ?_)
  obtain ⟨rfl, rfl⟩ := hq
  exact hr _ _ _ _ dX10_isWind_11 (by first | rfl | decide | exact b2i_nar) (⟨rfl, rfl⟩)
set_option maxRecDepth 100000 in
set_option maxHeartbeats 4000000 in
theorem c_X10_isWindOrNone (E : En) (I : Mem) (n : Int32)  : Ctr E yX10_isWindOrNone cX10_isWindOrNone 2 (some .boolean) 3 [.ref (E.1 0), .int n] I (qI (fun (r : Int32) (I1 : Mem) => r = b2i (n.toInt = -1 ∨ (0 ≤ n.toInt ∧ n.toInt ≤ (I 0 4 - 1).toInt)) ∧ I = I1)) := by
  refine Ctr.openI (by decide) (Nat.le_of_ble_eq_true rfl) (fun g h hr => ?_)
  have h : Sem cX10_isWindOrNone RX10 2 (rmL 3) E g := h
  show g I 0 [(0, .ref (E.1 0)), (1, .int n)] []
  refine r_iload_n (pc := 0) h dX10_isWindOrNone_0 rfl ?_
  refine r_iconst (v := -1) (pc := 1) h dX10_isWindOrNone_1 (by decide) ?_
  refine r_icmp_eq (pc := 2) h 13 dX10_isWindOrNone_2 (by decide) (fun c2 => ?_) (fun c2 => ?_)
  · refine r_iconst (v := 1) (pc := 13) h dX10_isWindOrNone_13 (by decide) ?_
    refine r_goto (pc := 14) h 18 dX10_isWindOrNone_14 (by decide) ?_
    exact hr _ _ _ _ dX10_isWindOrNone_18 (by first | rfl | decide | exact b2i_nar) (⟨by (try simp only [b2i_eq0, eq0_b2i, eq1_b2i] at *); (try simp only [i32_eq, i32_m1, Int32.reduceToInt, true_or, or_true, and_true, true_and, not_true_eq_false, not_false_eq_true] at *); omega, rfl⟩)
  · refine r_aload_n (pc := 5) h dX10_isWindOrNone_5 rfl ?_
    refine r_iload_n (pc := 6) h dX10_isWindOrNone_6 rfl ?_
    refine r_callVI (ci := 10) (pc := 7) h dX10_isWindOrNone_7 wm_X10_161 ca_X10_isWind rfl (c_X10_isWind E _ _) rfl rfl (by decide) (by decide) (by decide) (by decide) (by decide) (fun r I1 hq => ?_)
    obtain ⟨rfl, rfl⟩ := hq
    refine r_if_eq (pc := 10) h 17 dX10_isWindOrNone_10 (by decide) (fun c10 => ?_) (fun c10 => ?_)
    · refine r_iconst (v := 0) (pc := 17) h dX10_isWindOrNone_17 (by decide) ?_
      exact hr _ _ _ _ dX10_isWindOrNone_18 (by first | rfl | decide | exact b2i_nar) (⟨by (try simp only [b2i_eq0, eq0_b2i, eq1_b2i] at *); (try simp only [i32_eq, i32_m1, Int32.reduceToInt, true_or, or_true, and_true, true_and, not_true_eq_false, not_false_eq_true] at *); omega, rfl⟩)
    · refine r_iconst (v := 1) (pc := 13) h dX10_isWindOrNone_13 (by decide) ?_
      refine r_goto (pc := 14) h 18 dX10_isWindOrNone_14 (by decide) ?_
      exact hr _ _ _ _ dX10_isWindOrNone_18 (by first | rfl | decide | exact b2i_nar) (⟨by (try simp only [b2i_eq0, eq0_b2i, eq1_b2i] at *); (try simp only [i32_eq, i32_m1, Int32.reduceToInt, true_or, or_true, and_true, true_and, not_true_eq_false, not_false_eq_true] at *); omega, rfl⟩)
set_option maxRecDepth 100000 in
set_option maxHeartbeats 4000000 in
theorem c_X10_isThrow (E : En) (I : Mem) (stick : Int32) (lean : Int32) (angle : Int32) (strength : Int32) (spin : Int32) (wind : Int32)  : Ctr E yX10_isThrow cX10_isThrow 7 (some .boolean) 4 [.ref (E.1 0), .int stick, .int lean, .int angle, .int strength, .int spin, .int wind] I (qI (fun (r : Int32) (I1 : Mem) => r = b2i ((0 ≤ stick.toInt ∧ stick.toInt ≤ (I 0 2 - 1).toInt) ∧ ((0 ≤ lean.toInt ∧ lean.toInt ≤ 90) ∧ (0 ≤ angle.toInt ∧ angle.toInt ≤ 359) ∧ (30 ≤ strength.toInt ∧ strength.toInt ≤ 250) ∧ (100 ≤ spin.toInt ∧ spin.toInt ≤ 1000)) ∧ (wind.toInt = -1 ∨ (0 ≤ wind.toInt ∧ wind.toInt ≤ (I 0 4 - 1).toInt))) ∧ I = I1)) := by
  refine Ctr.openI (by decide) (Nat.le_of_ble_eq_true rfl) (fun g h hr => ?_)
  have h : Sem cX10_isThrow RX10 7 (rmL 4) E g := h
  show g I 0 [(0, .ref (E.1 0)), (1, .int stick), (2, .int lean), (3, .int angle), (4, .int strength), (5, .int spin), (6, .int wind)] []
  refine r_aload_n (pc := 0) h dX10_isThrow_0 rfl ?_
  refine r_iload_n (pc := 1) h dX10_isThrow_1 rfl ?_
  refine r_callVI (ci := 10) (pc := 2) h dX10_isThrow_2 wm_X10_126 ca_X10_isStick rfl (c_X10_isStick E _ _) rfl rfl (by decide) (by decide) (by decide) (by decide) (by decide) (fun r I1 hq => ?_)
  obtain ⟨rfl, rfl⟩ := hq
  refine r_if_eq (pc := 5) h 33 dX10_isThrow_5 (by decide) (fun c5 => ?_) (fun c5 => ?_)
  · refine r_iconst (v := 0) (pc := 33) h dX10_isThrow_33 (by decide) ?_
    exact hr _ _ _ _ dX10_isThrow_34 (by first | rfl | decide | exact b2i_nar) (⟨by (try simp only [b2i_eq0, eq0_b2i, eq1_b2i] at *); (try simp only [i32_eq, i32_m1, Int32.reduceToInt, true_or, or_true, and_true, true_and, not_true_eq_false, not_false_eq_true] at *); omega, rfl⟩)
  · refine r_iload_n (pc := 8) h dX10_isThrow_8 rfl ?_
    refine r_iload_n (pc := 9) h dX10_isThrow_9 rfl ?_
    refine r_iload (pc := 10) h dX10_isThrow_10 rfl ?_
    refine r_iload (pc := 12) h dX10_isThrow_12 rfl ?_
    refine r_callSI (pc := 14) h dX10_isThrow_14 wm_X10_241 ca_X10_isStyle (c_X10_isStyle E _ _ _ _ _) rfl rfl (by decide) (by decide) (fun r I1 hq => ?_)
    obtain ⟨rfl, rfl⟩ := hq
    refine r_if_eq (pc := 17) h 33 dX10_isThrow_17 (by decide) (fun c17 => ?_) (fun c17 => ?_)
    · refine r_iconst (v := 0) (pc := 33) h dX10_isThrow_33 (by decide) ?_
      exact hr _ _ _ _ dX10_isThrow_34 (by first | rfl | decide | exact b2i_nar) (⟨by (try simp only [b2i_eq0, eq0_b2i, eq1_b2i] at *); (try simp only [i32_eq, i32_m1, Int32.reduceToInt, true_or, or_true, and_true, true_and, not_true_eq_false, not_false_eq_true] at *); omega, rfl⟩)
    · refine r_aload_n (pc := 20) h dX10_isThrow_20 rfl ?_
      refine r_iload (pc := 21) h dX10_isThrow_21 rfl ?_
      refine r_callVI (ci := 10) (pc := 23) h dX10_isThrow_23 wm_X10_235 ca_X10_isWindOrNone rfl (c_X10_isWindOrNone E _ _) rfl rfl (by decide) (by decide) (by decide) (by decide) (by decide) (fun r I1 hq => ?_)
      obtain ⟨rfl, rfl⟩ := hq
      refine r_if_eq (pc := 26) h 33 dX10_isThrow_26 (by decide) (fun c26 => ?_) (fun c26 => ?_)
      · refine r_iconst (v := 0) (pc := 33) h dX10_isThrow_33 (by decide) ?_
        exact hr _ _ _ _ dX10_isThrow_34 (by first | rfl | decide | exact b2i_nar) (⟨by (try simp only [b2i_eq0, eq0_b2i, eq1_b2i] at *); (try simp only [i32_eq, i32_m1, Int32.reduceToInt, true_or, or_true, and_true, true_and, not_true_eq_false, not_false_eq_true] at *); omega, rfl⟩)
      · refine r_iconst (v := 1) (pc := 29) h dX10_isThrow_29 (by decide) ?_
        refine r_goto (pc := 30) h 34 dX10_isThrow_30 (by decide) ?_
        exact hr _ _ _ _ dX10_isThrow_34 (by first | rfl | decide | exact b2i_nar) (⟨by (try simp only [b2i_eq0, eq0_b2i, eq1_b2i] at *); (try simp only [i32_eq, i32_m1, Int32.reduceToInt, true_or, or_true, and_true, true_and, not_true_eq_false, not_false_eq_true] at *); omega, rfl⟩)
set_option maxRecDepth 100000 in
set_option maxHeartbeats 4000000 in
theorem c_X10_isRow (E : En) (I : Mem) (stick : Int32) (lean : Int32) (angle : Int32) (strength : Int32) (spin : Int32) (x : Int32) (y : Int32)  : Ctr E yX10_isRow cX10_isRow 8 (some .boolean) 5 [.ref (E.1 0), .int stick, .int lean, .int angle, .int strength, .int spin, .int x, .int y] I (qI (fun (r : Int32) (I1 : Mem) => r = b2i ((0 ≤ stick.toInt ∧ stick.toInt ≤ (I 0 2 - 1).toInt) ∧ ((0 ≤ lean.toInt ∧ lean.toInt ≤ 90) ∧ (0 ≤ angle.toInt ∧ angle.toInt ≤ 359) ∧ (30 ≤ strength.toInt ∧ strength.toInt ≤ 250) ∧ (100 ≤ spin.toInt ∧ spin.toInt ≤ 1000)) ∧ (-9999 ≤ x.toInt ∧ x.toInt ≤ 9999) ∧ (-9999 ≤ y.toInt ∧ y.toInt ≤ 9999)) ∧ I = I1)) := by
  refine Ctr.openI (by decide) (Nat.le_of_ble_eq_true rfl) (fun g h hr => ?_)
  have h : Sem cX10_isRow RX10 8 (rmL 5) E g := h
  show g I 0 [(0, .ref (E.1 0)), (1, .int stick), (2, .int lean), (3, .int angle), (4, .int strength), (5, .int spin), (6, .int x), (7, .int y)] []
  refine r_aload_n (pc := 0) h dX10_isRow_0 rfl ?_
  refine r_iload_n (pc := 1) h dX10_isRow_1 rfl ?_
  refine r_iload_n (pc := 2) h dX10_isRow_2 rfl ?_
  refine r_iload_n (pc := 3) h dX10_isRow_3 rfl ?_
  refine r_iload (pc := 4) h dX10_isRow_4 rfl ?_
  refine r_iload (pc := 6) h dX10_isRow_6 rfl ?_
  refine r_iconst (v := -1) (pc := 8) h dX10_isRow_8 (by decide) ?_
  refine r_callVI (ci := 10) (pc := 9) h dX10_isRow_9 wm_X10_184 ca_X10_isThrow rfl (c_X10_isThrow E _ _ _ _ _ _ _) rfl rfl (by decide) (by decide) (by decide) (by decide) (by decide) (fun r I1 hq => ?_)
  obtain ⟨rfl, rfl⟩ := hq
  refine r_if_eq (pc := 12) h 47 dX10_isRow_12 (by decide) (fun c12 => ?_) (fun c12 => ?_)
  · refine r_iconst (v := 0) (pc := 47) h dX10_isRow_47 (by decide) ?_
    exact hr _ _ _ _ dX10_isRow_48 (by first | rfl | decide | exact b2i_nar) (⟨by (try simp only [b2i_eq0, eq0_b2i, eq1_b2i] at *); (try simp only [i32_eq, i32_m1, Int32.reduceToInt, true_or, or_true, and_true, true_and, not_true_eq_false, not_false_eq_true] at *); omega, rfl⟩)
  · refine r_iload (pc := 15) h dX10_isRow_15 rfl ?_
    refine r_sipush (v := -9999) (pc := 17) h dX10_isRow_17 (by decide) ?_
    refine r_sipush (v := 9999) (pc := 20) h dX10_isRow_20 (by decide) ?_
    refine r_callSI (pc := 23) h dX10_isRow_23 wm_X10_118 ca_X10_within (c_X10_within E _ _ _ _) rfl rfl (by decide) (by decide) (fun r I1 hq => ?_)
    obtain ⟨rfl, rfl⟩ := hq
    refine r_if_eq (pc := 26) h 47 dX10_isRow_26 (by decide) (fun c26 => ?_) (fun c26 => ?_)
    · refine r_iconst (v := 0) (pc := 47) h dX10_isRow_47 (by decide) ?_
      exact hr _ _ _ _ dX10_isRow_48 (by first | rfl | decide | exact b2i_nar) (⟨by (try simp only [b2i_eq0, eq0_b2i, eq1_b2i] at *); (try simp only [i32_eq, i32_m1, Int32.reduceToInt, true_or, or_true, and_true, true_and, not_true_eq_false, not_false_eq_true] at *); omega, rfl⟩)
    · refine r_iload (pc := 29) h dX10_isRow_29 rfl ?_
      refine r_sipush (v := -9999) (pc := 31) h dX10_isRow_31 (by decide) ?_
      refine r_sipush (v := 9999) (pc := 34) h dX10_isRow_34 (by decide) ?_
      refine r_callSI (pc := 37) h dX10_isRow_37 wm_X10_118 ca_X10_within (c_X10_within E _ _ _ _) rfl rfl (by decide) (by decide) (fun r I1 hq => ?_)
      obtain ⟨rfl, rfl⟩ := hq
      refine r_if_eq (pc := 40) h 47 dX10_isRow_40 (by decide) (fun c40 => ?_) (fun c40 => ?_)
      · refine r_iconst (v := 0) (pc := 47) h dX10_isRow_47 (by decide) ?_
        exact hr _ _ _ _ dX10_isRow_48 (by first | rfl | decide | exact b2i_nar) (⟨by (try simp only [b2i_eq0, eq0_b2i, eq1_b2i] at *); (try simp only [i32_eq, i32_m1, Int32.reduceToInt, true_or, or_true, and_true, true_and, not_true_eq_false, not_false_eq_true] at *); omega, rfl⟩)
      · refine r_iconst (v := 1) (pc := 43) h dX10_isRow_43 (by decide) ?_
        refine r_goto (pc := 44) h 48 dX10_isRow_44 (by decide) ?_
        exact hr _ _ _ _ dX10_isRow_48 (by first | rfl | decide | exact b2i_nar) (⟨by (try simp only [b2i_eq0, eq0_b2i, eq1_b2i] at *); (try simp only [i32_eq, i32_m1, Int32.reduceToInt, true_or, or_true, and_true, true_and, not_true_eq_false, not_false_eq_true] at *); omega, rfl⟩)
