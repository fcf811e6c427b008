/-! SIN, COS, swing -/
def turnF (I : Mem) (t : Nat) (dg : Int32) : Nat → Int32 := fun b => fmI (I t b + dg) 360
def F_swing (I : Mem) (w dg : Int32) : Int32 × Mem := if isS w (I 0 4) ∧ (-359 ≤ dg.toInt ∧ dg.toInt ≤ 359) then (1, rowQ I (59 + 3 * w.toNatClampNeg + 2) 0 (turnF I (59 + 3 * w.toNatClampNeg + 2) dg) 4) else (-1, I)
def swgF (I : Mem) (o : Nat) (dg : Int32) : Nat → Int32 := fun b => (I 162 (o + b) + dg + 360) - (I 162 (o + b) + dg + 360) / 360 * 360
def R_swing (I : Mem) (w dg : Int32) : Int32 × Mem := if isS w (I 151 10) ∧ (-359 ≤ dg.toInt ∧ dg.toInt ≤ 359) then (1, rowQ I 162 (4 * w.toNatClampNeg) (swgF I (4 * w.toNatClampNeg) dg) 4) else (-1, I)
theorem e360 : (360 : Int32).toInt = 360 := by decide
theorem m4n {w : Int32} {i : Nat} (h0 : 0 ≤ w.toInt) (h1 : w.toInt < 9) (hi : i < 4) : (4 * w + nI i).toInt = 4 * w.toInt + i ∧ (4 * w + nI i).toNatClampNeg = 4 * w.toNatClampNeg + i := by
  have e := nI_tI (i := i) (by omega)
  have h := m4_tI (s := w) (b := nI i) (n := 9) h0 h1 (by rw [e]; omega) (by omega)
  rw [e] at h
  refine ⟨h, ?_⟩
  rw [tn, tn, h]
  omega
set_option maxRecDepth 100000 in
set_option maxHeartbeats 4000000 in
theorem c_X11_sine (E : En) (I : Mem) (d : Int32) (hd : 0 ≤ d.toInt ∧ d.toInt ≤ 359) : Ctr E yX11_sine cX11_sine 4 (some .int) 1 [.ref (E.1 151), .int d] I (qI (fun (r : Int32) (I1 : Mem) => r = R_sine I d ∧ I = I1)) := by
  refine Ctr.openI (by decide) (Nat.le_of_ble_eq_true rfl) (fun g h hr => ?_)
  have h : Sem cX11_sine RX11 4 (rmL 1) E g := h
  show g I 0 [(0, .ref (E.1 151)), (1, .int d)] []
  refine r_iload_n (pc := 0) h dX11_sine_0 rfl ?_
  refine r_sipush (v := 180) (pc := 1) h dX11_sine_1 (by decide) ?_
  refine r_icmp_gt (pc := 4) h 11 dX11_sine_4 (by decide) (fun c4 => ?_) (fun c4 => ?_)
  · refine r_iload_n (pc := 11) h dX11_sine_11 rfl ?_
    refine r_sipush (v := 180) (pc := 12) h dX11_sine_12 (by decide) ?_
    refine r_isub (pc := 15) h dX11_sine_15 ?_
    refine r_istore_n (pc := 16) h dX11_sine_16 (by decide) ?_
    refine r_aload_n (pc := 17) h dX11_sine_17 rfl ?_
    refine gf_X11_7 (pc := 18) h dX11_sine_18 ?_
    refine r_iload_n (pc := 21) h dX11_sine_21 rfl ?_
    refine r_bipush (v := 90) (pc := 22) h dX11_sine_22 (by decide) ?_
    refine r_icmp_gt (pc := 24) h 31 dX11_sine_24 (by decide) (fun c24 => ?_) (fun c24 => ?_)
    · refine r_sipush (v := 180) (pc := 31) h dX11_sine_31 (by decide) ?_
      refine r_iload_n (pc := 34) h dX11_sine_34 rfl ?_
      refine r_isub (pc := 35) h dX11_sine_35 ?_
      refine r_iald (pc := 36) h dX11_sine_36 (by decide) (by decide) (by have hbd := sX_bd hd; unfold sX sE at hbd; simp only [c4, c24, if_true, if_false] at hbd; exact vin (n := 91) (by omega) (by omega)) ?_
      refine r_istore_n (pc := 37) h dX11_sine_37 (by decide) ?_
      refine r_iload_n (pc := 38) h dX11_sine_38 rfl ?_
      refine r_sipush (v := 180) (pc := 39) h dX11_sine_39 (by decide) ?_
      refine r_icmp_gt (pc := 42) h 49 dX11_sine_42 (by decide) (fun c42 => ?_) (fun c42 => ?_)
      · refine r_iload_n (pc := 49) h dX11_sine_49 rfl ?_
        refine r_ineg (pc := 50) h dX11_sine_50 ?_
        exact hr _ _ _ _ dX11_sine_51 (rfl) (⟨by first | exact absurd c4 c42 | exact absurd c42 c4 | (unfold R_sine sX sE; simp only [c4, c24, if_true, if_false]), rfl⟩)
      · refine r_iload_n (pc := 45) h dX11_sine_45 rfl ?_
        refine r_goto (pc := 46) h 51 dX11_sine_46 (by decide) ?_
        exact hr _ _ _ _ dX11_sine_51 (rfl) (⟨by first | exact absurd c4 c42 | exact absurd c42 c4 | (unfold R_sine sX sE; simp only [c4, c24, if_true, if_false]), rfl⟩)
    · refine r_iload_n (pc := 27) h dX11_sine_27 rfl ?_
      refine r_goto (pc := 28) h 36 dX11_sine_28 (by decide) ?_
      refine r_iald (pc := 36) h dX11_sine_36 (by decide) (by decide) (by have hbd := sX_bd hd; unfold sX sE at hbd; simp only [c4, c24, if_true, if_false] at hbd; exact vin (n := 91) (by omega) (by omega)) ?_
      refine r_istore_n (pc := 37) h dX11_sine_37 (by decide) ?_
      refine r_iload_n (pc := 38) h dX11_sine_38 rfl ?_
      refine r_sipush (v := 180) (pc := 39) h dX11_sine_39 (by decide) ?_
      refine r_icmp_gt (pc := 42) h 49 dX11_sine_42 (by decide) (fun c42 => ?_) (fun c42 => ?_)
      · refine r_iload_n (pc := 49) h dX11_sine_49 rfl ?_
        refine r_ineg (pc := 50) h dX11_sine_50 ?_
        exact hr _ _ _ _ dX11_sine_51 (rfl) (⟨by first | exact absurd c4 c42 | exact absurd c42 c4 | (unfold R_sine sX sE; simp only [c4, c24, if_true, if_false]), rfl⟩)
      · refine r_iload_n (pc := 45) h dX11_sine_45 rfl ?_
        refine r_goto (pc := 46) h 51 dX11_sine_46 (by decide) ?_
        exact hr _ _ _ _ dX11_sine_51 (rfl) (⟨by first | exact absurd c4 c42 | exact absurd c42 c4 | (unfold R_sine sX sE; simp only [c4, c24, if_true, if_false]), rfl⟩)
  · refine r_iload_n (pc := 7) h dX11_sine_7 rfl ?_
    refine r_goto (pc := 8) h 16 dX11_sine_8 (by decide) ?_
    refine r_istore_n (pc := 16) h dX11_sine_16 (by decide) ?_
    refine r_aload_n (pc := 17) h dX11_sine_17 rfl ?_
    refine gf_X11_7 (pc := 18) h dX11_sine_18 ?_
    refine r_iload_n (pc := 21) h dX11_sine_21 rfl ?_
    refine r_bipush (v := 90) (pc := 22) h dX11_sine_22 (by decide) ?_
    refine r_icmp_gt (pc := 24) h 31 dX11_sine_24 (by decide) (fun c24 => ?_) (fun c24 => ?_)
    · refine r_sipush (v := 180) (pc := 31) h dX11_sine_31 (by decide) ?_
      refine r_iload_n (pc := 34) h dX11_sine_34 rfl ?_
      refine r_isub (pc := 35) h dX11_sine_35 ?_
      refine r_iald (pc := 36) h dX11_sine_36 (by decide) (by decide) (by have hbd := sX_bd hd; unfold sX sE at hbd; simp only [c4, c24, if_true, if_false] at hbd; exact vin (n := 91) (by omega) (by omega)) ?_
      refine r_istore_n (pc := 37) h dX11_sine_37 (by decide) ?_
      refine r_iload_n (pc := 38) h dX11_sine_38 rfl ?_
      refine r_sipush (v := 180) (pc := 39) h dX11_sine_39 (by decide) ?_
      refine r_icmp_gt (pc := 42) h 49 dX11_sine_42 (by decide) (fun c42 => ?_) (fun c42 => ?_)
      · refine r_iload_n (pc := 49) h dX11_sine_49 rfl ?_
        refine r_ineg (pc := 50) h dX11_sine_50 ?_
        exact hr _ _ _ _ dX11_sine_51 (rfl) (⟨by first | exact absurd c4 c42 | exact absurd c42 c4 | (unfold R_sine sX sE; simp only [c4, c24, if_true, if_false]), rfl⟩)
      · refine r_iload_n (pc := 45) h dX11_sine_45 rfl ?_
        refine r_goto (pc := 46) h 51 dX11_sine_46 (by decide) ?_
        exact hr _ _ _ _ dX11_sine_51 (rfl) (⟨by first | exact absurd c4 c42 | exact absurd c42 c4 | (unfold R_sine sX sE; simp only [c4, c24, if_true, if_false]), rfl⟩)
    · refine r_iload_n (pc := 27) h dX11_sine_27 rfl ?_
      refine r_goto (pc := 28) h 36 dX11_sine_28 (by decide) ?_
      refine r_iald (pc := 36) h dX11_sine_36 (by decide) (by decide) (by have hbd := sX_bd hd; unfold sX sE at hbd; simp only [c4, c24, if_true, if_false] at hbd; exact vin (n := 91) (by omega) (by omega)) ?_
      refine r_istore_n (pc := 37) h dX11_sine_37 (by decide) ?_
      refine r_iload_n (pc := 38) h dX11_sine_38 rfl ?_
      refine r_sipush (v := 180) (pc := 39) h dX11_sine_39 (by decide) ?_
      refine r_icmp_gt (pc := 42) h 49 dX11_sine_42 (by decide) (fun c42 => ?_) (fun c42 => ?_)
      · refine r_iload_n (pc := 49) h dX11_sine_49 rfl ?_
        refine r_ineg (pc := 50) h dX11_sine_50 ?_
        exact hr _ _ _ _ dX11_sine_51 (rfl) (⟨by first | exact absurd c4 c42 | exact absurd c42 c4 | (unfold R_sine sX sE; simp only [c4, c24, if_true, if_false]), rfl⟩)
      · refine r_iload_n (pc := 45) h dX11_sine_45 rfl ?_
        refine r_goto (pc := 46) h 51 dX11_sine_46 (by decide) ?_
        exact hr _ _ _ _ dX11_sine_51 (rfl) (⟨by first | exact absurd c4 c42 | exact absurd c42 c4 | (unfold R_sine sX sE; simp only [c4, c24, if_true, if_false]), rfl⟩)
set_option maxRecDepth 100000 in
set_option maxHeartbeats 4000000 in
theorem c_X11_cosine (E : En) (I : Mem) (d : Int32) (hd : 0 ≤ d.toInt ∧ d.toInt ≤ 359) : Ctr E yX11_cosine cX11_cosine 2 (some .int) 2 [.ref (E.1 151), .int d] I (qI (fun (r : Int32) (I1 : Mem) => r = R_cosine I d ∧ I = I1)) := by
  refine Ctr.openI (by decide) (Nat.le_of_ble_eq_true rfl) (fun g h hr => ?_)
  have h : Sem cX11_cosine RX11 2 (rmL 2) E g := h
  show g I 0 [(0, .ref (E.1 151)), (1, .int d)] []
  have e90 : (90 : Int32).toInt = 90 := by decide
  have e270 : (270 : Int32).toInt = 270 := by decide
  refine r_aload_n (pc := 0) h dX11_cosine_0 rfl ?_
  refine r_iload_n (pc := 1) h dX11_cosine_1 rfl ?_
  refine r_sipush (v := 270) (pc := 2) h dX11_cosine_2 (by decide) ?_
  refine r_icmp_ge (pc := 5) h 15 dX11_cosine_5 (by decide) (fun c5 => ?_) (fun c5 => ?_)
  · refine r_iload_n (pc := 15) h dX11_cosine_15 rfl ?_
    refine r_sipush (v := 270) (pc := 16) h dX11_cosine_16 (by decide) ?_
    refine r_isub (pc := 19) h dX11_cosine_19 ?_
    refine r_callVI (ci := 11) (pc := 20) h dX11_cosine_20 wm_X11_123 ca_X11_sine rfl (c_X11_sine E _ _ (by rw [Int32.le_iff_toInt_le, e270] at c5; first | (rw [tI_sub (by omega) (by omega)]; omega) | (rw [tI_add (by omega) (by omega)]; omega))) rfl rfl (Nat.le_of_ble_eq_true rfl) (by decide) (by decide) (by decide) (by decide) (fun r I1 hq => ?_)
    obtain ⟨rfl, rfl⟩ := hq
    exact hr _ _ _ _ dX11_cosine_23 (rfl) (⟨by unfold R_cosine; first | rw [if_pos c5] | rw [if_neg c5], rfl⟩)
  · refine r_iload_n (pc := 8) h dX11_cosine_8 rfl ?_
    refine r_bipush (v := 90) (pc := 9) h dX11_cosine_9 (by decide) ?_
    refine r_iadd (pc := 11) h dX11_cosine_11 ?_
    refine r_goto (pc := 12) h 20 dX11_cosine_12 (by decide) ?_
    refine r_callVI (ci := 11) (pc := 20) h dX11_cosine_20 wm_X11_123 ca_X11_sine rfl (c_X11_sine E _ _ (by rw [Int32.le_iff_toInt_le, e270] at c5; first | (rw [tI_sub (by omega) (by omega)]; omega) | (rw [tI_add (by omega) (by omega)]; omega))) rfl rfl (Nat.le_of_ble_eq_true rfl) (by decide) (by decide) (by decide) (by decide) (fun r I1 hq => ?_)
    obtain ⟨rfl, rfl⟩ := hq
    exact hr _ _ _ _ dX11_cosine_23 (rfl) (⟨by unfold R_cosine; first | rw [if_pos c5] | rw [if_neg c5], rfl⟩)
set_option maxRecDepth 100000 in
set_option maxHeartbeats 4000000 in
theorem c_X11_table (E : En) (I : Mem) (w : Int32) (d : Int32)  : Ctr E yX11_table cX11_table 3 (some .int) 3 [.ref (E.1 151), .int w, .int d] I (qI (fun (r : Int32) (I1 : Mem) => r = R_table I w d ∧ I = I1)) := by
  refine Ctr.openI (by decide) (Nat.le_of_ble_eq_true rfl) (fun g h hr => ?_)
  have h : Sem cX11_table RX11 3 (rmL 3) E g := h
  show g I 0 [(0, .ref (E.1 151)), (1, .int w), (2, .int d)] []
  refine r_iload_n (pc := 0) h dX11_table_0 rfl ?_
  refine r_i2l (pc := 1) h dX11_table_1 ?_
  refine r_lconst (v := 0) (pc := 2) h dX11_table_2 (by decide) ?_
  refine r_lconst (v := 1) (pc := 3) h dX11_table_3 (by decide) ?_
  refine r_callSI (pc := 4) h dX11_table_4 wm_X11_127 ca_X11_in (c_X11_in E _ _ _ _) rfl rfl (Nat.le_of_ble_eq_true rfl) (by decide) (fun r I1 hq => ?_)
  obtain ⟨rfl, rfl⟩ := hq
  refine r_if_eq (pc := 7) h 22 dX11_table_7 (by decide) (fun c7 => ?_) (fun c7 => ?_)
  · refine r_sipush (v := -10001) (pc := 22) h dX11_table_22 (by decide) ?_
    exact hr _ _ _ _ dX11_table_25 (rfl) (⟨by unfold R_table; rw [if_neg (by (try simp only [b2i_eq0, Int32.reduceToInt, Int64.reduceToInt, Int32.toInt_toInt64] at *); omega)], rfl⟩)
  · refine r_iload_n (pc := 10) h dX11_table_10 rfl ?_
    refine r_i2l (pc := 11) h dX11_table_11 ?_
    refine r_lconst (v := 0) (pc := 12) h dX11_table_12 (by decide) ?_
    refine r_ldc2 (pc := 13) h dX11_table_13 wc_X11_131 ?_
    refine r_callSI (pc := 16) h dX11_table_16 wm_X11_127 ca_X11_in (c_X11_in E _ _ _ _) rfl rfl (Nat.le_of_ble_eq_true rfl) (by decide) (fun r I1 hq => ?_)
    obtain ⟨rfl, rfl⟩ := hq
    refine r_if_ne (pc := 19) h 26 dX11_table_19 (by decide) (fun c19 => ?_) (fun c19 => ?_)
    · have hv : (0 ≤ w.toInt ∧ w.toInt ≤ 1) ∧ (0 ≤ d.toInt ∧ d.toInt ≤ 359) := by (try simp only [b2i_eq0, Int32.reduceToInt, Int64.reduceToInt, Int32.toInt_toInt64] at *); omega
      refine r_iload_n (pc := 26) h dX11_table_26 rfl ?_
      refine r_if_ne (pc := 27) h 38 dX11_table_27 (by decide) (fun c27 => ?_) (fun c27 => ?_)
      · refine r_aload_n (pc := 38) h dX11_table_38 rfl ?_
        refine r_iload_n (pc := 39) h dX11_table_39 rfl ?_
        refine r_callVI (ci := 11) (pc := 40) h dX11_table_40 wm_X11_133 ca_X11_cosine rfl (c_X11_cosine E _ _ hv.2) rfl rfl (Nat.le_of_ble_eq_true rfl) (by decide) (by decide) (by decide) (by decide) (fun r I1 hq => ?_)
        obtain ⟨rfl, rfl⟩ := hq
        exact hr _ _ _ _ dX11_table_43 (rfl) (⟨by unfold R_table; rw [if_pos hv]; first | rw [if_pos (by assumption)] | rw [if_neg (by assumption)], rfl⟩)
      · refine r_aload_n (pc := 30) h dX11_table_30 rfl ?_
        refine r_iload_n (pc := 31) h dX11_table_31 rfl ?_
        refine r_callVI (ci := 11) (pc := 32) h dX11_table_32 wm_X11_123 ca_X11_sine rfl (c_X11_sine E _ _ hv.2) rfl rfl (Nat.le_of_ble_eq_true rfl) (by decide) (by decide) (by decide) (by decide) (fun r I1 hq => ?_)
        obtain ⟨rfl, rfl⟩ := hq
        refine r_goto (pc := 35) h 43 dX11_table_35 (by decide) ?_
        exact hr _ _ _ _ dX11_table_43 (rfl) (⟨by unfold R_table; rw [if_pos hv]; first | rw [if_pos (by assumption)] | rw [if_neg (by assumption)], rfl⟩)
    · refine r_sipush (v := -10001) (pc := 22) h dX11_table_22 (by decide) ?_
      exact hr _ _ _ _ dX11_table_25 (rfl) (⟨by unfold R_table; rw [if_neg (by (try simp only [b2i_eq0, Int32.reduceToInt, Int64.reduceToInt, Int32.toInt_toInt64] at *); omega)], rfl⟩)
set_option maxRecDepth 100000 in
set_option maxHeartbeats 4000000 in
theorem c_X10_table (E : En) (I : Mem) (w : Int32) (d : Int32)  : Ctr E yX10_table cX10_table 3 (some .int) 3 [.ref (E.1 0), .int w, .int d] I (qI (fun (r : Int32) (I1 : Mem) => r = F_table I w d ∧ I = I1)) := by
  refine Ctr.openI (by decide) (Nat.le_of_ble_eq_true rfl) (fun g h hr => ?_)
  have h : Sem cX10_table RX10 3 (rmL 3) E g := h
  show g I 0 [(0, .ref (E.1 0)), (1, .int w), (2, .int d)] []
  refine r_iload_n (pc := 0) h dX10_table_0 rfl ?_
  refine r_iconst (v := 0) (pc := 1) h dX10_table_1 (by decide) ?_
  refine r_iconst (v := 1) (pc := 2) h dX10_table_2 (by decide) ?_
  refine r_callSI (pc := 3) h dX10_table_3 wm_X10_118 ca_X10_within (c_X10_within E _ _ _ _) rfl rfl (Nat.le_of_ble_eq_true rfl) (by decide) (fun r I1 hq => ?_)
  obtain ⟨rfl, rfl⟩ := hq
  refine r_if_eq (pc := 6) h 16 dX10_table_6 (by decide) (fun c6 => ?_) (fun c6 => ?_)
  · refine r_sipush (v := -10001) (pc := 16) h dX10_table_16 (by decide) ?_
    exact hr _ _ _ _ dX10_table_19 (rfl) (⟨by unfold F_table; rw [if_neg (by (try simp only [b2i_eq0, Int32.reduceToInt, Int64.reduceToInt, Int32.toInt_toInt64] at *); omega)], rfl⟩)
  · refine r_iload_n (pc := 9) h dX10_table_9 rfl ?_
    refine r_callSI (pc := 10) h dX10_table_10 wm_X10_164 ca_X10_isDirection (c_X10_isDirection E _ _) rfl rfl (Nat.le_of_ble_eq_true rfl) (by decide) (fun r I1 hq => ?_)
    obtain ⟨rfl, rfl⟩ := hq
    refine r_if_ne (pc := 13) h 20 dX10_table_13 (by decide) (fun c13 => ?_) (fun c13 => ?_)
    · have hv : (0 ≤ w.toInt ∧ w.toInt ≤ 1) ∧ (0 ≤ d.toInt ∧ d.toInt ≤ 359) := by (try simp only [b2i_eq0, Int32.reduceToInt, Int64.reduceToInt, Int32.toInt_toInt64] at *); omega
      have e90 : (90 : Int32).toInt = 90 := by decide
      refine r_aload_n (pc := 20) h dX10_table_20 rfl ?_
      refine gf_X10_13 (pc := 21) h dX10_table_21 ?_
      refine r_iload_n (pc := 24) h dX10_table_24 rfl ?_
      refine r_if_ne (pc := 25) h 32 dX10_table_25 (by decide) (fun c25 => ?_) (fun c25 => ?_)
      · refine r_iload_n (pc := 32) h dX10_table_32 rfl ?_
        refine r_bipush (v := 90) (pc := 33) h dX10_table_33 (by decide) ?_
        refine r_iadd (pc := 35) h dX10_table_35 ?_
        refine r_iald (pc := 36) h dX10_table_36 (by decide) (by decide) (vin (n := 450) (by first | omega | (rw [tI_add (by omega) (by omega)]; omega)) (by first | omega | (rw [tI_add (by omega) (by omega)]; omega))) ?_
        exact hr _ _ _ _ dX10_table_37 (rfl) (⟨by unfold F_table; rw [if_pos hv]; first | rw [if_pos (by assumption)] | rw [if_neg (by assumption)], rfl⟩)
      · refine r_iload_n (pc := 28) h dX10_table_28 rfl ?_
        refine r_goto (pc := 29) h 36 dX10_table_29 (by decide) ?_
        refine r_iald (pc := 36) h dX10_table_36 (by decide) (by decide) (vin (n := 450) (by first | omega | (rw [tI_add (by omega) (by omega)]; omega)) (by first | omega | (rw [tI_add (by omega) (by omega)]; omega))) ?_
        exact hr _ _ _ _ dX10_table_37 (rfl) (⟨by unfold F_table; rw [if_pos hv]; first | rw [if_pos (by assumption)] | rw [if_neg (by assumption)], rfl⟩)
    · refine r_sipush (v := -10001) (pc := 16) h dX10_table_16 (by decide) ?_
      exact hr _ _ _ _ dX10_table_19 (rfl) (⟨by unfold F_table; rw [if_neg (by (try simp only [b2i_eq0, Int32.reduceToInt, Int64.reduceToInt, Int32.toInt_toInt64] at *); omega)], rfl⟩)
set_option maxRecDepth 100000 in
set_option maxHeartbeats 4000000 in
theorem c_X9_turnBy (E : En) (I : Mem) (n : Nat) (dg : Int32) (hn : n < 8) : Ctr E yX9_turnBy cX9_turnBy 3 none 2 [.ref (E.1 (59 + 3 * n)), .int dg] I (qV (fun I1 : Mem => I1 = rowQ I (59 + 3 * n + 2) 0 (turnF I (59 + 3 * n + 2) dg) 4)) := by
  refine Ctr.openV (by decide) (Nat.le_of_ble_eq_true rfl) (fun g h hr => ?_)
  have h : Sem cX9_turnBy RX9 3 (rmL 2) E g := h
  show g I 0 [(0, .ref (E.1 (59 + 3 * n))), (1, .int dg)] []
  refine r_iconst (v := 0) (pc := 0) h dX9_turnBy_0 (by decide) ?_
  refine r_istore_n (pc := 1) h dX9_turnBy_1 (by decide) ?_
  have loop2 : ∀ (m i : Nat), i ≤ 4 → 5 ≤ i + m → g (rowQ I (59 + 3 * n + 2) 0 (turnF I (59 + 3 * n + 2) dg) i) 2 [(0, .ref (E.1 (59 + 3 * n))), (1, .int dg), (2, .int (nI i))] [] := by
    intro m
    induction m with
    | zero =>
      intro i h1 h2
      omega
    | succ m ih =>
      intro i hi him
      have ei := nI_tI (i := i) (by omega)
      refine r_iload_n (pc := 2) h dX9_turnBy_2 rfl ?_
      refine r_iconst (v := 4) (pc := 3) h dX9_turnBy_3 (by decide) ?_
      refine r_icmp_ge (pc := 4) h 33 dX9_turnBy_4 (by decide) (fun c4 => ?_) (fun c4 => ?_)
      · have e44 : (4 : Int32).toInt = 4 := by decide
        have h4 : i = 4 := by rw [Int32.le_iff_toInt_le, ei, e44] at c4; omega
        exact hr _ _ _ dX9_turnBy_33 (by rw [h4])
      · have e44 : (4 : Int32).toInt = 4 := by decide
        have h4 : i < 4 := by rw [Int32.le_iff_toInt_le, ei, e44] at c4; omega
        refine r_aload_n (pc := 7) h dX9_turnBy_7 rfl ?_
        refine gf_X9_15 (pc := 8) h dX9_turnBy_8 (by omega) (kdWi _ hn) (rfWt _ hn) ?_
        refine r_iload_n (pc := 11) h dX9_turnBy_11 rfl ?_
        refine r_aload_n (pc := 12) h dX9_turnBy_12 rfl ?_
        refine gf_X9_15 (pc := 13) h dX9_turnBy_13 (by omega) (kdWi _ hn) (rfWt _ hn) ?_
        refine r_iload_n (pc := 16) h dX9_turnBy_16 rfl ?_
        refine r_iald (pc := 17) h dX9_turnBy_17 (by omega) (kdWt _ hn) (by rw [lnWt _ hn]; exact vinI h4 (by omega)) ?_
        refine r_iload_n (pc := 18) h dX9_turnBy_18 rfl ?_
        refine r_iadd (pc := 19) h dX9_turnBy_19 ?_
        refine r_sipush (v := 360) (pc := 20) h dX9_turnBy_20 (by decide) ?_
        refine r_callSI (pc := 23) h dX9_turnBy_23 wm_X9_18 ca_J9_floorMod_7cf53 (c_J9_floorMod_7cf53 E _ _ _ (by decide)) rfl rfl (Nat.le_of_ble_eq_true rfl) (by decide) (fun r I1 hq => ?_)
        obtain ⟨rfl, rfl⟩ := hq
        refine r_iast (pc := 26) h dX9_turnBy_26 (by omega) (kdWt _ hn) (by rw [lnWt _ hn]; exact vinI h4 (by omega)) ?_
        refine r_iinc (v := 1) (pc := 27) h dX9_turnBy_27 rfl (by decide) (by decide) ?_
        refine r_goto (pc := 30) h 2 dX9_turnBy_30 (by decide) ?_
        rw [← nI_succ]
        rw [show upm (rowQ I (59 + 3 * n + 2) 0 (turnF I (59 + 3 * n + 2) dg) i) (59 + 3 * n + 2) (nI i).toNatClampNeg (fmI ((rowQ I (59 + 3 * n + 2) 0 (turnF I (59 + 3 * n + 2) dg) i) (59 + 3 * n + 2) (nI i).toNatClampNeg + dg) 360) = rowQ I (59 + 3 * n + 2) 0 (turnF I (59 + 3 * n + 2) dg) (i + 1) by
          rw [nI_tn (by omega), rowQ_out _ _ _ (by omega), ← rowQ_step, Nat.zero_add]
          rfl]
        exact r_at h [(0, .ref (E.1 (59 + 3 * n))), (1, .int dg), (2, .int (nI (i + 1)))] ⟨rfl, rfl, rfl, trivial⟩ (ih (i + 1) (by omega) (by omega))
  have h0 := loop2 5 0 (by omega) (by omega)
  rw [rowQ_0] at h0
  exact r_at h [(0, .ref (E.1 (59 + 3 * n))), (1, .int dg), (2, .int (nI 0))] ⟨rfl, rfl, rfl, trivial⟩ h0
