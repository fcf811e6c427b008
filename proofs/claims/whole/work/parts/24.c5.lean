/-! swing of both -/
set_option maxRecDepth 100000 in
set_option maxHeartbeats 4000000 in
theorem c_X10_swing (E : En) (I : Mem) (w : Int32) (dg : Int32) (hc : 0 ≤ (I 0 4).toInt ∧ (I 0 4).toInt ≤ 8) : Ctr E yX10_swing cX10_swing 3 (some .int) 3 [.ref (E.1 0), .int w, .int dg] I (qI (fun (r : Int32) (I1 : Mem) => r = (F_swing I w dg).1 ∧ (F_swing I w dg).2 = I1)) := by
  refine Ctr.openI (by decide) (Nat.le_of_ble_eq_true rfl) (fun g h hr => ?_)
  have h : Sem cX10_swing RX10 3 (rmL 3) E g := h
  show g I 0 [(0, .ref (E.1 0)), (1, .int w), (2, .int dg)] []
  have ec : (I 0 4 - 1).toInt = (I 0 4).toInt - 1 := tI_sub1 (by omega)
  refine r_aload_n (pc := 0) h dX10_swing_0 rfl ?_
  refine r_iload_n (pc := 1) h dX10_swing_1 rfl ?_
  refine r_callVI (ci := 10) (pc := 2) h dX10_swing_2 wm_X10_161 ca_X10_isWind rfl (c_X10_isWind E _ _) rfl rfl (Nat.le_of_ble_eq_true rfl) (by decide) (by decide) (by decide) (by decide) (fun r I1 hq => ?_)
  obtain ⟨rfl, rfl⟩ := hq
  refine r_if_eq (pc := 5) h 21 dX10_swing_5 (by decide) (fun c5 => ?_) (fun c5 => ?_)
  · refine r_iconst (v := -1) (pc := 21) h dX10_swing_21 (by decide) ?_
    exact hr _ _ _ _ dX10_swing_22 (rfl) (by unfold F_swing; rw [if_neg (by (try simp only [b2i_eq0, Int32.reduceToInt, Int64.reduceToInt, Int32.toInt_toInt64] at *); omega)]; exact ⟨rfl, rfl⟩)
  · refine r_iload_n (pc := 8) h dX10_swing_8 rfl ?_
    refine r_sipush (v := -359) (pc := 9) h dX10_swing_9 (by decide) ?_
    refine r_sipush (v := 359) (pc := 12) h dX10_swing_12 (by decide) ?_
    refine r_callSI (pc := 15) h dX10_swing_15 wm_X10_118 ca_X10_within (c_X10_within E _ _ _ _) rfl rfl (Nat.le_of_ble_eq_true rfl) (by decide) (fun r I1 hq => ?_)
    obtain ⟨rfl, rfl⟩ := hq
    refine r_if_ne (pc := 18) h 23 dX10_swing_18 (by decide) (fun c18 => ?_) (fun c18 => ?_)
    · have hs : 0 ≤ w.toInt ∧ w.toInt < (I 0 4).toInt := by (try simp only [b2i_eq0, Int32.reduceToInt, Int64.reduceToInt, Int32.toInt_toInt64] at *); omega
      have hn : w.toNatClampNeg < 8 := by rw [tn]; omega
      refine r_aload_n (pc := 23) h dX10_swing_23 rfl ?_
      refine gf_X10_29 (pc := 24) h dX10_swing_24 ?_
      refine r_iload_n (pc := 27) h dX10_swing_27 rfl ?_
      refine r_aa3 (pc := 28) h dX10_swing_28 (vin (n := 8) (by omega) (by omega)) ?_
      refine r_iload_n (pc := 29) h dX10_swing_29 rfl ?_
      refine r_callVV (ci := 9) (pc := 30) h dX10_swing_30 wm_X10_173 ca_X9_turnBy rfl (c_X9_turnBy E _ _ _ hn) rfl rfl (Nat.le_of_ble_eq_true rfl) (by decide) (by decide) (by omega) (kdWi _ hn) (fun I1 hq => ?_)
      subst hq
      refine r_iconst (v := 1) (pc := 33) h dX10_swing_33 (by decide) ?_
      exact hr _ _ _ _ dX10_swing_34 (rfl) (by unfold F_swing; rw [if_pos (by (try simp only [b2i_eq0, Int32.reduceToInt, Int64.reduceToInt, Int32.toInt_toInt64] at *); omega)]; exact ⟨rfl, rfl⟩)
    · refine r_iconst (v := -1) (pc := 21) h dX10_swing_21 (by decide) ?_
      exact hr _ _ _ _ dX10_swing_22 (rfl) (by unfold F_swing; rw [if_neg (by (try simp only [b2i_eq0, Int32.reduceToInt, Int64.reduceToInt, Int32.toInt_toInt64] at *); omega)]; exact ⟨rfl, rfl⟩)
set_option maxRecDepth 100000 in
set_option maxHeartbeats 4000000 in
theorem c_X11_swing (E : En) (I : Mem) (w : Int32) (dg : Int32) (hc : 0 ≤ (I 151 10).toInt ∧ (I 151 10).toInt ≤ 8) : Ctr E yX11_swing cX11_swing 4 (some .int) 2 [.ref (E.1 151), .int w, .int dg] I (qI (fun (r : Int32) (I1 : Mem) => r = (R_swing I w dg).1 ∧ (R_swing I w dg).2 = I1)) := by
  refine Ctr.openI (by decide) (Nat.le_of_ble_eq_true rfl) (fun g h hr => ?_)
  have h : Sem cX11_swing RX11 4 (rmL 2) E g := h
  show g I 0 [(0, .ref (E.1 151)), (1, .int w), (2, .int dg)] []
  have ec : (I 151 10 - 1).toInt = (I 151 10).toInt - 1 := tI_sub1 (by omega)
  refine r_iload_n (pc := 0) h dX11_swing_0 rfl ?_
  refine r_i2l (pc := 1) h dX11_swing_1 ?_
  refine r_lconst (v := 0) (pc := 2) h dX11_swing_2 (by decide) ?_
  refine r_aload_n (pc := 3) h dX11_swing_3 rfl ?_
  refine gf_X11_165 (pc := 4) h dX11_swing_4 ?_
  refine r_iconst (v := 1) (pc := 7) h dX11_swing_7 (by decide) ?_
  refine r_isub (pc := 8) h dX11_swing_8 ?_
  refine r_i2l (pc := 9) h dX11_swing_9 ?_
  refine r_callSI (pc := 10) h dX11_swing_10 wm_X11_127 ca_X11_in (c_X11_in E _ _ _ _) rfl rfl (Nat.le_of_ble_eq_true rfl) (by decide) (fun r I1 hq => ?_)
  obtain ⟨rfl, rfl⟩ := hq
  refine r_if_eq (pc := 13) h 30 dX11_swing_13 (by decide) (fun c13 => ?_) (fun c13 => ?_)
  · refine r_iconst (v := -1) (pc := 30) h dX11_swing_30 (by decide) ?_
    exact hr _ _ _ _ dX11_swing_31 (rfl) (by unfold R_swing; rw [if_neg (by (try simp only [b2i_eq0, Int32.reduceToInt, Int64.reduceToInt, Int32.toInt_toInt64] at *); omega)]; exact ⟨rfl, rfl⟩)
  · refine r_iload_n (pc := 16) h dX11_swing_16 rfl ?_
    refine r_i2l (pc := 17) h dX11_swing_17 ?_
    refine r_ldc2 (pc := 18) h dX11_swing_18 wc_X11_170 ?_
    refine r_ldc2 (pc := 21) h dX11_swing_21 wc_X11_131 ?_
    refine r_callSI (pc := 24) h dX11_swing_24 wm_X11_127 ca_X11_in (c_X11_in E _ _ _ _) rfl rfl (Nat.le_of_ble_eq_true rfl) (by decide) (fun r I1 hq => ?_)
    obtain ⟨rfl, rfl⟩ := hq
    refine r_if_ne (pc := 27) h 32 dX11_swing_27 (by decide) (fun c27 => ?_) (fun c27 => ?_)
    · have hs : 0 ≤ w.toInt ∧ w.toInt < (I 151 10).toInt := by (try simp only [b2i_eq0, Int32.reduceToInt, Int64.reduceToInt, Int32.toInt_toInt64] at *); omega
      have hg9 : -359 ≤ dg.toInt ∧ dg.toInt ≤ 359 := by (try simp only [b2i_eq0, Int32.reduceToInt, Int64.reduceToInt, Int32.toInt_toInt64] at *); omega
      have e44 : (4 : Int32).toInt = 4 := by decide
      refine r_iconst (v := 0) (pc := 32) h dX11_swing_32 (by decide) ?_
      refine r_istore_n (pc := 33) h dX11_swing_33 (by decide) ?_
      have loop34 : ∀ (m i : Nat), i ≤ 4 → 4 + 1 ≤ i + m → g (rowQ I 162 (4 * w.toNatClampNeg) (swgF I (4 * w.toNatClampNeg) dg) i) 34 [(0, .ref (E.1 151)), (1, .int w), (2, .int dg), (3, .int (nI i))] [] := by
        intro m
        induction m with
        | zero =>
          intro i h1 h2
          omega
        | succ m ih =>
          intro i hi him
          have ei := nI_tI (i := i) (by omega)
          refine r_iload_n (pc := 34) h dX11_swing_34 rfl ?_
          refine r_iconst (v := 4) (pc := 35) h dX11_swing_35 (by decide) ?_
          refine r_icmp_ge (pc := 36) h 75 dX11_swing_36 (by decide) (fun c36 => ?_) (fun c36 => ?_)
          · have h4 : i = 4 := by rw [Int32.le_iff_toInt_le, ei, e44] at c36; omega
            refine r_iconst (v := 1) (pc := 75) h dX11_swing_75 (by decide) ?_
            exact hr _ _ _ _ dX11_swing_76 (rfl) (by unfold R_swing; rw [if_pos ⟨hs, hg9⟩, h4]; exact ⟨rfl, rfl⟩)
          · have h4 : i < 4 := by rw [Int32.le_iff_toInt_le, ei, e44] at c36; omega
            refine r_aload_n (pc := 39) h dX11_swing_39 rfl ?_
            refine gf_X11_41 (pc := 40) h dX11_swing_40 ?_
            refine r_iconst (v := 4) (pc := 43) h dX11_swing_43 (by decide) ?_
            refine r_iload_n (pc := 44) h dX11_swing_44 rfl ?_
            refine r_imul (pc := 45) h dX11_swing_45 ?_
            refine r_iload_n (pc := 46) h dX11_swing_46 rfl ?_
            refine r_iadd (pc := 47) h dX11_swing_47 ?_
            refine r_aload_n (pc := 48) h dX11_swing_48 rfl ?_
            refine gf_X11_41 (pc := 49) h dX11_swing_49 ?_
            refine r_iconst (v := 4) (pc := 52) h dX11_swing_52 (by decide) ?_
            refine r_iload_n (pc := 53) h dX11_swing_53 rfl ?_
            refine r_imul (pc := 54) h dX11_swing_54 ?_
            refine r_iload_n (pc := 55) h dX11_swing_55 rfl ?_
            refine r_iadd (pc := 56) h dX11_swing_56 ?_
            refine r_iald (pc := 57) h dX11_swing_57 (by decide) (by decide) (vin (n := 32) (by rw [(m4n hs.1 (by omega) h4).1]; omega) (by rw [(m4n hs.1 (by omega) h4).1]; omega)) ?_
            refine r_iload_n (pc := 58) h dX11_swing_58 rfl ?_
            refine r_iadd (pc := 59) h dX11_swing_59 ?_
            refine r_sipush (v := 360) (pc := 60) h dX11_swing_60 (by decide) ?_
            refine r_iadd (pc := 63) h dX11_swing_63 ?_
            refine r_sipush (v := 360) (pc := 64) h dX11_swing_64 (by decide) ?_
            refine r_irem (pc := 67) h dX11_swing_67 (by decide) ?_
            refine r_iast (pc := 68) h dX11_swing_68 (by decide) (by decide) (vin (n := 32) (by rw [(m4n hs.1 (by omega) h4).1]; omega) (by rw [(m4n hs.1 (by omega) h4).1]; omega)) ?_
            refine r_iinc (v := 1) (pc := 69) h dX11_swing_69 rfl (by decide) (by decide) ?_
            refine r_goto (pc := 72) h 34 dX11_swing_72 (by decide) ?_
            rw [← nI_succ]
            rw [show upm (rowQ I 162 (4 * w.toNatClampNeg) (swgF I (4 * w.toNatClampNeg) dg) i) 162 (4 * w + nI i).toNatClampNeg _ = (rowQ I 162 (4 * w.toNatClampNeg) (swgF I (4 * w.toNatClampNeg) dg) (i + 1)) by
              rw [(m4n hs.1 (by omega) h4).2, rowQ_out _ _ _ (by omega), ← rowQ_step]
              rfl]
            exact r_at h [(0, .ref (E.1 151)), (1, .int w), (2, .int dg), (3, .int (nI (i + 1)))] ⟨rfl, rfl, rfl, rfl, trivial⟩ (ih (i + 1) (by omega) (by omega))
      have h0 := loop34 5 0 (by omega) (by omega)
      rw [rowQ_0] at h0
      exact r_at h [(0, .ref (E.1 151)), (1, .int w), (2, .int dg), (3, .int (nI 0))] ⟨rfl, rfl, rfl, rfl, trivial⟩ h0
    · refine r_iconst (v := -1) (pc := 30) h dX11_swing_30 (by decide) ?_
      exact hr _ _ _ _ dX11_swing_31 (rfl) (by unfold R_swing; rw [if_neg (by (try simp only [b2i_eq0, Int32.reduceToInt, Int64.reduceToInt, Int32.toInt_toInt64] at *); omega)]; exact ⟨rfl, rfl⟩)
