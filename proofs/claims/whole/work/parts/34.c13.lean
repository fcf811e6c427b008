/-! THE GRASS of both (patch, grass, search); unrow; sheets: has, faultOf -/
def F_patch (I : Mem) (p w k : Int32) : Int32 × Mem := if (0 ≤ p.toInt ∧ p.toInt ≤ 24) ∧ (0 ≤ w.toInt ∧ w.toInt ≤ 1000) ∧ (1 ≤ k.toInt ∧ k.toInt ≤ 9) then (I 38 p.toNatClampNeg, upm (upm I 38 p.toNatClampNeg w) 39 p.toNatClampNeg k) else (-1, I)
def R_patch (I : Mem) (p w k : Int32) : Int32 × Mem := if (0 ≤ p.toInt ∧ p.toInt ≤ 24) ∧ (0 ≤ w.toInt ∧ w.toInt ≤ 1000) ∧ (1 ≤ k.toInt ∧ k.toInt ≤ 9) then (I 178 p.toNatClampNeg, upm (upm I 178 p.toNatClampNeg w) 179 p.toNatClampNeg k) else (-1, I)
def F_grass (I : Mem) (p w : Int32) : Int32 := if (0 ≤ p.toInt ∧ p.toInt ≤ 24) ∧ (0 ≤ w.toInt ∧ w.toInt ≤ 1) then (if w = 0 then I 38 p.toNatClampNeg else I 39 p.toNatClampNeg) else -1
def R_grass (I : Mem) (p w : Int32) : Int32 := if (0 ≤ p.toInt ∧ p.toInt ≤ 24) ∧ (0 ≤ w.toInt ∧ w.toInt ≤ 1) then (if w = 0 then I 178 p.toNatClampNeg else I 179 p.toNatClampNeg) else -1
def F_search (I : Mem) (p : Int32) : Int32 × Mem := if (0 ≤ p.toInt ∧ p.toInt ≤ 24) then ((10 - I 39 p.toNatClampNeg) * I 38 p.toNatClampNeg / 10, upm I 38 p.toNatClampNeg ((10 - I 39 p.toNatClampNeg) * I 38 p.toNatClampNeg / 10)) else (-1, I)
def R_search (I : Mem) (p : Int32) : Int32 × Mem := if (0 ≤ p.toInt ∧ p.toInt ≤ 24) then ((10 - I 179 p.toNatClampNeg) * I 178 p.toNatClampNeg / 10, upm I 178 p.toNatClampNeg ((10 - I 179 p.toNatClampNeg) * I 178 p.toNatClampNeg / 10)) else (-1, I)
def F_unrow (I : Mem) : Int32 × Mem := if I 0 16 = 0 then (-2, I) else (I 0 16 - 1, upm I 0 16 (I 0 16 - 1))
def R_unrow (I : Mem) : Int32 × Mem := if I 151 42 = 0 then (-2, I) else (I 151 42 - 1, upm I 151 42 (I 151 42 - 1))
/-- whether n items from i on are there, of so many -/
abbrev hasP (sz i n : Int32) : Prop := 0 ≤ n.toInt ∧ n.toInt ≤ sz.toInt ∧ 0 ≤ i.toInt ∧ i.toInt ≤ sz.toInt - n.toInt
def F_fault (I : Mem) (s l : Int32) : Int32 := if (0 ≤ s.toInt ∧ s.toInt ≤ 3) ∧ (0 ≤ l.toInt ∧ l.toInt ≤ 2) then (if I (143 + 2 * s.toNatClampNeg) 0 = -1 then -11 else if I (143 + 2 * s.toNatClampNeg) 0 = l then 0 else -12) else -1
set_option maxRecDepth 100000 in
set_option maxHeartbeats 4000000 in
theorem c_X10_patch (E : En) (I : Mem) (p : Int32) (w : Int32) (k : Int32)  : Ctr E yX10_patch cX10_patch 5 (some .int) 3 [.ref (E.1 0), .int p, .int w, .int k] I (qI (fun (r : Int32) (I1 : Mem) => r = (F_patch I p w k).1 ∧ (F_patch I p w k).2 = I1)) := by
  refine Ctr.openI (by decide) (Nat.le_of_ble_eq_true rfl) (fun g h hr => ?_)
  have h : Sem cX10_patch RX10 5 (rmL 3) E g := h
  show g I 0 [(0, .ref (E.1 0)), (1, .int p), (2, .int w), (3, .int k)] []
  refine r_iload_n (pc := 0) h dX10_patch_0 rfl ?_
  refine r_callSI (pc := 1) h dX10_patch_1 wm_X10_317 ca_X10_isPatch (c_X10_isPatch E _ _) rfl rfl (Nat.le_of_ble_eq_true rfl) (by decide) (fun r I1 hq => ?_)
  obtain ⟨rfl, rfl⟩ := hq
  refine r_if_eq (pc := 4) h 28 dX10_patch_4 (by decide) (fun c4 => ?_) (fun c4 => ?_)
  · refine r_iconst (v := -1) (pc := 28) h dX10_patch_28 (by decide) ?_
    exact hr _ _ _ _ dX10_patch_29 (rfl) (by unfold F_patch; rw [if_neg (by (try simp only [b2i_eq0] at *); (try simp only [Int32.reduceToInt, Int64.reduceToInt, Int32.toInt_toInt64] at *); omega)]; exact ⟨rfl, rfl⟩)
  · refine r_iload_n (pc := 7) h dX10_patch_7 rfl ?_
    refine r_iconst (v := 0) (pc := 8) h dX10_patch_8 (by decide) ?_
    refine r_sipush (v := 1000) (pc := 9) h dX10_patch_9 (by decide) ?_
    refine r_callSI (pc := 12) h dX10_patch_12 wm_X10_118 ca_X10_within (c_X10_within E _ _ _ _) rfl rfl (Nat.le_of_ble_eq_true rfl) (by decide) (fun r I1 hq => ?_)
    obtain ⟨rfl, rfl⟩ := hq
    refine r_if_eq (pc := 15) h 28 dX10_patch_15 (by decide) (fun c15 => ?_) (fun c15 => ?_)
    · refine r_iconst (v := -1) (pc := 28) h dX10_patch_28 (by decide) ?_
      exact hr _ _ _ _ dX10_patch_29 (rfl) (by unfold F_patch; rw [if_neg (by (try simp only [b2i_eq0] at *); (try simp only [Int32.reduceToInt, Int64.reduceToInt, Int32.toInt_toInt64] at *); omega)]; exact ⟨rfl, rfl⟩)
    · refine r_iload_n (pc := 18) h dX10_patch_18 rfl ?_
      refine r_iconst (v := 1) (pc := 19) h dX10_patch_19 (by decide) ?_
      refine r_bipush (v := 9) (pc := 20) h dX10_patch_20 (by decide) ?_
      refine r_callSI (pc := 22) h dX10_patch_22 wm_X10_118 ca_X10_within (c_X10_within E _ _ _ _) rfl rfl (Nat.le_of_ble_eq_true rfl) (by decide) (fun r I1 hq => ?_)
      obtain ⟨rfl, rfl⟩ := hq
      refine r_if_ne (pc := 25) h 30 dX10_patch_25 (by decide) (fun c25 => ?_) (fun c25 => ?_)
      · have hp : 0 ≤ p.toInt ∧ p.toInt ≤ 24 := by (try simp only [b2i_eq0] at *); (try simp only [Int32.reduceToInt, Int64.reduceToInt, Int32.toInt_toInt64] at *); omega
        refine r_aload_n (pc := 30) h dX10_patch_30 rfl ?_
        refine gf_X10_101 (pc := 31) h dX10_patch_31 ?_
        refine gf_X10_320 (pc := 34) h dX10_patch_34 ?_
        refine r_iload_n (pc := 37) h dX10_patch_37 rfl ?_
        refine r_iald (pc := 38) h dX10_patch_38 (by decide) (by decide) (vin (n := 25) (by omega) (by omega)) ?_
        refine r_istore (pc := 39) h dX10_patch_39 (by decide) ?_
        refine r_aload_n (pc := 41) h dX10_patch_41 rfl ?_
        refine gf_X10_101 (pc := 42) h dX10_patch_42 ?_
        refine gf_X10_320 (pc := 45) h dX10_patch_45 ?_
        refine r_iload_n (pc := 48) h dX10_patch_48 rfl ?_
        refine r_iload_n (pc := 49) h dX10_patch_49 rfl ?_
        refine r_iast (pc := 50) h dX10_patch_50 (by decide) (by decide) (vin (n := 25) (by omega) (by omega)) ?_
        refine r_aload_n (pc := 51) h dX10_patch_51 rfl ?_
        refine gf_X10_101 (pc := 52) h dX10_patch_52 ?_
        refine gf_X10_323 (pc := 55) h dX10_patch_55 ?_
        refine r_iload_n (pc := 58) h dX10_patch_58 rfl ?_
        refine r_iload_n (pc := 59) h dX10_patch_59 rfl ?_
        refine r_iast (pc := 60) h dX10_patch_60 (by decide) (by decide) (vin (n := 25) (by omega) (by omega)) ?_
        refine r_iload (pc := 61) h dX10_patch_61 rfl ?_
        exact hr _ _ _ _ dX10_patch_63 (rfl) (by unfold F_patch; rw [if_pos (by (try simp only [b2i_eq0] at *); (try simp only [Int32.reduceToInt, Int64.reduceToInt, Int32.toInt_toInt64] at *); omega)]; exact ⟨rfl, rfl⟩)
      · refine r_iconst (v := -1) (pc := 28) h dX10_patch_28 (by decide) ?_
        exact hr _ _ _ _ dX10_patch_29 (rfl) (by unfold F_patch; rw [if_neg (by (try simp only [b2i_eq0] at *); (try simp only [Int32.reduceToInt, Int64.reduceToInt, Int32.toInt_toInt64] at *); omega)]; exact ⟨rfl, rfl⟩)
set_option maxRecDepth 100000 in
set_option maxHeartbeats 4000000 in
theorem c_X11_patch (E : En) (I : Mem) (p : Int32) (w : Int32) (k : Int32)  : Ctr E yX11_patch cX11_patch 5 (some .int) 3 [.ref (E.1 151), .int p, .int w, .int k] I (qI (fun (r : Int32) (I1 : Mem) => r = (R_patch I p w k).1 ∧ (R_patch I p w k).2 = I1)) := by
  refine Ctr.openI (by decide) (Nat.le_of_ble_eq_true rfl) (fun g h hr => ?_)
  have h : Sem cX11_patch RX11 5 (rmL 3) E g := h
  show g I 0 [(0, .ref (E.1 151)), (1, .int p), (2, .int w), (3, .int k)] []
  refine r_iload_n (pc := 0) h dX11_patch_0 rfl ?_
  refine r_callSI (pc := 1) h dX11_patch_1 wm_X11_331 ca_X11_isPatch (c_X11_isPatch E _ _) rfl rfl (Nat.le_of_ble_eq_true rfl) (by decide) (fun r I1 hq => ?_)
  obtain ⟨rfl, rfl⟩ := hq
  refine r_if_eq (pc := 4) h 31 dX11_patch_4 (by decide) (fun c4 => ?_) (fun c4 => ?_)
  · refine r_iconst (v := -1) (pc := 31) h dX11_patch_31 (by decide) ?_
    exact hr _ _ _ _ dX11_patch_32 (rfl) (by unfold R_patch; rw [if_neg (by (try simp only [b2i_eq0] at *); (try simp only [Int32.reduceToInt, Int64.reduceToInt, Int32.toInt_toInt64] at *); omega)]; exact ⟨rfl, rfl⟩)
  · refine r_iload_n (pc := 7) h dX11_patch_7 rfl ?_
    refine r_i2l (pc := 8) h dX11_patch_8 ?_
    refine r_lconst (v := 0) (pc := 9) h dX11_patch_9 (by decide) ?_
    refine r_ldc2 (pc := 10) h dX11_patch_10 wc_X11_227 ?_
    refine r_callSI (pc := 13) h dX11_patch_13 wm_X11_127 ca_X11_in (c_X11_in E _ _ _ _) rfl rfl (Nat.le_of_ble_eq_true rfl) (by decide) (fun r I1 hq => ?_)
    obtain ⟨rfl, rfl⟩ := hq
    refine r_if_eq (pc := 16) h 31 dX11_patch_16 (by decide) (fun c16 => ?_) (fun c16 => ?_)
    · refine r_iconst (v := -1) (pc := 31) h dX11_patch_31 (by decide) ?_
      exact hr _ _ _ _ dX11_patch_32 (rfl) (by unfold R_patch; rw [if_neg (by (try simp only [b2i_eq0] at *); (try simp only [Int32.reduceToInt, Int64.reduceToInt, Int32.toInt_toInt64] at *); omega)]; exact ⟨rfl, rfl⟩)
    · refine r_iload_n (pc := 19) h dX11_patch_19 rfl ?_
      refine r_i2l (pc := 20) h dX11_patch_20 ?_
      refine r_lconst (v := 1) (pc := 21) h dX11_patch_21 (by decide) ?_
      refine r_ldc2 (pc := 22) h dX11_patch_22 wc_X11_163 ?_
      refine r_callSI (pc := 25) h dX11_patch_25 wm_X11_127 ca_X11_in (c_X11_in E _ _ _ _) rfl rfl (Nat.le_of_ble_eq_true rfl) (by decide) (fun r I1 hq => ?_)
      obtain ⟨rfl, rfl⟩ := hq
      refine r_if_ne (pc := 28) h 33 dX11_patch_28 (by decide) (fun c28 => ?_) (fun c28 => ?_)
      · have hp : 0 ≤ p.toInt ∧ p.toInt ≤ 24 := by (try simp only [b2i_eq0] at *); (try simp only [Int32.reduceToInt, Int64.reduceToInt, Int32.toInt_toInt64] at *); omega
        refine r_aload_n (pc := 33) h dX11_patch_33 rfl ?_
        refine gf_X11_105 (pc := 34) h dX11_patch_34 ?_
        refine r_iload_n (pc := 37) h dX11_patch_37 rfl ?_
        refine r_iald (pc := 38) h dX11_patch_38 (by decide) (by decide) (vin (n := 25) (by omega) (by omega)) ?_
        refine r_istore (pc := 39) h dX11_patch_39 (by decide) ?_
        refine r_aload_n (pc := 41) h dX11_patch_41 rfl ?_
        refine gf_X11_105 (pc := 42) h dX11_patch_42 ?_
        refine r_iload_n (pc := 45) h dX11_patch_45 rfl ?_
        refine r_iload_n (pc := 46) h dX11_patch_46 rfl ?_
        refine r_iast (pc := 47) h dX11_patch_47 (by decide) (by decide) (vin (n := 25) (by omega) (by omega)) ?_
        refine r_aload_n (pc := 48) h dX11_patch_48 rfl ?_
        refine gf_X11_108 (pc := 49) h dX11_patch_49 ?_
        refine r_iload_n (pc := 52) h dX11_patch_52 rfl ?_
        refine r_iload_n (pc := 53) h dX11_patch_53 rfl ?_
        refine r_iast (pc := 54) h dX11_patch_54 (by decide) (by decide) (vin (n := 25) (by omega) (by omega)) ?_
        refine r_iload (pc := 55) h dX11_patch_55 rfl ?_
        exact hr _ _ _ _ dX11_patch_57 (rfl) (by unfold R_patch; rw [if_pos (by (try simp only [b2i_eq0] at *); (try simp only [Int32.reduceToInt, Int64.reduceToInt, Int32.toInt_toInt64] at *); omega)]; exact ⟨rfl, rfl⟩)
      · refine r_iconst (v := -1) (pc := 31) h dX11_patch_31 (by decide) ?_
        exact hr _ _ _ _ dX11_patch_32 (rfl) (by unfold R_patch; rw [if_neg (by (try simp only [b2i_eq0] at *); (try simp only [Int32.reduceToInt, Int64.reduceToInt, Int32.toInt_toInt64] at *); omega)]; exact ⟨rfl, rfl⟩)
set_option maxRecDepth 100000 in
set_option maxHeartbeats 4000000 in
theorem c_X10_grass (E : En) (I : Mem) (p : Int32) (w : Int32)  : Ctr E yX10_grass cX10_grass 3 (some .int) 3 [.ref (E.1 0), .int p, .int w] I (qI (fun (r : Int32) (I1 : Mem) => r = F_grass I p w ∧ I = I1)) := by
  refine Ctr.openI (by decide) (Nat.le_of_ble_eq_true rfl) (fun g h hr => ?_)
  have h : Sem cX10_grass RX10 3 (rmL 3) E g := h
  show g I 0 [(0, .ref (E.1 0)), (1, .int p), (2, .int w)] []
  refine r_iload_n (pc := 0) h dX10_grass_0 rfl ?_
  refine r_callSI (pc := 1) h dX10_grass_1 wm_X10_317 ca_X10_isPatch (c_X10_isPatch E _ _) rfl rfl (Nat.le_of_ble_eq_true rfl) (by decide) (fun r I1 hq => ?_)
  obtain ⟨rfl, rfl⟩ := hq
  refine r_if_eq (pc := 4) h 16 dX10_grass_4 (by decide) (fun c4 => ?_) (fun c4 => ?_)
  · refine r_iconst (v := -1) (pc := 16) h dX10_grass_16 (by decide) ?_
    exact hr _ _ _ _ dX10_grass_17 (rfl) (⟨by unfold F_grass; rw [if_neg (by (try simp only [b2i_eq0] at *); (try simp only [Int32.reduceToInt, Int64.reduceToInt, Int32.toInt_toInt64] at *); omega)], rfl⟩)
  · refine r_iload_n (pc := 7) h dX10_grass_7 rfl ?_
    refine r_iconst (v := 0) (pc := 8) h dX10_grass_8 (by decide) ?_
    refine r_iconst (v := 1) (pc := 9) h dX10_grass_9 (by decide) ?_
    refine r_callSI (pc := 10) h dX10_grass_10 wm_X10_118 ca_X10_within (c_X10_within E _ _ _ _) rfl rfl (Nat.le_of_ble_eq_true rfl) (by decide) (fun r I1 hq => ?_)
    obtain ⟨rfl, rfl⟩ := hq
    refine r_if_ne (pc := 13) h 18 dX10_grass_13 (by decide) (fun c13 => ?_) (fun c13 => ?_)
    · have hv : (0 ≤ p.toInt ∧ p.toInt ≤ 24) ∧ (0 ≤ w.toInt ∧ w.toInt ≤ 1) := by (try simp only [b2i_eq0] at *); (try simp only [Int32.reduceToInt, Int64.reduceToInt, Int32.toInt_toInt64] at *); omega
      refine r_iload_n (pc := 18) h dX10_grass_18 rfl ?_
      refine r_if_ne (pc := 19) h 34 dX10_grass_19 (by decide) (fun c19 => ?_) (fun c19 => ?_)
      · refine r_aload_n (pc := 34) h dX10_grass_34 rfl ?_
        refine gf_X10_101 (pc := 35) h dX10_grass_35 ?_
        refine gf_X10_323 (pc := 38) h dX10_grass_38 ?_
        refine r_iload_n (pc := 41) h dX10_grass_41 rfl ?_
        refine r_iald (pc := 42) h dX10_grass_42 (by decide) (by decide) (vin (n := 25) (by omega) (by omega)) ?_
        exact hr _ _ _ _ dX10_grass_43 (rfl) (⟨by unfold F_grass; rw [if_pos hv]; first | rw [if_pos (by assumption)] | rw [if_neg (by assumption)], rfl⟩)
      · refine r_aload_n (pc := 22) h dX10_grass_22 rfl ?_
        refine gf_X10_101 (pc := 23) h dX10_grass_23 ?_
        refine gf_X10_320 (pc := 26) h dX10_grass_26 ?_
        refine r_iload_n (pc := 29) h dX10_grass_29 rfl ?_
        refine r_iald (pc := 30) h dX10_grass_30 (by decide) (by decide) (vin (n := 25) (by omega) (by omega)) ?_
        refine r_goto (pc := 31) h 43 dX10_grass_31 (by decide) ?_
        exact hr _ _ _ _ dX10_grass_43 (rfl) (⟨by unfold F_grass; rw [if_pos hv]; first | rw [if_pos (by assumption)] | rw [if_neg (by assumption)], rfl⟩)
    · refine r_iconst (v := -1) (pc := 16) h dX10_grass_16 (by decide) ?_
      exact hr _ _ _ _ dX10_grass_17 (rfl) (⟨by unfold F_grass; rw [if_neg (by (try simp only [b2i_eq0] at *); (try simp only [Int32.reduceToInt, Int64.reduceToInt, Int32.toInt_toInt64] at *); omega)], rfl⟩)
set_option maxRecDepth 100000 in
set_option maxHeartbeats 4000000 in
theorem c_X11_grass (E : En) (I : Mem) (p : Int32) (w : Int32)  : Ctr E yX11_grass cX11_grass 3 (some .int) 3 [.ref (E.1 151), .int p, .int w] I (qI (fun (r : Int32) (I1 : Mem) => r = R_grass I p w ∧ I = I1)) := by
  refine Ctr.openI (by decide) (Nat.le_of_ble_eq_true rfl) (fun g h hr => ?_)
  have h : Sem cX11_grass RX11 3 (rmL 3) E g := h
  show g I 0 [(0, .ref (E.1 151)), (1, .int p), (2, .int w)] []
  refine r_iload_n (pc := 0) h dX11_grass_0 rfl ?_
  refine r_callSI (pc := 1) h dX11_grass_1 wm_X11_331 ca_X11_isPatch (c_X11_isPatch E _ _) rfl rfl (Nat.le_of_ble_eq_true rfl) (by decide) (fun r I1 hq => ?_)
  obtain ⟨rfl, rfl⟩ := hq
  refine r_if_eq (pc := 4) h 17 dX11_grass_4 (by decide) (fun c4 => ?_) (fun c4 => ?_)
  · refine r_iconst (v := -1) (pc := 17) h dX11_grass_17 (by decide) ?_
    exact hr _ _ _ _ dX11_grass_18 (rfl) (⟨by unfold R_grass; rw [if_neg (by (try simp only [b2i_eq0] at *); (try simp only [Int32.reduceToInt, Int64.reduceToInt, Int32.toInt_toInt64] at *); omega)], rfl⟩)
  · refine r_iload_n (pc := 7) h dX11_grass_7 rfl ?_
    refine r_i2l (pc := 8) h dX11_grass_8 ?_
    refine r_lconst (v := 0) (pc := 9) h dX11_grass_9 (by decide) ?_
    refine r_lconst (v := 1) (pc := 10) h dX11_grass_10 (by decide) ?_
    refine r_callSI (pc := 11) h dX11_grass_11 wm_X11_127 ca_X11_in (c_X11_in E _ _ _ _) rfl rfl (Nat.le_of_ble_eq_true rfl) (by decide) (fun r I1 hq => ?_)
    obtain ⟨rfl, rfl⟩ := hq
    refine r_if_ne (pc := 14) h 19 dX11_grass_14 (by decide) (fun c14 => ?_) (fun c14 => ?_)
    · have hv : (0 ≤ p.toInt ∧ p.toInt ≤ 24) ∧ (0 ≤ w.toInt ∧ w.toInt ≤ 1) := by (try simp only [b2i_eq0] at *); (try simp only [Int32.reduceToInt, Int64.reduceToInt, Int32.toInt_toInt64] at *); omega
      refine r_iload_n (pc := 19) h dX11_grass_19 rfl ?_
      refine r_if_ne (pc := 20) h 32 dX11_grass_20 (by decide) (fun c20 => ?_) (fun c20 => ?_)
      · refine r_aload_n (pc := 32) h dX11_grass_32 rfl ?_
        refine gf_X11_108 (pc := 33) h dX11_grass_33 ?_
        refine r_iload_n (pc := 36) h dX11_grass_36 rfl ?_
        refine r_iald (pc := 37) h dX11_grass_37 (by decide) (by decide) (vin (n := 25) (by omega) (by omega)) ?_
        exact hr _ _ _ _ dX11_grass_38 (rfl) (⟨by unfold R_grass; rw [if_pos hv]; first | rw [if_pos (by assumption)] | rw [if_neg (by assumption)], rfl⟩)
      · refine r_aload_n (pc := 23) h dX11_grass_23 rfl ?_
        refine gf_X11_105 (pc := 24) h dX11_grass_24 ?_
        refine r_iload_n (pc := 27) h dX11_grass_27 rfl ?_
        refine r_iald (pc := 28) h dX11_grass_28 (by decide) (by decide) (vin (n := 25) (by omega) (by omega)) ?_
        refine r_goto (pc := 29) h 38 dX11_grass_29 (by decide) ?_
        exact hr _ _ _ _ dX11_grass_38 (rfl) (⟨by unfold R_grass; rw [if_pos hv]; first | rw [if_pos (by assumption)] | rw [if_neg (by assumption)], rfl⟩)
    · refine r_iconst (v := -1) (pc := 17) h dX11_grass_17 (by decide) ?_
      exact hr _ _ _ _ dX11_grass_18 (rfl) (⟨by unfold R_grass; rw [if_neg (by (try simp only [b2i_eq0] at *); (try simp only [Int32.reduceToInt, Int64.reduceToInt, Int32.toInt_toInt64] at *); omega)], rfl⟩)
set_option maxRecDepth 100000 in
set_option maxHeartbeats 4000000 in
theorem c_X2_lighten (E : En) (I : Mem) (p : Int32) (hp : 0 ≤ p.toInt ∧ p.toInt ≤ 24) : Ctr E yX2_lighten cX2_lighten 2 (some .int) 1 [.ref (E.1 37), .int p] I (qI (fun (r : Int32) (I1 : Mem) => r = (F_search I p).1 ∧ (F_search I p).2 = I1)) := by
  refine Ctr.openI (by decide) (Nat.le_of_ble_eq_true rfl) (fun g h hr => ?_)
  have h : Sem cX2_lighten RX2 2 (rmL 1) E g := h
  show g I 0 [(0, .ref (E.1 37)), (1, .int p)] []
  refine r_aload_n (pc := 0) h dX2_lighten_0 rfl ?_
  refine gf_X2_11 (pc := 1) h dX2_lighten_1 ?_
  refine r_iload_n (pc := 4) h dX2_lighten_4 rfl ?_
  refine r_bipush (v := 10) (pc := 5) h dX2_lighten_5 (by decide) ?_
  refine r_aload_n (pc := 7) h dX2_lighten_7 rfl ?_
  refine gf_X2_15 (pc := 8) h dX2_lighten_8 ?_
  refine r_iload_n (pc := 11) h dX2_lighten_11 rfl ?_
  refine r_iald (pc := 12) h dX2_lighten_12 (by decide) (by decide) (vin (n := 25) (by omega) (by omega)) ?_
  refine r_isub (pc := 13) h dX2_lighten_13 ?_
  refine r_aload_n (pc := 14) h dX2_lighten_14 rfl ?_
  refine gf_X2_11 (pc := 15) h dX2_lighten_15 ?_
  refine r_iload_n (pc := 18) h dX2_lighten_18 rfl ?_
  refine r_iald (pc := 19) h dX2_lighten_19 (by decide) (by decide) (vin (n := 25) (by omega) (by omega)) ?_
  refine r_imul (pc := 20) h dX2_lighten_20 ?_
  refine r_bipush (v := 10) (pc := 21) h dX2_lighten_21 (by decide) ?_
  refine r_idiv (pc := 23) h dX2_lighten_23 (by decide) ?_
  refine r_iast (pc := 24) h dX2_lighten_24 (by decide) (by decide) (vin (n := 25) (by omega) (by omega)) ?_
  refine r_aload_n (pc := 25) h dX2_lighten_25 rfl ?_
  refine gf_X2_11 (pc := 26) h dX2_lighten_26 ?_
  refine r_iload_n (pc := 29) h dX2_lighten_29 rfl ?_
  refine r_iald (pc := 30) h dX2_lighten_30 (by decide) (by decide) (vin (n := 25) (by omega) (by omega)) ?_
  exact hr _ _ _ _ dX2_lighten_31 (rfl) (by unfold F_search; rw [if_pos hp, upm_eq]; exact ⟨rfl, rfl⟩)
set_option maxRecDepth 100000 in
set_option maxHeartbeats 4000000 in
theorem c_X10_search (E : En) (I : Mem) (p : Int32)  : Ctr E yX10_search cX10_search 2 (some .int) 3 [.ref (E.1 0), .int p] I (qI (fun (r : Int32) (I1 : Mem) => r = (F_search I p).1 ∧ (F_search I p).2 = I1)) := by
  refine Ctr.openI (by decide) (Nat.le_of_ble_eq_true rfl) (fun g h hr => ?_)
  have h : Sem cX10_search RX10 2 (rmL 3) E g := h
  show g I 0 [(0, .ref (E.1 0)), (1, .int p)] []
  refine r_iload_n (pc := 0) h dX10_search_0 rfl ?_
  refine r_callSI (pc := 1) h dX10_search_1 wm_X10_317 ca_X10_isPatch (c_X10_isPatch E _ _) rfl rfl (Nat.le_of_ble_eq_true rfl) (by decide) (fun r I1 hq => ?_)
  obtain ⟨rfl, rfl⟩ := hq
  refine r_if_ne (pc := 4) h 9 dX10_search_4 (by decide) (fun c4 => ?_) (fun c4 => ?_)
  · have hp : 0 ≤ p.toInt ∧ p.toInt ≤ 24 := by (try simp only [b2i_eq0] at *); (try simp only [Int32.reduceToInt, Int64.reduceToInt, Int32.toInt_toInt64] at *); omega
    refine r_aload_n (pc := 9) h dX10_search_9 rfl ?_
    refine gf_X10_101 (pc := 10) h dX10_search_10 ?_
    refine r_iload_n (pc := 13) h dX10_search_13 rfl ?_
    refine r_callVI (ci := 2) (pc := 14) h dX10_search_14 wm_X10_329 ca_X2_lighten rfl (c_X2_lighten E _ _ hp) rfl rfl (Nat.le_of_ble_eq_true rfl) (by decide) (by decide) (by decide) (by decide) (fun r I1 hq => ?_)
    obtain ⟨rfl, rfl⟩ := hq
    exact hr _ _ _ _ dX10_search_17 (rfl) (⟨rfl, rfl⟩)
  · refine r_iconst (v := -1) (pc := 7) h dX10_search_7 (by decide) ?_
    exact hr _ _ _ _ dX10_search_8 (rfl) (by unfold F_search; rw [if_neg (by (try simp only [b2i_eq0] at *); (try simp only [Int32.reduceToInt, Int64.reduceToInt, Int32.toInt_toInt64] at *); omega)]; exact ⟨rfl, rfl⟩)
set_option maxRecDepth 100000 in
set_option maxHeartbeats 4000000 in
theorem c_X11_search (E : En) (I : Mem) (p : Int32)  : Ctr E yX11_search cX11_search 2 (some .int) 3 [.ref (E.1 151), .int p] I (qI (fun (r : Int32) (I1 : Mem) => r = (R_search I p).1 ∧ (R_search I p).2 = I1)) := by
  refine Ctr.openI (by decide) (Nat.le_of_ble_eq_true rfl) (fun g h hr => ?_)
  have h : Sem cX11_search RX11 2 (rmL 3) E g := h
  show g I 0 [(0, .ref (E.1 151)), (1, .int p)] []
  refine r_iload_n (pc := 0) h dX11_search_0 rfl ?_
  refine r_callSI (pc := 1) h dX11_search_1 wm_X11_331 ca_X11_isPatch (c_X11_isPatch E _ _) rfl rfl (Nat.le_of_ble_eq_true rfl) (by decide) (fun r I1 hq => ?_)
  obtain ⟨rfl, rfl⟩ := hq
  refine r_if_ne (pc := 4) h 9 dX11_search_4 (by decide) (fun c4 => ?_) (fun c4 => ?_)
  · have hp : 0 ≤ p.toInt ∧ p.toInt ≤ 24 := by (try simp only [b2i_eq0] at *); (try simp only [Int32.reduceToInt, Int64.reduceToInt, Int32.toInt_toInt64] at *); omega
    refine r_aload_n (pc := 9) h dX11_search_9 rfl ?_
    refine gf_X11_105 (pc := 10) h dX11_search_10 ?_
    refine r_iload_n (pc := 13) h dX11_search_13 rfl ?_
    refine r_bipush (v := 10) (pc := 14) h dX11_search_14 (by decide) ?_
    refine r_aload_n (pc := 16) h dX11_search_16 rfl ?_
    refine gf_X11_108 (pc := 17) h dX11_search_17 ?_
    refine r_iload_n (pc := 20) h dX11_search_20 rfl ?_
    refine r_iald (pc := 21) h dX11_search_21 (by decide) (by decide) (vin (n := 25) (by omega) (by omega)) ?_
    refine r_isub (pc := 22) h dX11_search_22 ?_
    refine r_aload_n (pc := 23) h dX11_search_23 rfl ?_
    refine gf_X11_105 (pc := 24) h dX11_search_24 ?_
    refine r_iload_n (pc := 27) h dX11_search_27 rfl ?_
    refine r_iald (pc := 28) h dX11_search_28 (by decide) (by decide) (vin (n := 25) (by omega) (by omega)) ?_
    refine r_imul (pc := 29) h dX11_search_29 ?_
    refine r_bipush (v := 10) (pc := 30) h dX11_search_30 (by decide) ?_
    refine r_idiv (pc := 32) h dX11_search_32 (by decide) ?_
    refine r_iast (pc := 33) h dX11_search_33 (by decide) (by decide) (vin (n := 25) (by omega) (by omega)) ?_
    refine r_aload_n (pc := 34) h dX11_search_34 rfl ?_
    refine gf_X11_105 (pc := 35) h dX11_search_35 ?_
    refine r_iload_n (pc := 38) h dX11_search_38 rfl ?_
    refine r_iald (pc := 39) h dX11_search_39 (by decide) (by decide) (vin (n := 25) (by omega) (by omega)) ?_
    exact hr _ _ _ _ dX11_search_40 (rfl) (by unfold R_search; rw [if_pos hp, upm_eq]; exact ⟨rfl, rfl⟩)
  · refine r_iconst (v := -1) (pc := 7) h dX11_search_7 (by decide) ?_
    exact hr _ _ _ _ dX11_search_8 (rfl) (by unfold R_search; rw [if_neg (by (try simp only [b2i_eq0] at *); (try simp only [Int32.reduceToInt, Int64.reduceToInt, Int32.toInt_toInt64] at *); omega)]; exact ⟨rfl, rfl⟩)
set_option maxRecDepth 100000 in
set_option maxHeartbeats 4000000 in
theorem c_X10_unrow (E : En) (I : Mem)   : Ctr E yX10_unrow cX10_unrow 1 (some .int) 1 [.ref (E.1 0)] I (qI (fun (r : Int32) (I1 : Mem) => r = (F_unrow I).1 ∧ (F_unrow I).2 = I1)) := by
  refine Ctr.openI (by decide) (Nat.le_of_ble_eq_true rfl) (fun g h hr => ?_)
  have h : Sem cX10_unrow RX10 1 (rmL 1) E g := h
  show g I 0 [(0, .ref (E.1 0))] []
  refine r_aload_n (pc := 0) h dX10_unrow_0 rfl ?_
  refine gf_X10_95 (pc := 1) h dX10_unrow_1 ?_
  refine r_if_ne (pc := 4) h 10 dX10_unrow_4 (by decide) (fun c4 => ?_) (fun c4 => ?_)
  · refine r_aload_n (pc := 10) h dX10_unrow_10 rfl ?_
    refine r_dup (pc := 11) h dX10_unrow_11 rfl ?_
    refine gf_X10_95 (pc := 12) h dX10_unrow_12 ?_
    refine r_iconst (v := 1) (pc := 15) h dX10_unrow_15 (by decide) ?_
    refine r_isub (pc := 16) h dX10_unrow_16 ?_
    refine pf_X10_95 (pc := 17) h dX10_unrow_17 ?_
    refine r_aload_n (pc := 20) h dX10_unrow_20 rfl ?_
    refine gf_X10_95 (pc := 21) h dX10_unrow_21 ?_
    exact hr _ _ _ _ dX10_unrow_24 (rfl) (by unfold F_unrow; rw [if_neg (by assumption), upm_eq]; exact ⟨rfl, rfl⟩)
  · refine r_bipush (v := -2) (pc := 7) h dX10_unrow_7 (by decide) ?_
    exact hr _ _ _ _ dX10_unrow_9 (rfl) (by unfold F_unrow; rw [if_pos (by assumption)]; exact ⟨rfl, rfl⟩)
set_option maxRecDepth 100000 in
set_option maxHeartbeats 4000000 in
theorem c_X11_unrow (E : En) (I : Mem)   : Ctr E yX11_unrow cX11_unrow 1 (some .int) 1 [.ref (E.1 151)] I (qI (fun (r : Int32) (I1 : Mem) => r = (R_unrow I).1 ∧ (R_unrow I).2 = I1)) := by
  refine Ctr.openI (by decide) (Nat.le_of_ble_eq_true rfl) (fun g h hr => ?_)
  have h : Sem cX11_unrow RX11 1 (rmL 1) E g := h
  show g I 0 [(0, .ref (E.1 151))] []
  refine r_aload_n (pc := 0) h dX11_unrow_0 rfl ?_
  refine gf_X11_300 (pc := 1) h dX11_unrow_1 ?_
  refine r_if_ne (pc := 4) h 10 dX11_unrow_4 (by decide) (fun c4 => ?_) (fun c4 => ?_)
  · refine r_aload_n (pc := 10) h dX11_unrow_10 rfl ?_
    refine r_dup (pc := 11) h dX11_unrow_11 rfl ?_
    refine gf_X11_300 (pc := 12) h dX11_unrow_12 ?_
    refine r_iconst (v := 1) (pc := 15) h dX11_unrow_15 (by decide) ?_
    refine r_isub (pc := 16) h dX11_unrow_16 ?_
    refine pf_X11_300 (pc := 17) h dX11_unrow_17 ?_
    refine r_aload_n (pc := 20) h dX11_unrow_20 rfl ?_
    refine gf_X11_300 (pc := 21) h dX11_unrow_21 ?_
    exact hr _ _ _ _ dX11_unrow_24 (rfl) (by unfold R_unrow; rw [if_neg (by assumption), upm_eq]; exact ⟨rfl, rfl⟩)
  · refine r_bipush (v := -2) (pc := 7) h dX11_unrow_7 (by decide) ?_
    exact hr _ _ _ _ dX11_unrow_9 (rfl) (by unfold R_unrow; rw [if_pos (by assumption)]; exact ⟨rfl, rfl⟩)
set_option maxRecDepth 100000 in
set_option maxHeartbeats 4000000 in
theorem c_X6_isEmptyHanded (E : En) (I : Mem) (k : Nat) (hk : k < 184) (hkd : kd k = 6) : Ctr E yX6_isEmptyHanded cX6_isEmptyHanded 1 (some .boolean) 1 [.ref (E.1 k)] I (qI (fun (r : Int32) (I1 : Mem) => r = b2i (I k 0 = -1) ∧ I = I1)) := by
  refine Ctr.openI (by decide) (Nat.le_of_ble_eq_true rfl) (fun g h hr => ?_)
  have h : Sem cX6_isEmptyHanded RX6 1 (rmL 1) E g := h
  show g I 0 [(0, .ref (E.1 k))] []
  refine r_aload_n (pc := 0) h dX6_isEmptyHanded_0 rfl ?_
  refine gf_X6_9 (pc := 1) h dX6_isEmptyHanded_1 hk hkd ?_
  refine r_iconst (v := -1) (pc := 4) h dX6_isEmptyHanded_4 (by decide) ?_
  refine r_icmp_ne (pc := 5) h 12 dX6_isEmptyHanded_5 (by decide) (fun c5 => ?_) (fun c5 => ?_)
  · refine r_iconst (v := 0) (pc := 12) h dX6_isEmptyHanded_12 (by decide) ?_
    exact hr _ _ _ _ dX6_isEmptyHanded_13 (by first | rfl | decide | exact b2i_nar) (⟨by first | rw [b2i_t c5] | rw [b2i_f c5], rfl⟩)
  · refine r_iconst (v := 1) (pc := 8) h dX6_isEmptyHanded_8 (by decide) ?_
    refine r_goto (pc := 9) h 13 dX6_isEmptyHanded_9 (by decide) ?_
    exact hr _ _ _ _ dX6_isEmptyHanded_13 (by first | rfl | decide | exact b2i_nar) (⟨by first | rw [b2i_t c5] | rw [b2i_f c5], rfl⟩)
set_option maxRecDepth 100000 in
set_option maxHeartbeats 4000000 in
theorem c_X6_has (E : En) (I : Mem) (k : Nat) (i : Int32) (n : Int32) (hk : k < 184) (hkd : kd k = 6) (hz : 0 ≤ (I k 1).toInt ∧ (I k 1).toInt ≤ 60) : Ctr E yX6_has cX6_has 3 (some .boolean) 1 [.ref (E.1 k), .int i, .int n] I (qI (fun (r : Int32) (I1 : Mem) => r = b2i (hasP (I k 1) i n) ∧ I = I1)) := by
  refine Ctr.openI (by decide) (Nat.le_of_ble_eq_true rfl) (fun g h hr => ?_)
  have h : Sem cX6_has RX6 3 (rmL 1) E g := h
  show g I 0 [(0, .ref (E.1 k)), (1, .int i), (2, .int n)] []
  refine r_iload_n (pc := 0) h dX6_has_0 rfl ?_
  refine r_if_lt (pc := 1) h 30 dX6_has_1 (by decide) (fun c1 => ?_) (fun c1 => ?_)
  · refine r_iconst (v := 0) (pc := 30) h dX6_has_30 (by decide) ?_
    exact hr _ _ _ _ dX6_has_31 (by first | rfl | decide | exact b2i_nar) (⟨by (try simp only [Int32.lt_iff_toInt_lt, z32] at *); (try rw [es] at *); (first | rw [eq0_b2i] | rw [eq1_b2i]); omega, rfl⟩)
  · refine r_iload_n (pc := 4) h dX6_has_4 rfl ?_
    refine r_aload_n (pc := 5) h dX6_has_5 rfl ?_
    refine gf_X6_13 (pc := 6) h dX6_has_6 hk hkd ?_
    refine r_icmp_gt (pc := 9) h 30 dX6_has_9 (by decide) (fun c9 => ?_) (fun c9 => ?_)
    · refine r_iconst (v := 0) (pc := 30) h dX6_has_30 (by decide) ?_
      exact hr _ _ _ _ dX6_has_31 (by first | rfl | decide | exact b2i_nar) (⟨by (try simp only [Int32.lt_iff_toInt_lt, z32] at *); (try rw [es] at *); (first | rw [eq0_b2i] | rw [eq1_b2i]); omega, rfl⟩)
    · refine r_iload_n (pc := 12) h dX6_has_12 rfl ?_
      refine r_if_lt (pc := 13) h 30 dX6_has_13 (by decide) (fun c13 => ?_) (fun c13 => ?_)
      · refine r_iconst (v := 0) (pc := 30) h dX6_has_30 (by decide) ?_
        exact hr _ _ _ _ dX6_has_31 (by first | rfl | decide | exact b2i_nar) (⟨by (try simp only [Int32.lt_iff_toInt_lt, z32] at *); (try rw [es] at *); (first | rw [eq0_b2i] | rw [eq1_b2i]); omega, rfl⟩)
      · have es : (I k 1 - n).toInt = (I k 1).toInt - n.toInt := by
          rw [Int32.lt_iff_toInt_lt] at c1 c9
          rw [z32] at c1
          exact tI_sub (by omega) (by omega)
        refine r_iload_n (pc := 16) h dX6_has_16 rfl ?_
        refine r_aload_n (pc := 17) h dX6_has_17 rfl ?_
        refine gf_X6_13 (pc := 18) h dX6_has_18 hk hkd ?_
        refine r_iload_n (pc := 21) h dX6_has_21 rfl ?_
        refine r_isub (pc := 22) h dX6_has_22 ?_
        refine r_icmp_gt (pc := 23) h 30 dX6_has_23 (by decide) (fun c23 => ?_) (fun c23 => ?_)
        · refine r_iconst (v := 0) (pc := 30) h dX6_has_30 (by decide) ?_
          exact hr _ _ _ _ dX6_has_31 (by first | rfl | decide | exact b2i_nar) (⟨by (try simp only [Int32.lt_iff_toInt_lt, z32] at *); (try rw [es] at *); (first | rw [eq0_b2i] | rw [eq1_b2i]); omega, rfl⟩)
        · refine r_iconst (v := 1) (pc := 26) h dX6_has_26 (by decide) ?_
          refine r_goto (pc := 27) h 31 dX6_has_27 (by decide) ?_
          exact hr _ _ _ _ dX6_has_31 (by first | rfl | decide | exact b2i_nar) (⟨by (try simp only [Int32.lt_iff_toInt_lt, z32] at *); (try rw [es] at *); (first | rw [eq0_b2i] | rw [eq1_b2i]); omega, rfl⟩)
set_option maxRecDepth 100000 in
set_option maxHeartbeats 4000000 in
theorem c_X10_faultOf (E : En) (I : Mem) (s : Int32) (l : Int32)  : Ctr E yX10_faultOf cX10_faultOf 3 (some .int) 3 [.ref (E.1 0), .int s, .int l] I (qI (fun (r : Int32) (I1 : Mem) => r = F_fault I s l ∧ I = I1)) := by
  refine Ctr.openI (by decide) (Nat.le_of_ble_eq_true rfl) (fun g h hr => ?_)
  have h : Sem cX10_faultOf RX10 3 (rmL 3) E g := h
  show g I 0 [(0, .ref (E.1 0)), (1, .int s), (2, .int l)] []
  refine r_iload_n (pc := 0) h dX10_faultOf_0 rfl ?_
  refine r_callSI (pc := 1) h dX10_faultOf_1 wm_X10_335 ca_X10_isSheet (c_X10_isSheet E _ _) rfl rfl (Nat.le_of_ble_eq_true rfl) (by decide) (fun r I1 hq => ?_)
  obtain ⟨rfl, rfl⟩ := hq
  refine r_if_eq (pc := 4) h 14 dX10_faultOf_4 (by decide) (fun c4 => ?_) (fun c4 => ?_)
  · refine r_iconst (v := -1) (pc := 14) h dX10_faultOf_14 (by decide) ?_
    exact hr _ _ _ _ dX10_faultOf_15 (rfl) (⟨by unfold F_fault; rw [if_neg (by (try simp only [b2i_eq0] at *); (try simp only [Int32.reduceToInt, Int64.reduceToInt, Int32.toInt_toInt64] at *); omega)], rfl⟩)
  · refine r_iload_n (pc := 7) h dX10_faultOf_7 rfl ?_
    refine r_callSI (pc := 8) h dX10_faultOf_8 wm_X10_338 ca_X10_isLane (c_X10_isLane E _ _) rfl rfl (Nat.le_of_ble_eq_true rfl) (by decide) (fun r I1 hq => ?_)
    obtain ⟨rfl, rfl⟩ := hq
    refine r_if_ne (pc := 11) h 16 dX10_faultOf_11 (by decide) (fun c11 => ?_) (fun c11 => ?_)
    · have hv : (0 ≤ s.toInt ∧ s.toInt ≤ 3) ∧ (0 ≤ l.toInt ∧ l.toInt ≤ 2) := by (try simp only [b2i_eq0] at *); (try simp only [Int32.reduceToInt, Int64.reduceToInt, Int32.toInt_toInt64] at *); omega
      have hn4 : s.toNatClampNeg < 4 := by rw [tn]; omega
      refine r_aload_n (pc := 16) h dX10_faultOf_16 rfl ?_
      refine gf_X10_107 (pc := 17) h dX10_faultOf_17 ?_
      refine r_iload_n (pc := 20) h dX10_faultOf_20 rfl ?_
      refine r_aa40 (pc := 21) h dX10_faultOf_21 (vin (n := 4) (by omega) (by omega)) ?_
      refine r_callVI (ci := 6) (pc := 22) h dX10_faultOf_22 wm_X10_345 ca_X6_isEmptyHanded rfl (c_X6_isEmptyHanded E _ _ (by omega) (kdSh _ hn4)) rfl rfl (Nat.le_of_ble_eq_true rfl) (by decide) (by decide) (by omega) (kdSh _ hn4) (fun r I1 hq => ?_)
      obtain ⟨rfl, rfl⟩ := hq
      refine r_if_eq (pc := 25) h 31 dX10_faultOf_25 (by decide) (fun c25 => ?_) (fun c25 => ?_)
      · refine r_aload_n (pc := 31) h dX10_faultOf_31 rfl ?_
        refine gf_X10_107 (pc := 32) h dX10_faultOf_32 ?_
        refine r_iload_n (pc := 35) h dX10_faultOf_35 rfl ?_
        refine r_aa40 (pc := 36) h dX10_faultOf_36 (vin (n := 4) (by omega) (by omega)) ?_
        refine gf_X10_354 (pc := 37) h dX10_faultOf_37 (by omega) (kdSh _ hn4) ?_
        refine r_iload_n (pc := 40) h dX10_faultOf_40 rfl ?_
        refine r_icmp_ne (pc := 41) h 48 dX10_faultOf_41 (by decide) (fun c41 => ?_) (fun c41 => ?_)
        · refine r_bipush (v := -12) (pc := 48) h dX10_faultOf_48 (by decide) ?_
          exact hr _ _ _ _ dX10_faultOf_50 (rfl) (⟨by unfold F_fault; rw [if_pos hv, if_neg (b2i_eq0.mp c25)]; first | rw [if_pos (by assumption)] | rw [if_neg (by assumption)], rfl⟩)
        · refine r_iconst (v := 0) (pc := 44) h dX10_faultOf_44 (by decide) ?_
          refine r_goto (pc := 45) h 50 dX10_faultOf_45 (by decide) ?_
          exact hr _ _ _ _ dX10_faultOf_50 (rfl) (⟨by unfold F_fault; rw [if_pos hv, if_neg (b2i_eq0.mp c25)]; first | rw [if_pos (by assumption)] | rw [if_neg (by assumption)], rfl⟩)
      · refine r_bipush (v := -11) (pc := 28) h dX10_faultOf_28 (by decide) ?_
        exact hr _ _ _ _ dX10_faultOf_30 (rfl) (⟨by unfold F_fault; rw [if_pos hv, if_pos (by simpa only [b2i_eq0, Classical.not_not] using c25)], rfl⟩)
    · refine r_iconst (v := -1) (pc := 14) h dX10_faultOf_14 (by decide) ?_
      exact hr _ _ _ _ dX10_faultOf_15 (rfl) (⟨by unfold F_fault; rw [if_neg (by (try simp only [b2i_eq0] at *); (try simp only [Int32.reduceToInt, Int64.reduceToInt, Int32.toInt_toInt64] at *); omega)], rfl⟩)
