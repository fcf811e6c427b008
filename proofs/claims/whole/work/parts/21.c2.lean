/-! STICKS, WINDS, TREES: what each call answers and writes, as functions of the memory; the class's (F_) and the reference's (R_) -/
def mkSt (I : Mem) (k : Nat) (w g l d h : Int32) : Mem := upm (upm (upm (upm (upm (upm I k 0 w) k 1 g) k 2 l) k 3 d) k 4 h) k 6 1
theorem mkSt_ne (I : Mem) {k a : Nat} (w g l d h : Int32) (ha : a ≠ k) : mkSt I k w g l d h a = I a := by
  unfold mkSt
  rw [upm_ne _ _ _ ha, upm_ne _ _ _ ha, upm_ne _ _ _ ha, upm_ne _ _ _ ha, upm_ne _ _ _ ha, upm_ne _ _ _ ha]
abbrev vSt (w g l d : Int32) : Prop := (1 ≤ w.toInt ∧ w.toInt ≤ 100) ∧ (0 ≤ g.toInt ∧ g.toInt ≤ 60) ∧ (1 ≤ l.toInt ∧ l.toInt ≤ 20) ∧ (0 ≤ d.toInt ∧ d.toInt ≤ 10)
def F_newStick (I : Mem) (w g l d h : Int32) : Int32 × Mem := if vSt w g l d then (if 9 ≤ (I 0 2).toInt then (-3, I) else (I 0 2, upm (mkSt I (41 + 2 * (I 0 2).toNatClampNeg) w g l d h) 0 2 (I 0 2 + 1))) else (-1, I)
def F_winged (I : Mem) (w g l d h : Int32) : Int32 × Mem := if (1 ≤ h.toInt ∧ h.toInt ≤ 200) then F_newStick I w g l d h else (-1, I)
def R_comes (I : Mem) (w g l d h : Int32) : Int32 × Mem := if vSt w g l d then (if I 151 1 = 9 then (-3, I) else (I 151 1, upm (upm (upm (upm (upm (upm I 154 (I 151 1).toNatClampNeg w) 155 (I 151 1).toNatClampNeg g) 156 (I 151 1).toNatClampNeg l) 157 (I 151 1).toNatClampNeg d) 153 (I 151 1).toNatClampNeg h) 151 1 (I 151 1 + 1))) else (-1, I)
def R_winged (I : Mem) (w g l d h : Int32) : Int32 × Mem := if (1 ≤ h.toInt ∧ h.toInt ≤ 200) then R_comes I w g l d h else (-1, I)
abbrev isS (n c : Int32) : Prop := 0 ≤ n.toInt ∧ n.toInt < c.toInt
def F_lift (I : Mem) (s b v : Int32) : Int32 × Mem := if isS s (I 0 2) ∧ (0 ≤ b.toInt ∧ b.toInt ≤ 3) ∧ (0 ≤ v.toInt ∧ v.toInt ≤ 300) then (I (41 + 2 * s.toNatClampNeg + 1) b.toNatClampNeg, upm I (41 + 2 * s.toNatClampNeg + 1) b.toNatClampNeg v) else (-1, I)
def R_lift (I : Mem) (s b v : Int32) : Int32 × Mem := if isS s (I 151 1) ∧ (0 ≤ b.toInt ∧ b.toInt ≤ 3) ∧ (0 ≤ v.toInt ∧ v.toInt ≤ 300) then (I 159 (4 * s + b).toNatClampNeg, upm I 159 (4 * s + b).toNatClampNeg v) else (-1, I)
def F_bend (I : Mem) (s v : Int32) : Int32 × Mem := if isS s (I 0 2) ∧ (-9 ≤ v.toInt ∧ v.toInt ≤ 9) then (I (41 + 2 * s.toNatClampNeg) 5, upm I (41 + 2 * s.toNatClampNeg) 5 v) else (-11, I)
def R_bend (I : Mem) (s v : Int32) : Int32 × Mem := if isS s (I 151 1) ∧ (-9 ≤ v.toInt ∧ v.toInt ≤ 9) then (I 158 s.toNatClampNeg, upm I 158 s.toNatClampNeg v) else (-11, I)
def F_told (I : Mem) (s t : Int32) : Int32 := if isS s (I 0 2) then (if t.toInt = 0 then b2i (¬ I (41 + 2 * s.toNatClampNeg) 4 = 0) else if t.toInt = 1 then I (41 + 2 * s.toNatClampNeg) 0 else if t.toInt = 2 then I (41 + 2 * s.toNatClampNeg) 1 else if t.toInt = 3 then I (41 + 2 * s.toNatClampNeg) 2 else if t.toInt = 4 then I (41 + 2 * s.toNatClampNeg) 3 else if t.toInt = 5 then (if I (41 + 2 * s.toNatClampNeg) 4 = 0 then -4 else I (41 + 2 * s.toNatClampNeg) 4) else if t.toInt = 6 then (if I (41 + 2 * s.toNatClampNeg) 6 = 0 then 0 else 1) else -1) else -1
def R_told (I : Mem) (s t : Int32) : Int32 := if isS s (I 151 1) then (if t.toInt = 0 then (if 0 < I 153 s.toNatClampNeg then 1 else 0) else if t.toInt = 1 then I 154 s.toNatClampNeg else if t.toInt = 2 then I 155 s.toNatClampNeg else if t.toInt = 3 then I 156 s.toNatClampNeg else if t.toInt = 4 then I 157 s.toNatClampNeg else if t.toInt = 5 then (if 0 < I 153 s.toNatClampNeg then I 153 s.toNatClampNeg else -4) else if t.toInt = 6 then (if I 160 s.toNatClampNeg = 0 then 1 else 0) else -1) else -1
def F_lose (I : Mem) (s is : Int32) : Int32 × Mem := if isS s (I 0 2) then ((if I (41 + 2 * s.toNatClampNeg) 6 = 0 then 0 else 1), upm I (41 + 2 * s.toNatClampNeg) 6 (if is = 0 then 1 else 0)) else (-1, I)
def R_lose (I : Mem) (s is : Int32) : Int32 × Mem := if isS s (I 151 1) then ((if I 160 s.toNatClampNeg = 0 then 1 else 0), upm I 160 s.toNatClampNeg is) else (-1, I)
def F_wind (I : Mem) : Int32 × Mem := if 8 ≤ (I 0 4).toInt then (-3, I) else (I 0 4, upm I 0 4 (I 0 4 + 1))
def R_wind (I : Mem) : Int32 × Mem := if I 151 10 = 8 then (-3, I) else (I 151 10, upm I 151 10 (I 151 10 + 1))
abbrev vBl (b s t : Int32) : Prop := (0 ≤ b.toInt ∧ b.toInt ≤ 3) ∧ (0 ≤ s.toInt ∧ s.toInt ≤ 60) ∧ (0 ≤ t.toInt ∧ t.toInt ≤ 359)
def F_blows (I : Mem) (w b s t : Int32) : Int32 × Mem := if isS w (I 0 4) ∧ vBl b s t then (I (59 + 3 * w.toNatClampNeg + 1) b.toNatClampNeg, upm (upm I (59 + 3 * w.toNatClampNeg + 1) b.toNatClampNeg s) (59 + 3 * w.toNatClampNeg + 2) b.toNatClampNeg t) else (-1, I)
def R_blows (I : Mem) (w b s t : Int32) : Int32 × Mem := if isS w (I 151 10) ∧ vBl b s t then (I 161 (4 * w + b).toNatClampNeg, upm (upm I 161 (4 * w + b).toNatClampNeg s) 162 (4 * w + b).toNatClampNeg t) else (-1, I)
abbrev vTr (x y t h : Int32) : Prop := (-9000 ≤ x.toInt ∧ x.toInt ≤ 9000) ∧ (-9000 ≤ y.toInt ∧ y.toInt ≤ 9000) ∧ (1 ≤ t.toInt ∧ t.toInt ≤ 500) ∧ (1 ≤ h.toInt ∧ h.toInt ≤ 3000)
def F_plant (I : Mem) (x y t h : Int32) : Int32 × Mem := if 6 ≤ (I 7 1).toInt then (-3, I) else (I 7 1, upm (upm (upm (upm (upm I (9 + (I 7 1).toNatClampNeg) 0 x) (9 + (I 7 1).toNatClampNeg) 1 y) (9 + (I 7 1).toNatClampNeg) 2 t) (9 + (I 7 1).toNatClampNeg) 3 h) 7 1 (I 7 1 + 1))
def F_tree (I : Mem) (x y t h : Int32) : Int32 × Mem := if vTr x y t h then F_plant I x y t h else (-1, I)
def R_tree (I : Mem) (x y t h : Int32) : Int32 × Mem := if vTr x y t h then (if I 151 13 = 6 then (-3, I) else (I 151 13, upm (upm (upm (upm (upm I 163 (I 151 13).toNatClampNeg x) 164 (I 151 13).toNatClampNeg y) 165 (I 151 13).toNatClampNeg t) 166 (I 151 13).toNatClampNeg h) 151 13 (I 151 13 + 1))) else (-1, I)
def F_ring (I : Mem) (w : Int32) : Int32 × Mem := if (1 ≤ w.toInt ∧ w.toInt ≤ 2000) then (I 7 2, upm I 7 2 w) else (-1, I)
def R_ring (I : Mem) (w : Int32) : Int32 × Mem := if (1 ≤ w.toInt ∧ w.toInt ≤ 2000) then (I 151 18, upm I 151 18 w) else (-1, I)
theorem add1_sub1 (x : Int32) : x + 1 - 1 = x := Int32.add_sub_cancel x 1
theorem m4_tI {s b : Int32} {n : Int} (h1 : 0 ≤ s.toInt) (h2 : s.toInt < n) (h3 : 0 ≤ b.toInt ∧ b.toInt ≤ 3) (hn : n ≤ 100) : (4 * s + b).toInt = 4 * s.toInt + b.toInt := by
  have e4 : (4 : Int32).toInt = 4 := by decide
  have em : (4 * s).toInt = 4 * s.toInt := by rw [tI_mul (by rw [e4]; omega) (by rw [e4]; omega), e4]
  rw [tI_add (by rw [em]; omega) (by rw [em]; omega), em]
set_option maxRecDepth 100000 in
set_option maxHeartbeats 4000000 in
theorem c_X7_make (E : En) (I : Mem) (k : Nat) (w : Int32) (gr : Int32) (lo : Int32) (dr : Int32) (ho : Int32) (hk : k < 184) (hkd : kd k = 7) : Ctr E yX7_make cX7_make 6 none 1 [.ref (E.1 k), .int w, .int gr, .int lo, .int dr, .int ho] I (qV (fun I1 : Mem => I1 = mkSt I k w gr lo dr ho)) := by
  refine Ctr.openV (by decide) (Nat.le_of_ble_eq_true rfl) (fun g h hr => ?_)
  have h : Sem cX7_make RX7 6 (rmL 1) E g := h
  show g I 0 [(0, .ref (E.1 k)), (1, .int w), (2, .int gr), (3, .int lo), (4, .int dr), (5, .int ho)] []
  refine r_aload_n (pc := 0) h dX7_make_0 rfl ?_
  refine r_iload_n (pc := 1) h dX7_make_1 rfl ?_
  refine pf_X7_26 (pc := 2) h dX7_make_2 hk hkd ?_
  refine r_aload_n (pc := 5) h dX7_make_5 rfl ?_
  refine r_iload_n (pc := 6) h dX7_make_6 rfl ?_
  refine pf_X7_29 (pc := 7) h dX7_make_7 hk hkd ?_
  refine r_aload_n (pc := 10) h dX7_make_10 rfl ?_
  refine r_iload_n (pc := 11) h dX7_make_11 rfl ?_
  refine pf_X7_32 (pc := 12) h dX7_make_12 hk hkd ?_
  refine r_aload_n (pc := 15) h dX7_make_15 rfl ?_
  refine r_iload (pc := 16) h dX7_make_16 rfl ?_
  refine pf_X7_35 (pc := 18) h dX7_make_18 hk hkd ?_
  refine r_aload_n (pc := 21) h dX7_make_21 rfl ?_
  refine r_iload (pc := 22) h dX7_make_22 rfl ?_
  refine pf_X7_11 (pc := 24) h dX7_make_24 hk hkd ?_
  refine r_aload_n (pc := 27) h dX7_make_27 rfl ?_
  refine r_iconst (v := 1) (pc := 28) h dX7_make_28 (by decide) ?_
  refine pf_X7_18 (pc := 29) h dX7_make_29 hk hkd (by decide) (by decide) ?_
  exact hr _ _ _ dX7_make_32 (rfl)
set_option maxRecDepth 100000 in
set_option maxHeartbeats 4000000 in
theorem c_X7_isWinged (E : En) (I : Mem) (k : Nat) (hk : k < 184) (hkd : kd k = 7) : Ctr E yX7_isWinged cX7_isWinged 1 (some .boolean) 1 [.ref (E.1 k)] I (qI (fun (r : Int32) (I1 : Mem) => r = b2i (¬ I k 4 = 0) ∧ I = I1)) := by
  refine Ctr.openI (by decide) (Nat.le_of_ble_eq_true rfl) (fun g h hr => ?_)
  have h : Sem cX7_isWinged RX7 1 (rmL 1) E g := h
  show g I 0 [(0, .ref (E.1 k))] []
  refine r_aload_n (pc := 0) h dX7_isWinged_0 rfl ?_
  refine gf_X7_11 (pc := 1) h dX7_isWinged_1 hk hkd ?_
  refine r_if_eq (pc := 4) h 11 dX7_isWinged_4 (by decide) (fun c4 => ?_) (fun c4 => ?_)
  · refine r_iconst (v := 0) (pc := 11) h dX7_isWinged_11 (by decide) ?_
    exact hr _ _ _ _ dX7_isWinged_12 (by first | rfl | decide | exact b2i_nar) (⟨by simp_all [b2i], rfl⟩)
  · refine r_iconst (v := 1) (pc := 7) h dX7_isWinged_7 (by decide) ?_
    refine r_goto (pc := 8) h 12 dX7_isWinged_8 (by decide) ?_
    exact hr _ _ _ _ dX7_isWinged_12 (by first | rfl | decide | exact b2i_nar) (⟨by simp_all [b2i], rfl⟩)
set_option maxRecDepth 100000 in
set_option maxHeartbeats 4000000 in
theorem c_X10_newStick (E : En) (I : Mem) (w : Int32) (gr : Int32) (lo : Int32) (dr : Int32) (ho : Int32) (hc : 0 ≤ (I 0 2).toInt ∧ (I 0 2).toInt ≤ 9) : Ctr E yX10_newStick cX10_newStick 7 (some .int) 2 [.ref (E.1 0), .int w, .int gr, .int lo, .int dr, .int ho] I (qI (fun (r : Int32) (I1 : Mem) => r = (F_newStick I w gr lo dr ho).1 ∧ (F_newStick I w gr lo dr ho).2 = I1)) := by
  refine Ctr.openI (by decide) (Nat.le_of_ble_eq_true rfl) (fun g h hr => ?_)
  have h : Sem cX10_newStick RX10 7 (rmL 2) E g := h
  show g I 0 [(0, .ref (E.1 0)), (1, .int w), (2, .int gr), (3, .int lo), (4, .int dr), (5, .int ho)] []
  refine r_iload_n (pc := 0) h dX10_newStick_0 rfl ?_
  refine r_iconst (v := 1) (pc := 1) h dX10_newStick_1 (by decide) ?_
  refine r_bipush (v := 100) (pc := 2) h dX10_newStick_2 (by decide) ?_
  refine r_callSI (pc := 4) h dX10_newStick_4 wm_X10_118 ca_X10_within (c_X10_within E _ _ _ _) rfl rfl (by decide) (by decide) (fun r I1 hq => ?_)
  obtain ⟨rfl, rfl⟩ := hq
  refine r_if_eq (pc := 7) h 45 dX10_newStick_7 (by decide) (fun c7 => ?_) (fun c7 => ?_)
  · refine r_iconst (v := 0) (pc := 45) h dX10_newStick_45 (by decide) ?_
    refine r_istore (pc := 46) h dX10_newStick_46 (by decide) ?_
    refine r_iload (pc := 48) h dX10_newStick_48 rfl ?_
    refine r_if_ne (pc := 50) h 55 dX10_newStick_50 (by decide) (fun c => absurd c (by decide)) (fun _ => ?_)
    refine r_iconst (v := -1) (pc := 53) h dX10_newStick_53 (by decide) ?_
    exact hr _ _ _ _ dX10_newStick_54 (rfl) (by unfold F_newStick; rw [if_neg (by (try simp only [b2i_eq0, Int32.reduceToInt, Int64.reduceToInt, Int32.toInt_toInt64] at *); omega)]; exact ⟨rfl, rfl⟩)
  · refine r_iload_n (pc := 10) h dX10_newStick_10 rfl ?_
    refine r_iconst (v := 0) (pc := 11) h dX10_newStick_11 (by decide) ?_
    refine r_bipush (v := 60) (pc := 12) h dX10_newStick_12 (by decide) ?_
    refine r_callSI (pc := 14) h dX10_newStick_14 wm_X10_118 ca_X10_within (c_X10_within E _ _ _ _) rfl rfl (by decide) (by decide) (fun r I1 hq => ?_)
    obtain ⟨rfl, rfl⟩ := hq
    refine r_if_eq (pc := 17) h 45 dX10_newStick_17 (by decide) (fun c17 => ?_) (fun c17 => ?_)
    · refine r_iconst (v := 0) (pc := 45) h dX10_newStick_45 (by decide) ?_
      refine r_istore (pc := 46) h dX10_newStick_46 (by decide) ?_
      refine r_iload (pc := 48) h dX10_newStick_48 rfl ?_
      refine r_if_ne (pc := 50) h 55 dX10_newStick_50 (by decide) (fun c => absurd c (by decide)) (fun _ => ?_)
      refine r_iconst (v := -1) (pc := 53) h dX10_newStick_53 (by decide) ?_
      exact hr _ _ _ _ dX10_newStick_54 (rfl) (by unfold F_newStick; rw [if_neg (by (try simp only [b2i_eq0, Int32.reduceToInt, Int64.reduceToInt, Int32.toInt_toInt64] at *); omega)]; exact ⟨rfl, rfl⟩)
    · refine r_iload_n (pc := 20) h dX10_newStick_20 rfl ?_
      refine r_iconst (v := 1) (pc := 21) h dX10_newStick_21 (by decide) ?_
      refine r_bipush (v := 20) (pc := 22) h dX10_newStick_22 (by decide) ?_
      refine r_callSI (pc := 24) h dX10_newStick_24 wm_X10_118 ca_X10_within (c_X10_within E _ _ _ _) rfl rfl (by decide) (by decide) (fun r I1 hq => ?_)
      obtain ⟨rfl, rfl⟩ := hq
      refine r_if_eq (pc := 27) h 45 dX10_newStick_27 (by decide) (fun c27 => ?_) (fun c27 => ?_)
      · refine r_iconst (v := 0) (pc := 45) h dX10_newStick_45 (by decide) ?_
        refine r_istore (pc := 46) h dX10_newStick_46 (by decide) ?_
        refine r_iload (pc := 48) h dX10_newStick_48 rfl ?_
        refine r_if_ne (pc := 50) h 55 dX10_newStick_50 (by decide) (fun c => absurd c (by decide)) (fun _ => ?_)
        refine r_iconst (v := -1) (pc := 53) h dX10_newStick_53 (by decide) ?_
        exact hr _ _ _ _ dX10_newStick_54 (rfl) (by unfold F_newStick; rw [if_neg (by (try simp only [b2i_eq0, Int32.reduceToInt, Int64.reduceToInt, Int32.toInt_toInt64] at *); omega)]; exact ⟨rfl, rfl⟩)
      · refine r_iload (pc := 30) h dX10_newStick_30 rfl ?_
        refine r_iconst (v := 0) (pc := 32) h dX10_newStick_32 (by decide) ?_
        refine r_bipush (v := 10) (pc := 33) h dX10_newStick_33 (by decide) ?_
        refine r_callSI (pc := 35) h dX10_newStick_35 wm_X10_118 ca_X10_within (c_X10_within E _ _ _ _) rfl rfl (by decide) (by decide) (fun r I1 hq => ?_)
        obtain ⟨rfl, rfl⟩ := hq
        refine r_if_eq (pc := 38) h 45 dX10_newStick_38 (by decide) (fun c38 => ?_) (fun c38 => ?_)
        · refine r_iconst (v := 0) (pc := 45) h dX10_newStick_45 (by decide) ?_
          refine r_istore (pc := 46) h dX10_newStick_46 (by decide) ?_
          refine r_iload (pc := 48) h dX10_newStick_48 rfl ?_
          refine r_if_ne (pc := 50) h 55 dX10_newStick_50 (by decide) (fun c => absurd c (by decide)) (fun _ => ?_)
          refine r_iconst (v := -1) (pc := 53) h dX10_newStick_53 (by decide) ?_
          exact hr _ _ _ _ dX10_newStick_54 (rfl) (by unfold F_newStick; rw [if_neg (by (try simp only [b2i_eq0, Int32.reduceToInt, Int64.reduceToInt, Int32.toInt_toInt64] at *); omega)]; exact ⟨rfl, rfl⟩)
        · refine r_iconst (v := 1) (pc := 41) h dX10_newStick_41 (by decide) ?_
          refine r_goto (pc := 42) h 46 dX10_newStick_42 (by decide) ?_
          refine r_istore (pc := 46) h dX10_newStick_46 (by decide) ?_
          refine r_iload (pc := 48) h dX10_newStick_48 rfl ?_
          refine r_if_ne (pc := 50) h 55 dX10_newStick_50 (by decide) (fun _ => ?_) (fun c => absurd c (by decide))
          refine r_aload_n (pc := 55) h dX10_newStick_55 rfl ?_
          refine gf_X10_23 (pc := 56) h dX10_newStick_56 ?_
          refine r_bipush (v := 9) (pc := 59) h dX10_newStick_59 (by decide) ?_
          refine r_icmp_lt (pc := 61) h 67 dX10_newStick_61 (by decide) (fun c61 => ?_) (fun c61 => ?_)
          · have hn : (I 0 2).toNatClampNeg < 9 := by (try simp only [b2i_eq0, Int32.lt_iff_toInt_lt, Int32.reduceToInt, Int64.reduceToInt, Int32.toInt_toInt64] at *); rw [tn]; omega
            refine r_aload_n (pc := 67) h dX10_newStick_67 rfl ?_
            refine gf_X10_19 (pc := 68) h dX10_newStick_68 ?_
            refine r_aload_n (pc := 71) h dX10_newStick_71 rfl ?_
            refine gf_X10_23 (pc := 72) h dX10_newStick_72 ?_
            refine r_aa2 (pc := 75) h dX10_newStick_75 (vin (n := 9) (by omega) (by rw [tn] at hn; omega)) ?_
            refine r_iload_n (pc := 76) h dX10_newStick_76 rfl ?_
            refine r_iload_n (pc := 77) h dX10_newStick_77 rfl ?_
            refine r_iload_n (pc := 78) h dX10_newStick_78 rfl ?_
            refine r_iload (pc := 79) h dX10_newStick_79 rfl ?_
            refine r_iload (pc := 81) h dX10_newStick_81 rfl ?_
            refine r_callVV (ci := 7) (pc := 83) h dX10_newStick_83 wm_X10_122 ca_X7_make rfl (c_X7_make E _ _ _ _ _ _ _ (by omega) (kdSt _ hn)) rfl rfl (by decide) (by decide) (by decide) (by omega) (kdSt _ hn) (fun I1 hq => ?_)
            subst hq
            refine r_aload_n (pc := 86) h dX10_newStick_86 rfl ?_
            refine r_dup (pc := 87) h dX10_newStick_87 rfl ?_
            refine gf_X10_23 (pc := 88) h dX10_newStick_88 ?_
            refine r_iconst (v := 1) (pc := 91) h dX10_newStick_91 (by decide) ?_
            refine r_iadd (pc := 92) h dX10_newStick_92 ?_
            refine pf_X10_23 (pc := 93) h dX10_newStick_93 ?_
            refine r_aload_n (pc := 96) h dX10_newStick_96 rfl ?_
            refine gf_X10_23 (pc := 97) h dX10_newStick_97 ?_
            refine r_iconst (v := 1) (pc := 100) h dX10_newStick_100 (by decide) ?_
            refine r_isub (pc := 101) h dX10_newStick_101 ?_
            exact hr _ _ _ _ dX10_newStick_102 (rfl) (by unfold F_newStick; rw [if_pos (by (try simp only [b2i_eq0, Int32.reduceToInt, Int64.reduceToInt, Int32.toInt_toInt64] at *); omega), if_neg (by (try simp only [b2i_eq0, Int32.lt_iff_toInt_lt, Int32.reduceToInt, Int64.reduceToInt, Int32.toInt_toInt64] at *); omega)]; rw [mkSt_ne I _ _ _ _ _ (show (0 : Nat) ≠ 41 + 2 * (I 0 2).toNatClampNeg by omega), upm_eq]; exact ⟨add1_sub1 _, rfl⟩)
          · refine r_bipush (v := -3) (pc := 64) h dX10_newStick_64 (by decide) ?_
            exact hr _ _ _ _ dX10_newStick_66 (rfl) (by unfold F_newStick; rw [if_pos (by (try simp only [b2i_eq0, Int32.reduceToInt, Int64.reduceToInt, Int32.toInt_toInt64] at *); omega), if_pos (by (try simp only [b2i_eq0, Int32.lt_iff_toInt_lt, Int32.reduceToInt, Int64.reduceToInt, Int32.toInt_toInt64] at *); omega)]; exact ⟨rfl, rfl⟩)
set_option maxRecDepth 100000 in
set_option maxHeartbeats 4000000 in
theorem c_X10_plain (E : En) (I : Mem) (w : Int32) (gr : Int32) (lo : Int32) (dr : Int32) (hc : 0 ≤ (I 0 2).toInt ∧ (I 0 2).toInt ≤ 9) : Ctr E yX10_plain cX10_plain 5 (some .int) 3 [.ref (E.1 0), .int w, .int gr, .int lo, .int dr] I (qI (fun (r : Int32) (I1 : Mem) => r = (F_newStick I w gr lo dr 0).1 ∧ (F_newStick I w gr lo dr 0).2 = I1)) := by
  refine Ctr.openI (by decide) (Nat.le_of_ble_eq_true rfl) (fun g h hr => ?_)
  have h : Sem cX10_plain RX10 5 (rmL 3) E g := h
  show g I 0 [(0, .ref (E.1 0)), (1, .int w), (2, .int gr), (3, .int lo), (4, .int dr)] []
  refine r_aload_n (pc := 0) h dX10_plain_0 rfl ?_
  refine r_iload_n (pc := 1) h dX10_plain_1 rfl ?_
  refine r_iload_n (pc := 2) h dX10_plain_2 rfl ?_
  refine r_iload_n (pc := 3) h dX10_plain_3 rfl ?_
  refine r_iload (pc := 4) h dX10_plain_4 rfl ?_
  refine r_iconst (v := 0) (pc := 6) h dX10_plain_6 (by decide) ?_
  refine r_callVI (ci := 10) (pc := 7) h dX10_plain_7 wm_X10_114 ca_X10_newStick rfl (c_X10_newStick E _ _ _ _ _ _ hc) rfl rfl (by decide) (by decide) (by decide) (by decide) (by decide) (fun r I1 hq => ?_)
  obtain ⟨rfl, rfl⟩ := hq
  exact hr _ _ _ _ dX10_plain_10 (rfl) (⟨rfl, rfl⟩)
set_option maxRecDepth 100000 in
set_option maxHeartbeats 4000000 in
theorem c_X10_winged (E : En) (I : Mem) (w : Int32) (gr : Int32) (lo : Int32) (dr : Int32) (ho : Int32) (hc : 0 ≤ (I 0 2).toInt ∧ (I 0 2).toInt ≤ 9) : Ctr E yX10_winged cX10_winged 6 (some .int) 3 [.ref (E.1 0), .int w, .int gr, .int lo, .int dr, .int ho] I (qI (fun (r : Int32) (I1 : Mem) => r = (F_winged I w gr lo dr ho).1 ∧ (F_winged I w gr lo dr ho).2 = I1)) := by
  refine Ctr.openI (by decide) (Nat.le_of_ble_eq_true rfl) (fun g h hr => ?_)
  have h : Sem cX10_winged RX10 6 (rmL 3) E g := h
  show g I 0 [(0, .ref (E.1 0)), (1, .int w), (2, .int gr), (3, .int lo), (4, .int dr), (5, .int ho)] []
  refine r_iload (pc := 0) h dX10_winged_0 rfl ?_
  refine r_iconst (v := 1) (pc := 2) h dX10_winged_2 (by decide) ?_
  refine r_sipush (v := 200) (pc := 3) h dX10_winged_3 (by decide) ?_
  refine r_callSI (pc := 6) h dX10_winged_6 wm_X10_118 ca_X10_within (c_X10_within E _ _ _ _) rfl rfl (by decide) (by decide) (fun r I1 hq => ?_)
  obtain ⟨rfl, rfl⟩ := hq
  refine r_if_ne (pc := 9) h 14 dX10_winged_9 (by decide) (fun c9 => ?_) (fun c9 => ?_)
  · refine r_aload_n (pc := 14) h dX10_winged_14 rfl ?_
    refine r_iload_n (pc := 15) h dX10_winged_15 rfl ?_
    refine r_iload_n (pc := 16) h dX10_winged_16 rfl ?_
    refine r_iload_n (pc := 17) h dX10_winged_17 rfl ?_
    refine r_iload (pc := 18) h dX10_winged_18 rfl ?_
    refine r_iload (pc := 20) h dX10_winged_20 rfl ?_
    refine r_callVI (ci := 10) (pc := 22) h dX10_winged_22 wm_X10_114 ca_X10_newStick rfl (c_X10_newStick E _ _ _ _ _ _ hc) rfl rfl (by decide) (by decide) (by decide) (by decide) (by decide) (fun r I1 hq => ?_)
    obtain ⟨rfl, rfl⟩ := hq
    exact hr _ _ _ _ dX10_winged_25 (rfl) (by unfold F_winged; rw [if_pos (by (try simp only [b2i_eq0, Int32.reduceToInt, Int64.reduceToInt, Int32.toInt_toInt64] at *); omega)]; exact ⟨rfl, rfl⟩)
  · refine r_iconst (v := -1) (pc := 12) h dX10_winged_12 (by decide) ?_
    exact hr _ _ _ _ dX10_winged_13 (rfl) (by unfold F_winged; rw [if_neg (by (try simp only [b2i_eq0, Int32.reduceToInt, Int64.reduceToInt, Int32.toInt_toInt64] at *); omega)]; exact ⟨rfl, rfl⟩)
set_option maxRecDepth 100000 in
set_option maxHeartbeats 4000000 in
theorem c_X10_lift (E : En) (I : Mem) (s : Int32) (b : Int32) (v : Int32) (hc : 0 ≤ (I 0 2).toInt ∧ (I 0 2).toInt ≤ 9) : Ctr E yX10_lift cX10_lift 5 (some .int) 3 [.ref (E.1 0), .int s, .int b, .int v] I (qI (fun (r : Int32) (I1 : Mem) => r = (F_lift I s b v).1 ∧ (F_lift I s b v).2 = I1)) := by
  refine Ctr.openI (by decide) (Nat.le_of_ble_eq_true rfl) (fun g h hr => ?_)
  have h : Sem cX10_lift RX10 5 (rmL 3) E g := h
  show g I 0 [(0, .ref (E.1 0)), (1, .int s), (2, .int b), (3, .int v)] []
  have ec : (I 0 2 - 1).toInt = (I 0 2).toInt - 1 := tI_sub1 (by omega)
  refine r_aload_n (pc := 0) h dX10_lift_0 rfl ?_
  refine r_iload_n (pc := 1) h dX10_lift_1 rfl ?_
  refine r_callVI (ci := 10) (pc := 2) h dX10_lift_2 wm_X10_126 ca_X10_isStick rfl (c_X10_isStick E _ _) rfl rfl (by decide) (by decide) (by decide) (by decide) (by decide) (fun r I1 hq => ?_)
  obtain ⟨rfl, rfl⟩ := hq
  refine r_if_eq (pc := 5) h 28 dX10_lift_5 (by decide) (fun c5 => ?_) (fun c5 => ?_)
  · refine r_iconst (v := -1) (pc := 28) h dX10_lift_28 (by decide) ?_
    exact hr _ _ _ _ dX10_lift_29 (rfl) (by unfold F_lift; rw [if_neg (by (try simp only [b2i_eq0, Int32.reduceToInt, Int64.reduceToInt, Int32.toInt_toInt64] at *); omega)]; exact ⟨rfl, rfl⟩)
  · refine r_iload_n (pc := 8) h dX10_lift_8 rfl ?_
    refine r_iconst (v := 0) (pc := 9) h dX10_lift_9 (by decide) ?_
    refine r_iconst (v := 3) (pc := 10) h dX10_lift_10 (by decide) ?_
    refine r_callSI (pc := 11) h dX10_lift_11 wm_X10_118 ca_X10_within (c_X10_within E _ _ _ _) rfl rfl (by decide) (by decide) (fun r I1 hq => ?_)
    obtain ⟨rfl, rfl⟩ := hq
    refine r_if_eq (pc := 14) h 28 dX10_lift_14 (by decide) (fun c14 => ?_) (fun c14 => ?_)
    · refine r_iconst (v := -1) (pc := 28) h dX10_lift_28 (by decide) ?_
      exact hr _ _ _ _ dX10_lift_29 (rfl) (by unfold F_lift; rw [if_neg (by (try simp only [b2i_eq0, Int32.reduceToInt, Int64.reduceToInt, Int32.toInt_toInt64] at *); omega)]; exact ⟨rfl, rfl⟩)
    · refine r_iload_n (pc := 17) h dX10_lift_17 rfl ?_
      refine r_iconst (v := 0) (pc := 18) h dX10_lift_18 (by decide) ?_
      refine r_sipush (v := 300) (pc := 19) h dX10_lift_19 (by decide) ?_
      refine r_callSI (pc := 22) h dX10_lift_22 wm_X10_118 ca_X10_within (c_X10_within E _ _ _ _) rfl rfl (by decide) (by decide) (fun r I1 hq => ?_)
      obtain ⟨rfl, rfl⟩ := hq
      refine r_if_ne (pc := 25) h 30 dX10_lift_25 (by decide) (fun c25 => ?_) (fun c25 => ?_)
      · have hs : 0 ≤ s.toInt ∧ s.toInt < (I 0 2).toInt := by (try simp only [b2i_eq0, Int32.reduceToInt, Int64.reduceToInt, Int32.toInt_toInt64] at *); omega
        have hn : s.toNatClampNeg < 9 := by rw [tn]; omega
        have hb3 : 0 ≤ b.toInt ∧ b.toInt ≤ 3 := by (try simp only [b2i_eq0, Int32.reduceToInt, Int64.reduceToInt, Int32.toInt_toInt64] at *); omega
        refine r_aload_n (pc := 30) h dX10_lift_30 rfl ?_
        refine gf_X10_19 (pc := 31) h dX10_lift_31 ?_
        refine r_iload_n (pc := 34) h dX10_lift_34 rfl ?_
        refine r_aa2 (pc := 35) h dX10_lift_35 (vin (n := 9) (by omega) (by omega)) ?_
        refine gf_X10_130 (pc := 36) h dX10_lift_36 (by omega) (kdSt _ hn) (rfLi _ hn) ?_
        refine r_iload_n (pc := 39) h dX10_lift_39 rfl ?_
        refine r_iald (pc := 40) h dX10_lift_40 (by omega) (kdLi _ hn) (by rw [lnLi _ hn]; exact vin (by omega) (by omega)) ?_
        refine r_istore (pc := 41) h dX10_lift_41 (by decide) ?_
        refine r_aload_n (pc := 43) h dX10_lift_43 rfl ?_
        refine gf_X10_19 (pc := 44) h dX10_lift_44 ?_
        refine r_iload_n (pc := 47) h dX10_lift_47 rfl ?_
        refine r_aa2 (pc := 48) h dX10_lift_48 (vin (n := 9) (by omega) (by omega)) ?_
        refine gf_X10_130 (pc := 49) h dX10_lift_49 (by omega) (kdSt _ hn) (rfLi _ hn) ?_
        refine r_iload_n (pc := 52) h dX10_lift_52 rfl ?_
        refine r_iload_n (pc := 53) h dX10_lift_53 rfl ?_
        refine r_iast (pc := 54) h dX10_lift_54 (by omega) (kdLi _ hn) (by rw [lnLi _ hn]; exact vin (by omega) (by omega)) ?_
        refine r_iload (pc := 55) h dX10_lift_55 rfl ?_
        exact hr _ _ _ _ dX10_lift_57 (rfl) (by unfold F_lift; rw [if_pos (by (try simp only [b2i_eq0, Int32.reduceToInt, Int64.reduceToInt, Int32.toInt_toInt64] at *); omega)]; exact ⟨rfl, rfl⟩)
      · refine r_iconst (v := -1) (pc := 28) h dX10_lift_28 (by decide) ?_
        exact hr _ _ _ _ dX10_lift_29 (rfl) (by unfold F_lift; rw [if_neg (by (try simp only [b2i_eq0, Int32.reduceToInt, Int64.reduceToInt, Int32.toInt_toInt64] at *); omega)]; exact ⟨rfl, rfl⟩)
set_option maxRecDepth 100000 in
set_option maxHeartbeats 4000000 in
theorem c_X10_bend (E : En) (I : Mem) (s : Int32) (v : Int32) (hc : 0 ≤ (I 0 2).toInt ∧ (I 0 2).toInt ≤ 9) : Ctr E yX10_bend cX10_bend 4 (some .int) 3 [.ref (E.1 0), .int s, .int v] I (qI (fun (r : Int32) (I1 : Mem) => r = (F_bend I s v).1 ∧ (F_bend I s v).2 = I1)) := by
  refine Ctr.openI (by decide) (Nat.le_of_ble_eq_true rfl) (fun g h hr => ?_)
  have h : Sem cX10_bend RX10 4 (rmL 3) E g := h
  show g I 0 [(0, .ref (E.1 0)), (1, .int s), (2, .int v)] []
  have ec : (I 0 2 - 1).toInt = (I 0 2).toInt - 1 := tI_sub1 (by omega)
  refine r_aload_n (pc := 0) h dX10_bend_0 rfl ?_
  refine r_iload_n (pc := 1) h dX10_bend_1 rfl ?_
  refine r_callVI (ci := 10) (pc := 2) h dX10_bend_2 wm_X10_126 ca_X10_isStick rfl (c_X10_isStick E _ _) rfl rfl (by decide) (by decide) (by decide) (by decide) (by decide) (fun r I1 hq => ?_)
  obtain ⟨rfl, rfl⟩ := hq
  refine r_if_eq (pc := 5) h 15 dX10_bend_5 (by decide) (fun c5 => ?_) (fun c5 => ?_)
  · refine r_bipush (v := -11) (pc := 15) h dX10_bend_15 (by decide) ?_
    exact hr _ _ _ _ dX10_bend_17 (rfl) (by unfold F_bend; rw [if_neg (by (try simp only [b2i_eq0, Int32.reduceToInt, Int64.reduceToInt, Int32.toInt_toInt64] at *); omega)]; exact ⟨rfl, rfl⟩)
  · refine r_iload_n (pc := 8) h dX10_bend_8 rfl ?_
    refine r_callSI (pc := 9) h dX10_bend_9 wm_X10_133 ca_X10_isBend (c_X10_isBend E _ _) rfl rfl (by decide) (by decide) (fun r I1 hq => ?_)
    obtain ⟨rfl, rfl⟩ := hq
    refine r_if_ne (pc := 12) h 18 dX10_bend_12 (by decide) (fun c12 => ?_) (fun c12 => ?_)
    · have hs : 0 ≤ s.toInt ∧ s.toInt < (I 0 2).toInt := by (try simp only [b2i_eq0, Int32.reduceToInt, Int64.reduceToInt, Int32.toInt_toInt64] at *); omega
      have hn : s.toNatClampNeg < 9 := by rw [tn]; omega
      refine r_aload_n (pc := 18) h dX10_bend_18 rfl ?_
      refine gf_X10_19 (pc := 19) h dX10_bend_19 ?_
      refine r_iload_n (pc := 22) h dX10_bend_22 rfl ?_
      refine r_aa2 (pc := 23) h dX10_bend_23 (vin (n := 9) (by omega) (by omega)) ?_
      refine gf_X10_136 (pc := 24) h dX10_bend_24 (by omega) (kdSt _ hn) ?_
      refine r_istore_n (pc := 27) h dX10_bend_27 (by decide) ?_
      refine r_aload_n (pc := 28) h dX10_bend_28 rfl ?_
      refine gf_X10_19 (pc := 29) h dX10_bend_29 ?_
      refine r_iload_n (pc := 32) h dX10_bend_32 rfl ?_
      refine r_aa2 (pc := 33) h dX10_bend_33 (vin (n := 9) (by omega) (by omega)) ?_
      refine r_iload_n (pc := 34) h dX10_bend_34 rfl ?_
      refine pf_X10_136 (pc := 35) h dX10_bend_35 (by omega) (kdSt _ hn) ?_
      refine r_iload_n (pc := 38) h dX10_bend_38 rfl ?_
      exact hr _ _ _ _ dX10_bend_39 (rfl) (by unfold F_bend; rw [if_pos (by (try simp only [b2i_eq0, Int32.reduceToInt, Int64.reduceToInt, Int32.toInt_toInt64] at *); omega)]; exact ⟨rfl, rfl⟩)
    · refine r_bipush (v := -11) (pc := 15) h dX10_bend_15 (by decide) ?_
      exact hr _ _ _ _ dX10_bend_17 (rfl) (by unfold F_bend; rw [if_neg (by (try simp only [b2i_eq0, Int32.reduceToInt, Int64.reduceToInt, Int32.toInt_toInt64] at *); omega)]; exact ⟨rfl, rfl⟩)
set_option maxRecDepth 100000 in
set_option maxHeartbeats 4000000 in
theorem c_X10_told (E : En) (I : Mem) (s : Int32) (t : Int32) (hc : 0 ≤ (I 0 2).toInt ∧ (I 0 2).toInt ≤ 9) : Ctr E yX10_told cX10_told 4 (some .int) 3 [.ref (E.1 0), .int s, .int t] I (qI (fun (r : Int32) (I1 : Mem) => r = F_told I s t ∧ I = I1)) := by
  refine Ctr.openI (by decide) (Nat.le_of_ble_eq_true rfl) (fun g h hr => ?_)
  have h : Sem cX10_told RX10 4 (rmL 3) E g := h
  show g I 0 [(0, .ref (E.1 0)), (1, .int s), (2, .int t)] []
  have ec : (I 0 2 - 1).toInt = (I 0 2).toInt - 1 := tI_sub1 (by omega)
  refine r_aload_n (pc := 0) h dX10_told_0 rfl ?_
  refine r_iload_n (pc := 1) h dX10_told_1 rfl ?_
  refine r_callVI (ci := 10) (pc := 2) h dX10_told_2 wm_X10_126 ca_X10_isStick rfl (c_X10_isStick E _ _) rfl rfl (by decide) (by decide) (by decide) (by decide) (by decide) (fun r I1 hq => ?_)
  obtain ⟨rfl, rfl⟩ := hq
  refine r_if_ne (pc := 5) h 10 dX10_told_5 (by decide) (fun c5 => ?_) (fun c5 => ?_)
  · have hs : 0 ≤ s.toInt ∧ s.toInt < (I 0 2).toInt := by (try simp only [b2i_eq0, Int32.reduceToInt, Int64.reduceToInt, Int32.toInt_toInt64] at *); omega
    have hn : s.toNatClampNeg < 9 := by rw [tn]; omega
    refine r_aload_n (pc := 10) h dX10_told_10 rfl ?_
    refine gf_X10_19 (pc := 11) h dX10_told_11 ?_
    refine r_iload_n (pc := 14) h dX10_told_14 rfl ?_
    refine r_aa2 (pc := 15) h dX10_told_15 (vin (n := 9) (by omega) (by omega)) ?_
    refine r_astore_n (pc := 16) h dX10_told_16 (by decide) ?_
    refine r_iload_n (pc := 17) h dX10_told_17 rfl ?_
    by_cases hsw : t.toInt < 0 ∨ 6 < t.toInt
    · refine r_tableOut (pc := 18) h 123 dX10_told_18 hsw (by decide) ?_
      refine r_iconst (v := -1) (pc := 123) h dX10_told_123 (by decide) ?_
      exact hr _ _ _ _ dX10_told_124 (rfl) (⟨by unfold F_told; rw [if_pos hs, if_neg (by omega), if_neg (by omega), if_neg (by omega), if_neg (by omega), if_neg (by omega), if_neg (by omega), if_neg (by omega)], rfl⟩)
    · rcases (show t.toInt = 0 ∨ t.toInt = 1 ∨ t.toInt = 2 ∨ t.toInt = 3 ∨ t.toInt = 4 ∨ t.toInt = 5 ∨ t.toInt = 6 by omega) with esw | esw | esw | esw | esw | esw | esw
      · refine r_tableIn (pc := 18) h 60 dX10_told_18 (by omega) (by omega) (by rw [esw]; rfl) (by decide) ?_
        refine r_aload_n (pc := 60) h dX10_told_60 rfl ?_
        refine r_callVI (ci := 7) (pc := 61) h dX10_told_61 wm_X10_139 ca_X7_isWinged rfl (c_X7_isWinged E _ _ (by omega) (kdSt _ hn)) rfl rfl (by decide) (by decide) (by decide) (by omega) (kdSt _ hn) (fun r I1 hq => ?_)
        obtain ⟨rfl, rfl⟩ := hq
        refine r_if_eq (pc := 64) h 71 dX10_told_64 (by decide) (fun c64 => ?_) (fun c64 => ?_)
        · refine r_iconst (v := 0) (pc := 71) h dX10_told_71 (by decide) ?_
          exact hr _ _ _ _ dX10_told_72 (rfl) (⟨by unfold F_told; rw [if_pos hs]; simp_all [b2i], rfl⟩)
        · refine r_iconst (v := 1) (pc := 67) h dX10_told_67 (by decide) ?_
          refine r_goto (pc := 68) h 72 dX10_told_68 (by decide) ?_
          exact hr _ _ _ _ dX10_told_72 (rfl) (⟨by unfold F_told; rw [if_pos hs]; simp_all [b2i], rfl⟩)
      · refine r_tableIn (pc := 18) h 73 dX10_told_18 (by omega) (by omega) (by rw [esw]; rfl) (by decide) ?_
        refine r_aload_n (pc := 73) h dX10_told_73 rfl ?_
        refine gf_X10_143 (pc := 74) h dX10_told_74 (by omega) (kdSt _ hn) ?_
        exact hr _ _ _ _ dX10_told_77 (rfl) (⟨by unfold F_told; rw [if_pos hs]; simp_all [b2i], rfl⟩)
      · refine r_tableIn (pc := 18) h 78 dX10_told_18 (by omega) (by omega) (by rw [esw]; rfl) (by decide) ?_
        refine r_aload_n (pc := 78) h dX10_told_78 rfl ?_
        refine gf_X10_146 (pc := 79) h dX10_told_79 (by omega) (kdSt _ hn) ?_
        exact hr _ _ _ _ dX10_told_82 (rfl) (⟨by unfold F_told; rw [if_pos hs]; simp_all [b2i], rfl⟩)
      · refine r_tableIn (pc := 18) h 83 dX10_told_18 (by omega) (by omega) (by rw [esw]; rfl) (by decide) ?_
        refine r_aload_n (pc := 83) h dX10_told_83 rfl ?_
        refine gf_X10_149 (pc := 84) h dX10_told_84 (by omega) (kdSt _ hn) ?_
        exact hr _ _ _ _ dX10_told_87 (rfl) (⟨by unfold F_told; rw [if_pos hs]; simp_all [b2i], rfl⟩)
      · refine r_tableIn (pc := 18) h 88 dX10_told_18 (by omega) (by omega) (by rw [esw]; rfl) (by decide) ?_
        refine r_aload_n (pc := 88) h dX10_told_88 rfl ?_
        refine gf_X10_152 (pc := 89) h dX10_told_89 (by omega) (kdSt _ hn) ?_
        exact hr _ _ _ _ dX10_told_92 (rfl) (⟨by unfold F_told; rw [if_pos hs]; simp_all [b2i], rfl⟩)
      · refine r_tableIn (pc := 18) h 93 dX10_told_18 (by omega) (by omega) (by rw [esw]; rfl) (by decide) ?_
        refine r_aload_n (pc := 93) h dX10_told_93 rfl ?_
        refine r_callVI (ci := 7) (pc := 94) h dX10_told_94 wm_X10_139 ca_X7_isWinged rfl (c_X7_isWinged E _ _ (by omega) (kdSt _ hn)) rfl rfl (by decide) (by decide) (by decide) (by omega) (kdSt _ hn) (fun r I1 hq => ?_)
        obtain ⟨rfl, rfl⟩ := hq
        refine r_if_eq (pc := 97) h 107 dX10_told_97 (by decide) (fun c97 => ?_) (fun c97 => ?_)
        · refine r_bipush (v := -4) (pc := 107) h dX10_told_107 (by decide) ?_
          exact hr _ _ _ _ dX10_told_109 (rfl) (⟨by unfold F_told; rw [if_pos hs]; simp_all [b2i], rfl⟩)
        · refine r_aload_n (pc := 100) h dX10_told_100 rfl ?_
          refine gf_X10_155 (pc := 101) h dX10_told_101 (by omega) (kdSt _ hn) ?_
          refine r_goto (pc := 104) h 109 dX10_told_104 (by decide) ?_
          exact hr _ _ _ _ dX10_told_109 (rfl) (⟨by unfold F_told; rw [if_pos hs]; simp_all [b2i], rfl⟩)
      · refine r_tableIn (pc := 18) h 110 dX10_told_18 (by omega) (by omega) (by rw [esw]; rfl) (by decide) ?_
        refine r_aload_n (pc := 110) h dX10_told_110 rfl ?_
        refine gf_X10_158 (pc := 111) h dX10_told_111 (by omega) (kdSt _ hn) ?_
        refine r_if_eq (pc := 114) h 121 dX10_told_114 (by decide) (fun c114 => ?_) (fun c114 => ?_)
        · refine r_iconst (v := 0) (pc := 121) h dX10_told_121 (by decide) ?_
          exact hr _ _ _ _ dX10_told_122 (rfl) (⟨by unfold F_told; rw [if_pos hs]; simp_all [b2i], rfl⟩)
        · refine r_iconst (v := 1) (pc := 117) h dX10_told_117 (by decide) ?_
          refine r_goto (pc := 118) h 122 dX10_told_118 (by decide) ?_
          exact hr _ _ _ _ dX10_told_122 (rfl) (⟨by unfold F_told; rw [if_pos hs]; simp_all [b2i], rfl⟩)
  · refine r_iconst (v := -1) (pc := 8) h dX10_told_8 (by decide) ?_
    exact hr _ _ _ _ dX10_told_9 (rfl) (⟨by unfold F_told; rw [if_neg (by (try simp only [b2i_eq0, Int32.reduceToInt, Int64.reduceToInt, Int32.toInt_toInt64] at *); omega)], rfl⟩)
set_option maxRecDepth 100000 in
set_option maxHeartbeats 4000000 in
theorem c_X10_lose (E : En) (I : Mem) (s : Int32) (is : Int32) (hc : 0 ≤ (I 0 2).toInt ∧ (I 0 2).toInt ≤ 9) : Ctr E yX10_lose cX10_lose 4 (some .int) 3 [.ref (E.1 0), .int s, .int is] I (qI (fun (r : Int32) (I1 : Mem) => r = (F_lose I s is).1 ∧ (F_lose I s is).2 = I1)) := by
  refine Ctr.openI (by decide) (Nat.le_of_ble_eq_true rfl) (fun g h hr => ?_)
  have h : Sem cX10_lose RX10 4 (rmL 3) E g := h
  show g I 0 [(0, .ref (E.1 0)), (1, .int s), (2, .int is)] []
  have ec : (I 0 2 - 1).toInt = (I 0 2).toInt - 1 := tI_sub1 (by omega)
  refine r_aload_n (pc := 0) h dX10_lose_0 rfl ?_
  refine r_iload_n (pc := 1) h dX10_lose_1 rfl ?_
  refine r_callVI (ci := 10) (pc := 2) h dX10_lose_2 wm_X10_126 ca_X10_isStick rfl (c_X10_isStick E _ _) rfl rfl (by decide) (by decide) (by decide) (by decide) (by decide) (fun r I1 hq => ?_)
  obtain ⟨rfl, rfl⟩ := hq
  refine r_if_ne (pc := 5) h 10 dX10_lose_5 (by decide) (fun c5 => ?_) (fun c5 => ?_)
  · have hs : 0 ≤ s.toInt ∧ s.toInt < (I 0 2).toInt := by (try simp only [b2i_eq0, Int32.reduceToInt, Int64.reduceToInt, Int32.toInt_toInt64] at *); omega
    have hn : s.toNatClampNeg < 9 := by rw [tn]; omega
    refine r_aload_n (pc := 10) h dX10_lose_10 rfl ?_
    refine gf_X10_19 (pc := 11) h dX10_lose_11 ?_
    refine r_iload_n (pc := 14) h dX10_lose_14 rfl ?_
    refine r_aa2 (pc := 15) h dX10_lose_15 (vin (n := 9) (by omega) (by omega)) ?_
    refine gf_X10_158 (pc := 16) h dX10_lose_16 (by omega) (kdSt _ hn) ?_
    refine r_if_eq (pc := 19) h 26 dX10_lose_19 (by decide) (fun c19 => ?_) (fun c19 => ?_)
    · refine r_iconst (v := 0) (pc := 26) h dX10_lose_26 (by decide) ?_
      refine r_istore_n (pc := 27) h dX10_lose_27 (by decide) ?_
      refine r_aload_n (pc := 28) h dX10_lose_28 rfl ?_
      refine gf_X10_19 (pc := 29) h dX10_lose_29 ?_
      refine r_iload_n (pc := 32) h dX10_lose_32 rfl ?_
      refine r_aa2 (pc := 33) h dX10_lose_33 (vin (n := 9) (by omega) (by omega)) ?_
      refine r_iload_n (pc := 34) h dX10_lose_34 rfl ?_
      refine r_if_ne (pc := 35) h 42 dX10_lose_35 (by decide) (fun c35 => ?_) (fun c35 => ?_)
      · refine r_iconst (v := 0) (pc := 42) h dX10_lose_42 (by decide) ?_
        refine pf_X10_158 (pc := 43) h dX10_lose_43 (by omega) (kdSt _ hn) (by decide) (by decide) ?_
        refine r_iload_n (pc := 46) h dX10_lose_46 rfl ?_
        exact hr _ _ _ _ dX10_lose_47 (rfl) (by unfold F_lose; rw [if_pos hs]; simp_all)
      · refine r_iconst (v := 1) (pc := 38) h dX10_lose_38 (by decide) ?_
        refine r_goto (pc := 39) h 43 dX10_lose_39 (by decide) ?_
        refine pf_X10_158 (pc := 43) h dX10_lose_43 (by omega) (kdSt _ hn) (by decide) (by decide) ?_
        refine r_iload_n (pc := 46) h dX10_lose_46 rfl ?_
        exact hr _ _ _ _ dX10_lose_47 (rfl) (by unfold F_lose; rw [if_pos hs]; simp_all)
    · refine r_iconst (v := 1) (pc := 22) h dX10_lose_22 (by decide) ?_
      refine r_goto (pc := 23) h 27 dX10_lose_23 (by decide) ?_
      refine r_istore_n (pc := 27) h dX10_lose_27 (by decide) ?_
      refine r_aload_n (pc := 28) h dX10_lose_28 rfl ?_
      refine gf_X10_19 (pc := 29) h dX10_lose_29 ?_
      refine r_iload_n (pc := 32) h dX10_lose_32 rfl ?_
      refine r_aa2 (pc := 33) h dX10_lose_33 (vin (n := 9) (by omega) (by omega)) ?_
      refine r_iload_n (pc := 34) h dX10_lose_34 rfl ?_
      refine r_if_ne (pc := 35) h 42 dX10_lose_35 (by decide) (fun c35 => ?_) (fun c35 => ?_)
      · refine r_iconst (v := 0) (pc := 42) h dX10_lose_42 (by decide) ?_
        refine pf_X10_158 (pc := 43) h dX10_lose_43 (by omega) (kdSt _ hn) (by decide) (by decide) ?_
        refine r_iload_n (pc := 46) h dX10_lose_46 rfl ?_
        exact hr _ _ _ _ dX10_lose_47 (rfl) (by unfold F_lose; rw [if_pos hs]; simp_all)
      · refine r_iconst (v := 1) (pc := 38) h dX10_lose_38 (by decide) ?_
        refine r_goto (pc := 39) h 43 dX10_lose_39 (by decide) ?_
        refine pf_X10_158 (pc := 43) h dX10_lose_43 (by omega) (kdSt _ hn) (by decide) (by decide) ?_
        refine r_iload_n (pc := 46) h dX10_lose_46 rfl ?_
        exact hr _ _ _ _ dX10_lose_47 (rfl) (by unfold F_lose; rw [if_pos hs]; simp_all)
  · refine r_iconst (v := -1) (pc := 8) h dX10_lose_8 (by decide) ?_
    exact hr _ _ _ _ dX10_lose_9 (rfl) (by unfold F_lose; rw [if_neg (by (try simp only [b2i_eq0, Int32.reduceToInt, Int64.reduceToInt, Int32.toInt_toInt64] at *); omega)]; exact ⟨rfl, rfl⟩)
set_option maxRecDepth 100000 in
set_option maxHeartbeats 4000000 in
theorem c_X10_wind (E : En) (I : Mem)  (hc : 0 ≤ (I 0 4).toInt ∧ (I 0 4).toInt ≤ 8) : Ctr E yX10_wind cX10_wind 1 (some .int) 1 [.ref (E.1 0)] I (qI (fun (r : Int32) (I1 : Mem) => r = (F_wind I).1 ∧ (F_wind I).2 = I1)) := by
  refine Ctr.openI (by decide) (Nat.le_of_ble_eq_true rfl) (fun g h hr => ?_)
  have h : Sem cX10_wind RX10 1 (rmL 1) E g := h
  show g I 0 [(0, .ref (E.1 0))] []
  refine r_aload_n (pc := 0) h dX10_wind_0 rfl ?_
  refine gf_X10_33 (pc := 1) h dX10_wind_1 ?_
  refine r_bipush (v := 8) (pc := 4) h dX10_wind_4 (by decide) ?_
  refine r_icmp_lt (pc := 6) h 12 dX10_wind_6 (by decide) (fun c6 => ?_) (fun c6 => ?_)
  · refine r_aload_n (pc := 12) h dX10_wind_12 rfl ?_
    refine r_dup (pc := 13) h dX10_wind_13 rfl ?_
    refine gf_X10_33 (pc := 14) h dX10_wind_14 ?_
    refine r_iconst (v := 1) (pc := 17) h dX10_wind_17 (by decide) ?_
    refine r_iadd (pc := 18) h dX10_wind_18 ?_
    refine pf_X10_33 (pc := 19) h dX10_wind_19 ?_
    refine r_aload_n (pc := 22) h dX10_wind_22 rfl ?_
    refine gf_X10_33 (pc := 23) h dX10_wind_23 ?_
    refine r_iconst (v := 1) (pc := 26) h dX10_wind_26 (by decide) ?_
    refine r_isub (pc := 27) h dX10_wind_27 ?_
    exact hr _ _ _ _ dX10_wind_28 (rfl) (by unfold F_wind; rw [if_neg (by (try simp only [Int32.lt_iff_toInt_lt, Int32.reduceToInt] at *); omega), upm_eq]; exact ⟨add1_sub1 _, rfl⟩)
  · refine r_bipush (v := -3) (pc := 9) h dX10_wind_9 (by decide) ?_
    exact hr _ _ _ _ dX10_wind_11 (rfl) (by unfold F_wind; rw [if_pos (by (try simp only [Int32.lt_iff_toInt_lt, Int32.reduceToInt] at *); omega)]; exact ⟨rfl, rfl⟩)
set_option maxRecDepth 100000 in
set_option maxHeartbeats 4000000 in
theorem c_X10_blows (E : En) (I : Mem) (w : Int32) (b : Int32) (s : Int32) (t : Int32) (hc : 0 ≤ (I 0 4).toInt ∧ (I 0 4).toInt ≤ 8) : Ctr E yX10_blows cX10_blows 7 (some .int) 3 [.ref (E.1 0), .int w, .int b, .int s, .int t] I (qI (fun (r : Int32) (I1 : Mem) => r = (F_blows I w b s t).1 ∧ (F_blows I w b s t).2 = I1)) := by
  refine Ctr.openI (by decide) (Nat.le_of_ble_eq_true rfl) (fun g h hr => ?_)
  have h : Sem cX10_blows RX10 7 (rmL 3) E g := h
  show g I 0 [(0, .ref (E.1 0)), (1, .int w), (2, .int b), (3, .int s), (4, .int t)] []
  have ec : (I 0 4 - 1).toInt = (I 0 4).toInt - 1 := tI_sub1 (by omega)
  refine r_aload_n (pc := 0) h dX10_blows_0 rfl ?_
  refine r_iload_n (pc := 1) h dX10_blows_1 rfl ?_
  refine r_callVI (ci := 10) (pc := 2) h dX10_blows_2 wm_X10_161 ca_X10_isWind rfl (c_X10_isWind E _ _) rfl rfl (by decide) (by decide) (by decide) (by decide) (by decide) (fun r I1 hq => ?_)
  obtain ⟨rfl, rfl⟩ := hq
  refine r_if_eq (pc := 5) h 39 dX10_blows_5 (by decide) (fun c5 => ?_) (fun c5 => ?_)
  · refine r_iconst (v := 0) (pc := 39) h dX10_blows_39 (by decide) ?_
    refine r_istore (pc := 40) h dX10_blows_40 (by decide) ?_
    refine r_iload (pc := 42) h dX10_blows_42 rfl ?_
    refine r_if_ne (pc := 44) h 49 dX10_blows_44 (by decide) (fun c => absurd c (by decide)) (fun _ => ?_)
    refine r_iconst (v := -1) (pc := 47) h dX10_blows_47 (by decide) ?_
    exact hr _ _ _ _ dX10_blows_48 (rfl) (by unfold F_blows; rw [if_neg (by (try simp only [b2i_eq0, Int32.reduceToInt, Int64.reduceToInt, Int32.toInt_toInt64] at *); omega)]; exact ⟨rfl, rfl⟩)
  · refine r_iload_n (pc := 8) h dX10_blows_8 rfl ?_
    refine r_iconst (v := 0) (pc := 9) h dX10_blows_9 (by decide) ?_
    refine r_iconst (v := 3) (pc := 10) h dX10_blows_10 (by decide) ?_
    refine r_callSI (pc := 11) h dX10_blows_11 wm_X10_118 ca_X10_within (c_X10_within E _ _ _ _) rfl rfl (by decide) (by decide) (fun r I1 hq => ?_)
    obtain ⟨rfl, rfl⟩ := hq
    refine r_if_eq (pc := 14) h 39 dX10_blows_14 (by decide) (fun c14 => ?_) (fun c14 => ?_)
    · refine r_iconst (v := 0) (pc := 39) h dX10_blows_39 (by decide) ?_
      refine r_istore (pc := 40) h dX10_blows_40 (by decide) ?_
      refine r_iload (pc := 42) h dX10_blows_42 rfl ?_
      refine r_if_ne (pc := 44) h 49 dX10_blows_44 (by decide) (fun c => absurd c (by decide)) (fun _ => ?_)
      refine r_iconst (v := -1) (pc := 47) h dX10_blows_47 (by decide) ?_
      exact hr _ _ _ _ dX10_blows_48 (rfl) (by unfold F_blows; rw [if_neg (by (try simp only [b2i_eq0, Int32.reduceToInt, Int64.reduceToInt, Int32.toInt_toInt64] at *); omega)]; exact ⟨rfl, rfl⟩)
    · refine r_iload_n (pc := 17) h dX10_blows_17 rfl ?_
      refine r_iconst (v := 0) (pc := 18) h dX10_blows_18 (by decide) ?_
      refine r_bipush (v := 60) (pc := 19) h dX10_blows_19 (by decide) ?_
      refine r_callSI (pc := 21) h dX10_blows_21 wm_X10_118 ca_X10_within (c_X10_within E _ _ _ _) rfl rfl (by decide) (by decide) (fun r I1 hq => ?_)
      obtain ⟨rfl, rfl⟩ := hq
      refine r_if_eq (pc := 24) h 39 dX10_blows_24 (by decide) (fun c24 => ?_) (fun c24 => ?_)
      · refine r_iconst (v := 0) (pc := 39) h dX10_blows_39 (by decide) ?_
        refine r_istore (pc := 40) h dX10_blows_40 (by decide) ?_
        refine r_iload (pc := 42) h dX10_blows_42 rfl ?_
        refine r_if_ne (pc := 44) h 49 dX10_blows_44 (by decide) (fun c => absurd c (by decide)) (fun _ => ?_)
        refine r_iconst (v := -1) (pc := 47) h dX10_blows_47 (by decide) ?_
        exact hr _ _ _ _ dX10_blows_48 (rfl) (by unfold F_blows; rw [if_neg (by (try simp only [b2i_eq0, Int32.reduceToInt, Int64.reduceToInt, Int32.toInt_toInt64] at *); omega)]; exact ⟨rfl, rfl⟩)
      · refine r_iload (pc := 27) h dX10_blows_27 rfl ?_
        refine r_callSI (pc := 29) h dX10_blows_29 wm_X10_164 ca_X10_isDirection (c_X10_isDirection E _ _) rfl rfl (by decide) (by decide) (fun r I1 hq => ?_)
        obtain ⟨rfl, rfl⟩ := hq
        refine r_if_eq (pc := 32) h 39 dX10_blows_32 (by decide) (fun c32 => ?_) (fun c32 => ?_)
        · refine r_iconst (v := 0) (pc := 39) h dX10_blows_39 (by decide) ?_
          refine r_istore (pc := 40) h dX10_blows_40 (by decide) ?_
          refine r_iload (pc := 42) h dX10_blows_42 rfl ?_
          refine r_if_ne (pc := 44) h 49 dX10_blows_44 (by decide) (fun c => absurd c (by decide)) (fun _ => ?_)
          refine r_iconst (v := -1) (pc := 47) h dX10_blows_47 (by decide) ?_
          exact hr _ _ _ _ dX10_blows_48 (rfl) (by unfold F_blows; rw [if_neg (by (try simp only [b2i_eq0, Int32.reduceToInt, Int64.reduceToInt, Int32.toInt_toInt64] at *); omega)]; exact ⟨rfl, rfl⟩)
        · refine r_iconst (v := 1) (pc := 35) h dX10_blows_35 (by decide) ?_
          refine r_goto (pc := 36) h 40 dX10_blows_36 (by decide) ?_
          refine r_istore (pc := 40) h dX10_blows_40 (by decide) ?_
          refine r_iload (pc := 42) h dX10_blows_42 rfl ?_
          refine r_if_ne (pc := 44) h 49 dX10_blows_44 (by decide) (fun _ => ?_) (fun c => absurd c (by decide))
          have hs : 0 ≤ w.toInt ∧ w.toInt < (I 0 4).toInt := by (try simp only [b2i_eq0, Int32.reduceToInt, Int64.reduceToInt, Int32.toInt_toInt64] at *); omega
          have hn : w.toNatClampNeg < 8 := by rw [tn]; omega
          have hb3 : 0 ≤ b.toInt ∧ b.toInt ≤ 3 := by (try simp only [b2i_eq0, Int32.reduceToInt, Int64.reduceToInt, Int32.toInt_toInt64] at *); omega
          refine r_aload_n (pc := 49) h dX10_blows_49 rfl ?_
          refine gf_X10_29 (pc := 50) h dX10_blows_50 ?_
          refine r_iload_n (pc := 53) h dX10_blows_53 rfl ?_
          refine r_aa3 (pc := 54) h dX10_blows_54 (vin (n := 8) (by omega) (by omega)) ?_
          refine gf_X10_167 (pc := 55) h dX10_blows_55 (by omega) (kdWi _ hn) (rfWs _ hn) ?_
          refine r_iload_n (pc := 58) h dX10_blows_58 rfl ?_
          refine r_iald (pc := 59) h dX10_blows_59 (by omega) (kdWs _ hn) (by rw [lnWs _ hn]; exact vin (by omega) (by omega)) ?_
          refine r_istore (pc := 60) h dX10_blows_60 (by decide) ?_
          refine r_aload_n (pc := 62) h dX10_blows_62 rfl ?_
          refine gf_X10_29 (pc := 63) h dX10_blows_63 ?_
          refine r_iload_n (pc := 66) h dX10_blows_66 rfl ?_
          refine r_aa3 (pc := 67) h dX10_blows_67 (vin (n := 8) (by omega) (by omega)) ?_
          refine gf_X10_167 (pc := 68) h dX10_blows_68 (by omega) (kdWi _ hn) (rfWs _ hn) ?_
          refine r_iload_n (pc := 71) h dX10_blows_71 rfl ?_
          refine r_iload_n (pc := 72) h dX10_blows_72 rfl ?_
          refine r_iast (pc := 73) h dX10_blows_73 (by omega) (kdWs _ hn) (by rw [lnWs _ hn]; exact vin (by omega) (by omega)) ?_
          refine r_aload_n (pc := 74) h dX10_blows_74 rfl ?_
          refine gf_X10_29 (pc := 75) h dX10_blows_75 ?_
          refine r_iload_n (pc := 78) h dX10_blows_78 rfl ?_
          refine r_aa3 (pc := 79) h dX10_blows_79 (vin (n := 8) (by omega) (by omega)) ?_
          refine gf_X10_170 (pc := 80) h dX10_blows_80 (by omega) (kdWi _ hn) (rfWt _ hn) ?_
          refine r_iload_n (pc := 83) h dX10_blows_83 rfl ?_
          refine r_iload (pc := 84) h dX10_blows_84 rfl ?_
          refine r_iast (pc := 86) h dX10_blows_86 (by omega) (kdWt _ hn) (by rw [lnWt _ hn]; exact vin (by omega) (by omega)) ?_
          refine r_iload (pc := 87) h dX10_blows_87 rfl ?_
          exact hr _ _ _ _ dX10_blows_89 (rfl) (by unfold F_blows; rw [if_pos (by (try simp only [b2i_eq0, Int32.reduceToInt, Int64.reduceToInt, Int32.toInt_toInt64] at *); omega)]; exact ⟨rfl, rfl⟩)
set_option maxRecDepth 100000 in
set_option maxHeartbeats 4000000 in
theorem c_X4_plant (E : En) (I : Mem) (x : Int32) (y : Int32) (t : Int32) (hi : Int32) (hc : 0 ≤ (I 7 1).toInt ∧ (I 7 1).toInt ≤ 6) : Ctr E yX4_plant cX4_plant 6 (some .int) 1 [.ref (E.1 7), .int x, .int y, .int t, .int hi] I (qI (fun (r : Int32) (I1 : Mem) => r = (F_plant I x y t hi).1 ∧ (F_plant I x y t hi).2 = I1)) := by
  refine Ctr.openI (by decide) (Nat.le_of_ble_eq_true rfl) (fun g h hr => ?_)
  have h : Sem cX4_plant RX4 6 (rmL 1) E g := h
  show g I 0 [(0, .ref (E.1 7)), (1, .int x), (2, .int y), (3, .int t), (4, .int hi)] []
  refine r_aload_n (pc := 0) h dX4_plant_0 rfl ?_
  refine gf_X4_17 (pc := 1) h dX4_plant_1 ?_
  refine r_bipush (v := 6) (pc := 4) h dX4_plant_4 (by decide) ?_
  refine r_icmp_lt (pc := 6) h 12 dX4_plant_6 (by decide) (fun c6 => ?_) (fun c6 => ?_)
  · have hn : (I 7 1).toNatClampNeg < 6 := by (try simp only [Int32.lt_iff_toInt_lt, Int32.reduceToInt] at *); rw [tn]; omega
    refine r_aload_n (pc := 12) h dX4_plant_12 rfl ?_
    refine gf_X4_11 (pc := 13) h dX4_plant_13 ?_
    refine r_aload_n (pc := 16) h dX4_plant_16 rfl ?_
    refine gf_X4_17 (pc := 17) h dX4_plant_17 ?_
    refine r_aa8 (pc := 20) h dX4_plant_20 (vin (n := 6) (by omega) (by rw [tn] at hn; omega)) ?_
    refine r_astore (pc := 21) h dX4_plant_21 (by decide) ?_
    refine r_aload (pc := 23) h dX4_plant_23 rfl ?_
    refine r_iload_n (pc := 25) h dX4_plant_25 rfl ?_
    refine pf_X4_25 (pc := 26) h dX4_plant_26 (by omega) (kdTr _ hn) ?_
    refine r_aload (pc := 29) h dX4_plant_29 rfl ?_
    refine r_iload_n (pc := 31) h dX4_plant_31 rfl ?_
    refine pf_X4_28 (pc := 32) h dX4_plant_32 (by omega) (kdTr _ hn) ?_
    refine r_aload (pc := 35) h dX4_plant_35 rfl ?_
    refine r_iload_n (pc := 37) h dX4_plant_37 rfl ?_
    refine pf_X4_31 (pc := 38) h dX4_plant_38 (by omega) (kdTr _ hn) ?_
    refine r_aload (pc := 41) h dX4_plant_41 rfl ?_
    refine r_iload (pc := 43) h dX4_plant_43 rfl ?_
    refine pf_X4_34 (pc := 45) h dX4_plant_45 (by omega) (kdTr _ hn) ?_
    refine r_aload_n (pc := 48) h dX4_plant_48 rfl ?_
    refine r_dup (pc := 49) h dX4_plant_49 rfl ?_
    refine gf_X4_17 (pc := 50) h dX4_plant_50 ?_
    refine r_iconst (v := 1) (pc := 53) h dX4_plant_53 (by decide) ?_
    refine r_iadd (pc := 54) h dX4_plant_54 ?_
    refine pf_X4_17 (pc := 55) h dX4_plant_55 ?_
    refine r_aload_n (pc := 58) h dX4_plant_58 rfl ?_
    refine gf_X4_17 (pc := 59) h dX4_plant_59 ?_
    refine r_iconst (v := 1) (pc := 62) h dX4_plant_62 (by decide) ?_
    refine r_isub (pc := 63) h dX4_plant_63 ?_
    have e9 : ∀ j v (J : Mem), upm J (9 + (I 7 1).toNatClampNeg) j v 7 = J 7 := fun j v J => upm_ne J j v (by omega)
    exact hr _ _ _ _ dX4_plant_64 (rfl) (by unfold F_plant; rw [if_neg (by (try simp only [Int32.lt_iff_toInt_lt, Int32.reduceToInt] at *); omega)]; simp only [upm_eq, e9]; exact ⟨add1_sub1 _, trivial⟩)
  · refine r_bipush (v := -3) (pc := 9) h dX4_plant_9 (by decide) ?_
    exact hr _ _ _ _ dX4_plant_11 (rfl) (by unfold F_plant; rw [if_pos (by (try simp only [Int32.lt_iff_toInt_lt, Int32.reduceToInt] at *); omega)]; exact ⟨rfl, rfl⟩)
set_option maxRecDepth 100000 in
set_option maxHeartbeats 4000000 in
theorem c_X10_tree (E : En) (I : Mem) (x : Int32) (y : Int32) (t : Int32) (hi : Int32) (hc : 0 ≤ (I 7 1).toInt ∧ (I 7 1).toInt ≤ 6) : Ctr E yX10_tree cX10_tree 6 (some .int) 2 [.ref (E.1 0), .int x, .int y, .int t, .int hi] I (qI (fun (r : Int32) (I1 : Mem) => r = (F_tree I x y t hi).1 ∧ (F_tree I x y t hi).2 = I1)) := by
  refine Ctr.openI (by decide) (Nat.le_of_ble_eq_true rfl) (fun g h hr => ?_)
  have h : Sem cX10_tree RX10 6 (rmL 2) E g := h
  show g I 0 [(0, .ref (E.1 0)), (1, .int x), (2, .int y), (3, .int t), (4, .int hi)] []
  refine r_iload_n (pc := 0) h dX10_tree_0 rfl ?_
  refine r_sipush (v := -9000) (pc := 1) h dX10_tree_1 (by decide) ?_
  refine r_sipush (v := 9000) (pc := 4) h dX10_tree_4 (by decide) ?_
  refine r_callSI (pc := 7) h dX10_tree_7 wm_X10_118 ca_X10_within (c_X10_within E _ _ _ _) rfl rfl (by decide) (by decide) (fun r I1 hq => ?_)
  obtain ⟨rfl, rfl⟩ := hq
  refine r_if_eq (pc := 10) h 53 dX10_tree_10 (by decide) (fun c10 => ?_) (fun c10 => ?_)
  · refine r_iconst (v := 0) (pc := 53) h dX10_tree_53 (by decide) ?_
    refine r_istore (pc := 54) h dX10_tree_54 (by decide) ?_
    refine r_iload (pc := 56) h dX10_tree_56 rfl ?_
    refine r_if_ne (pc := 58) h 63 dX10_tree_58 (by decide) (fun c => absurd c (by decide)) (fun _ => ?_)
    refine r_iconst (v := -1) (pc := 61) h dX10_tree_61 (by decide) ?_
    exact hr _ _ _ _ dX10_tree_62 (rfl) (by unfold F_tree; rw [if_neg (by (try simp only [b2i_eq0, Int32.reduceToInt, Int64.reduceToInt, Int32.toInt_toInt64] at *); omega)]; exact ⟨rfl, rfl⟩)
  · refine r_iload_n (pc := 13) h dX10_tree_13 rfl ?_
    refine r_sipush (v := -9000) (pc := 14) h dX10_tree_14 (by decide) ?_
    refine r_sipush (v := 9000) (pc := 17) h dX10_tree_17 (by decide) ?_
    refine r_callSI (pc := 20) h dX10_tree_20 wm_X10_118 ca_X10_within (c_X10_within E _ _ _ _) rfl rfl (by decide) (by decide) (fun r I1 hq => ?_)
    obtain ⟨rfl, rfl⟩ := hq
    refine r_if_eq (pc := 23) h 53 dX10_tree_23 (by decide) (fun c23 => ?_) (fun c23 => ?_)
    · refine r_iconst (v := 0) (pc := 53) h dX10_tree_53 (by decide) ?_
      refine r_istore (pc := 54) h dX10_tree_54 (by decide) ?_
      refine r_iload (pc := 56) h dX10_tree_56 rfl ?_
      refine r_if_ne (pc := 58) h 63 dX10_tree_58 (by decide) (fun c => absurd c (by decide)) (fun _ => ?_)
      refine r_iconst (v := -1) (pc := 61) h dX10_tree_61 (by decide) ?_
      exact hr _ _ _ _ dX10_tree_62 (rfl) (by unfold F_tree; rw [if_neg (by (try simp only [b2i_eq0, Int32.reduceToInt, Int64.reduceToInt, Int32.toInt_toInt64] at *); omega)]; exact ⟨rfl, rfl⟩)
    · refine r_iload_n (pc := 26) h dX10_tree_26 rfl ?_
      refine r_iconst (v := 1) (pc := 27) h dX10_tree_27 (by decide) ?_
      refine r_sipush (v := 500) (pc := 28) h dX10_tree_28 (by decide) ?_
      refine r_callSI (pc := 31) h dX10_tree_31 wm_X10_118 ca_X10_within (c_X10_within E _ _ _ _) rfl rfl (by decide) (by decide) (fun r I1 hq => ?_)
      obtain ⟨rfl, rfl⟩ := hq
      refine r_if_eq (pc := 34) h 53 dX10_tree_34 (by decide) (fun c34 => ?_) (fun c34 => ?_)
      · refine r_iconst (v := 0) (pc := 53) h dX10_tree_53 (by decide) ?_
        refine r_istore (pc := 54) h dX10_tree_54 (by decide) ?_
        refine r_iload (pc := 56) h dX10_tree_56 rfl ?_
        refine r_if_ne (pc := 58) h 63 dX10_tree_58 (by decide) (fun c => absurd c (by decide)) (fun _ => ?_)
        refine r_iconst (v := -1) (pc := 61) h dX10_tree_61 (by decide) ?_
        exact hr _ _ _ _ dX10_tree_62 (rfl) (by unfold F_tree; rw [if_neg (by (try simp only [b2i_eq0, Int32.reduceToInt, Int64.reduceToInt, Int32.toInt_toInt64] at *); omega)]; exact ⟨rfl, rfl⟩)
      · refine r_iload (pc := 37) h dX10_tree_37 rfl ?_
        refine r_iconst (v := 1) (pc := 39) h dX10_tree_39 (by decide) ?_
        refine r_sipush (v := 3000) (pc := 40) h dX10_tree_40 (by decide) ?_
        refine r_callSI (pc := 43) h dX10_tree_43 wm_X10_118 ca_X10_within (c_X10_within E _ _ _ _) rfl rfl (by decide) (by decide) (fun r I1 hq => ?_)
        obtain ⟨rfl, rfl⟩ := hq
        refine r_if_eq (pc := 46) h 53 dX10_tree_46 (by decide) (fun c46 => ?_) (fun c46 => ?_)
        · refine r_iconst (v := 0) (pc := 53) h dX10_tree_53 (by decide) ?_
          refine r_istore (pc := 54) h dX10_tree_54 (by decide) ?_
          refine r_iload (pc := 56) h dX10_tree_56 rfl ?_
          refine r_if_ne (pc := 58) h 63 dX10_tree_58 (by decide) (fun c => absurd c (by decide)) (fun _ => ?_)
          refine r_iconst (v := -1) (pc := 61) h dX10_tree_61 (by decide) ?_
          exact hr _ _ _ _ dX10_tree_62 (rfl) (by unfold F_tree; rw [if_neg (by (try simp only [b2i_eq0, Int32.reduceToInt, Int64.reduceToInt, Int32.toInt_toInt64] at *); omega)]; exact ⟨rfl, rfl⟩)
        · refine r_iconst (v := 1) (pc := 49) h dX10_tree_49 (by decide) ?_
          refine r_goto (pc := 50) h 54 dX10_tree_50 (by decide) ?_
          refine r_istore (pc := 54) h dX10_tree_54 (by decide) ?_
          refine r_iload (pc := 56) h dX10_tree_56 rfl ?_
          refine r_if_ne (pc := 58) h 63 dX10_tree_58 (by decide) (fun _ => ?_) (fun c => absurd c (by decide))
          refine r_aload_n (pc := 63) h dX10_tree_63 rfl ?_
          refine gf_X10_44 (pc := 64) h dX10_tree_64 ?_
          refine r_iload_n (pc := 67) h dX10_tree_67 rfl ?_
          refine r_iload_n (pc := 68) h dX10_tree_68 rfl ?_
          refine r_iload_n (pc := 69) h dX10_tree_69 rfl ?_
          refine r_iload (pc := 70) h dX10_tree_70 rfl ?_
          refine r_callVI (ci := 4) (pc := 72) h dX10_tree_72 wm_X10_177 ca_X4_plant rfl (c_X4_plant E _ _ _ _ _ hc) rfl rfl (by decide) (by decide) (by decide) (by decide) (by decide) (fun r I1 hq => ?_)
          obtain ⟨rfl, rfl⟩ := hq
          exact hr _ _ _ _ dX10_tree_75 (rfl) (by unfold F_tree; rw [if_pos (by (try simp only [b2i_eq0, Int32.reduceToInt, Int64.reduceToInt, Int32.toInt_toInt64] at *); omega)]; exact ⟨rfl, rfl⟩)
set_option maxRecDepth 100000 in
set_option maxHeartbeats 4000000 in
theorem c_X10_ring (E : En) (I : Mem) (w : Int32)  : Ctr E yX10_ring cX10_ring 3 (some .int) 2 [.ref (E.1 0), .int w] I (qI (fun (r : Int32) (I1 : Mem) => r = (F_ring I w).1 ∧ (F_ring I w).2 = I1)) := by
  refine Ctr.openI (by decide) (Nat.le_of_ble_eq_true rfl) (fun g h hr => ?_)
  have h : Sem cX10_ring RX10 3 (rmL 2) E g := h
  show g I 0 [(0, .ref (E.1 0)), (1, .int w)] []
  refine r_iload_n (pc := 0) h dX10_ring_0 rfl ?_
  refine r_iconst (v := 1) (pc := 1) h dX10_ring_1 (by decide) ?_
  refine r_sipush (v := 2000) (pc := 2) h dX10_ring_2 (by decide) ?_
  refine r_callSI (pc := 5) h dX10_ring_5 wm_X10_118 ca_X10_within (c_X10_within E _ _ _ _) rfl rfl (by decide) (by decide) (fun r I1 hq => ?_)
  obtain ⟨rfl, rfl⟩ := hq
  refine r_if_ne (pc := 8) h 13 dX10_ring_8 (by decide) (fun c8 => ?_) (fun c8 => ?_)
  · refine r_aload_n (pc := 13) h dX10_ring_13 rfl ?_
    refine gf_X10_44 (pc := 14) h dX10_ring_14 ?_
    refine gf_X10_181 (pc := 17) h dX10_ring_17 ?_
    refine r_istore_n (pc := 20) h dX10_ring_20 (by decide) ?_
    refine r_aload_n (pc := 21) h dX10_ring_21 rfl ?_
    refine gf_X10_44 (pc := 22) h dX10_ring_22 ?_
    refine r_iload_n (pc := 25) h dX10_ring_25 rfl ?_
    refine pf_X10_181 (pc := 26) h dX10_ring_26 ?_
    refine r_iload_n (pc := 29) h dX10_ring_29 rfl ?_
    exact hr _ _ _ _ dX10_ring_30 (rfl) (by unfold F_ring; rw [if_pos (by (try simp only [b2i_eq0, Int32.reduceToInt, Int64.reduceToInt, Int32.toInt_toInt64] at *); omega)]; exact ⟨rfl, rfl⟩)
  · refine r_iconst (v := -1) (pc := 11) h dX10_ring_11 (by decide) ?_
    exact hr _ _ _ _ dX10_ring_12 (rfl) (by unfold F_ring; rw [if_neg (by (try simp only [b2i_eq0, Int32.reduceToInt, Int64.reduceToInt, Int32.toInt_toInt64] at *); omega)]; exact ⟨rfl, rfl⟩)
