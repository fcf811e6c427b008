/-! THE REFERENCE: sticks, winds, trees; floorMod -/
theorem fm_a {x y : Int} (hy : 0 < y) (h : x.tmod y < 0) : x % y = x.tmod y + y := by
  have hb := tmod_bounds (a := x) hy
  have h1 : x.tmod y + y = x + y * (1 - x.tdiv y) := by
    rw [Int.tmod_def, Int.mul_sub, Int.mul_one]
    omega
  have h2 : (x.tmod y + y) % y = x.tmod y + y := Int.emod_eq_of_lt (by omega) (by omega)
  rw [← h2, h1, Int.add_mul_emod_self_left]
theorem fm_b {x y : Int} (hy : 0 < y) (h : 0 ≤ x.tmod y) : x % y = x.tmod y := by
  have hb := tmod_bounds (a := x) hy
  have h1 : x.tmod y = x + y * (-(x.tdiv y)) := by
    rw [Int.tmod_def, Int.mul_neg]
    omega
  have h2 : (x.tmod y) % y = x.tmod y := Int.emod_eq_of_lt h (by omega)
  rw [← h2, h1, Int.add_mul_emod_self_left]
theorem eq_ofInt {r : Int32} {z : Int} (h : r.toInt = z) : r = Int32.ofInt z := by rw [← h, Int32.ofInt_toInt]
def fmI (x y : Int32) : Int32 := Int32.ofInt (x.toInt % y.toInt)
theorem z32 : (0 : Int32).toInt = 0 := by decide
/-- SIN as the reference reads it -/
def sE (d : Int32) : Int32 := if 180 < d then d - 180 else d
def sX (d : Int32) : Int32 := if 90 < sE d then 180 - sE d else sE d
def R_sine (I : Mem) (d : Int32) : Int32 := if 180 < d then -(I 152 (sX d).toNatClampNeg) else I 152 (sX d).toNatClampNeg
def R_cosine (I : Mem) (d : Int32) : Int32 := R_sine I (if 270 ≤ d then d - 270 else d + 90)
def R_table (I : Mem) (w d : Int32) : Int32 := if (0 ≤ w.toInt ∧ w.toInt ≤ 1) ∧ (0 ≤ d.toInt ∧ d.toInt ≤ 359) then (if w = 0 then R_sine I d else R_cosine I d) else -10001
def F_table (I : Mem) (w d : Int32) : Int32 := if (0 ≤ w.toInt ∧ w.toInt ≤ 1) ∧ (0 ≤ d.toInt ∧ d.toInt ≤ 359) then (if w = 0 then I 1 d.toNatClampNeg else I 1 (d + 90).toNatClampNeg) else -10001
theorem sX_bd {d : Int32} (h : 0 ≤ d.toInt ∧ d.toInt ≤ 359) : 0 ≤ (sX d).toInt ∧ (sX d).toInt ≤ 90 := by
  have e180 : (180 : Int32).toInt = 180 := by decide
  have e90 : (90 : Int32).toInt = 90 := by decide
  have hE : 0 ≤ (sE d).toInt ∧ (sE d).toInt ≤ 180 := by
    unfold sE
    split
    · rename_i q
      rw [Int32.lt_iff_toInt_lt, e180] at q
      rw [tI_sub (by omega) (by omega)]
      omega
    · rename_i q
      rw [Int32.lt_iff_toInt_lt, e180] at q
      omega
  unfold sX
  split
  · rename_i q
    rw [Int32.lt_iff_toInt_lt, e90] at q
    rw [tI_sub (by omega) (by omega)]
    omega
  · rename_i q
    rw [Int32.lt_iff_toInt_lt, e90] at q
    omega
set_option maxRecDepth 100000 in
set_option maxHeartbeats 4000000 in
theorem c_J9_floorMod_7cf53 (E : En) (I : Mem) (x : Int32) (y : Int32) (hy : 0 < y.toInt) : Ctr E yJ9_floorMod_7cf53 cJ9_floorMod_7cf53 3 (some .int) 1 [.int x, .int y] I (qI (fun (r : Int32) (I1 : Mem) => r = fmI x y ∧ I = I1)) := by
  refine Ctr.openI (by decide +kernel) (Nat.le_of_ble_eq_true rfl) (fun g h hr => ?_)
  have h : Sem cJ9_floorMod_7cf53 RJ9 3 (rmL 1) E g := h
  show g I 0 [(0, .int x), (1, .int y)] []
  have hm := tI_rem (x := x) hy
  have hx9 := xor_neg (x := x) (y := y) (by omega)
  have hb9 := tmod_bounds (a := x.toInt) hy
  refine r_iload_n (pc := 0) h dJ9_floorMod_7cf53_0 rfl ?_
  refine r_iload_n (pc := 1) h dJ9_floorMod_7cf53_1 rfl ?_
  refine r_irem (pc := 2) h dJ9_floorMod_7cf53_2 (fun q => by rw [q, z32] at hy; omega) ?_
  refine r_istore_n (pc := 3) h dJ9_floorMod_7cf53_3 (by decide) ?_
  refine r_iload_n (pc := 4) h dJ9_floorMod_7cf53_4 rfl ?_
  refine r_iload_n (pc := 5) h dJ9_floorMod_7cf53_5 rfl ?_
  refine r_ixor (pc := 6) h dJ9_floorMod_7cf53_6 ?_
  refine r_if_ge (pc := 7) h 18 dJ9_floorMod_7cf53_7 (by decide) (fun c7 => ?_) (fun c7 => ?_)
  · refine r_iload_n (pc := 18) h dJ9_floorMod_7cf53_18 rfl ?_
    exact hr _ _ _ _ dJ9_floorMod_7cf53_19 (rfl) (⟨eq_ofInt (by rw [hm]; exact (fm_b hy (by first | (rw [i32_eq, z32, hm] at c11; omega) | (rw [Int32.le_iff_toInt_le, z32] at c7; exact Int.tmod_nonneg _ (by omega)))).symm), rfl⟩)
  · refine r_iload_n (pc := 10) h dJ9_floorMod_7cf53_10 rfl ?_
    refine r_if_eq (pc := 11) h 18 dJ9_floorMod_7cf53_11 (by decide) (fun c11 => ?_) (fun c11 => ?_)
    · refine r_iload_n (pc := 18) h dJ9_floorMod_7cf53_18 rfl ?_
      exact hr _ _ _ _ dJ9_floorMod_7cf53_19 (rfl) (⟨eq_ofInt (by rw [hm]; exact (fm_b hy (by first | (rw [i32_eq, z32, hm] at c11; omega) | (rw [Int32.le_iff_toInt_le, z32] at c7; exact Int.tmod_nonneg _ (by omega)))).symm), rfl⟩)
    · have hneg : x.toInt.tmod y.toInt < 0 := by
        rw [Int32.le_iff_toInt_le, z32] at c7
        rw [i32_eq, z32, hm] at c11
        have h9 : x.toInt < 0 := by omega
        have h8 : 0 ≤ (-x.toInt).tmod y.toInt := Int.tmod_nonneg _ (by omega)
        rw [Int.neg_tmod] at h8
        omega
      refine r_iload_n (pc := 14) h dJ9_floorMod_7cf53_14 rfl ?_
      refine r_iload_n (pc := 15) h dJ9_floorMod_7cf53_15 rfl ?_
      refine r_iadd (pc := 16) h dJ9_floorMod_7cf53_16 ?_
      exact hr _ _ _ _ dJ9_floorMod_7cf53_17 (rfl) (⟨eq_ofInt (by rw [tI_add (by rw [hm]; have := tI_hi y; omega) (by rw [hm]; have := tI_hi y; omega), hm]; exact (fm_a hy hneg).symm), rfl⟩)
set_option maxRecDepth 100000 in
set_option maxHeartbeats 4000000 in
theorem c_X11_isStick (E : En) (I : Mem) (s : Int32)  : Ctr E yX11_isStick cX11_isStick 2 (some .boolean) 2 [.ref (E.1 151), .int s] I (qI (fun (r : Int32) (I1 : Mem) => r = b2i (0 ≤ s.toInt ∧ s.toInt ≤ (I 151 1 - 1).toInt) ∧ I = I1)) := by
  refine Ctr.openI (by decide) (Nat.le_of_ble_eq_true rfl) (fun g h hr => ?_)
  have h : Sem cX11_isStick RX11 2 (rmL 2) E g := h
  show g I 0 [(0, .ref (E.1 151)), (1, .int s)] []
  refine r_iload_n (pc := 0) h dX11_isStick_0 rfl ?_
  refine r_i2l (pc := 1) h dX11_isStick_1 ?_
  refine r_lconst (v := 0) (pc := 2) h dX11_isStick_2 (by decide) ?_
  refine r_aload_n (pc := 3) h dX11_isStick_3 rfl ?_
  refine gf_X11_144 (pc := 4) h dX11_isStick_4 ?_
  refine r_iconst (v := 1) (pc := 7) h dX11_isStick_7 (by decide) ?_
  refine r_isub (pc := 8) h dX11_isStick_8 ?_
  refine r_i2l (pc := 9) h dX11_isStick_9 ?_
  refine r_callSI (pc := 10) h dX11_isStick_10 wm_X11_127 ca_X11_in (c_X11_in E _ _ _ _) rfl rfl (by decide) (by decide) (fun r I1 hq => ?_)
  obtain ⟨rfl, rfl⟩ := hq
  exact hr _ _ _ _ dX11_isStick_13 (by first | rfl | decide | exact b2i_nar) (⟨by simp only [Int32.toInt_toInt64, Int64.reduceToInt], rfl⟩)
set_option maxRecDepth 100000 in
set_option maxHeartbeats 4000000 in
theorem c_X11_isWind (E : En) (I : Mem) (w : Int32)  : Ctr E yX11_isWind cX11_isWind 2 (some .boolean) 2 [.ref (E.1 151), .int w] I (qI (fun (r : Int32) (I1 : Mem) => r = b2i (-1 ≤ w.toInt ∧ w.toInt ≤ (I 151 10 - 1).toInt) ∧ I = I1)) := by
  refine Ctr.openI (by decide) (Nat.le_of_ble_eq_true rfl) (fun g h hr => ?_)
  have h : Sem cX11_isWind RX11 2 (rmL 2) E g := h
  show g I 0 [(0, .ref (E.1 151)), (1, .int w)] []
  refine r_iload_n (pc := 0) h dX11_isWind_0 rfl ?_
  refine r_i2l (pc := 1) h dX11_isWind_1 ?_
  refine r_ldc2 (pc := 2) h dX11_isWind_2 wc_X11_168 ?_
  refine r_aload_n (pc := 5) h dX11_isWind_5 rfl ?_
  refine gf_X11_165 (pc := 6) h dX11_isWind_6 ?_
  refine r_iconst (v := 1) (pc := 9) h dX11_isWind_9 (by decide) ?_
  refine r_isub (pc := 10) h dX11_isWind_10 ?_
  refine r_i2l (pc := 11) h dX11_isWind_11 ?_
  refine r_callSI (pc := 12) h dX11_isWind_12 wm_X11_127 ca_X11_in (c_X11_in E _ _ _ _) rfl rfl (by decide) (by decide) (fun r I1 hq => ?_)
  obtain ⟨rfl, rfl⟩ := hq
  exact hr _ _ _ _ dX11_isWind_15 (by first | rfl | decide | exact b2i_nar) (⟨by simp only [Int32.toInt_toInt64, Int64.reduceToInt], rfl⟩)
set_option maxRecDepth 100000 in
set_option maxHeartbeats 4000000 in
theorem c_X11_comes (E : En) (I : Mem) (w : Int32) (gr : Int32) (lo : Int32) (dr : Int32) (ho : Int32) (hc : 0 ≤ (I 151 1).toInt ∧ (I 151 1).toInt ≤ 9) : Ctr E yX11_comes cX11_comes 6 (some .int) 2 [.ref (E.1 151), .int w, .int gr, .int lo, .int dr, .int ho] I (qI (fun (r : Int32) (I1 : Mem) => r = (R_comes I w gr lo dr ho).1 ∧ (R_comes I w gr lo dr ho).2 = I1)) := by
  refine Ctr.openI (by decide) (Nat.le_of_ble_eq_true rfl) (fun g h hr => ?_)
  have h : Sem cX11_comes RX11 6 (rmL 2) E g := h
  show g I 0 [(0, .ref (E.1 151)), (1, .int w), (2, .int gr), (3, .int lo), (4, .int dr), (5, .int ho)] []
  refine r_iload_n (pc := 0) h dX11_comes_0 rfl ?_
  refine r_i2l (pc := 1) h dX11_comes_1 ?_
  refine r_lconst (v := 1) (pc := 2) h dX11_comes_2 (by decide) ?_
  refine r_ldc2 (pc := 3) h dX11_comes_3 wc_X11_136 ?_
  refine r_callSI (pc := 6) h dX11_comes_6 wm_X11_127 ca_X11_in (c_X11_in E _ _ _ _) rfl rfl (by decide) (by decide) (fun r I1 hq => ?_)
  obtain ⟨rfl, rfl⟩ := hq
  refine r_if_eq (pc := 9) h 49 dX11_comes_9 (by decide) (fun c9 => ?_) (fun c9 => ?_)
  · refine r_iconst (v := -1) (pc := 49) h dX11_comes_49 (by decide) ?_
    exact hr _ _ _ _ dX11_comes_50 (rfl) (by unfold R_comes; rw [if_neg (by (try simp only [b2i_eq0, Int32.reduceToInt, Int64.reduceToInt, Int32.toInt_toInt64] at *); omega)]; exact ⟨rfl, rfl⟩)
  · refine r_iload_n (pc := 12) h dX11_comes_12 rfl ?_
    refine r_i2l (pc := 13) h dX11_comes_13 ?_
    refine r_lconst (v := 0) (pc := 14) h dX11_comes_14 (by decide) ?_
    refine r_ldc2 (pc := 15) h dX11_comes_15 wc_X11_138 ?_
    refine r_callSI (pc := 18) h dX11_comes_18 wm_X11_127 ca_X11_in (c_X11_in E _ _ _ _) rfl rfl (by decide) (by decide) (fun r I1 hq => ?_)
    obtain ⟨rfl, rfl⟩ := hq
    refine r_if_eq (pc := 21) h 49 dX11_comes_21 (by decide) (fun c21 => ?_) (fun c21 => ?_)
    · refine r_iconst (v := -1) (pc := 49) h dX11_comes_49 (by decide) ?_
      exact hr _ _ _ _ dX11_comes_50 (rfl) (by unfold R_comes; rw [if_neg (by (try simp only [b2i_eq0, Int32.reduceToInt, Int64.reduceToInt, Int32.toInt_toInt64] at *); omega)]; exact ⟨rfl, rfl⟩)
    · refine r_iload_n (pc := 24) h dX11_comes_24 rfl ?_
      refine r_i2l (pc := 25) h dX11_comes_25 ?_
      refine r_lconst (v := 1) (pc := 26) h dX11_comes_26 (by decide) ?_
      refine r_ldc2 (pc := 27) h dX11_comes_27 wc_X11_140 ?_
      refine r_callSI (pc := 30) h dX11_comes_30 wm_X11_127 ca_X11_in (c_X11_in E _ _ _ _) rfl rfl (by decide) (by decide) (fun r I1 hq => ?_)
      obtain ⟨rfl, rfl⟩ := hq
      refine r_if_eq (pc := 33) h 49 dX11_comes_33 (by decide) (fun c33 => ?_) (fun c33 => ?_)
      · refine r_iconst (v := -1) (pc := 49) h dX11_comes_49 (by decide) ?_
        exact hr _ _ _ _ dX11_comes_50 (rfl) (by unfold R_comes; rw [if_neg (by (try simp only [b2i_eq0, Int32.reduceToInt, Int64.reduceToInt, Int32.toInt_toInt64] at *); omega)]; exact ⟨rfl, rfl⟩)
      · refine r_iload (pc := 36) h dX11_comes_36 rfl ?_
        refine r_i2l (pc := 38) h dX11_comes_38 ?_
        refine r_lconst (v := 0) (pc := 39) h dX11_comes_39 (by decide) ?_
        refine r_ldc2 (pc := 40) h dX11_comes_40 wc_X11_142 ?_
        refine r_callSI (pc := 43) h dX11_comes_43 wm_X11_127 ca_X11_in (c_X11_in E _ _ _ _) rfl rfl (by decide) (by decide) (fun r I1 hq => ?_)
        obtain ⟨rfl, rfl⟩ := hq
        refine r_if_ne (pc := 46) h 51 dX11_comes_46 (by decide) (fun c46 => ?_) (fun c46 => ?_)
        · refine r_aload_n (pc := 51) h dX11_comes_51 rfl ?_
          refine gf_X11_144 (pc := 52) h dX11_comes_52 ?_
          refine r_bipush (v := 9) (pc := 55) h dX11_comes_55 (by decide) ?_
          refine r_icmp_ne (pc := 57) h 63 dX11_comes_57 (by decide) (fun c57 => ?_) (fun c57 => ?_)
          · have hn : 0 ≤ (I 151 1).toInt ∧ (I 151 1).toInt < 9 := by (try simp only [i32_eq, Int32.reduceToInt] at *); omega
            refine r_aload_n (pc := 63) h dX11_comes_63 rfl ?_
            refine gf_X11_16 (pc := 64) h dX11_comes_64 ?_
            refine r_aload_n (pc := 67) h dX11_comes_67 rfl ?_
            refine gf_X11_144 (pc := 68) h dX11_comes_68 ?_
            refine r_iload_n (pc := 71) h dX11_comes_71 rfl ?_
            refine r_iast (pc := 72) h dX11_comes_72 (by decide) (by decide) (vin (n := 9) (show 0 ≤ (I 151 1).toInt by omega) (show (I 151 1).toInt < 9 by omega)) ?_
            refine r_aload_n (pc := 73) h dX11_comes_73 rfl ?_
            refine gf_X11_19 (pc := 74) h dX11_comes_74 ?_
            refine r_aload_n (pc := 77) h dX11_comes_77 rfl ?_
            refine gf_X11_144 (pc := 78) h dX11_comes_78 ?_
            refine r_iload_n (pc := 81) h dX11_comes_81 rfl ?_
            refine r_iast (pc := 82) h dX11_comes_82 (by decide) (by decide) (vin (n := 9) (show 0 ≤ (I 151 1).toInt by omega) (show (I 151 1).toInt < 9 by omega)) ?_
            refine r_aload_n (pc := 83) h dX11_comes_83 rfl ?_
            refine gf_X11_22 (pc := 84) h dX11_comes_84 ?_
            refine r_aload_n (pc := 87) h dX11_comes_87 rfl ?_
            refine gf_X11_144 (pc := 88) h dX11_comes_88 ?_
            refine r_iload_n (pc := 91) h dX11_comes_91 rfl ?_
            refine r_iast (pc := 92) h dX11_comes_92 (by decide) (by decide) (vin (n := 9) (show 0 ≤ (I 151 1).toInt by omega) (show (I 151 1).toInt < 9 by omega)) ?_
            refine r_aload_n (pc := 93) h dX11_comes_93 rfl ?_
            refine gf_X11_25 (pc := 94) h dX11_comes_94 ?_
            refine r_aload_n (pc := 97) h dX11_comes_97 rfl ?_
            refine gf_X11_144 (pc := 98) h dX11_comes_98 ?_
            refine r_iload (pc := 101) h dX11_comes_101 rfl ?_
            refine r_iast (pc := 103) h dX11_comes_103 (by decide) (by decide) (vin (n := 9) (show 0 ≤ (I 151 1).toInt by omega) (show (I 151 1).toInt < 9 by omega)) ?_
            refine r_aload_n (pc := 104) h dX11_comes_104 rfl ?_
            refine gf_X11_13 (pc := 105) h dX11_comes_105 ?_
            refine r_aload_n (pc := 108) h dX11_comes_108 rfl ?_
            refine gf_X11_144 (pc := 109) h dX11_comes_109 ?_
            refine r_iload (pc := 112) h dX11_comes_112 rfl ?_
            refine r_iast (pc := 114) h dX11_comes_114 (by decide) (by decide) (vin (n := 9) (show 0 ≤ (I 151 1).toInt by omega) (show (I 151 1).toInt < 9 by omega)) ?_
            refine r_aload_n (pc := 115) h dX11_comes_115 rfl ?_
            refine r_dup (pc := 116) h dX11_comes_116 rfl ?_
            refine gf_X11_144 (pc := 117) h dX11_comes_117 ?_
            refine r_iconst (v := 1) (pc := 120) h dX11_comes_120 (by decide) ?_
            refine r_iadd (pc := 121) h dX11_comes_121 ?_
            refine pf_X11_144 (pc := 122) h dX11_comes_122 ?_
            refine r_aload_n (pc := 125) h dX11_comes_125 rfl ?_
            refine gf_X11_144 (pc := 126) h dX11_comes_126 ?_
            refine r_iconst (v := 1) (pc := 129) h dX11_comes_129 (by decide) ?_
            refine r_isub (pc := 130) h dX11_comes_130 ?_
            exact hr _ _ _ _ dX11_comes_131 (rfl) (by unfold R_comes; rw [if_pos (by (try simp only [b2i_eq0, Int32.reduceToInt, Int64.reduceToInt, Int32.toInt_toInt64] at *); omega), if_neg (by assumption)]; exact ⟨add1_sub1 _, rfl⟩)
          · refine r_bipush (v := -3) (pc := 60) h dX11_comes_60 (by decide) ?_
            exact hr _ _ _ _ dX11_comes_62 (rfl) (by unfold R_comes; rw [if_pos (by (try simp only [b2i_eq0, Int32.reduceToInt, Int64.reduceToInt, Int32.toInt_toInt64] at *); omega), if_pos (by assumption)]; exact ⟨rfl, rfl⟩)
        · refine r_iconst (v := -1) (pc := 49) h dX11_comes_49 (by decide) ?_
          exact hr _ _ _ _ dX11_comes_50 (rfl) (by unfold R_comes; rw [if_neg (by (try simp only [b2i_eq0, Int32.reduceToInt, Int64.reduceToInt, Int32.toInt_toInt64] at *); omega)]; exact ⟨rfl, rfl⟩)
set_option maxRecDepth 100000 in
set_option maxHeartbeats 4000000 in
theorem c_X11_plain (E : En) (I : Mem) (w : Int32) (gr : Int32) (lo : Int32) (dr : Int32) (hc : 0 ≤ (I 151 1).toInt ∧ (I 151 1).toInt ≤ 9) : Ctr E yX11_plain cX11_plain 5 (some .int) 3 [.ref (E.1 151), .int w, .int gr, .int lo, .int dr] I (qI (fun (r : Int32) (I1 : Mem) => r = (R_comes I w gr lo dr 0).1 ∧ (R_comes I w gr lo dr 0).2 = I1)) := by
  refine Ctr.openI (by decide) (Nat.le_of_ble_eq_true rfl) (fun g h hr => ?_)
  have h : Sem cX11_plain RX11 5 (rmL 3) E g := h
  show g I 0 [(0, .ref (E.1 151)), (1, .int w), (2, .int gr), (3, .int lo), (4, .int dr)] []
  refine r_aload_n (pc := 0) h dX11_plain_0 rfl ?_
  refine r_iload_n (pc := 1) h dX11_plain_1 rfl ?_
  refine r_iload_n (pc := 2) h dX11_plain_2 rfl ?_
  refine r_iload_n (pc := 3) h dX11_plain_3 rfl ?_
  refine r_iload (pc := 4) h dX11_plain_4 rfl ?_
  refine r_iconst (v := 0) (pc := 6) h dX11_plain_6 (by decide) ?_
  refine r_callVI (ci := 11) (pc := 7) h dX11_plain_7 wm_X11_147 ca_X11_comes rfl (c_X11_comes E _ _ _ _ _ _ hc) rfl rfl (by decide) (by decide) (by decide) (by decide) (by decide) (fun r I1 hq => ?_)
  obtain ⟨rfl, rfl⟩ := hq
  exact hr _ _ _ _ dX11_plain_10 (rfl) (⟨rfl, rfl⟩)
set_option maxRecDepth 100000 in
set_option maxHeartbeats 4000000 in
theorem c_X11_winged (E : En) (I : Mem) (w : Int32) (gr : Int32) (lo : Int32) (dr : Int32) (ho : Int32) (hc : 0 ≤ (I 151 1).toInt ∧ (I 151 1).toInt ≤ 9) : Ctr E yX11_winged cX11_winged 6 (some .int) 3 [.ref (E.1 151), .int w, .int gr, .int lo, .int dr, .int ho] I (qI (fun (r : Int32) (I1 : Mem) => r = (R_winged I w gr lo dr ho).1 ∧ (R_winged I w gr lo dr ho).2 = I1)) := by
  refine Ctr.openI (by decide) (Nat.le_of_ble_eq_true rfl) (fun g h hr => ?_)
  have h : Sem cX11_winged RX11 6 (rmL 3) E g := h
  show g I 0 [(0, .ref (E.1 151)), (1, .int w), (2, .int gr), (3, .int lo), (4, .int dr), (5, .int ho)] []
  refine r_iload (pc := 0) h dX11_winged_0 rfl ?_
  refine r_i2l (pc := 2) h dX11_winged_2 ?_
  refine r_lconst (v := 1) (pc := 3) h dX11_winged_3 (by decide) ?_
  refine r_ldc2 (pc := 4) h dX11_winged_4 wc_X11_151 ?_
  refine r_callSI (pc := 7) h dX11_winged_7 wm_X11_127 ca_X11_in (c_X11_in E _ _ _ _) rfl rfl (by decide) (by decide) (fun r I1 hq => ?_)
  obtain ⟨rfl, rfl⟩ := hq
  refine r_if_eq (pc := 10) h 27 dX11_winged_10 (by decide) (fun c10 => ?_) (fun c10 => ?_)
  · refine r_iconst (v := -1) (pc := 27) h dX11_winged_27 (by decide) ?_
    exact hr _ _ _ _ dX11_winged_28 (rfl) (by first | (unfold R_winged; rw [if_neg (by (try simp only [b2i_eq0, Int32.reduceToInt, Int64.reduceToInt, Int32.toInt_toInt64] at *); omega)]; exact ⟨rfl, rfl⟩) | (unfold R_winged; rw [if_pos (by (try simp only [b2i_eq0, Int32.reduceToInt, Int64.reduceToInt, Int32.toInt_toInt64] at *); omega)]; exact ⟨rfl, rfl⟩))
  · refine r_aload_n (pc := 13) h dX11_winged_13 rfl ?_
    refine r_iload_n (pc := 14) h dX11_winged_14 rfl ?_
    refine r_iload_n (pc := 15) h dX11_winged_15 rfl ?_
    refine r_iload_n (pc := 16) h dX11_winged_16 rfl ?_
    refine r_iload (pc := 17) h dX11_winged_17 rfl ?_
    refine r_iload (pc := 19) h dX11_winged_19 rfl ?_
    refine r_callVI (ci := 11) (pc := 21) h dX11_winged_21 wm_X11_147 ca_X11_comes rfl (c_X11_comes E _ _ _ _ _ _ hc) rfl rfl (by decide) (by decide) (by decide) (by decide) (by decide) (fun r I1 hq => ?_)
    obtain ⟨rfl, rfl⟩ := hq
    refine r_goto (pc := 24) h 28 dX11_winged_24 (by decide) ?_
    exact hr _ _ _ _ dX11_winged_28 (rfl) (by first | (unfold R_winged; rw [if_neg (by (try simp only [b2i_eq0, Int32.reduceToInt, Int64.reduceToInt, Int32.toInt_toInt64] at *); omega)]; exact ⟨rfl, rfl⟩) | (unfold R_winged; rw [if_pos (by (try simp only [b2i_eq0, Int32.reduceToInt, Int64.reduceToInt, Int32.toInt_toInt64] at *); omega)]; exact ⟨rfl, rfl⟩))
set_option maxRecDepth 100000 in
set_option maxHeartbeats 4000000 in
theorem c_X11_lift (E : En) (I : Mem) (s : Int32) (b : Int32) (v : Int32) (hc : 0 ≤ (I 151 1).toInt ∧ (I 151 1).toInt ≤ 9) : Ctr E yX11_lift cX11_lift 5 (some .int) 3 [.ref (E.1 151), .int s, .int b, .int v] I (qI (fun (r : Int32) (I1 : Mem) => r = (R_lift I s b v).1 ∧ (R_lift I s b v).2 = I1)) := by
  refine Ctr.openI (by decide) (Nat.le_of_ble_eq_true rfl) (fun g h hr => ?_)
  have h : Sem cX11_lift RX11 5 (rmL 3) E g := h
  show g I 0 [(0, .ref (E.1 151)), (1, .int s), (2, .int b), (3, .int v)] []
  have ec : (I 151 1 - 1).toInt = (I 151 1).toInt - 1 := tI_sub1 (by omega)
  refine r_aload_n (pc := 0) h dX11_lift_0 rfl ?_
  refine r_iload_n (pc := 1) h dX11_lift_1 rfl ?_
  refine r_callVI (ci := 11) (pc := 2) h dX11_lift_2 wm_X11_153 ca_X11_isStick rfl (c_X11_isStick E _ _) rfl rfl (by decide) (by decide) (by decide) (by decide) (by decide) (fun r I1 hq => ?_)
  obtain ⟨rfl, rfl⟩ := hq
  refine r_if_eq (pc := 5) h 32 dX11_lift_5 (by decide) (fun c5 => ?_) (fun c5 => ?_)
  · refine r_iconst (v := -1) (pc := 32) h dX11_lift_32 (by decide) ?_
    exact hr _ _ _ _ dX11_lift_33 (rfl) (by unfold R_lift; rw [if_neg (by (try simp only [b2i_eq0, Int32.reduceToInt, Int64.reduceToInt, Int32.toInt_toInt64] at *); omega)]; exact ⟨rfl, rfl⟩)
  · refine r_iload_n (pc := 8) h dX11_lift_8 rfl ?_
    refine r_i2l (pc := 9) h dX11_lift_9 ?_
    refine r_lconst (v := 0) (pc := 10) h dX11_lift_10 (by decide) ?_
    refine r_ldc2 (pc := 11) h dX11_lift_11 wc_X11_157 ?_
    refine r_callSI (pc := 14) h dX11_lift_14 wm_X11_127 ca_X11_in (c_X11_in E _ _ _ _) rfl rfl (by decide) (by decide) (fun r I1 hq => ?_)
    obtain ⟨rfl, rfl⟩ := hq
    refine r_if_eq (pc := 17) h 32 dX11_lift_17 (by decide) (fun c17 => ?_) (fun c17 => ?_)
    · refine r_iconst (v := -1) (pc := 32) h dX11_lift_32 (by decide) ?_
      exact hr _ _ _ _ dX11_lift_33 (rfl) (by unfold R_lift; rw [if_neg (by (try simp only [b2i_eq0, Int32.reduceToInt, Int64.reduceToInt, Int32.toInt_toInt64] at *); omega)]; exact ⟨rfl, rfl⟩)
    · refine r_iload_n (pc := 20) h dX11_lift_20 rfl ?_
      refine r_i2l (pc := 21) h dX11_lift_21 ?_
      refine r_lconst (v := 0) (pc := 22) h dX11_lift_22 (by decide) ?_
      refine r_ldc2 (pc := 23) h dX11_lift_23 wc_X11_159 ?_
      refine r_callSI (pc := 26) h dX11_lift_26 wm_X11_127 ca_X11_in (c_X11_in E _ _ _ _) rfl rfl (by decide) (by decide) (fun r I1 hq => ?_)
      obtain ⟨rfl, rfl⟩ := hq
      refine r_if_ne (pc := 29) h 34 dX11_lift_29 (by decide) (fun c29 => ?_) (fun c29 => ?_)
      · have hs : 0 ≤ s.toInt ∧ s.toInt < (I 151 1).toInt := by (try simp only [b2i_eq0, Int32.reduceToInt, Int64.reduceToInt, Int32.toInt_toInt64] at *); omega
        have hb3 : 0 ≤ b.toInt ∧ b.toInt ≤ 3 := by (try simp only [b2i_eq0, Int32.reduceToInt, Int64.reduceToInt, Int32.toInt_toInt64] at *); omega
        have e4 := m4_tI (s := s) (b := b) (n := 9) (by omega) (by omega) hb3 (by omega)
        refine r_aload_n (pc := 34) h dX11_lift_34 rfl ?_
        refine gf_X11_31 (pc := 35) h dX11_lift_35 ?_
        refine r_iconst (v := 4) (pc := 38) h dX11_lift_38 (by decide) ?_
        refine r_iload_n (pc := 39) h dX11_lift_39 rfl ?_
        refine r_imul (pc := 40) h dX11_lift_40 ?_
        refine r_iload_n (pc := 41) h dX11_lift_41 rfl ?_
        refine r_iadd (pc := 42) h dX11_lift_42 ?_
        refine r_iald (pc := 43) h dX11_lift_43 (by decide) (by decide) (vin (n := 36) (by omega) (by omega)) ?_
        refine r_istore (pc := 44) h dX11_lift_44 (by decide) ?_
        refine r_aload_n (pc := 46) h dX11_lift_46 rfl ?_
        refine gf_X11_31 (pc := 47) h dX11_lift_47 ?_
        refine r_iconst (v := 4) (pc := 50) h dX11_lift_50 (by decide) ?_
        refine r_iload_n (pc := 51) h dX11_lift_51 rfl ?_
        refine r_imul (pc := 52) h dX11_lift_52 ?_
        refine r_iload_n (pc := 53) h dX11_lift_53 rfl ?_
        refine r_iadd (pc := 54) h dX11_lift_54 ?_
        refine r_iload_n (pc := 55) h dX11_lift_55 rfl ?_
        refine r_iast (pc := 56) h dX11_lift_56 (by decide) (by decide) (vin (n := 36) (by omega) (by omega)) ?_
        refine r_iload (pc := 57) h dX11_lift_57 rfl ?_
        exact hr _ _ _ _ dX11_lift_59 (rfl) (by unfold R_lift; rw [if_pos (by (try simp only [b2i_eq0, Int32.reduceToInt, Int64.reduceToInt, Int32.toInt_toInt64] at *); omega)]; exact ⟨rfl, rfl⟩)
      · refine r_iconst (v := -1) (pc := 32) h dX11_lift_32 (by decide) ?_
        exact hr _ _ _ _ dX11_lift_33 (rfl) (by unfold R_lift; rw [if_neg (by (try simp only [b2i_eq0, Int32.reduceToInt, Int64.reduceToInt, Int32.toInt_toInt64] at *); omega)]; exact ⟨rfl, rfl⟩)
set_option maxRecDepth 100000 in
set_option maxHeartbeats 4000000 in
theorem c_X11_bend (E : En) (I : Mem) (s : Int32) (v : Int32) (hc : 0 ≤ (I 151 1).toInt ∧ (I 151 1).toInt ≤ 9) : Ctr E yX11_bend cX11_bend 4 (some .int) 3 [.ref (E.1 151), .int s, .int v] I (qI (fun (r : Int32) (I1 : Mem) => r = (R_bend I s v).1 ∧ (R_bend I s v).2 = I1)) := by
  refine Ctr.openI (by decide) (Nat.le_of_ble_eq_true rfl) (fun g h hr => ?_)
  have h : Sem cX11_bend RX11 4 (rmL 3) E g := h
  show g I 0 [(0, .ref (E.1 151)), (1, .int s), (2, .int v)] []
  have ec : (I 151 1 - 1).toInt = (I 151 1).toInt - 1 := tI_sub1 (by omega)
  refine r_aload_n (pc := 0) h dX11_bend_0 rfl ?_
  refine r_iload_n (pc := 1) h dX11_bend_1 rfl ?_
  refine r_callVI (ci := 11) (pc := 2) h dX11_bend_2 wm_X11_153 ca_X11_isStick rfl (c_X11_isStick E _ _) rfl rfl (by decide) (by decide) (by decide) (by decide) (by decide) (fun r I1 hq => ?_)
  obtain ⟨rfl, rfl⟩ := hq
  refine r_if_eq (pc := 5) h 22 dX11_bend_5 (by decide) (fun c5 => ?_) (fun c5 => ?_)
  · refine r_bipush (v := -11) (pc := 22) h dX11_bend_22 (by decide) ?_
    exact hr _ _ _ _ dX11_bend_24 (rfl) (by unfold R_bend; rw [if_neg (by (try simp only [b2i_eq0, Int32.reduceToInt, Int64.reduceToInt, Int32.toInt_toInt64] at *); omega)]; exact ⟨rfl, rfl⟩)
  · refine r_iload_n (pc := 8) h dX11_bend_8 rfl ?_
    refine r_i2l (pc := 9) h dX11_bend_9 ?_
    refine r_ldc2 (pc := 10) h dX11_bend_10 wc_X11_161 ?_
    refine r_ldc2 (pc := 13) h dX11_bend_13 wc_X11_163 ?_
    refine r_callSI (pc := 16) h dX11_bend_16 wm_X11_127 ca_X11_in (c_X11_in E _ _ _ _) rfl rfl (by decide) (by decide) (fun r I1 hq => ?_)
    obtain ⟨rfl, rfl⟩ := hq
    refine r_if_ne (pc := 19) h 25 dX11_bend_19 (by decide) (fun c19 => ?_) (fun c19 => ?_)
    · have hs : 0 ≤ s.toInt ∧ s.toInt < (I 151 1).toInt := by (try simp only [b2i_eq0, Int32.reduceToInt, Int64.reduceToInt, Int32.toInt_toInt64] at *); omega
      refine r_aload_n (pc := 25) h dX11_bend_25 rfl ?_
      refine gf_X11_28 (pc := 26) h dX11_bend_26 ?_
      refine r_iload_n (pc := 29) h dX11_bend_29 rfl ?_
      refine r_iald (pc := 30) h dX11_bend_30 (by decide) (by decide) (vin (n := 9) (by omega) (by omega)) ?_
      refine r_istore_n (pc := 31) h dX11_bend_31 (by decide) ?_
      refine r_aload_n (pc := 32) h dX11_bend_32 rfl ?_
      refine gf_X11_28 (pc := 33) h dX11_bend_33 ?_
      refine r_iload_n (pc := 36) h dX11_bend_36 rfl ?_
      refine r_iload_n (pc := 37) h dX11_bend_37 rfl ?_
      refine r_iast (pc := 38) h dX11_bend_38 (by decide) (by decide) (vin (n := 9) (by omega) (by omega)) ?_
      refine r_iload_n (pc := 39) h dX11_bend_39 rfl ?_
      exact hr _ _ _ _ dX11_bend_40 (rfl) (by unfold R_bend; rw [if_pos (by (try simp only [b2i_eq0, Int32.reduceToInt, Int64.reduceToInt, Int32.toInt_toInt64] at *); omega)]; exact ⟨rfl, rfl⟩)
    · refine r_bipush (v := -11) (pc := 22) h dX11_bend_22 (by decide) ?_
      exact hr _ _ _ _ dX11_bend_24 (rfl) (by unfold R_bend; rw [if_neg (by (try simp only [b2i_eq0, Int32.reduceToInt, Int64.reduceToInt, Int32.toInt_toInt64] at *); omega)]; exact ⟨rfl, rfl⟩)
set_option maxRecDepth 100000 in
set_option maxHeartbeats 4000000 in
theorem c_X11_told (E : En) (I : Mem) (s : Int32) (t : Int32) (hc : 0 ≤ (I 151 1).toInt ∧ (I 151 1).toInt ≤ 9) : Ctr E yX11_told cX11_told 3 (some .int) 3 [.ref (E.1 151), .int s, .int t] I (qI (fun (r : Int32) (I1 : Mem) => r = R_told I s t ∧ I = I1)) := by
  refine Ctr.openI (by decide) (Nat.le_of_ble_eq_true rfl) (fun g h hr => ?_)
  have h : Sem cX11_told RX11 3 (rmL 3) E g := h
  show g I 0 [(0, .ref (E.1 151)), (1, .int s), (2, .int t)] []
  have ec : (I 151 1 - 1).toInt = (I 151 1).toInt - 1 := tI_sub1 (by omega)
  refine r_aload_n (pc := 0) h dX11_told_0 rfl ?_
  refine r_iload_n (pc := 1) h dX11_told_1 rfl ?_
  refine r_callVI (ci := 11) (pc := 2) h dX11_told_2 wm_X11_153 ca_X11_isStick rfl (c_X11_isStick E _ _) rfl rfl (by decide) (by decide) (by decide) (by decide) (by decide) (fun r I1 hq => ?_)
  obtain ⟨rfl, rfl⟩ := hq
  refine r_if_ne (pc := 5) h 10 dX11_told_5 (by decide) (fun c5 => ?_) (fun c5 => ?_)
  · have hs : 0 ≤ s.toInt ∧ s.toInt < (I 151 1).toInt := by (try simp only [b2i_eq0, Int32.reduceToInt, Int64.reduceToInt, Int32.toInt_toInt64] at *); omega
    refine r_iload_n (pc := 10) h dX11_told_10 rfl ?_
    by_cases hsw : t.toInt < 0 ∨ 6 < t.toInt
    · refine r_tableOut (pc := 11) h 131 dX11_told_11 hsw (by decide) ?_
      refine r_iconst (v := -1) (pc := 131) h dX11_told_131 (by decide) ?_
      exact hr _ _ _ _ dX11_told_132 (rfl) (⟨by unfold R_told; rw [if_pos hs, if_neg (by omega), if_neg (by omega), if_neg (by omega), if_neg (by omega), if_neg (by omega), if_neg (by omega), if_neg (by omega)], rfl⟩)
    · rcases (show t.toInt = 0 ∨ t.toInt = 1 ∨ t.toInt = 2 ∨ t.toInt = 3 ∨ t.toInt = 4 ∨ t.toInt = 5 ∨ t.toInt = 6 by omega) with esw | esw | esw | esw | esw | esw | esw
      · refine r_tableIn (pc := 11) h 52 dX11_told_11 (by omega) (by omega) (by rw [esw]; rfl) (by decide) ?_
        refine r_aload_n (pc := 52) h dX11_told_52 rfl ?_
        refine gf_X11_13 (pc := 53) h dX11_told_53 ?_
        refine r_iload_n (pc := 56) h dX11_told_56 rfl ?_
        refine r_iald (pc := 57) h dX11_told_57 (by decide) (by decide) (vin (n := 9) (by omega) (by omega)) ?_
        refine r_if_le (pc := 58) h 65 dX11_told_58 (by decide) (fun c58 => ?_) (fun c58 => ?_)
        · refine r_iconst (v := 0) (pc := 65) h dX11_told_65 (by decide) ?_
          exact hr _ _ _ _ dX11_told_66 (rfl) (⟨by unfold R_told; rw [if_pos hs, esw]; first | rfl | (simp only [reduceIte, Int.reduceEq]; first | rfl | (rw [if_pos (by assumption)]) | (rw [if_neg (by assumption)]) | (rw [if_neg (by rw [Int32.lt_iff_toInt_lt]; rw [Int32.le_iff_toInt_le] at *; omega)]) | (rw [if_pos (by rw [Int32.lt_iff_toInt_lt]; rw [Int32.le_iff_toInt_le] at *; omega)])), rfl⟩)
        · refine r_iconst (v := 1) (pc := 61) h dX11_told_61 (by decide) ?_
          refine r_goto (pc := 62) h 66 dX11_told_62 (by decide) ?_
          exact hr _ _ _ _ dX11_told_66 (rfl) (⟨by unfold R_told; rw [if_pos hs, esw]; first | rfl | (simp only [reduceIte, Int.reduceEq]; first | rfl | (rw [if_pos (by assumption)]) | (rw [if_neg (by assumption)]) | (rw [if_neg (by rw [Int32.lt_iff_toInt_lt]; rw [Int32.le_iff_toInt_le] at *; omega)]) | (rw [if_pos (by rw [Int32.lt_iff_toInt_lt]; rw [Int32.le_iff_toInt_le] at *; omega)])), rfl⟩)
      · refine r_tableIn (pc := 11) h 67 dX11_told_11 (by omega) (by omega) (by rw [esw]; rfl) (by decide) ?_
        refine r_aload_n (pc := 67) h dX11_told_67 rfl ?_
        refine gf_X11_16 (pc := 68) h dX11_told_68 ?_
        refine r_iload_n (pc := 71) h dX11_told_71 rfl ?_
        refine r_iald (pc := 72) h dX11_told_72 (by decide) (by decide) (vin (n := 9) (by omega) (by omega)) ?_
        exact hr _ _ _ _ dX11_told_73 (rfl) (⟨by unfold R_told; rw [if_pos hs, esw]; first | rfl | (simp only [reduceIte, Int.reduceEq]; first | rfl | (rw [if_pos (by assumption)]) | (rw [if_neg (by assumption)]) | (rw [if_neg (by rw [Int32.lt_iff_toInt_lt]; rw [Int32.le_iff_toInt_le] at *; omega)]) | (rw [if_pos (by rw [Int32.lt_iff_toInt_lt]; rw [Int32.le_iff_toInt_le] at *; omega)])), rfl⟩)
      · refine r_tableIn (pc := 11) h 74 dX11_told_11 (by omega) (by omega) (by rw [esw]; rfl) (by decide) ?_
        refine r_aload_n (pc := 74) h dX11_told_74 rfl ?_
        refine gf_X11_19 (pc := 75) h dX11_told_75 ?_
        refine r_iload_n (pc := 78) h dX11_told_78 rfl ?_
        refine r_iald (pc := 79) h dX11_told_79 (by decide) (by decide) (vin (n := 9) (by omega) (by omega)) ?_
        exact hr _ _ _ _ dX11_told_80 (rfl) (⟨by unfold R_told; rw [if_pos hs, esw]; first | rfl | (simp only [reduceIte, Int.reduceEq]; first | rfl | (rw [if_pos (by assumption)]) | (rw [if_neg (by assumption)]) | (rw [if_neg (by rw [Int32.lt_iff_toInt_lt]; rw [Int32.le_iff_toInt_le] at *; omega)]) | (rw [if_pos (by rw [Int32.lt_iff_toInt_lt]; rw [Int32.le_iff_toInt_le] at *; omega)])), rfl⟩)
      · refine r_tableIn (pc := 11) h 81 dX11_told_11 (by omega) (by omega) (by rw [esw]; rfl) (by decide) ?_
        refine r_aload_n (pc := 81) h dX11_told_81 rfl ?_
        refine gf_X11_22 (pc := 82) h dX11_told_82 ?_
        refine r_iload_n (pc := 85) h dX11_told_85 rfl ?_
        refine r_iald (pc := 86) h dX11_told_86 (by decide) (by decide) (vin (n := 9) (by omega) (by omega)) ?_
        exact hr _ _ _ _ dX11_told_87 (rfl) (⟨by unfold R_told; rw [if_pos hs, esw]; first | rfl | (simp only [reduceIte, Int.reduceEq]; first | rfl | (rw [if_pos (by assumption)]) | (rw [if_neg (by assumption)]) | (rw [if_neg (by rw [Int32.lt_iff_toInt_lt]; rw [Int32.le_iff_toInt_le] at *; omega)]) | (rw [if_pos (by rw [Int32.lt_iff_toInt_lt]; rw [Int32.le_iff_toInt_le] at *; omega)])), rfl⟩)
      · refine r_tableIn (pc := 11) h 88 dX11_told_11 (by omega) (by omega) (by rw [esw]; rfl) (by decide) ?_
        refine r_aload_n (pc := 88) h dX11_told_88 rfl ?_
        refine gf_X11_25 (pc := 89) h dX11_told_89 ?_
        refine r_iload_n (pc := 92) h dX11_told_92 rfl ?_
        refine r_iald (pc := 93) h dX11_told_93 (by decide) (by decide) (vin (n := 9) (by omega) (by omega)) ?_
        exact hr _ _ _ _ dX11_told_94 (rfl) (⟨by unfold R_told; rw [if_pos hs, esw]; first | rfl | (simp only [reduceIte, Int.reduceEq]; first | rfl | (rw [if_pos (by assumption)]) | (rw [if_neg (by assumption)]) | (rw [if_neg (by rw [Int32.lt_iff_toInt_lt]; rw [Int32.le_iff_toInt_le] at *; omega)]) | (rw [if_pos (by rw [Int32.lt_iff_toInt_lt]; rw [Int32.le_iff_toInt_le] at *; omega)])), rfl⟩)
      · refine r_tableIn (pc := 11) h 95 dX11_told_11 (by omega) (by omega) (by rw [esw]; rfl) (by decide) ?_
        refine r_aload_n (pc := 95) h dX11_told_95 rfl ?_
        refine gf_X11_13 (pc := 96) h dX11_told_96 ?_
        refine r_iload_n (pc := 99) h dX11_told_99 rfl ?_
        refine r_iald (pc := 100) h dX11_told_100 (by decide) (by decide) (vin (n := 9) (by omega) (by omega)) ?_
        refine r_if_le (pc := 101) h 113 dX11_told_101 (by decide) (fun c101 => ?_) (fun c101 => ?_)
        · refine r_bipush (v := -4) (pc := 113) h dX11_told_113 (by decide) ?_
          exact hr _ _ _ _ dX11_told_115 (rfl) (⟨by unfold R_told; rw [if_pos hs, esw]; first | rfl | (simp only [reduceIte, Int.reduceEq]; first | rfl | (rw [if_pos (by assumption)]) | (rw [if_neg (by assumption)]) | (rw [if_neg (by rw [Int32.lt_iff_toInt_lt]; rw [Int32.le_iff_toInt_le] at *; omega)]) | (rw [if_pos (by rw [Int32.lt_iff_toInt_lt]; rw [Int32.le_iff_toInt_le] at *; omega)])), rfl⟩)
        · refine r_aload_n (pc := 104) h dX11_told_104 rfl ?_
          refine gf_X11_13 (pc := 105) h dX11_told_105 ?_
          refine r_iload_n (pc := 108) h dX11_told_108 rfl ?_
          refine r_iald (pc := 109) h dX11_told_109 (by decide) (by decide) (vin (n := 9) (by omega) (by omega)) ?_
          refine r_goto (pc := 110) h 115 dX11_told_110 (by decide) ?_
          exact hr _ _ _ _ dX11_told_115 (rfl) (⟨by unfold R_told; rw [if_pos hs, esw]; first | rfl | (simp only [reduceIte, Int.reduceEq]; first | rfl | (rw [if_pos (by assumption)]) | (rw [if_neg (by assumption)]) | (rw [if_neg (by rw [Int32.lt_iff_toInt_lt]; rw [Int32.le_iff_toInt_le] at *; omega)]) | (rw [if_pos (by rw [Int32.lt_iff_toInt_lt]; rw [Int32.le_iff_toInt_le] at *; omega)])), rfl⟩)
      · refine r_tableIn (pc := 11) h 116 dX11_told_11 (by omega) (by omega) (by rw [esw]; rfl) (by decide) ?_
        refine r_aload_n (pc := 116) h dX11_told_116 rfl ?_
        refine gf_X11_34 (pc := 117) h dX11_told_117 ?_
        refine r_iload_n (pc := 120) h dX11_told_120 rfl ?_
        refine r_zald (pc := 121) h dX11_told_121 (by decide) (by decide) (vin (n := 9) (by omega) (by omega)) ?_
        refine r_if_eq (pc := 122) h 129 dX11_told_122 (by decide) (fun c122 => ?_) (fun c122 => ?_)
        · refine r_iconst (v := 1) (pc := 129) h dX11_told_129 (by decide) ?_
          exact hr _ _ _ _ dX11_told_130 (rfl) (⟨by unfold R_told; rw [if_pos hs, esw]; first | rfl | (simp only [reduceIte, Int.reduceEq]; first | rfl | (rw [if_pos (by assumption)]) | (rw [if_neg (by assumption)]) | (rw [if_neg (by rw [Int32.lt_iff_toInt_lt]; rw [Int32.le_iff_toInt_le] at *; omega)]) | (rw [if_pos (by rw [Int32.lt_iff_toInt_lt]; rw [Int32.le_iff_toInt_le] at *; omega)])), rfl⟩)
        · refine r_iconst (v := 0) (pc := 125) h dX11_told_125 (by decide) ?_
          refine r_goto (pc := 126) h 130 dX11_told_126 (by decide) ?_
          exact hr _ _ _ _ dX11_told_130 (rfl) (⟨by unfold R_told; rw [if_pos hs, esw]; first | rfl | (simp only [reduceIte, Int.reduceEq]; first | rfl | (rw [if_pos (by assumption)]) | (rw [if_neg (by assumption)]) | (rw [if_neg (by rw [Int32.lt_iff_toInt_lt]; rw [Int32.le_iff_toInt_le] at *; omega)]) | (rw [if_pos (by rw [Int32.lt_iff_toInt_lt]; rw [Int32.le_iff_toInt_le] at *; omega)])), rfl⟩)
  · refine r_iconst (v := -1) (pc := 8) h dX11_told_8 (by decide) ?_
    exact hr _ _ _ _ dX11_told_9 (rfl) (⟨by unfold R_told; rw [if_neg (by (try simp only [b2i_eq0, Int32.reduceToInt, Int64.reduceToInt, Int32.toInt_toInt64] at *); omega)], rfl⟩)
set_option maxRecDepth 100000 in
set_option maxHeartbeats 4000000 in
theorem c_X11_lose (E : En) (I : Mem) (s : Int32) (is : Int32) (hc : 0 ≤ (I 151 1).toInt ∧ (I 151 1).toInt ≤ 9) (hi : is = 0 ∨ is = 1) : Ctr E yX11_lose cX11_lose 4 (some .int) 3 [.ref (E.1 151), .int s, .int is] I (qI (fun (r : Int32) (I1 : Mem) => r = (R_lose I s is).1 ∧ (R_lose I s is).2 = I1)) := by
  refine Ctr.openI (by decide) (Nat.le_of_ble_eq_true rfl) (fun g h hr => ?_)
  have h : Sem cX11_lose RX11 4 (rmL 3) E g := h
  show g I 0 [(0, .ref (E.1 151)), (1, .int s), (2, .int is)] []
  have ec : (I 151 1 - 1).toInt = (I 151 1).toInt - 1 := tI_sub1 (by omega)
  refine r_aload_n (pc := 0) h dX11_lose_0 rfl ?_
  refine r_iload_n (pc := 1) h dX11_lose_1 rfl ?_
  refine r_callVI (ci := 11) (pc := 2) h dX11_lose_2 wm_X11_153 ca_X11_isStick rfl (c_X11_isStick E _ _) rfl rfl (by decide) (by decide) (by decide) (by decide) (by decide) (fun r I1 hq => ?_)
  obtain ⟨rfl, rfl⟩ := hq
  refine r_if_ne (pc := 5) h 10 dX11_lose_5 (by decide) (fun c5 => ?_) (fun c5 => ?_)
  · have hs : 0 ≤ s.toInt ∧ s.toInt < (I 151 1).toInt := by (try simp only [b2i_eq0, Int32.reduceToInt, Int64.reduceToInt, Int32.toInt_toInt64] at *); omega
    refine r_aload_n (pc := 10) h dX11_lose_10 rfl ?_
    refine gf_X11_34 (pc := 11) h dX11_lose_11 ?_
    refine r_iload_n (pc := 14) h dX11_lose_14 rfl ?_
    refine r_zald (pc := 15) h dX11_lose_15 (by decide) (by decide) (vin (n := 9) (by omega) (by omega)) ?_
    refine r_istore_n (pc := 16) h dX11_lose_16 (by decide) ?_
    refine r_aload_n (pc := 17) h dX11_lose_17 rfl ?_
    refine gf_X11_34 (pc := 18) h dX11_lose_18 ?_
    refine r_iload_n (pc := 21) h dX11_lose_21 rfl ?_
    refine r_iload_n (pc := 22) h dX11_lose_22 rfl ?_
    refine r_zast (pc := 23) h dX11_lose_23 (by decide) (by decide) (vin (n := 9) (by omega) (by omega)) (by rcases hi with rfl | rfl <;> decide) ?_
    refine r_iload_n (pc := 24) h dX11_lose_24 rfl ?_
    refine r_if_eq (pc := 25) h 32 dX11_lose_25 (by decide) (fun c25 => ?_) (fun c25 => ?_)
    · refine r_iconst (v := 1) (pc := 32) h dX11_lose_32 (by decide) ?_
      exact hr _ _ _ _ dX11_lose_33 (rfl) (by unfold R_lose; rw [if_pos hs]; simp_all)
    · refine r_iconst (v := 0) (pc := 28) h dX11_lose_28 (by decide) ?_
      refine r_goto (pc := 29) h 33 dX11_lose_29 (by decide) ?_
      exact hr _ _ _ _ dX11_lose_33 (rfl) (by unfold R_lose; rw [if_pos hs]; simp_all)
  · refine r_iconst (v := -1) (pc := 8) h dX11_lose_8 (by decide) ?_
    exact hr _ _ _ _ dX11_lose_9 (rfl) (by unfold R_lose; rw [if_neg (by (try simp only [b2i_eq0, Int32.reduceToInt, Int64.reduceToInt, Int32.toInt_toInt64] at *); omega)]; exact ⟨rfl, rfl⟩)
set_option maxRecDepth 100000 in
set_option maxHeartbeats 4000000 in
theorem c_X11_wind (E : En) (I : Mem)  (hc : 0 ≤ (I 151 10).toInt ∧ (I 151 10).toInt ≤ 8) : Ctr E yX11_wind cX11_wind 1 (some .int) 1 [.ref (E.1 151)] I (qI (fun (r : Int32) (I1 : Mem) => r = (R_wind I).1 ∧ (R_wind I).2 = I1)) := by
  refine Ctr.openI (by decide) (Nat.le_of_ble_eq_true rfl) (fun g h hr => ?_)
  have h : Sem cX11_wind RX11 1 (rmL 1) E g := h
  show g I 0 [(0, .ref (E.1 151))] []
  refine r_aload_n (pc := 0) h dX11_wind_0 rfl ?_
  refine gf_X11_165 (pc := 1) h dX11_wind_1 ?_
  refine r_bipush (v := 8) (pc := 4) h dX11_wind_4 (by decide) ?_
  refine r_icmp_ne (pc := 6) h 12 dX11_wind_6 (by decide) (fun c6 => ?_) (fun c6 => ?_)
  · refine r_aload_n (pc := 12) h dX11_wind_12 rfl ?_
    refine r_dup (pc := 13) h dX11_wind_13 rfl ?_
    refine gf_X11_165 (pc := 14) h dX11_wind_14 ?_
    refine r_iconst (v := 1) (pc := 17) h dX11_wind_17 (by decide) ?_
    refine r_iadd (pc := 18) h dX11_wind_18 ?_
    refine pf_X11_165 (pc := 19) h dX11_wind_19 ?_
    refine r_aload_n (pc := 22) h dX11_wind_22 rfl ?_
    refine gf_X11_165 (pc := 23) h dX11_wind_23 ?_
    refine r_iconst (v := 1) (pc := 26) h dX11_wind_26 (by decide) ?_
    refine r_isub (pc := 27) h dX11_wind_27 ?_
    exact hr _ _ _ _ dX11_wind_28 (rfl) (by unfold R_wind; rw [if_neg (by assumption)]; exact ⟨add1_sub1 _, rfl⟩)
  · refine r_bipush (v := -3) (pc := 9) h dX11_wind_9 (by decide) ?_
    exact hr _ _ _ _ dX11_wind_11 (rfl) (by unfold R_wind; rw [if_pos (by assumption)]; exact ⟨rfl, rfl⟩)
set_option maxRecDepth 100000 in
set_option maxHeartbeats 4000000 in
theorem c_X11_blows (E : En) (I : Mem) (w : Int32) (b : Int32) (s : Int32) (t : Int32) (hc : 0 ≤ (I 151 10).toInt ∧ (I 151 10).toInt ≤ 8) : Ctr E yX11_blows cX11_blows 6 (some .int) 3 [.ref (E.1 151), .int w, .int b, .int s, .int t] I (qI (fun (r : Int32) (I1 : Mem) => r = (R_blows I w b s t).1 ∧ (R_blows I w b s t).2 = I1)) := by
  refine Ctr.openI (by decide) (Nat.le_of_ble_eq_true rfl) (fun g h hr => ?_)
  have h : Sem cX11_blows RX11 6 (rmL 3) E g := h
  show g I 0 [(0, .ref (E.1 151)), (1, .int w), (2, .int b), (3, .int s), (4, .int t)] []
  have ec : (I 151 10 - 1).toInt = (I 151 10).toInt - 1 := tI_sub1 (by omega)
  refine r_iload_n (pc := 0) h dX11_blows_0 rfl ?_
  refine r_i2l (pc := 1) h dX11_blows_1 ?_
  refine r_lconst (v := 0) (pc := 2) h dX11_blows_2 (by decide) ?_
  refine r_aload_n (pc := 3) h dX11_blows_3 rfl ?_
  refine gf_X11_165 (pc := 4) h dX11_blows_4 ?_
  refine r_iconst (v := 1) (pc := 7) h dX11_blows_7 (by decide) ?_
  refine r_isub (pc := 8) h dX11_blows_8 ?_
  refine r_i2l (pc := 9) h dX11_blows_9 ?_
  refine r_callSI (pc := 10) h dX11_blows_10 wm_X11_127 ca_X11_in (c_X11_in E _ _ _ _) rfl rfl (by decide) (by decide) (fun r I1 hq => ?_)
  obtain ⟨rfl, rfl⟩ := hq
  refine r_if_eq (pc := 13) h 53 dX11_blows_13 (by decide) (fun c13 => ?_) (fun c13 => ?_)
  · refine r_iconst (v := -1) (pc := 53) h dX11_blows_53 (by decide) ?_
    exact hr _ _ _ _ dX11_blows_54 (rfl) (by unfold R_blows; rw [if_neg (by (try simp only [b2i_eq0, Int32.reduceToInt, Int64.reduceToInt, Int32.toInt_toInt64] at *); omega)]; exact ⟨rfl, rfl⟩)
  · refine r_iload_n (pc := 16) h dX11_blows_16 rfl ?_
    refine r_i2l (pc := 17) h dX11_blows_17 ?_
    refine r_lconst (v := 0) (pc := 18) h dX11_blows_18 (by decide) ?_
    refine r_ldc2 (pc := 19) h dX11_blows_19 wc_X11_157 ?_
    refine r_callSI (pc := 22) h dX11_blows_22 wm_X11_127 ca_X11_in (c_X11_in E _ _ _ _) rfl rfl (by decide) (by decide) (fun r I1 hq => ?_)
    obtain ⟨rfl, rfl⟩ := hq
    refine r_if_eq (pc := 25) h 53 dX11_blows_25 (by decide) (fun c25 => ?_) (fun c25 => ?_)
    · refine r_iconst (v := -1) (pc := 53) h dX11_blows_53 (by decide) ?_
      exact hr _ _ _ _ dX11_blows_54 (rfl) (by unfold R_blows; rw [if_neg (by (try simp only [b2i_eq0, Int32.reduceToInt, Int64.reduceToInt, Int32.toInt_toInt64] at *); omega)]; exact ⟨rfl, rfl⟩)
    · refine r_iload_n (pc := 28) h dX11_blows_28 rfl ?_
      refine r_i2l (pc := 29) h dX11_blows_29 ?_
      refine r_lconst (v := 0) (pc := 30) h dX11_blows_30 (by decide) ?_
      refine r_ldc2 (pc := 31) h dX11_blows_31 wc_X11_138 ?_
      refine r_callSI (pc := 34) h dX11_blows_34 wm_X11_127 ca_X11_in (c_X11_in E _ _ _ _) rfl rfl (by decide) (by decide) (fun r I1 hq => ?_)
      obtain ⟨rfl, rfl⟩ := hq
      refine r_if_eq (pc := 37) h 53 dX11_blows_37 (by decide) (fun c37 => ?_) (fun c37 => ?_)
      · refine r_iconst (v := -1) (pc := 53) h dX11_blows_53 (by decide) ?_
        exact hr _ _ _ _ dX11_blows_54 (rfl) (by unfold R_blows; rw [if_neg (by (try simp only [b2i_eq0, Int32.reduceToInt, Int64.reduceToInt, Int32.toInt_toInt64] at *); omega)]; exact ⟨rfl, rfl⟩)
      · refine r_iload (pc := 40) h dX11_blows_40 rfl ?_
        refine r_i2l (pc := 42) h dX11_blows_42 ?_
        refine r_lconst (v := 0) (pc := 43) h dX11_blows_43 (by decide) ?_
        refine r_ldc2 (pc := 44) h dX11_blows_44 wc_X11_131 ?_
        refine r_callSI (pc := 47) h dX11_blows_47 wm_X11_127 ca_X11_in (c_X11_in E _ _ _ _) rfl rfl (by decide) (by decide) (fun r I1 hq => ?_)
        obtain ⟨rfl, rfl⟩ := hq
        refine r_if_ne (pc := 50) h 55 dX11_blows_50 (by decide) (fun c50 => ?_) (fun c50 => ?_)
        · have hs : 0 ≤ w.toInt ∧ w.toInt < (I 151 10).toInt := by (try simp only [b2i_eq0, Int32.reduceToInt, Int64.reduceToInt, Int32.toInt_toInt64] at *); omega
          have hb3 : 0 ≤ b.toInt ∧ b.toInt ≤ 3 := by (try simp only [b2i_eq0, Int32.reduceToInt, Int64.reduceToInt, Int32.toInt_toInt64] at *); omega
          have e4 := m4_tI (s := w) (b := b) (n := 9) (by omega) (by omega) hb3 (by omega)
          refine r_aload_n (pc := 55) h dX11_blows_55 rfl ?_
          refine gf_X11_38 (pc := 56) h dX11_blows_56 ?_
          refine r_iconst (v := 4) (pc := 59) h dX11_blows_59 (by decide) ?_
          refine r_iload_n (pc := 60) h dX11_blows_60 rfl ?_
          refine r_imul (pc := 61) h dX11_blows_61 ?_
          refine r_iload_n (pc := 62) h dX11_blows_62 rfl ?_
          refine r_iadd (pc := 63) h dX11_blows_63 ?_
          refine r_iald (pc := 64) h dX11_blows_64 (by decide) (by decide) (vin (n := 32) (by omega) (by omega)) ?_
          refine r_istore (pc := 65) h dX11_blows_65 (by decide) ?_
          refine r_aload_n (pc := 67) h dX11_blows_67 rfl ?_
          refine gf_X11_38 (pc := 68) h dX11_blows_68 ?_
          refine r_iconst (v := 4) (pc := 71) h dX11_blows_71 (by decide) ?_
          refine r_iload_n (pc := 72) h dX11_blows_72 rfl ?_
          refine r_imul (pc := 73) h dX11_blows_73 ?_
          refine r_iload_n (pc := 74) h dX11_blows_74 rfl ?_
          refine r_iadd (pc := 75) h dX11_blows_75 ?_
          refine r_iload_n (pc := 76) h dX11_blows_76 rfl ?_
          refine r_iast (pc := 77) h dX11_blows_77 (by decide) (by decide) (vin (n := 32) (by omega) (by omega)) ?_
          refine r_aload_n (pc := 78) h dX11_blows_78 rfl ?_
          refine gf_X11_41 (pc := 79) h dX11_blows_79 ?_
          refine r_iconst (v := 4) (pc := 82) h dX11_blows_82 (by decide) ?_
          refine r_iload_n (pc := 83) h dX11_blows_83 rfl ?_
          refine r_imul (pc := 84) h dX11_blows_84 ?_
          refine r_iload_n (pc := 85) h dX11_blows_85 rfl ?_
          refine r_iadd (pc := 86) h dX11_blows_86 ?_
          refine r_iload (pc := 87) h dX11_blows_87 rfl ?_
          refine r_iast (pc := 89) h dX11_blows_89 (by decide) (by decide) (vin (n := 32) (by omega) (by omega)) ?_
          refine r_iload (pc := 90) h dX11_blows_90 rfl ?_
          exact hr _ _ _ _ dX11_blows_92 (rfl) (by unfold R_blows; rw [if_pos (by (try simp only [b2i_eq0, Int32.reduceToInt, Int64.reduceToInt, Int32.toInt_toInt64] at *); omega)]; exact ⟨rfl, rfl⟩)
        · refine r_iconst (v := -1) (pc := 53) h dX11_blows_53 (by decide) ?_
          exact hr _ _ _ _ dX11_blows_54 (rfl) (by unfold R_blows; rw [if_neg (by (try simp only [b2i_eq0, Int32.reduceToInt, Int64.reduceToInt, Int32.toInt_toInt64] at *); omega)]; exact ⟨rfl, rfl⟩)
set_option maxRecDepth 100000 in
set_option maxHeartbeats 4000000 in
theorem c_X11_tree (E : En) (I : Mem) (x : Int32) (y : Int32) (t : Int32) (hi : Int32) (hc : 0 ≤ (I 151 13).toInt ∧ (I 151 13).toInt ≤ 6) : Ctr E yX11_tree cX11_tree 5 (some .int) 2 [.ref (E.1 151), .int x, .int y, .int t, .int hi] I (qI (fun (r : Int32) (I1 : Mem) => r = (R_tree I x y t hi).1 ∧ (R_tree I x y t hi).2 = I1)) := by
  refine Ctr.openI (by decide) (Nat.le_of_ble_eq_true rfl) (fun g h hr => ?_)
  have h : Sem cX11_tree RX11 5 (rmL 2) E g := h
  show g I 0 [(0, .ref (E.1 151)), (1, .int x), (2, .int y), (3, .int t), (4, .int hi)] []
  refine r_iload_n (pc := 0) h dX11_tree_0 rfl ?_
  refine r_i2l (pc := 1) h dX11_tree_1 ?_
  refine r_ldc2 (pc := 2) h dX11_tree_2 wc_X11_172 ?_
  refine r_ldc2 (pc := 5) h dX11_tree_5 wc_X11_174 ?_
  refine r_callSI (pc := 8) h dX11_tree_8 wm_X11_127 ca_X11_in (c_X11_in E _ _ _ _) rfl rfl (by decide) (by decide) (fun r I1 hq => ?_)
  obtain ⟨rfl, rfl⟩ := hq
  refine r_if_eq (pc := 11) h 53 dX11_tree_11 (by decide) (fun c11 => ?_) (fun c11 => ?_)
  · refine r_iconst (v := -1) (pc := 53) h dX11_tree_53 (by decide) ?_
    exact hr _ _ _ _ dX11_tree_54 (rfl) (by unfold R_tree; rw [if_neg (by (try simp only [b2i_eq0, Int32.reduceToInt, Int64.reduceToInt, Int32.toInt_toInt64] at *); omega)]; exact ⟨rfl, rfl⟩)
  · refine r_iload_n (pc := 14) h dX11_tree_14 rfl ?_
    refine r_i2l (pc := 15) h dX11_tree_15 ?_
    refine r_ldc2 (pc := 16) h dX11_tree_16 wc_X11_172 ?_
    refine r_ldc2 (pc := 19) h dX11_tree_19 wc_X11_174 ?_
    refine r_callSI (pc := 22) h dX11_tree_22 wm_X11_127 ca_X11_in (c_X11_in E _ _ _ _) rfl rfl (by decide) (by decide) (fun r I1 hq => ?_)
    obtain ⟨rfl, rfl⟩ := hq
    refine r_if_eq (pc := 25) h 53 dX11_tree_25 (by decide) (fun c25 => ?_) (fun c25 => ?_)
    · refine r_iconst (v := -1) (pc := 53) h dX11_tree_53 (by decide) ?_
      exact hr _ _ _ _ dX11_tree_54 (rfl) (by unfold R_tree; rw [if_neg (by (try simp only [b2i_eq0, Int32.reduceToInt, Int64.reduceToInt, Int32.toInt_toInt64] at *); omega)]; exact ⟨rfl, rfl⟩)
    · refine r_iload_n (pc := 28) h dX11_tree_28 rfl ?_
      refine r_i2l (pc := 29) h dX11_tree_29 ?_
      refine r_lconst (v := 1) (pc := 30) h dX11_tree_30 (by decide) ?_
      refine r_ldc2 (pc := 31) h dX11_tree_31 wc_X11_176 ?_
      refine r_callSI (pc := 34) h dX11_tree_34 wm_X11_127 ca_X11_in (c_X11_in E _ _ _ _) rfl rfl (by decide) (by decide) (fun r I1 hq => ?_)
      obtain ⟨rfl, rfl⟩ := hq
      refine r_if_eq (pc := 37) h 53 dX11_tree_37 (by decide) (fun c37 => ?_) (fun c37 => ?_)
      · refine r_iconst (v := -1) (pc := 53) h dX11_tree_53 (by decide) ?_
        exact hr _ _ _ _ dX11_tree_54 (rfl) (by unfold R_tree; rw [if_neg (by (try simp only [b2i_eq0, Int32.reduceToInt, Int64.reduceToInt, Int32.toInt_toInt64] at *); omega)]; exact ⟨rfl, rfl⟩)
      · refine r_iload (pc := 40) h dX11_tree_40 rfl ?_
        refine r_i2l (pc := 42) h dX11_tree_42 ?_
        refine r_lconst (v := 1) (pc := 43) h dX11_tree_43 (by decide) ?_
        refine r_ldc2 (pc := 44) h dX11_tree_44 wc_X11_178 ?_
        refine r_callSI (pc := 47) h dX11_tree_47 wm_X11_127 ca_X11_in (c_X11_in E _ _ _ _) rfl rfl (by decide) (by decide) (fun r I1 hq => ?_)
        obtain ⟨rfl, rfl⟩ := hq
        refine r_if_ne (pc := 50) h 55 dX11_tree_50 (by decide) (fun c50 => ?_) (fun c50 => ?_)
        · refine r_aload_n (pc := 55) h dX11_tree_55 rfl ?_
          refine gf_X11_180 (pc := 56) h dX11_tree_56 ?_
          refine r_bipush (v := 6) (pc := 59) h dX11_tree_59 (by decide) ?_
          refine r_icmp_ne (pc := 61) h 67 dX11_tree_61 (by decide) (fun c61 => ?_) (fun c61 => ?_)
          · have hn : 0 ≤ (I 151 13).toInt ∧ (I 151 13).toInt < 6 := by (try simp only [i32_eq, Int32.reduceToInt] at *); omega
            refine r_aload_n (pc := 67) h dX11_tree_67 rfl ?_
            refine gf_X11_44 (pc := 68) h dX11_tree_68 ?_
            refine r_aload_n (pc := 71) h dX11_tree_71 rfl ?_
            refine gf_X11_180 (pc := 72) h dX11_tree_72 ?_
            refine r_iload_n (pc := 75) h dX11_tree_75 rfl ?_
            refine r_iast (pc := 76) h dX11_tree_76 (by decide) (by decide) (vin (n := 6) (show 0 ≤ (I 151 13).toInt by omega) (show (I 151 13).toInt < 6 by omega)) ?_
            refine r_aload_n (pc := 77) h dX11_tree_77 rfl ?_
            refine gf_X11_47 (pc := 78) h dX11_tree_78 ?_
            refine r_aload_n (pc := 81) h dX11_tree_81 rfl ?_
            refine gf_X11_180 (pc := 82) h dX11_tree_82 ?_
            refine r_iload_n (pc := 85) h dX11_tree_85 rfl ?_
            refine r_iast (pc := 86) h dX11_tree_86 (by decide) (by decide) (vin (n := 6) (show 0 ≤ (I 151 13).toInt by omega) (show (I 151 13).toInt < 6 by omega)) ?_
            refine r_aload_n (pc := 87) h dX11_tree_87 rfl ?_
            refine gf_X11_50 (pc := 88) h dX11_tree_88 ?_
            refine r_aload_n (pc := 91) h dX11_tree_91 rfl ?_
            refine gf_X11_180 (pc := 92) h dX11_tree_92 ?_
            refine r_iload_n (pc := 95) h dX11_tree_95 rfl ?_
            refine r_iast (pc := 96) h dX11_tree_96 (by decide) (by decide) (vin (n := 6) (show 0 ≤ (I 151 13).toInt by omega) (show (I 151 13).toInt < 6 by omega)) ?_
            refine r_aload_n (pc := 97) h dX11_tree_97 rfl ?_
            refine gf_X11_53 (pc := 98) h dX11_tree_98 ?_
            refine r_aload_n (pc := 101) h dX11_tree_101 rfl ?_
            refine gf_X11_180 (pc := 102) h dX11_tree_102 ?_
            refine r_iload (pc := 105) h dX11_tree_105 rfl ?_
            refine r_iast (pc := 107) h dX11_tree_107 (by decide) (by decide) (vin (n := 6) (show 0 ≤ (I 151 13).toInt by omega) (show (I 151 13).toInt < 6 by omega)) ?_
            refine r_aload_n (pc := 108) h dX11_tree_108 rfl ?_
            refine r_dup (pc := 109) h dX11_tree_109 rfl ?_
            refine gf_X11_180 (pc := 110) h dX11_tree_110 ?_
            refine r_iconst (v := 1) (pc := 113) h dX11_tree_113 (by decide) ?_
            refine r_iadd (pc := 114) h dX11_tree_114 ?_
            refine pf_X11_180 (pc := 115) h dX11_tree_115 ?_
            refine r_aload_n (pc := 118) h dX11_tree_118 rfl ?_
            refine gf_X11_180 (pc := 119) h dX11_tree_119 ?_
            refine r_iconst (v := 1) (pc := 122) h dX11_tree_122 (by decide) ?_
            refine r_isub (pc := 123) h dX11_tree_123 ?_
            exact hr _ _ _ _ dX11_tree_124 (rfl) (by unfold R_tree; rw [if_pos (by (try simp only [b2i_eq0, Int32.reduceToInt, Int64.reduceToInt, Int32.toInt_toInt64] at *); omega), if_neg (by assumption)]; exact ⟨add1_sub1 _, rfl⟩)
          · refine r_bipush (v := -3) (pc := 64) h dX11_tree_64 (by decide) ?_
            exact hr _ _ _ _ dX11_tree_66 (rfl) (by unfold R_tree; rw [if_pos (by (try simp only [b2i_eq0, Int32.reduceToInt, Int64.reduceToInt, Int32.toInt_toInt64] at *); omega), if_pos (by assumption)]; exact ⟨rfl, rfl⟩)
        · refine r_iconst (v := -1) (pc := 53) h dX11_tree_53 (by decide) ?_
          exact hr _ _ _ _ dX11_tree_54 (rfl) (by unfold R_tree; rw [if_neg (by (try simp only [b2i_eq0, Int32.reduceToInt, Int64.reduceToInt, Int32.toInt_toInt64] at *); omega)]; exact ⟨rfl, rfl⟩)
set_option maxRecDepth 100000 in
set_option maxHeartbeats 4000000 in
theorem c_X11_ring (E : En) (I : Mem) (w : Int32)  : Ctr E yX11_ring cX11_ring 3 (some .int) 2 [.ref (E.1 151), .int w] I (qI (fun (r : Int32) (I1 : Mem) => r = (R_ring I w).1 ∧ (R_ring I w).2 = I1)) := by
  refine Ctr.openI (by decide) (Nat.le_of_ble_eq_true rfl) (fun g h hr => ?_)
  have h : Sem cX11_ring RX11 3 (rmL 2) E g := h
  show g I 0 [(0, .ref (E.1 151)), (1, .int w)] []
  refine r_iload_n (pc := 0) h dX11_ring_0 rfl ?_
  refine r_i2l (pc := 1) h dX11_ring_1 ?_
  refine r_lconst (v := 1) (pc := 2) h dX11_ring_2 (by decide) ?_
  refine r_ldc2 (pc := 3) h dX11_ring_3 wc_X11_183 ?_
  refine r_callSI (pc := 6) h dX11_ring_6 wm_X11_127 ca_X11_in (c_X11_in E _ _ _ _) rfl rfl (by decide) (by decide) (fun r I1 hq => ?_)
  obtain ⟨rfl, rfl⟩ := hq
  refine r_if_ne (pc := 9) h 14 dX11_ring_9 (by decide) (fun c9 => ?_) (fun c9 => ?_)
  · refine r_aload_n (pc := 14) h dX11_ring_14 rfl ?_
    refine gf_X11_56 (pc := 15) h dX11_ring_15 ?_
    refine r_istore_n (pc := 18) h dX11_ring_18 (by decide) ?_
    refine r_aload_n (pc := 19) h dX11_ring_19 rfl ?_
    refine r_iload_n (pc := 20) h dX11_ring_20 rfl ?_
    refine pf_X11_56 (pc := 21) h dX11_ring_21 ?_
    refine r_iload_n (pc := 24) h dX11_ring_24 rfl ?_
    exact hr _ _ _ _ dX11_ring_25 (rfl) (by unfold R_ring; rw [if_pos (by (try simp only [b2i_eq0, Int32.reduceToInt, Int64.reduceToInt, Int32.toInt_toInt64] at *); omega)]; exact ⟨rfl, rfl⟩)
  · refine r_iconst (v := -1) (pc := 12) h dX11_ring_12 (by decide) ?_
    exact hr _ _ _ _ dX11_ring_13 (rfl) (by unfold R_ring; rw [if_neg (by (try simp only [b2i_eq0, Int32.reduceToInt, Int64.reduceToInt, Int32.toInt_toInt64] at *); omega)]; exact ⟨rfl, rfl⟩)
