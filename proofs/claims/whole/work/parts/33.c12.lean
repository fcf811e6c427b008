/-! fly of both, comesBack; keep of the reference -/
def EndPost (I I1 : Mem) (kx am : Nat) (bd r : Int32) : Prop := ∃ N : Nat, 1 ≤ N ∧ N ≤ 400 ∧ (∀ q, 1 ≤ q → q < N → eF I (prF I (I am 0).toNatClampNeg bd (wiF I am)) (v0of (I am 1) (I am 2) (I am 3) (I am 4)) q = 0) ∧ ¬ eF I (prF I (I am 0).toNatClampNeg bd (wiF I am)) (v0of (I am 1) (I am 2) (I am 3) (I am 4)) N = 0 ∧ r = eF I (prF I (I am 0).toNatClampNeg bd (wiF I am)) (v0of (I am 1) (I am 2) (I am 3) (I am 4)) N ∧ FlF I I1 kx (prF I (I am 0).toNatClampNeg bd (wiF I am)) (v0of (I am 1) (I am 2) (I am 3) (I am 4)) N ∧ I1 kx 9 = eF I (prF I (I am 0).toNatClampNeg bd (wiF I am)) (v0of (I am 1) (I am 2) (I am 3) (I am 4)) N ∧ I1 kx 10 = hitV (vSeq (prF I (I am 0).toNatClampNeg bd (wiF I am)) (v0of (I am 1) (I am 2) (I am 3) (I am 4)) N) (trF I) (I 7 1).toNatClampNeg
def FliesPost (I I1 : Mem) (s bd lean angle strength spin w r : Int32) : Prop := ∃ N, 1 ≤ N ∧ N ≤ 400 ∧ (∀ q, 1 ≤ q → q < N → eM I (prM I s bd w) (v0of lean angle strength spin) q = 0) ∧ ¬ eM I (prM I s bd w) (v0of lean angle strength spin) N = 0 ∧ r = eM I (prM I s bd w) (v0of lean angle strength spin) N ∧ FlM I I1 (prM I s bd w) (v0of lean angle strength spin) N ∧ I1 151 21 = hitV (vSeq (prM I s bd w) (v0of lean angle strength spin) N) (trM I) (I 151 13).toNatClampNeg
abbrev FlOkF (I : Mem) : Prop := (∀ n, n < 9 → StOk I n) ∧ (0 ≤ (I 7 1).toInt ∧ (I 7 1).toInt ≤ 6) ∧ I 1 = wvT ∧ (∀ wi, isWi wi → ∀ p, p < 4 → 0 ≤ (I (wi + 2) p).toInt ∧ (I (wi + 2) p).toInt ≤ 359)
theorem isWi_bd : ∀ wi, wi < 182 → kd wi = 9 → wi = 4 ∨ (59 ≤ wi ∧ wi ≤ 80) := by decide +kernel
theorem FlOkF_of {I J : Mem} (h : ∀ a, a = 1 ∨ a = 6 ∨ a = 7 ∨ (41 ≤ a ∧ a < 83) → J a = I a) (hI : FlOkF I) : FlOkF J := by
  refine ⟨fun n hn => ?_, ?_, ?_, fun wi hw => ?_⟩
  · unfold StOk
    rw [h (41 + 2 * n) (by omega)]
    exact hI.1 n hn
  · rw [h 7 (by omega)]
    exact hI.2.1
  · rw [h 1 (by omega)]
    exact hI.2.2.1
  · have hb := isWi_bd wi hw.1 hw.2.2.1
    rw [h (wi + 2) (by omega)]
    exact hI.2.2.2 wi hw
abbrev FlOkR (I : Mem) : Prop := (∀ p, p < 32 → 0 ≤ (I 162 p).toInt ∧ (I 162 p).toInt ≤ 359) ∧ (0 ≤ (I 151 13).toInt ∧ (I 151 13).toInt ≤ 6) ∧ I 152 = sinTab
/-- an aim may be flown -/
theorem c_endOf (E : En) (I : Mem) (kx am : Nat) (bd : Int32) (hkk : kx = 15 ∨ kx = 17) (ha : am < 184) (hka : kd am = 0) (hao : AimOk I am) (hF : FlOkF I) : Ctr E yX10_endOf cX10_endOf 7 (some .int) 3 [.ref (E.1 0), .ref (E.1 kx), .ref (E.1 am), .int bd] I (qI (fun (r : Int32) (I1 : Mem) => EndPost I I1 kx am bd r)) :=
  c_X10_endOf E I kx am bd hkk ha hka hao (hF.1 _ (by rw [tn]; omega)) hF.2.1 hF.2.2.1 (hF.2.2.2 _ (wiF_ok hao.2.2.2.2))
theorem m6v {x : Int32} {y : Int32} {m : Nat} (h : 0 ≤ x.toInt ∧ x.toInt ≤ 1) (hy : y.toInt = m) (hm : m < 6) : (6 * x + y).toInt = 6 * x.toInt + m ∧ (6 * x + y).toNatClampNeg = 6 * x.toNatClampNeg + m := by
  have e6 : (6 : Int32).toInt = 6 := by decide
  have em : (6 * x).toInt = 6 * x.toInt := by rw [tI_mul (by rw [e6]; omega) (by rw [e6]; omega), e6]
  have e2 : (6 * x + y).toInt = 6 * x.toInt + m := by rw [tI_add (by rw [em, hy]; omega) (by rw [em, hy]; omega), em, hy]
  refine ⟨e2, ?_⟩
  rw [tn, tn, e2]
  omega
theorem m6x {x : Int32} (h : 0 ≤ x.toInt ∧ x.toInt ≤ 1) : (6 * x).toInt = 6 * x.toInt ∧ (6 * x).toNatClampNeg = 6 * x.toNatClampNeg := by
  have e6 : (6 : Int32).toInt = 6 := by decide
  have em : (6 * x).toInt = 6 * x.toInt := by rw [tI_mul (by rw [e6]; omega) (by rw [e6]; omega), e6]
  refine ⟨em, ?_⟩
  rw [tn, tn, em]
  omega
def keepM (I : Mem) (o : Nat) (s l a st sp w : Int32) : Mem := upm (upm (upm (upm (upm (upm I 171 o s) 171 (o + 1) l) 171 (o + 2) a) 171 (o + 3) st) 171 (o + 4) sp) 171 (o + 5) w
def R_keep (I : Mem) (wh s l a st sp w : Int32) : Int32 × Mem := if (0 ≤ wh.toInt ∧ wh.toInt ≤ 1) ∧ thrR I s l a st sp w then (1, keepM (upm I 170 wh.toNatClampNeg 1) (6 * wh.toNatClampNeg) s l a st sp w) else (-1, I)
set_option maxRecDepth 100000 in
set_option maxHeartbeats 4000000 in
theorem c_X11_isThrow (E : En) (I : Mem) (s : Int64) (l : Int64) (a : Int64) (st : Int64) (sp : Int64)  : Ctr E yX11_isThrow cX11_isThrow 11 (some .boolean) 2 [.ref (E.1 151), .long s, .long l, .long a, .long st, .long sp] I (qI (fun (r : Int32) (I1 : Mem) => r = b2i ((0 ≤ s.toInt ∧ s.toInt ≤ (I 151 1 - 1).toInt) ∧ (0 ≤ l.toInt ∧ l.toInt ≤ 90) ∧ (0 ≤ a.toInt ∧ a.toInt ≤ 359) ∧ (30 ≤ st.toInt ∧ st.toInt ≤ 250) ∧ (100 ≤ sp.toInt ∧ sp.toInt ≤ 1000)) ∧ I = I1)) := by
  refine Ctr.openI (by decide) (Nat.le_of_ble_eq_true rfl) (fun g h hr => ?_)
  have h : Sem cX11_isThrow RX11 11 (rmL 2) E g := h
  show g I 0 [(0, .ref (E.1 151)), (1, .long s), (3, .long l), (5, .long a), (7, .long st), (9, .long sp)] []
  refine r_lload_n (pc := 0) h dX11_isThrow_0 rfl ?_
  refine r_lconst (v := 0) (pc := 1) h dX11_isThrow_1 (by decide) ?_
  refine r_aload_n (pc := 2) h dX11_isThrow_2 rfl ?_
  refine gf_X11_144 (pc := 3) h dX11_isThrow_3 ?_
  refine r_iconst (v := 1) (pc := 6) h dX11_isThrow_6 (by decide) ?_
  refine r_isub (pc := 7) h dX11_isThrow_7 ?_
  refine r_i2l (pc := 8) h dX11_isThrow_8 ?_
  refine r_callSI (pc := 9) h dX11_isThrow_9 wm_X11_127 ca_X11_in (c_X11_in E _ _ _ _) rfl rfl (Nat.le_of_ble_eq_true rfl) (by decide) (fun r I1 hq => ?_)
  obtain ⟨rfl, rfl⟩ := hq
  refine r_if_eq (pc := 12) h 70 dX11_isThrow_12 (by decide) (fun c12 => ?_) (fun c12 => ?_)
  · refine r_iconst (v := 0) (pc := 70) h dX11_isThrow_70 (by decide) ?_
    exact hr _ _ _ _ dX11_isThrow_71 (by first | rfl | decide | exact b2i_nar) (⟨by (try simp only [b2i_eq0, eq0_b2i, eq1_b2i] at *); (try simp only [Int32.reduceToInt, Int64.reduceToInt, Int32.toInt_toInt64] at *); omega, rfl⟩)
  · refine r_lload_n (pc := 15) h dX11_isThrow_15 rfl ?_
    refine r_lconst (v := 0) (pc := 16) h dX11_isThrow_16 (by decide) ?_
    refine r_ldc2 (pc := 17) h dX11_isThrow_17 wc_X11_223 ?_
    refine r_callSI (pc := 20) h dX11_isThrow_20 wm_X11_127 ca_X11_in (c_X11_in E _ _ _ _) rfl rfl (Nat.le_of_ble_eq_true rfl) (by decide) (fun r I1 hq => ?_)
    obtain ⟨rfl, rfl⟩ := hq
    refine r_if_eq (pc := 23) h 70 dX11_isThrow_23 (by decide) (fun c23 => ?_) (fun c23 => ?_)
    · refine r_iconst (v := 0) (pc := 70) h dX11_isThrow_70 (by decide) ?_
      exact hr _ _ _ _ dX11_isThrow_71 (by first | rfl | decide | exact b2i_nar) (⟨by (try simp only [b2i_eq0, eq0_b2i, eq1_b2i] at *); (try simp only [Int32.reduceToInt, Int64.reduceToInt, Int32.toInt_toInt64] at *); omega, rfl⟩)
    · refine r_lload (pc := 26) h dX11_isThrow_26 rfl ?_
      refine r_lconst (v := 0) (pc := 28) h dX11_isThrow_28 (by decide) ?_
      refine r_ldc2 (pc := 29) h dX11_isThrow_29 wc_X11_131 ?_
      refine r_callSI (pc := 32) h dX11_isThrow_32 wm_X11_127 ca_X11_in (c_X11_in E _ _ _ _) rfl rfl (Nat.le_of_ble_eq_true rfl) (by decide) (fun r I1 hq => ?_)
      obtain ⟨rfl, rfl⟩ := hq
      refine r_if_eq (pc := 35) h 70 dX11_isThrow_35 (by decide) (fun c35 => ?_) (fun c35 => ?_)
      · refine r_iconst (v := 0) (pc := 70) h dX11_isThrow_70 (by decide) ?_
        exact hr _ _ _ _ dX11_isThrow_71 (by first | rfl | decide | exact b2i_nar) (⟨by (try simp only [b2i_eq0, eq0_b2i, eq1_b2i] at *); (try simp only [Int32.reduceToInt, Int64.reduceToInt, Int32.toInt_toInt64] at *); omega, rfl⟩)
      · refine r_lload (pc := 38) h dX11_isThrow_38 rfl ?_
        refine r_ldc2 (pc := 40) h dX11_isThrow_40 wc_X11_225 ?_
        refine r_ldc2 (pc := 43) h dX11_isThrow_43 wc_X11_210 ?_
        refine r_callSI (pc := 46) h dX11_isThrow_46 wm_X11_127 ca_X11_in (c_X11_in E _ _ _ _) rfl rfl (Nat.le_of_ble_eq_true rfl) (by decide) (fun r I1 hq => ?_)
        obtain ⟨rfl, rfl⟩ := hq
        refine r_if_eq (pc := 49) h 70 dX11_isThrow_49 (by decide) (fun c49 => ?_) (fun c49 => ?_)
        · refine r_iconst (v := 0) (pc := 70) h dX11_isThrow_70 (by decide) ?_
          exact hr _ _ _ _ dX11_isThrow_71 (by first | rfl | decide | exact b2i_nar) (⟨by (try simp only [b2i_eq0, eq0_b2i, eq1_b2i] at *); (try simp only [Int32.reduceToInt, Int64.reduceToInt, Int32.toInt_toInt64] at *); omega, rfl⟩)
        · refine r_lload (pc := 52) h dX11_isThrow_52 rfl ?_
          refine r_ldc2 (pc := 54) h dX11_isThrow_54 wc_X11_136 ?_
          refine r_ldc2 (pc := 57) h dX11_isThrow_57 wc_X11_227 ?_
          refine r_callSI (pc := 60) h dX11_isThrow_60 wm_X11_127 ca_X11_in (c_X11_in E _ _ _ _) rfl rfl (Nat.le_of_ble_eq_true rfl) (by decide) (fun r I1 hq => ?_)
          obtain ⟨rfl, rfl⟩ := hq
          refine r_if_eq (pc := 63) h 70 dX11_isThrow_63 (by decide) (fun c63 => ?_) (fun c63 => ?_)
          · refine r_iconst (v := 0) (pc := 70) h dX11_isThrow_70 (by decide) ?_
            exact hr _ _ _ _ dX11_isThrow_71 (by first | rfl | decide | exact b2i_nar) (⟨by (try simp only [b2i_eq0, eq0_b2i, eq1_b2i] at *); (try simp only [Int32.reduceToInt, Int64.reduceToInt, Int32.toInt_toInt64] at *); omega, rfl⟩)
          · refine r_iconst (v := 1) (pc := 66) h dX11_isThrow_66 (by decide) ?_
            refine r_goto (pc := 67) h 71 dX11_isThrow_67 (by decide) ?_
            exact hr _ _ _ _ dX11_isThrow_71 (by first | rfl | decide | exact b2i_nar) (⟨by (try simp only [b2i_eq0, eq0_b2i, eq1_b2i] at *); (try simp only [Int32.reduceToInt, Int64.reduceToInt, Int32.toInt_toInt64] at *); omega, rfl⟩)
set_option maxRecDepth 100000 in
set_option maxHeartbeats 4000000 in
theorem c_X11_keep (E : En) (I : Mem) (wh : Int32) (s : Int32) (l : Int32) (a : Int32) (st : Int32) (sp : Int32) (w : Int32) (hc : 0 ≤ (I 151 1).toInt ∧ (I 151 1).toInt ≤ 9) (hcw : 0 ≤ (I 151 10).toInt ∧ (I 151 10).toInt ≤ 8) : Ctr E yX11_keep cX11_keep 8 (some .int) 3 [.ref (E.1 151), .int wh, .int s, .int l, .int a, .int st, .int sp, .int w] I (qI (fun (r : Int32) (I1 : Mem) => r = (R_keep I wh s l a st sp w).1 ∧ (R_keep I wh s l a st sp w).2 = I1)) := by
  refine Ctr.openI (by decide) (Nat.le_of_ble_eq_true rfl) (fun g h hr => ?_)
  have h : Sem cX11_keep RX11 8 (rmL 3) E g := h
  show g I 0 [(0, .ref (E.1 151)), (1, .int wh), (2, .int s), (3, .int l), (4, .int a), (5, .int st), (6, .int sp), (7, .int w)] []
  have ec : (I 151 1 - 1).toInt = (I 151 1).toInt - 1 := tI_sub1 (by omega)
  have ecw : (I 151 10 - 1).toInt = (I 151 10).toInt - 1 := tI_sub1 (by omega)
  refine r_iload_n (pc := 0) h dX11_keep_0 rfl ?_
  refine r_i2l (pc := 1) h dX11_keep_1 ?_
  refine r_lconst (v := 0) (pc := 2) h dX11_keep_2 (by decide) ?_
  refine r_lconst (v := 1) (pc := 3) h dX11_keep_3 (by decide) ?_
  refine r_callSI (pc := 4) h dX11_keep_4 wm_X11_127 ca_X11_in (c_X11_in E _ _ _ _) rfl rfl (Nat.le_of_ble_eq_true rfl) (by decide) (fun r I1 hq => ?_)
  obtain ⟨rfl, rfl⟩ := hq
  refine r_if_eq (pc := 7) h 39 dX11_keep_7 (by decide) (fun c7 => ?_) (fun c7 => ?_)
  · refine r_iconst (v := -1) (pc := 39) h dX11_keep_39 (by decide) ?_
    exact hr _ _ _ _ dX11_keep_40 (rfl) (by unfold R_keep; rw [if_neg (by (try simp only [b2i_eq0] at *); (try simp only [Int32.reduceToInt, Int64.reduceToInt, Int32.toInt_toInt64] at *); omega)]; exact ⟨rfl, rfl⟩)
  · refine r_aload_n (pc := 10) h dX11_keep_10 rfl ?_
    refine r_iload_n (pc := 11) h dX11_keep_11 rfl ?_
    refine r_i2l (pc := 12) h dX11_keep_12 ?_
    refine r_iload_n (pc := 13) h dX11_keep_13 rfl ?_
    refine r_i2l (pc := 14) h dX11_keep_14 ?_
    refine r_iload (pc := 15) h dX11_keep_15 rfl ?_
    refine r_i2l (pc := 17) h dX11_keep_17 ?_
    refine r_iload (pc := 18) h dX11_keep_18 rfl ?_
    refine r_i2l (pc := 20) h dX11_keep_20 ?_
    refine r_iload (pc := 21) h dX11_keep_21 rfl ?_
    refine r_i2l (pc := 23) h dX11_keep_23 ?_
    refine r_callVI (ci := 11) (pc := 24) h dX11_keep_24 wm_X11_229 ca_X11_isThrow rfl (c_X11_isThrow E _ _ _ _ _ _) rfl rfl (Nat.le_of_ble_eq_true rfl) (by decide) (by decide) (by decide) (by decide) (fun r I1 hq => ?_)
    obtain ⟨rfl, rfl⟩ := hq
    refine r_if_eq (pc := 27) h 39 dX11_keep_27 (by decide) (fun c27 => ?_) (fun c27 => ?_)
    · refine r_iconst (v := -1) (pc := 39) h dX11_keep_39 (by decide) ?_
      exact hr _ _ _ _ dX11_keep_40 (rfl) (by unfold R_keep; rw [if_neg (by (try simp only [b2i_eq0] at *); (try simp only [Int32.reduceToInt, Int64.reduceToInt, Int32.toInt_toInt64] at *); omega)]; exact ⟨rfl, rfl⟩)
    · refine r_aload_n (pc := 30) h dX11_keep_30 rfl ?_
      refine r_iload (pc := 31) h dX11_keep_31 rfl ?_
      refine r_callVI (ci := 11) (pc := 33) h dX11_keep_33 wm_X11_233 ca_X11_isWind rfl (c_X11_isWind E _ _) rfl rfl (Nat.le_of_ble_eq_true rfl) (by decide) (by decide) (by decide) (by decide) (fun r I1 hq => ?_)
      obtain ⟨rfl, rfl⟩ := hq
      refine r_if_ne (pc := 36) h 41 dX11_keep_36 (by decide) (fun c36 => ?_) (fun c36 => ?_)
      · have hwh : 0 ≤ wh.toInt ∧ wh.toInt ≤ 1 := by (try simp only [b2i_eq0] at *); (try simp only [Int32.reduceToInt, Int64.reduceToInt, Int32.toInt_toInt64] at *); omega
        have hth : thrR I s l a st sp w := by (try simp only [b2i_eq0] at *); (try simp only [Int32.reduceToInt, Int64.reduceToInt, Int32.toInt_toInt64] at *); omega
        refine r_aload_n (pc := 41) h dX11_keep_41 rfl ?_
        refine gf_X11_72 (pc := 42) h dX11_keep_42 ?_
        refine r_iload_n (pc := 45) h dX11_keep_45 rfl ?_
        refine r_iconst (v := 1) (pc := 46) h dX11_keep_46 (by decide) ?_
        refine r_zast (pc := 47) h dX11_keep_47 (by decide) (by decide) (vin (n := 2) (by omega) (by omega)) (by decide) ?_
        refine r_aload_n (pc := 48) h dX11_keep_48 rfl ?_
        refine gf_X11_75 (pc := 49) h dX11_keep_49 ?_
        refine r_bipush (v := 6) (pc := 52) h dX11_keep_52 (by decide) ?_
        refine r_iload_n (pc := 54) h dX11_keep_54 rfl ?_
        refine r_imul (pc := 55) h dX11_keep_55 ?_
        refine r_iload_n (pc := 56) h dX11_keep_56 rfl ?_
        refine r_iastL (j := 6 * wh.toNatClampNeg) (pc := 57) h dX11_keep_57 (by decide) (by decide) ((m6x hwh).2) (vin (n := 12) (by rw [(m6x hwh).1]; omega) (by rw [(m6x hwh).1]; omega)) ?_
        refine r_aload_n (pc := 58) h dX11_keep_58 rfl ?_
        refine gf_X11_75 (pc := 59) h dX11_keep_59 ?_
        refine r_bipush (v := 6) (pc := 62) h dX11_keep_62 (by decide) ?_
        refine r_iload_n (pc := 64) h dX11_keep_64 rfl ?_
        refine r_imul (pc := 65) h dX11_keep_65 ?_
        refine r_iconst (v := 1) (pc := 66) h dX11_keep_66 (by decide) ?_
        refine r_iadd (pc := 67) h dX11_keep_67 ?_
        refine r_iload_n (pc := 68) h dX11_keep_68 rfl ?_
        refine r_iastL (j := 6 * wh.toNatClampNeg + 1) (pc := 69) h dX11_keep_69 (by decide) (by decide) ((m6v hwh (m := 1) (by decide) (by decide)).2) (vin (n := 12) (by rw [(m6v hwh (m := 1) (by decide) (by decide)).1]; omega) (by rw [(m6v hwh (m := 1) (by decide) (by decide)).1]; omega)) ?_
        refine r_aload_n (pc := 70) h dX11_keep_70 rfl ?_
        refine gf_X11_75 (pc := 71) h dX11_keep_71 ?_
        refine r_bipush (v := 6) (pc := 74) h dX11_keep_74 (by decide) ?_
        refine r_iload_n (pc := 76) h dX11_keep_76 rfl ?_
        refine r_imul (pc := 77) h dX11_keep_77 ?_
        refine r_iconst (v := 2) (pc := 78) h dX11_keep_78 (by decide) ?_
        refine r_iadd (pc := 79) h dX11_keep_79 ?_
        refine r_iload (pc := 80) h dX11_keep_80 rfl ?_
        refine r_iastL (j := 6 * wh.toNatClampNeg + 2) (pc := 82) h dX11_keep_82 (by decide) (by decide) ((m6v hwh (m := 2) (by decide) (by decide)).2) (vin (n := 12) (by rw [(m6v hwh (m := 2) (by decide) (by decide)).1]; omega) (by rw [(m6v hwh (m := 2) (by decide) (by decide)).1]; omega)) ?_
        refine r_aload_n (pc := 83) h dX11_keep_83 rfl ?_
        refine gf_X11_75 (pc := 84) h dX11_keep_84 ?_
        refine r_bipush (v := 6) (pc := 87) h dX11_keep_87 (by decide) ?_
        refine r_iload_n (pc := 89) h dX11_keep_89 rfl ?_
        refine r_imul (pc := 90) h dX11_keep_90 ?_
        refine r_iconst (v := 3) (pc := 91) h dX11_keep_91 (by decide) ?_
        refine r_iadd (pc := 92) h dX11_keep_92 ?_
        refine r_iload (pc := 93) h dX11_keep_93 rfl ?_
        refine r_iastL (j := 6 * wh.toNatClampNeg + 3) (pc := 95) h dX11_keep_95 (by decide) (by decide) ((m6v hwh (m := 3) (by decide) (by decide)).2) (vin (n := 12) (by rw [(m6v hwh (m := 3) (by decide) (by decide)).1]; omega) (by rw [(m6v hwh (m := 3) (by decide) (by decide)).1]; omega)) ?_
        refine r_aload_n (pc := 96) h dX11_keep_96 rfl ?_
        refine gf_X11_75 (pc := 97) h dX11_keep_97 ?_
        refine r_bipush (v := 6) (pc := 100) h dX11_keep_100 (by decide) ?_
        refine r_iload_n (pc := 102) h dX11_keep_102 rfl ?_
        refine r_imul (pc := 103) h dX11_keep_103 ?_
        refine r_iconst (v := 4) (pc := 104) h dX11_keep_104 (by decide) ?_
        refine r_iadd (pc := 105) h dX11_keep_105 ?_
        refine r_iload (pc := 106) h dX11_keep_106 rfl ?_
        refine r_iastL (j := 6 * wh.toNatClampNeg + 4) (pc := 108) h dX11_keep_108 (by decide) (by decide) ((m6v hwh (m := 4) (by decide) (by decide)).2) (vin (n := 12) (by rw [(m6v hwh (m := 4) (by decide) (by decide)).1]; omega) (by rw [(m6v hwh (m := 4) (by decide) (by decide)).1]; omega)) ?_
        refine r_aload_n (pc := 109) h dX11_keep_109 rfl ?_
        refine gf_X11_75 (pc := 110) h dX11_keep_110 ?_
        refine r_bipush (v := 6) (pc := 113) h dX11_keep_113 (by decide) ?_
        refine r_iload_n (pc := 115) h dX11_keep_115 rfl ?_
        refine r_imul (pc := 116) h dX11_keep_116 ?_
        refine r_iconst (v := 5) (pc := 117) h dX11_keep_117 (by decide) ?_
        refine r_iadd (pc := 118) h dX11_keep_118 ?_
        refine r_iload (pc := 119) h dX11_keep_119 rfl ?_
        refine r_iastL (j := 6 * wh.toNatClampNeg + 5) (pc := 121) h dX11_keep_121 (by decide) (by decide) ((m6v hwh (m := 5) (by decide) (by decide)).2) (vin (n := 12) (by rw [(m6v hwh (m := 5) (by decide) (by decide)).1]; omega) (by rw [(m6v hwh (m := 5) (by decide) (by decide)).1]; omega)) ?_
        refine r_iconst (v := 1) (pc := 122) h dX11_keep_122 (by decide) ?_
        exact hr _ _ _ _ dX11_keep_123 (rfl) (by unfold R_keep; rw [if_pos ⟨hwh, hth⟩]; exact ⟨rfl, rfl⟩)
      · refine r_iconst (v := -1) (pc := 39) h dX11_keep_39 (by decide) ?_
        exact hr _ _ _ _ dX11_keep_40 (rfl) (by unfold R_keep; rw [if_neg (by (try simp only [b2i_eq0] at *); (try simp only [Int32.reduceToInt, Int64.reduceToInt, Int32.toInt_toInt64] at *); omega)]; exact ⟨rfl, rfl⟩)
set_option maxRecDepth 100000 in
set_option maxHeartbeats 4000000 in
theorem c_X10_comesBack (E : En) (I : Mem) (am : Nat) (ha : am < 184) (hka : kd am = 0) (hao : AimOk I am) (hF : FlOkF I) : Ctr E yX10_comesBack cX10_comesBack 2 (some .boolean) 4 [.ref (E.1 0), .ref (E.1 am)] I (qI (fun (r : Int32) (I1 : Mem) => (∃ e, EndPost I I1 17 am (I (41 + 2 * (I am 0).toNatClampNeg) 5) e ∧ r = b2i (e = 2)))) := by
  refine Ctr.openI (by decide) (Nat.le_of_ble_eq_true rfl) (fun g h hr => ?_)
  have h : Sem cX10_comesBack RX10 2 (rmL 4) E g := h
  show g I 0 [(0, .ref (E.1 0)), (1, .ref (E.1 am))] []
  have hn9 : (I am 0).toNatClampNeg < 9 := by rw [tn]; omega
  refine r_aload_n (pc := 0) h dX10_comesBack_0 rfl ?_
  refine r_aload_n (pc := 1) h dX10_comesBack_1 rfl ?_
  refine gf_X10_57 (pc := 2) h dX10_comesBack_2 ?_
  refine r_aload_n (pc := 5) h dX10_comesBack_5 rfl ?_
  refine r_aload_n (pc := 6) h dX10_comesBack_6 rfl ?_
  refine gf_X10_19 (pc := 7) h dX10_comesBack_7 ?_
  refine r_aload_n (pc := 10) h dX10_comesBack_10 rfl ?_
  refine gf_X10_222 (pc := 11) h dX10_comesBack_11 ha hka ?_
  refine r_aa2 (pc := 14) h dX10_comesBack_14 (vin (n := 9) (by omega) (by omega)) ?_
  refine gf_X10_136 (pc := 15) h dX10_comesBack_15 (by omega) (kdSt _ hn9) ?_
  refine r_callVI (ci := 10) (pc := 18) h dX10_comesBack_18 wm_X10_192 ca_X10_endOf rfl (c_endOf E _ _ _ _ (Or.inr rfl) ha hka hao hF) rfl rfl (Nat.le_of_ble_eq_true rfl) (by decide) (by decide) (by decide) (by decide) (fun r I1 hq => ?_)
  have hq := hq
  refine r_iconst (v := 2) (pc := 21) h dX10_comesBack_21 (by decide) ?_
  refine r_icmp_ne (pc := 22) h 29 dX10_comesBack_22 (by decide) (fun c22 => ?_) (fun c22 => ?_)
  · refine r_iconst (v := 0) (pc := 29) h dX10_comesBack_29 (by decide) ?_
    exact hr _ _ _ _ dX10_comesBack_30 (by first | rfl | decide | exact b2i_nar) (⟨_, hq, by first | rw [b2i_t c22] | rw [b2i_f c22]⟩)
  · refine r_iconst (v := 1) (pc := 25) h dX10_comesBack_25 (by decide) ?_
    refine r_goto (pc := 26) h 30 dX10_comesBack_26 (by decide) ?_
    exact hr _ _ _ _ dX10_comesBack_30 (by first | rfl | decide | exact b2i_nar) (⟨_, hq, by first | rw [b2i_t c22] | rw [b2i_f c22]⟩)
set_option maxRecDepth 100000 in
set_option maxHeartbeats 4000000 in
theorem c_X10_fly (E : En) (I : Mem) (s : Int32) (l : Int32) (a : Int32) (st : Int32) (sp : Int32) (w : Int32) (hc : 0 ≤ (I 0 2).toInt ∧ (I 0 2).toInt ≤ 9) (hcw : 0 ≤ (I 0 4).toInt ∧ (I 0 4).toInt ≤ 8) (hF : FlOkF I) : Ctr E yX10_fly cX10_fly 7 (some .int) 5 [.ref (E.1 0), .int s, .int l, .int a, .int st, .int sp, .int w] I (qI (fun (r : Int32) (I1 : Mem) => (thrF I s l a st sp w ∧ EndPost (takeM I 19 s l a st sp w) I1 15 19 (I (41 + 2 * s.toNatClampNeg) 5) r) ∨ (¬ thrF I s l a st sp w ∧ r = -1 ∧ I1 = I))) := by
  refine Ctr.openI (by decide) (Nat.le_of_ble_eq_true rfl) (fun g h hr => ?_)
  have h : Sem cX10_fly RX10 7 (rmL 5) E g := h
  show g I 0 [(0, .ref (E.1 0)), (1, .int s), (2, .int l), (3, .int a), (4, .int st), (5, .int sp), (6, .int w)] []
  have ec : (I 0 2 - 1).toInt = (I 0 2).toInt - 1 := tI_sub1 (by omega)
  have ecw : (I 0 4 - 1).toInt = (I 0 4).toInt - 1 := tI_sub1 (by omega)
  refine r_aload_n (pc := 0) h dX10_fly_0 rfl ?_
  refine r_iload_n (pc := 1) h dX10_fly_1 rfl ?_
  refine r_iload_n (pc := 2) h dX10_fly_2 rfl ?_
  refine r_iload_n (pc := 3) h dX10_fly_3 rfl ?_
  refine r_iload (pc := 4) h dX10_fly_4 rfl ?_
  refine r_iload (pc := 6) h dX10_fly_6 rfl ?_
  refine r_iload (pc := 8) h dX10_fly_8 rfl ?_
  refine r_callVI (ci := 10) (pc := 10) h dX10_fly_10 wm_X10_184 ca_X10_isThrow rfl (c_X10_isThrow E _ _ _ _ _ _ _) rfl rfl (Nat.le_of_ble_eq_true rfl) (by decide) (by decide) (by decide) (by decide) (fun r I1 hq => ?_)
  obtain ⟨rfl, rfl⟩ := hq
  refine r_if_ne (pc := 13) h 18 dX10_fly_13 (by decide) (fun c13 => ?_) (fun c13 => ?_)
  · have hth : thrF I s l a st sp w := by (try simp only [b2i_eq0] at *); (try simp only [Int32.reduceToInt, Int64.reduceToInt, Int32.toInt_toInt64] at *); omega
    have hn9 : s.toNatClampNeg < 9 := by rw [tn]; omega
    refine r_aload_n (pc := 18) h dX10_fly_18 rfl ?_
    refine gf_X10_63 (pc := 19) h dX10_fly_19 ?_
    refine r_iload_n (pc := 22) h dX10_fly_22 rfl ?_
    refine r_iload_n (pc := 23) h dX10_fly_23 rfl ?_
    refine r_iload_n (pc := 24) h dX10_fly_24 rfl ?_
    refine r_iload (pc := 25) h dX10_fly_25 rfl ?_
    refine r_iload (pc := 27) h dX10_fly_27 rfl ?_
    refine r_iload (pc := 29) h dX10_fly_29 rfl ?_
    refine r_callVV (ci := 0) (pc := 31) h dX10_fly_31 wm_X10_188 ca_X0_take rfl (c_X0_take E _ _ _ _ _ _ _ _ (by decide) (by decide)) rfl rfl (Nat.le_of_ble_eq_true rfl) (by decide) (by decide) (by decide) (by decide) (fun I1 hq => ?_)
    subst hq
    have hF2 : FlOkF (takeM I 19 s l a st sp w) := FlOkF_of (fun x hx => takeM_ne _ _ _ _ _ _ _ (by omega)) hF
    have hao : AimOk (takeM I 19 s l a st sp w) 19 := ⟨⟨hth.1.1, show s.toInt < 9 by omega⟩, hth.2.1.1, hth.2.1.2.2.1, hth.2.1.2.2.2, by
      rcases hth.2.2 with q | q
      · exact Or.inl (by rw [i32_eq, i32_m1]; exact q)
      · exact Or.inr ⟨q.1, show w.toInt < 8 by omega⟩⟩
    have e41 : (takeM I 19 s l a st sp w) (41 + 2 * s.toNatClampNeg) = I (41 + 2 * s.toNatClampNeg) := takeM_ne _ _ _ _ _ _ _ (by omega)
    refine r_aload_n (pc := 34) h dX10_fly_34 rfl ?_
    refine r_aload_n (pc := 35) h dX10_fly_35 rfl ?_
    refine gf_X10_53 (pc := 36) h dX10_fly_36 ?_
    refine r_aload_n (pc := 39) h dX10_fly_39 rfl ?_
    refine gf_X10_63 (pc := 40) h dX10_fly_40 ?_
    refine r_aload_n (pc := 43) h dX10_fly_43 rfl ?_
    refine gf_X10_19 (pc := 44) h dX10_fly_44 ?_
    refine r_iload_n (pc := 47) h dX10_fly_47 rfl ?_
    refine r_aa2 (pc := 48) h dX10_fly_48 (vin (n := 9) (by omega) (by omega)) ?_
    refine gf_X10_136 (pc := 49) h dX10_fly_49 (by omega) (kdSt _ hn9) ?_
    refine r_callVI (ci := 10) (pc := 52) h dX10_fly_52 wm_X10_192 ca_X10_endOf rfl (c_endOf E _ _ _ _ (Or.inl rfl) (by decide) (by decide) hao hF2) rfl rfl (Nat.le_of_ble_eq_true rfl) (by decide) (by decide) (by decide) (by decide) (fun r I1 hq => ?_)
    rw [e41] at hq
    exact hr _ _ _ _ dX10_fly_55 (rfl) (Or.inl ⟨hth, hq⟩)
  · refine r_iconst (v := -1) (pc := 16) h dX10_fly_16 (by decide) ?_
    exact hr _ _ _ _ dX10_fly_17 (rfl) (Or.inr ⟨by (try simp only [b2i_eq0] at *); (try simp only [Int32.reduceToInt, Int64.reduceToInt, Int32.toInt_toInt64] at *); omega, rfl, rfl⟩)
set_option maxRecDepth 100000 in
set_option maxHeartbeats 4000000 in
theorem c_X11_fly (E : En) (I : Mem) (s : Int32) (l : Int32) (a : Int32) (st : Int32) (sp : Int32) (w : Int32) (hc : 0 ≤ (I 151 1).toInt ∧ (I 151 1).toInt ≤ 9) (hcw : 0 ≤ (I 151 10).toInt ∧ (I 151 10).toInt ≤ 8) (hF : FlOkR I) : Ctr E yX11_fly cX11_fly 8 (some .int) 5 [.ref (E.1 151), .int s, .int l, .int a, .int st, .int sp, .int w] I (qI (fun (r : Int32) (I1 : Mem) => (thrR I s l a st sp w ∧ ∃ J_ : Mem, FliesPost (upm I 151 22 1) J_ s (I 158 s.toNatClampNeg) l a st sp w r ∧ I1 = upm (upm (upm (upm J_ 151 22 0) 151 25 1) 151 23 (J_ 151 20)) 151 24 (J_ 151 21)) ∨ (¬ thrR I s l a st sp w ∧ r = -1 ∧ I1 = I))) := by
  refine Ctr.openI (by decide) (Nat.le_of_ble_eq_true rfl) (fun g h hr => ?_)
  have h : Sem cX11_fly RX11 8 (rmL 5) E g := h
  show g I 0 [(0, .ref (E.1 151)), (1, .int s), (2, .int l), (3, .int a), (4, .int st), (5, .int sp), (6, .int w)] []
  have ec : (I 151 1 - 1).toInt = (I 151 1).toInt - 1 := tI_sub1 (by omega)
  have ecw : (I 151 10 - 1).toInt = (I 151 10).toInt - 1 := tI_sub1 (by omega)
  refine r_aload_n (pc := 0) h dX11_fly_0 rfl ?_
  refine r_iload_n (pc := 1) h dX11_fly_1 rfl ?_
  refine r_i2l (pc := 2) h dX11_fly_2 ?_
  refine r_iload_n (pc := 3) h dX11_fly_3 rfl ?_
  refine r_i2l (pc := 4) h dX11_fly_4 ?_
  refine r_iload_n (pc := 5) h dX11_fly_5 rfl ?_
  refine r_i2l (pc := 6) h dX11_fly_6 ?_
  refine r_iload (pc := 7) h dX11_fly_7 rfl ?_
  refine r_i2l (pc := 9) h dX11_fly_9 ?_
  refine r_iload (pc := 10) h dX11_fly_10 rfl ?_
  refine r_i2l (pc := 12) h dX11_fly_12 ?_
  refine r_callVI (ci := 11) (pc := 13) h dX11_fly_13 wm_X11_229 ca_X11_isThrow rfl (c_X11_isThrow E _ _ _ _ _ _) rfl rfl (Nat.le_of_ble_eq_true rfl) (by decide) (by decide) (by decide) (by decide) (fun r I1 hq => ?_)
  obtain ⟨rfl, rfl⟩ := hq
  refine r_if_eq (pc := 16) h 28 dX11_fly_16 (by decide) (fun c16 => ?_) (fun c16 => ?_)
  · refine r_iconst (v := -1) (pc := 28) h dX11_fly_28 (by decide) ?_
    exact hr _ _ _ _ dX11_fly_29 (rfl) (Or.inr ⟨by (try simp only [b2i_eq0] at *); (try simp only [Int32.reduceToInt, Int64.reduceToInt, Int32.toInt_toInt64] at *); omega, rfl, rfl⟩)
  · refine r_aload_n (pc := 19) h dX11_fly_19 rfl ?_
    refine r_iload (pc := 20) h dX11_fly_20 rfl ?_
    refine r_callVI (ci := 11) (pc := 22) h dX11_fly_22 wm_X11_233 ca_X11_isWind rfl (c_X11_isWind E _ _) rfl rfl (Nat.le_of_ble_eq_true rfl) (by decide) (by decide) (by decide) (by decide) (fun r I1 hq => ?_)
    obtain ⟨rfl, rfl⟩ := hq
    refine r_if_ne (pc := 25) h 30 dX11_fly_25 (by decide) (fun c25 => ?_) (fun c25 => ?_)
    · have hth : thrR I s l a st sp w := by (try simp only [b2i_eq0] at *); (try simp only [Int32.reduceToInt, Int64.reduceToInt, Int32.toInt_toInt64] at *); omega
      refine r_aload_n (pc := 30) h dX11_fly_30 rfl ?_
      refine r_iconst (v := 1) (pc := 31) h dX11_fly_31 (by decide) ?_
      refine pf_X11_185 (pc := 32) h dX11_fly_32 (by decide) (by decide) ?_
      refine r_aload_n (pc := 35) h dX11_fly_35 rfl ?_
      refine r_iload_n (pc := 36) h dX11_fly_36 rfl ?_
      refine r_aload_n (pc := 37) h dX11_fly_37 rfl ?_
      refine gf_X11_28 (pc := 38) h dX11_fly_38 ?_
      refine r_iload_n (pc := 41) h dX11_fly_41 rfl ?_
      refine r_iald (pc := 42) h dX11_fly_42 (by decide) (by decide) (vin (n := 9) (by omega) (by omega)) ?_
      refine r_iload_n (pc := 43) h dX11_fly_43 rfl ?_
      refine r_iload_n (pc := 44) h dX11_fly_44 rfl ?_
      refine r_iload (pc := 45) h dX11_fly_45 rfl ?_
      refine r_iload (pc := 47) h dX11_fly_47 rfl ?_
      refine r_iload (pc := 49) h dX11_fly_49 rfl ?_
      refine r_callVI (ci := 11) (pc := 51) h dX11_fly_51 wm_X11_236 ca_X11_flies rfl (c_X11_flies E _ _ _ _ _ _ _ _ ⟨hth.1.1, by omega⟩ (by omega) hth.2.1.1 hF.1 hF.2.1 hF.2.2) rfl rfl (Nat.le_of_ble_eq_true rfl) (by decide) (by decide) (by decide) (by decide) (fun r I1 hq => ?_)
      have hq : FliesPost (upm I 151 22 1) I1 s (I 158 s.toNatClampNeg) l a st sp w r := hq
      refine r_istore (pc := 54) h dX11_fly_54 (by decide) ?_
      refine r_aload_n (pc := 56) h dX11_fly_56 rfl ?_
      refine r_iconst (v := 0) (pc := 57) h dX11_fly_57 (by decide) ?_
      refine pf_X11_185 (pc := 58) h dX11_fly_58 (by decide) (by decide) ?_
      refine r_aload_n (pc := 61) h dX11_fly_61 rfl ?_
      refine r_iconst (v := 1) (pc := 62) h dX11_fly_62 (by decide) ?_
      refine pf_X11_240 (pc := 63) h dX11_fly_63 (by decide) (by decide) ?_
      refine r_aload_n (pc := 66) h dX11_fly_66 rfl ?_
      refine r_aload_n (pc := 67) h dX11_fly_67 rfl ?_
      refine gf_X11_189 (pc := 68) h dX11_fly_68 ?_
      refine pf_X11_243 (pc := 71) h dX11_fly_71 ?_
      refine r_aload_n (pc := 74) h dX11_fly_74 rfl ?_
      refine r_aload_n (pc := 75) h dX11_fly_75 rfl ?_
      refine gf_X11_205 (pc := 76) h dX11_fly_76 ?_
      refine pf_X11_63 (pc := 79) h dX11_fly_79 ?_
      refine r_iload (pc := 82) h dX11_fly_82 rfl ?_
      exact hr _ _ _ _ dX11_fly_84 (rfl) (Or.inl ⟨hth, _, hq, rfl⟩)
    · refine r_iconst (v := -1) (pc := 28) h dX11_fly_28 (by decide) ?_
      exact hr _ _ _ _ dX11_fly_29 (rfl) (Or.inr ⟨by (try simp only [b2i_eq0] at *); (try simp only [Int32.reduceToInt, Int64.reduceToInt, Int32.toInt_toInt64] at *); omega, rfl, rfl⟩)
