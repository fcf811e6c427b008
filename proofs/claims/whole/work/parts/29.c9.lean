/-! THE CLASS's flight: note, begin, endIn -/
theorem e8i : (8 : Int32).toInt = 8 := by decide
theorem m8x {x : Int32} (h : 0 ≤ x.toInt ∧ x.toInt ≤ 400) : (x * 8).toInt = 8 * x.toInt ∧ (x * 8).toNatClampNeg = 8 * x.toNatClampNeg := by
  have em : (x * 8).toInt = 8 * x.toInt := by rw [tI_mul (by rw [e8i]; omega) (by rw [e8i]; omega), e8i, Int.mul_comm]
  refine ⟨em, ?_⟩
  rw [tn, tn, em]
  omega
theorem m8y {x y : Int32} {m : Nat} (h : 0 ≤ x.toInt ∧ x.toInt ≤ 400) (hy : y.toInt = m) (hm : m < 8) : (x * 8 + y).toInt = 8 * x.toInt + m ∧ (x * 8 + y).toNatClampNeg = 8 * x.toNatClampNeg + m := by
  have em := (m8x h).1
  have e2 : (x * 8 + y).toInt = 8 * x.toInt + m := by rw [tI_add (by rw [em, hy]; omega) (by rw [em, hy]; omega), em, hy]
  refine ⟨e2, ?_⟩
  rw [tn, tn, e2]
  omega
theorem note_row (I : Mem) (o : Nat) : upm (upm (upm (upm (upm (upm (upm (upm I 16 o (I 15 0)) 16 (o + 1) (I 15 1)) 16 (o + 2) (I 15 2)) 16 (o + 3) (I 15 3)) 16 (o + 4) (I 15 4)) 16 (o + 5) (I 15 5)) 16 (o + 6) (I 15 6)) 16 (o + 7) (I 15 7) = rowQ I 16 o (I 15) 8 := by
  rw [← rowQ_step I 16 o (I 15) 7, ← rowQ_step I 16 o (I 15) 6, ← rowQ_step I 16 o (I 15) 5, ← rowQ_step I 16 o (I 15) 4, ← rowQ_step I 16 o (I 15) 3, ← rowQ_step I 16 o (I 15) 2, ← rowQ_step I 16 o (I 15) 1, ← rowQ_step I 16 o (I 15) 0, rowQ_0]
  rfl
set_option maxRecDepth 100000 in
set_option maxHeartbeats 4000000 in
theorem c_X1_note15 (E : En) (I : Mem)  (ht : 0 ≤ (I 15 8).toInt ∧ (I 15 8).toInt ≤ 400) : Ctr E yX1_note cX1_note 2 none 1 [.ref (E.1 15)] I (qV (fun I1 : Mem => I1 = rowQ I 16 (8 * (I 15 8).toNatClampNeg) (I 15) 8)) := by
  refine Ctr.openV (by decide) (Nat.le_of_ble_eq_true rfl) (fun g h hr => ?_)
  have h : Sem cX1_note RX1 2 (rmL 1) E g := h
  show g I 0 [(0, .ref (E.1 15))] []
  have e8t := (m8x ht).1
  refine r_aload_n (pc := 0) h dX1_note_0 rfl ?_
  refine gf_X1_9 (pc := 1) h dX1_note_1 (by decide) (by decide) ?_
  refine r_bipush (v := 8) (pc := 4) h dX1_note_4 (by decide) ?_
  refine r_imul (pc := 6) h dX1_note_6 ?_
  refine r_istore_n (pc := 7) h dX1_note_7 (by decide) ?_
  refine r_iload_n (pc := 8) h dX1_note_8 rfl ?_
  refine r_if_lt (pc := 9) h 24 dX1_note_9 (by decide) (fun c9 => ?_) (fun c9 => ?_)
  · exfalso
    have e3 : ((3208 : Int32) - 8).toInt = 3200 := by decide
    first
    | (rw [Int32.lt_iff_toInt_lt, e8t, z32] at c9; omega)
    | (rw [Int32.le_iff_toInt_le, e8t, e3] at c21; omega)
  · refine r_iload_n (pc := 12) h dX1_note_12 rfl ?_
    refine r_aload_n (pc := 13) h dX1_note_13 rfl ?_
    refine gf_X1_25 (pc := 14) h dX1_note_14 (by decide) (by decide) (show rf 15 12 = 16 by decide) ?_
    refine r_alen (pc := 17) h dX1_note_17 (v := 3208) (by decide) (by decide) (by decide) ?_
    refine r_bipush (v := 8) (pc := 18) h dX1_note_18 (by decide) ?_
    refine r_isub (pc := 20) h dX1_note_20 ?_
    refine r_icmp_le (pc := 21) h 25 dX1_note_21 (by decide) (fun c21 => ?_) (fun c21 => ?_)
    · refine r_aload_n (pc := 25) h dX1_note_25 rfl ?_
      refine gf_X1_25 (pc := 26) h dX1_note_26 (by decide) (by decide) (show rf 15 12 = 16 by decide) ?_
      refine r_iload_n (pc := 29) h dX1_note_29 rfl ?_
      refine r_aload_n (pc := 30) h dX1_note_30 rfl ?_
      refine gf_X1_28 (pc := 31) h dX1_note_31 (by decide) (by decide) ?_
      refine r_iastL (j := 8 * (I 15 8).toNatClampNeg) (pc := 34) h dX1_note_34 (by decide) (by decide) ((m8x ht).2) (vin (n := 3208) (by rw [(m8x ht).1]; omega) (by rw [(m8x ht).1]; omega)) ?_
      refine r_aload_n (pc := 35) h dX1_note_35 rfl ?_
      refine gf_X1_25 (pc := 36) h dX1_note_36 (by decide) (by decide) (show rf 15 12 = 16 by decide) ?_
      refine r_iload_n (pc := 39) h dX1_note_39 rfl ?_
      refine r_iconst (v := 1) (pc := 40) h dX1_note_40 (by decide) ?_
      refine r_iadd (pc := 41) h dX1_note_41 ?_
      refine r_aload_n (pc := 42) h dX1_note_42 rfl ?_
      refine gf_X1_31 (pc := 43) h dX1_note_43 (by decide) (by decide) ?_
      refine r_iastL (j := 8 * (I 15 8).toNatClampNeg + 1) (pc := 46) h dX1_note_46 (by decide) (by decide) ((m8y ht (m := 1) (by decide) (by decide)).2) (vin (n := 3208) (by rw [(m8y ht (m := 1) (by decide) (by decide)).1]; omega) (by rw [(m8y ht (m := 1) (by decide) (by decide)).1]; omega)) ?_
      refine r_aload_n (pc := 47) h dX1_note_47 rfl ?_
      refine gf_X1_25 (pc := 48) h dX1_note_48 (by decide) (by decide) (show rf 15 12 = 16 by decide) ?_
      refine r_iload_n (pc := 51) h dX1_note_51 rfl ?_
      refine r_iconst (v := 2) (pc := 52) h dX1_note_52 (by decide) ?_
      refine r_iadd (pc := 53) h dX1_note_53 ?_
      refine r_aload_n (pc := 54) h dX1_note_54 rfl ?_
      refine gf_X1_34 (pc := 55) h dX1_note_55 (by decide) (by decide) ?_
      refine r_iastL (j := 8 * (I 15 8).toNatClampNeg + 2) (pc := 58) h dX1_note_58 (by decide) (by decide) ((m8y ht (m := 2) (by decide) (by decide)).2) (vin (n := 3208) (by rw [(m8y ht (m := 2) (by decide) (by decide)).1]; omega) (by rw [(m8y ht (m := 2) (by decide) (by decide)).1]; omega)) ?_
      refine r_aload_n (pc := 59) h dX1_note_59 rfl ?_
      refine gf_X1_25 (pc := 60) h dX1_note_60 (by decide) (by decide) (show rf 15 12 = 16 by decide) ?_
      refine r_iload_n (pc := 63) h dX1_note_63 rfl ?_
      refine r_iconst (v := 3) (pc := 64) h dX1_note_64 (by decide) ?_
      refine r_iadd (pc := 65) h dX1_note_65 ?_
      refine r_aload_n (pc := 66) h dX1_note_66 rfl ?_
      refine gf_X1_37 (pc := 67) h dX1_note_67 (by decide) (by decide) ?_
      refine r_iastL (j := 8 * (I 15 8).toNatClampNeg + 3) (pc := 70) h dX1_note_70 (by decide) (by decide) ((m8y ht (m := 3) (by decide) (by decide)).2) (vin (n := 3208) (by rw [(m8y ht (m := 3) (by decide) (by decide)).1]; omega) (by rw [(m8y ht (m := 3) (by decide) (by decide)).1]; omega)) ?_
      refine r_aload_n (pc := 71) h dX1_note_71 rfl ?_
      refine gf_X1_25 (pc := 72) h dX1_note_72 (by decide) (by decide) (show rf 15 12 = 16 by decide) ?_
      refine r_iload_n (pc := 75) h dX1_note_75 rfl ?_
      refine r_iconst (v := 4) (pc := 76) h dX1_note_76 (by decide) ?_
      refine r_iadd (pc := 77) h dX1_note_77 ?_
      refine r_aload_n (pc := 78) h dX1_note_78 rfl ?_
      refine gf_X1_45 (pc := 79) h dX1_note_79 (by decide) (by decide) ?_
      refine r_iastL (j := 8 * (I 15 8).toNatClampNeg + 4) (pc := 82) h dX1_note_82 (by decide) (by decide) ((m8y ht (m := 4) (by decide) (by decide)).2) (vin (n := 3208) (by rw [(m8y ht (m := 4) (by decide) (by decide)).1]; omega) (by rw [(m8y ht (m := 4) (by decide) (by decide)).1]; omega)) ?_
      refine r_aload_n (pc := 83) h dX1_note_83 rfl ?_
      refine gf_X1_25 (pc := 84) h dX1_note_84 (by decide) (by decide) (show rf 15 12 = 16 by decide) ?_
      refine r_iload_n (pc := 87) h dX1_note_87 rfl ?_
      refine r_iconst (v := 5) (pc := 88) h dX1_note_88 (by decide) ?_
      refine r_iadd (pc := 89) h dX1_note_89 ?_
      refine r_aload_n (pc := 90) h dX1_note_90 rfl ?_
      refine gf_X1_51 (pc := 91) h dX1_note_91 (by decide) (by decide) ?_
      refine r_iastL (j := 8 * (I 15 8).toNatClampNeg + 5) (pc := 94) h dX1_note_94 (by decide) (by decide) ((m8y ht (m := 5) (by decide) (by decide)).2) (vin (n := 3208) (by rw [(m8y ht (m := 5) (by decide) (by decide)).1]; omega) (by rw [(m8y ht (m := 5) (by decide) (by decide)).1]; omega)) ?_
      refine r_aload_n (pc := 95) h dX1_note_95 rfl ?_
      refine gf_X1_25 (pc := 96) h dX1_note_96 (by decide) (by decide) (show rf 15 12 = 16 by decide) ?_
      refine r_iload_n (pc := 99) h dX1_note_99 rfl ?_
      refine r_bipush (v := 6) (pc := 100) h dX1_note_100 (by decide) ?_
      refine r_iadd (pc := 102) h dX1_note_102 ?_
      refine r_aload_n (pc := 103) h dX1_note_103 rfl ?_
      refine gf_X1_57 (pc := 104) h dX1_note_104 (by decide) (by decide) ?_
      refine r_iastL (j := 8 * (I 15 8).toNatClampNeg + 6) (pc := 107) h dX1_note_107 (by decide) (by decide) ((m8y ht (m := 6) (by decide) (by decide)).2) (vin (n := 3208) (by rw [(m8y ht (m := 6) (by decide) (by decide)).1]; omega) (by rw [(m8y ht (m := 6) (by decide) (by decide)).1]; omega)) ?_
      refine r_aload_n (pc := 108) h dX1_note_108 rfl ?_
      refine gf_X1_25 (pc := 109) h dX1_note_109 (by decide) (by decide) (show rf 15 12 = 16 by decide) ?_
      refine r_iload_n (pc := 112) h dX1_note_112 rfl ?_
      refine r_bipush (v := 7) (pc := 113) h dX1_note_113 (by decide) ?_
      refine r_iadd (pc := 115) h dX1_note_115 ?_
      refine r_aload_n (pc := 116) h dX1_note_116 rfl ?_
      refine gf_X1_61 (pc := 117) h dX1_note_117 (by decide) (by decide) ?_
      refine r_iastL (j := 8 * (I 15 8).toNatClampNeg + 7) (pc := 120) h dX1_note_120 (by decide) (by decide) ((m8y ht (m := 7) (by decide) (by decide)).2) (vin (n := 3208) (by rw [(m8y ht (m := 7) (by decide) (by decide)).1]; omega) (by rw [(m8y ht (m := 7) (by decide) (by decide)).1]; omega)) ?_
      exact hr _ _ _ dX1_note_121 (note_row I _)
    · exfalso
      have e3 : ((3208 : Int32) - 8).toInt = 3200 := by decide
      first
      | (rw [Int32.lt_iff_toInt_lt, e8t, z32] at c9; omega)
      | (rw [Int32.le_iff_toInt_le, e8t, e3] at c21; omega)
set_option maxRecDepth 100000 in
set_option maxHeartbeats 4000000 in
theorem c_X1_note17 (E : En) (I : Mem)  (ht : 0 ≤ (I 17 8).toInt ∧ (I 17 8).toInt ≤ 400) : Ctr E yX1_note cX1_note 2 none 1 [.ref (E.1 17)] I (qV (fun I1 : Mem => I1 = I)) := by
  refine Ctr.openV (by decide) (Nat.le_of_ble_eq_true rfl) (fun g h hr => ?_)
  have h : Sem cX1_note RX1 2 (rmL 1) E g := h
  show g I 0 [(0, .ref (E.1 17))] []
  have e8t := (m8x ht).1
  refine r_aload_n (pc := 0) h dX1_note_0 rfl ?_
  refine gf_X1_9 (pc := 1) h dX1_note_1 (by decide) (by decide) ?_
  refine r_bipush (v := 8) (pc := 4) h dX1_note_4 (by decide) ?_
  refine r_imul (pc := 6) h dX1_note_6 ?_
  refine r_istore_n (pc := 7) h dX1_note_7 (by decide) ?_
  refine r_iload_n (pc := 8) h dX1_note_8 rfl ?_
  refine r_if_lt (pc := 9) h 24 dX1_note_9 (by decide) (fun c9 => ?_) (fun c9 => ?_)
  · exact hr _ _ _ dX1_note_24 (rfl)
  · refine r_iload_n (pc := 12) h dX1_note_12 rfl ?_
    refine r_aload_n (pc := 13) h dX1_note_13 rfl ?_
    refine gf_X1_25 (pc := 14) h dX1_note_14 (by decide) (by decide) (show rf 17 12 = 18 by decide) ?_
    refine r_alen (pc := 17) h dX1_note_17 (v := 0) (by decide) (by decide) (by decide) ?_
    refine r_bipush (v := 8) (pc := 18) h dX1_note_18 (by decide) ?_
    refine r_isub (pc := 20) h dX1_note_20 ?_
    refine r_icmp_le (pc := 21) h 25 dX1_note_21 (by decide) (fun c21 => ?_) (fun c21 => ?_)
    · exfalso
      have e3 : ((0 : Int32) - 8).toInt = -8 := by decide
      rw [Int32.le_iff_toInt_le, e8t, e3] at c21
      omega
    · exact hr _ _ _ dX1_note_24 (rfl)
/-- note, of either flight -/
theorem c_X1_note (E : En) (I : Mem) (kx : Nat) (hkk : kx = 15 ∨ kx = 17) (ht : 0 ≤ (I kx 8).toInt ∧ (I kx 8).toInt ≤ 400) : Ctr E yX1_note cX1_note 2 none 1 [.ref (E.1 kx)] I (qV (fun I1 : Mem => (∀ a, a ≠ 16 → I1 a = I a) ∧ (kx = 17 → I1 = I) ∧ (kx = 15 → ∀ b, I1 16 b = rowQ I 16 (8 * (I 15 8).toNatClampNeg) (I 15) 8 16 b))) := by
  rcases hkk with rfl | rfl
  · exact (c_X1_note15 E I ht).vMono (fun I1 e => by subst e; exact ⟨fun a ha => rowQ_ne _ _ _ _ ha, fun q => absurd q (by decide), fun _ _ => rfl⟩)
  · exact (c_X1_note17 E I ht).vMono (fun I1 e => by subst e; exact ⟨fun _ _ => rfl, fun _ => rfl, fun q => absurd q (by decide)⟩)
def fB (I : Mem) (kx am : Nat) : Mem := upm (upm (upm (upm (upm (upm (upm (upm (upm (upm (upm I kx 0 0) kx 1 0) kx 2 150) kx 3 0) kx 4 (100 * I am 2)) kx 5 (I am 3)) kx 6 (I am 4)) kx 7 (I am 1)) kx 8 0) kx 9 0) kx 10 (-4)
theorem fB_ne (I : Mem) {kx am a : Nat} (h : a ≠ kx) : fB I kx am a = I a := by
  unfold fB
  rw [upm_ne _ _ _ h, upm_ne _ _ _ h, upm_ne _ _ _ h, upm_ne _ _ _ h, upm_ne _ _ _ h, upm_ne _ _ _ h, upm_ne _ _ _ h, upm_ne _ _ _ h, upm_ne _ _ _ h, upm_ne _ _ _ h, upm_ne _ _ _ h]
theorem fB_v (I : Mem) (kx am : Nat) : (∀ j, j < 8 → fB I kx am kx j = v0of (I am 1) (I am 2) (I am 3) (I am 4) j) ∧ fB I kx am kx 8 = 0 ∧ fB I kx am kx 9 = 0 ∧ fB I kx am kx 10 = -4 := by
  unfold fB
  refine ⟨?_, ?_, ?_, ?_⟩
  · intro j hj
    rcases (show j = 0 ∨ j = 1 ∨ j = 2 ∨ j = 3 ∨ j = 4 ∨ j = 5 ∨ j = 6 ∨ j = 7 by omega) with rfl | rfl | rfl | rfl | rfl | rfl | rfl | rfl <;> simp [upm, v0of]
  · simp [upm]
  · simp [upm]
  · simp [upm]
set_option maxRecDepth 100000 in
set_option maxHeartbeats 4000000 in
theorem c_X1_begin (E : En) (I : Mem) (kx am : Nat) (hkk : kx = 15 ∨ kx = 17) (ha : am < 184) (hka : kd am = 0) : Ctr E yX1_begin cX1_begin 2 none 2 [.ref (E.1 kx), .ref (E.1 am)] I (qV (fun I1 : Mem => (∀ a, a ≠ 16 → I1 a = fB I kx am a) ∧ (kx = 17 → I1 = fB I kx am) ∧ (kx = 15 → ∀ j, j < 8 → I1 16 j = fB I 15 am 15 j))) := by
  refine Ctr.openV (by decide) (Nat.le_of_ble_eq_true rfl) (fun g h hr => ?_)
  have h : Sem cX1_begin RX1 2 (rmL 2) E g := h
  show g I 0 [(0, .ref (E.1 kx)), (1, .ref (E.1 am))] []
  have hk : kx < 184 := by omega
  have hkd : kd kx = 1 := by rcases hkk with rfl | rfl <;> decide
  have hne : am ≠ kx := fun q => by rw [q, hkd] at hka; exact absurd hka (by decide)
  refine r_aload_n (pc := 0) h dX1_begin_0 rfl ?_
  refine r_iconst (v := 0) (pc := 1) h dX1_begin_1 (by decide) ?_
  refine pf_X1_28 (pc := 2) h dX1_begin_2 hk hkd ?_
  refine r_aload_n (pc := 5) h dX1_begin_5 rfl ?_
  refine r_iconst (v := 0) (pc := 6) h dX1_begin_6 (by decide) ?_
  refine pf_X1_31 (pc := 7) h dX1_begin_7 hk hkd ?_
  refine r_aload_n (pc := 10) h dX1_begin_10 rfl ?_
  refine r_sipush (v := 150) (pc := 11) h dX1_begin_11 (by decide) ?_
  refine pf_X1_34 (pc := 14) h dX1_begin_14 hk hkd ?_
  refine r_aload_n (pc := 17) h dX1_begin_17 rfl ?_
  refine r_iconst (v := 0) (pc := 18) h dX1_begin_18 (by decide) ?_
  refine pf_X1_37 (pc := 19) h dX1_begin_19 hk hkd ?_
  refine r_aload_n (pc := 22) h dX1_begin_22 rfl ?_
  refine r_bipush (v := 100) (pc := 23) h dX1_begin_23 (by decide) ?_
  refine r_aload_n (pc := 25) h dX1_begin_25 rfl ?_
  refine gf_X1_40 (pc := 26) h dX1_begin_26 ha hka ?_
  refine r_imul (pc := 29) h dX1_begin_29 ?_
  refine pf_X1_45 (pc := 30) h dX1_begin_30 hk hkd ?_
  refine r_aload_n (pc := 33) h dX1_begin_33 rfl ?_
  refine r_aload_n (pc := 34) h dX1_begin_34 rfl ?_
  refine gf_X1_48 (pc := 35) h dX1_begin_35 ha hka ?_
  refine pf_X1_51 (pc := 38) h dX1_begin_38 hk hkd ?_
  refine r_aload_n (pc := 41) h dX1_begin_41 rfl ?_
  refine r_aload_n (pc := 42) h dX1_begin_42 rfl ?_
  refine gf_X1_54 (pc := 43) h dX1_begin_43 ha hka ?_
  refine pf_X1_57 (pc := 46) h dX1_begin_46 hk hkd ?_
  refine r_aload_n (pc := 49) h dX1_begin_49 rfl ?_
  refine r_aload_n (pc := 50) h dX1_begin_50 rfl ?_
  refine gf_X1_58 (pc := 51) h dX1_begin_51 ha hka ?_
  refine pf_X1_61 (pc := 54) h dX1_begin_54 hk hkd ?_
  refine r_aload_n (pc := 57) h dX1_begin_57 rfl ?_
  refine r_iconst (v := 0) (pc := 58) h dX1_begin_58 (by decide) ?_
  refine pf_X1_9 (pc := 59) h dX1_begin_59 hk hkd ?_
  refine r_aload_n (pc := 62) h dX1_begin_62 rfl ?_
  refine r_iconst (v := 0) (pc := 63) h dX1_begin_63 (by decide) ?_
  refine pf_X1_15 (pc := 64) h dX1_begin_64 hk hkd ?_
  refine r_aload_n (pc := 67) h dX1_begin_67 rfl ?_
  refine r_bipush (v := -4) (pc := 68) h dX1_begin_68 (by decide) ?_
  refine pf_X1_18 (pc := 70) h dX1_begin_70 hk hkd ?_
  refine r_nmG (fun B1_ hB1 => ?_)
  have hB1 : B1_ = fB I kx am := by
    rw [hB1]
    unfold fB
    simp only [upm_ne _ _ _ hne]
  have hz8 : 0 ≤ (B1_ kx 8).toInt ∧ (B1_ kx 8).toInt ≤ 400 := by rw [hB1, (fB_v I kx am).2.1]; decide
  refine r_aload_n (pc := 73) h dX1_begin_73 rfl ?_
  refine r_callVV (ci := 1) (pc := 74) h dX1_begin_74 wm_X1_62 ca_X1_note rfl (c_X1_note E _ _ hkk hz8) rfl rfl (Nat.le_of_ble_eq_true rfl) (by decide) (by decide) hk hkd (fun I1 hq => ?_)
  obtain ⟨n1, n2, n3⟩ := hq
  rw [hB1] at n1 n2 n3
  exact hr _ _ _ dX1_begin_77 (⟨n1, n2, fun q j hj => by subst q; rw [n3 rfl, (fB_v I 15 am).2.1, show 8 * (0 : Int32).toNatClampNeg = 0 by decide]; have := rowQ_in (fB I 15 am) 16 0 (fB I 15 am 15) hj; rw [Nat.zero_add] at this; exact this⟩)
theorem nIm4 {i : Nat} (h : i < 1000000) : ¬ nI i = -4 := by
  intro q
  have := nI_tI (i := i) h
  rw [q] at this
  have e4 : (-4 : Int32).toInt = -4 := by decide
  omega
def trF (I : Mem) : Nat → Nat → Int32 := fun j t => I (9 + t) j
set_option maxRecDepth 100000 in
set_option maxHeartbeats 4000000 in
theorem c_X1_endIn (E : En) (I : Mem) (kx : Nat) (hkk : kx = 15 ∨ kx = 17) (hc : 0 ≤ (I 7 1).toInt ∧ (I 7 1).toInt ≤ 6) (h10 : I kx 10 = -4) (h9 : I kx 9 = 0) (h8 : (I kx 8).toInt ≤ 400) : Ctr E yX1_endIn cX1_endIn 4 none 2 [.ref (E.1 kx), .ref (E.1 7)] I (qV (fun I1 : Mem => (∀ a, a ≠ kx → I1 a = I a) ∧ (∀ j, j ≠ 9 → j ≠ 10 → I1 kx j = I kx j) ∧ I1 kx 9 = endV (I kx) (I kx 8) (trF I) (I 7 1).toNatClampNeg (I 7 2) ∧ I1 kx 10 = hitV (I kx) (trF I) (I 7 1).toNatClampNeg)) := by
  refine Ctr.openV (by decide) (Nat.le_of_ble_eq_true rfl) (fun g h hr => ?_)
  have h : Sem cX1_endIn RX1 4 (rmL 2) E g := h
  show g I 0 [(0, .ref (E.1 kx)), (1, .ref (E.1 7))] []
  have hk : kx < 184 := by omega
  have hkd : kd kx = 1 := by rcases hkk with rfl | rfl <;> decide
  have hk7 : (7 : Nat) ≠ kx := by omega
  have hitS : ∀ (i : Nat) (z : Int32), i < (I 7 1).toNatClampNeg → (I 7 1).toNatClampNeg ≤ 6 → hitN (I kx) (trF I) (I 7 1).toNatClampNeg = i → g (upm I kx 10 (nI i)) 2 [(0, .ref (E.1 kx)), (1, .ref (E.1 7)), (2, .int z)] [] := by
    intro i z hiC hC6 hh
    refine r_iload_n (pc := 2) h dX1_endIn_2 rfl ?_
    refine r_aload_n (pc := 3) h dX1_endIn_3 rfl ?_
    refine gf_X1_108 (pc := 4) h dX1_endIn_4 ?_
    refine r_icmp_ge (pc := 7) h 68 dX1_endIn_7 (by decide) (fun c7 => ?_) (fun c7 => ?_)
    · refine r_aload_n (pc := 68) h dX1_endIn_68 rfl ?_
      refine gf_X1_18 (pc := 69) h dX1_endIn_69 hk hkd ?_
      refine r_bipush (v := -4) (pc := 72) h dX1_endIn_72 (by decide) ?_
      refine r_icmp_eq (pc := 74) h 85 dX1_endIn_74 (by decide) (fun c74 => ?_) (fun c74 => ?_)
      · exact absurd c74 (by rw [upm_eq]; exact nIm4 (by omega))
      · refine r_aload_n (pc := 77) h dX1_endIn_77 rfl ?_
        refine r_iconst (v := 3) (pc := 78) h dX1_endIn_78 (by decide) ?_
        refine pf_X1_15 (pc := 79) h dX1_endIn_79 hk hkd ?_
        refine r_goto (pc := 82) h 161 dX1_endIn_82 (by decide) ?_
        exact hr _ _ _ dX1_endIn_161 (⟨fun a q => by rw [upm_ne _ _ _ q, upm_ne _ _ _ q], fun j q1 q2 => by rw [upm_at, if_neg (fun z => q1 z.2), upm_at, if_neg (fun z => q2 z.2)], by rw [upm_eq]; unfold endV; rw [if_pos (by omega)], by rw [upm_at, if_neg (by omega), upm_eq]; unfold hitV; rw [if_pos (by omega), hh]⟩)
    · refine r_aload_n (pc := 10) h dX1_endIn_10 rfl ?_
      refine gf_X1_18 (pc := 11) h dX1_endIn_11 hk hkd ?_
      refine r_bipush (v := -4) (pc := 14) h dX1_endIn_14 (by decide) ?_
      refine r_icmp_ne (pc := 16) h 68 dX1_endIn_16 (by decide) (fun c16 => ?_) (fun c16 => ?_)
      · refine r_aload_n (pc := 68) h dX1_endIn_68 rfl ?_
        refine gf_X1_18 (pc := 69) h dX1_endIn_69 hk hkd ?_
        refine r_bipush (v := -4) (pc := 72) h dX1_endIn_72 (by decide) ?_
        refine r_icmp_eq (pc := 74) h 85 dX1_endIn_74 (by decide) (fun c74 => ?_) (fun c74 => ?_)
        · exact absurd c74 (by rw [upm_eq]; exact nIm4 (by omega))
        · refine r_aload_n (pc := 77) h dX1_endIn_77 rfl ?_
          refine r_iconst (v := 3) (pc := 78) h dX1_endIn_78 (by decide) ?_
          refine pf_X1_15 (pc := 79) h dX1_endIn_79 hk hkd ?_
          refine r_goto (pc := 82) h 161 dX1_endIn_82 (by decide) ?_
          exact hr _ _ _ dX1_endIn_161 (⟨fun a q => by rw [upm_ne _ _ _ q, upm_ne _ _ _ q], fun j q1 q2 => by rw [upm_at, if_neg (fun z => q1 z.2), upm_at, if_neg (fun z => q2 z.2)], by rw [upm_eq]; unfold endV; rw [if_pos (by omega)], by rw [upm_at, if_neg (by omega), upm_eq]; unfold hitV; rw [if_pos (by omega), hh]⟩)
      · exact absurd c16 (by rw [upm_eq]; exact nIm4 (by omega))
  refine r_iconst (v := 0) (pc := 0) h dX1_endIn_0 (by decide) ?_
  refine r_istore_n (pc := 1) h dX1_endIn_1 (by decide) ?_
  have loop2 : ∀ (m i : Nat), i ≤ (I 7 1).toNatClampNeg → (I 7 1).toNatClampNeg + 1 ≤ i + m → (∀ k, k < i → decide (treeP (I kx) (trF I) k) = false) → g I 2 [(0, .ref (E.1 kx)), (1, .ref (E.1 7)), (2, .int (nI i))] [] := by
    intro m
    induction m with
    | zero =>
      intro i h1 h2
      omega
    | succ m ih =>
      intro i hi him hno
      have hCI : ((I 7 1).toNatClampNeg : Int) = (I 7 1).toInt := tnI _ hc.1
      have ei := nI_tI (i := i) (by omega)
      refine r_iload_n (pc := 2) h dX1_endIn_2 rfl ?_
      refine r_aload_n (pc := 3) h dX1_endIn_3 rfl ?_
      refine gf_X1_108 (pc := 4) h dX1_endIn_4 ?_
      refine r_icmp_ge (pc := 7) h 68 dX1_endIn_7 (by decide) (fun c7 => ?_) (fun c7 => ?_)
      · have hh : hitN (I kx) (trF I) (I 7 1).toNatClampNeg = (I 7 1).toNatClampNeg := by
          first
          | exact absurd h10 c16
          | (have := fst1_none (fun t => decide (treeP (I kx) (trF I) t)) (m := (I 7 1).toNatClampNeg) (i := 0) (fun k _ hk2 => hno k (by rw [Int32.le_iff_toInt_le, ei] at c7; omega))
             rw [Nat.zero_add] at this
             exact this)
        have hlt9 : ¬ hitN (I kx) (trF I) (I 7 1).toNatClampNeg < (I 7 1).toNatClampNeg := by omega
        refine r_aload_n (pc := 68) h dX1_endIn_68 rfl ?_
        refine gf_X1_18 (pc := 69) h dX1_endIn_69 hk hkd ?_
        refine r_bipush (v := -4) (pc := 72) h dX1_endIn_72 (by decide) ?_
        refine r_icmp_eq (pc := 74) h 85 dX1_endIn_74 (by decide) (fun c74 => ?_) (fun c74 => ?_)
        · refine r_aload_n (pc := 85) h dX1_endIn_85 rfl ?_
          refine gf_X1_34 (pc := 86) h dX1_endIn_86 hk hkd ?_
          refine r_if_gt (pc := 89) h 100 dX1_endIn_89 (by decide) (fun c89 => ?_) (fun c89 => ?_)
          · refine r_aload_n (pc := 100) h dX1_endIn_100 rfl ?_
            refine gf_X1_9 (pc := 101) h dX1_endIn_101 hk hkd ?_
            refine r_bipush (v := 20) (pc := 104) h dX1_endIn_104 (by decide) ?_
            refine r_icmp_lt (pc := 106) h 146 dX1_endIn_106 (by decide) (fun c106 => ?_) (fun c106 => ?_)
            · refine r_aload_n (pc := 146) h dX1_endIn_146 rfl ?_
              refine gf_X1_9 (pc := 147) h dX1_endIn_147 hk hkd ?_
              refine r_sipush (v := 400) (pc := 150) h dX1_endIn_150 (by decide) ?_
              refine r_icmp_lt (pc := 153) h 161 dX1_endIn_153 (by decide) (fun c153 => ?_) (fun c153 => ?_)
              · exact hr _ _ _ dX1_endIn_161 (⟨fun a q => by first | exact upm_ne _ _ _ q | rfl, fun j q1 q2 => by first | (rw [upm_at, if_neg (fun z => q1 z.2)]; done) | rfl, by (first | rw [upm_eq] | rw [h9]); unfold endV; rw [if_neg hlt9]; first | (rw [if_pos (by (try simp only [b2i_eq0] at *); (try simp only [Int32.lt_iff_toInt_lt, Int32.reduceToInt, Int64.reduceToInt, Int32.toInt_toInt64, i32_eq] at *); omega)]; done) | (rw [if_neg (by (try simp only [b2i_eq0] at *); (try simp only [Int32.lt_iff_toInt_lt, Int32.reduceToInt, Int64.reduceToInt, Int32.toInt_toInt64, i32_eq] at *); omega), if_pos (by (try simp only [b2i_eq0] at *); (try simp only [Int32.lt_iff_toInt_lt, Int32.reduceToInt, Int64.reduceToInt, Int32.toInt_toInt64, i32_eq] at *); omega)]; done) | (rw [if_neg (by (try simp only [b2i_eq0] at *); (try simp only [Int32.lt_iff_toInt_lt, Int32.reduceToInt, Int64.reduceToInt, Int32.toInt_toInt64, i32_eq] at *); omega), if_neg (by (try simp only [b2i_eq0] at *); (try simp only [Int32.lt_iff_toInt_lt, Int32.reduceToInt, Int64.reduceToInt, Int32.toInt_toInt64, i32_eq] at *); omega), if_pos (by (try simp only [b2i_eq0] at *); (try simp only [Int32.lt_iff_toInt_lt, Int32.reduceToInt, Int64.reduceToInt, Int32.toInt_toInt64, i32_eq] at *); omega)]; done) | (rw [if_neg (by (try simp only [b2i_eq0] at *); (try simp only [Int32.lt_iff_toInt_lt, Int32.reduceToInt, Int64.reduceToInt, Int32.toInt_toInt64, i32_eq] at *); omega), if_neg (by (try simp only [b2i_eq0] at *); (try simp only [Int32.lt_iff_toInt_lt, Int32.reduceToInt, Int64.reduceToInt, Int32.toInt_toInt64, i32_eq] at *); omega), if_neg (by (try simp only [b2i_eq0] at *); (try simp only [Int32.lt_iff_toInt_lt, Int32.reduceToInt, Int64.reduceToInt, Int32.toInt_toInt64, i32_eq] at *); omega)]; done), by unfold hitV; rw [if_neg hlt9]; first | (rw [upm_at, if_neg (by omega)]; exact h10) | exact h10⟩)
              · refine r_aload_n (pc := 156) h dX1_endIn_156 rfl ?_
                refine r_iconst (v := 4) (pc := 157) h dX1_endIn_157 (by decide) ?_
                refine pf_X1_15 (pc := 158) h dX1_endIn_158 hk hkd ?_
                exact hr _ _ _ dX1_endIn_161 (⟨fun a q => by first | exact upm_ne _ _ _ q | rfl, fun j q1 q2 => by first | (rw [upm_at, if_neg (fun z => q1 z.2)]; done) | rfl, by (first | rw [upm_eq] | rw [h9]); unfold endV; rw [if_neg hlt9]; first | (rw [if_pos (by (try simp only [b2i_eq0] at *); (try simp only [Int32.lt_iff_toInt_lt, Int32.reduceToInt, Int64.reduceToInt, Int32.toInt_toInt64, i32_eq] at *); omega)]; done) | (rw [if_neg (by (try simp only [b2i_eq0] at *); (try simp only [Int32.lt_iff_toInt_lt, Int32.reduceToInt, Int64.reduceToInt, Int32.toInt_toInt64, i32_eq] at *); omega), if_pos (by (try simp only [b2i_eq0] at *); (try simp only [Int32.lt_iff_toInt_lt, Int32.reduceToInt, Int64.reduceToInt, Int32.toInt_toInt64, i32_eq] at *); omega)]; done) | (rw [if_neg (by (try simp only [b2i_eq0] at *); (try simp only [Int32.lt_iff_toInt_lt, Int32.reduceToInt, Int64.reduceToInt, Int32.toInt_toInt64, i32_eq] at *); omega), if_neg (by (try simp only [b2i_eq0] at *); (try simp only [Int32.lt_iff_toInt_lt, Int32.reduceToInt, Int64.reduceToInt, Int32.toInt_toInt64, i32_eq] at *); omega), if_pos (by (try simp only [b2i_eq0] at *); (try simp only [Int32.lt_iff_toInt_lt, Int32.reduceToInt, Int64.reduceToInt, Int32.toInt_toInt64, i32_eq] at *); omega)]; done) | (rw [if_neg (by (try simp only [b2i_eq0] at *); (try simp only [Int32.lt_iff_toInt_lt, Int32.reduceToInt, Int64.reduceToInt, Int32.toInt_toInt64, i32_eq] at *); omega), if_neg (by (try simp only [b2i_eq0] at *); (try simp only [Int32.lt_iff_toInt_lt, Int32.reduceToInt, Int64.reduceToInt, Int32.toInt_toInt64, i32_eq] at *); omega), if_neg (by (try simp only [b2i_eq0] at *); (try simp only [Int32.lt_iff_toInt_lt, Int32.reduceToInt, Int64.reduceToInt, Int32.toInt_toInt64, i32_eq] at *); omega)]; done), by unfold hitV; rw [if_neg hlt9]; first | (rw [upm_at, if_neg (by omega)]; exact h10) | exact h10⟩)
            · refine r_aload_n (pc := 109) h dX1_endIn_109 rfl ?_
              refine gf_X1_34 (pc := 110) h dX1_endIn_110 hk hkd ?_
              refine r_bipush (v := 50) (pc := 113) h dX1_endIn_113 (by decide) ?_
              refine r_sipush (v := 250) (pc := 115) h dX1_endIn_115 (by decide) ?_
              refine r_callSNI (pc := 118) h dX1_endIn_118 wm_X1_131 ca_X10_within (c_X10_within E _ _ _ _) rfl rfl (Nat.le_of_ble_eq_true rfl) (by decide) (fun r I1 hq => ?_)
              obtain ⟨rfl, rfl⟩ := hq
              refine r_if_eq (pc := 121) h 146 dX1_endIn_121 (by decide) (fun c121 => ?_) (fun c121 => ?_)
              · refine r_aload_n (pc := 146) h dX1_endIn_146 rfl ?_
                refine gf_X1_9 (pc := 147) h dX1_endIn_147 hk hkd ?_
                refine r_sipush (v := 400) (pc := 150) h dX1_endIn_150 (by decide) ?_
                refine r_icmp_lt (pc := 153) h 161 dX1_endIn_153 (by decide) (fun c153 => ?_) (fun c153 => ?_)
                · exact hr _ _ _ dX1_endIn_161 (⟨fun a q => by first | exact upm_ne _ _ _ q | rfl, fun j q1 q2 => by first | (rw [upm_at, if_neg (fun z => q1 z.2)]; done) | rfl, by (first | rw [upm_eq] | rw [h9]); unfold endV; rw [if_neg hlt9]; first | (rw [if_pos (by (try simp only [b2i_eq0] at *); (try simp only [Int32.lt_iff_toInt_lt, Int32.reduceToInt, Int64.reduceToInt, Int32.toInt_toInt64, i32_eq] at *); omega)]; done) | (rw [if_neg (by (try simp only [b2i_eq0] at *); (try simp only [Int32.lt_iff_toInt_lt, Int32.reduceToInt, Int64.reduceToInt, Int32.toInt_toInt64, i32_eq] at *); omega), if_pos (by (try simp only [b2i_eq0] at *); (try simp only [Int32.lt_iff_toInt_lt, Int32.reduceToInt, Int64.reduceToInt, Int32.toInt_toInt64, i32_eq] at *); omega)]; done) | (rw [if_neg (by (try simp only [b2i_eq0] at *); (try simp only [Int32.lt_iff_toInt_lt, Int32.reduceToInt, Int64.reduceToInt, Int32.toInt_toInt64, i32_eq] at *); omega), if_neg (by (try simp only [b2i_eq0] at *); (try simp only [Int32.lt_iff_toInt_lt, Int32.reduceToInt, Int64.reduceToInt, Int32.toInt_toInt64, i32_eq] at *); omega), if_pos (by (try simp only [b2i_eq0] at *); (try simp only [Int32.lt_iff_toInt_lt, Int32.reduceToInt, Int64.reduceToInt, Int32.toInt_toInt64, i32_eq] at *); omega)]; done) | (rw [if_neg (by (try simp only [b2i_eq0] at *); (try simp only [Int32.lt_iff_toInt_lt, Int32.reduceToInt, Int64.reduceToInt, Int32.toInt_toInt64, i32_eq] at *); omega), if_neg (by (try simp only [b2i_eq0] at *); (try simp only [Int32.lt_iff_toInt_lt, Int32.reduceToInt, Int64.reduceToInt, Int32.toInt_toInt64, i32_eq] at *); omega), if_neg (by (try simp only [b2i_eq0] at *); (try simp only [Int32.lt_iff_toInt_lt, Int32.reduceToInt, Int64.reduceToInt, Int32.toInt_toInt64, i32_eq] at *); omega)]; done), by unfold hitV; rw [if_neg hlt9]; first | (rw [upm_at, if_neg (by omega)]; exact h10) | exact h10⟩)
                · refine r_aload_n (pc := 156) h dX1_endIn_156 rfl ?_
                  refine r_iconst (v := 4) (pc := 157) h dX1_endIn_157 (by decide) ?_
                  refine pf_X1_15 (pc := 158) h dX1_endIn_158 hk hkd ?_
                  exact hr _ _ _ dX1_endIn_161 (⟨fun a q => by first | exact upm_ne _ _ _ q | rfl, fun j q1 q2 => by first | (rw [upm_at, if_neg (fun z => q1 z.2)]; done) | rfl, by (first | rw [upm_eq] | rw [h9]); unfold endV; rw [if_neg hlt9]; first | (rw [if_pos (by (try simp only [b2i_eq0] at *); (try simp only [Int32.lt_iff_toInt_lt, Int32.reduceToInt, Int64.reduceToInt, Int32.toInt_toInt64, i32_eq] at *); omega)]; done) | (rw [if_neg (by (try simp only [b2i_eq0] at *); (try simp only [Int32.lt_iff_toInt_lt, Int32.reduceToInt, Int64.reduceToInt, Int32.toInt_toInt64, i32_eq] at *); omega), if_pos (by (try simp only [b2i_eq0] at *); (try simp only [Int32.lt_iff_toInt_lt, Int32.reduceToInt, Int64.reduceToInt, Int32.toInt_toInt64, i32_eq] at *); omega)]; done) | (rw [if_neg (by (try simp only [b2i_eq0] at *); (try simp only [Int32.lt_iff_toInt_lt, Int32.reduceToInt, Int64.reduceToInt, Int32.toInt_toInt64, i32_eq] at *); omega), if_neg (by (try simp only [b2i_eq0] at *); (try simp only [Int32.lt_iff_toInt_lt, Int32.reduceToInt, Int64.reduceToInt, Int32.toInt_toInt64, i32_eq] at *); omega), if_pos (by (try simp only [b2i_eq0] at *); (try simp only [Int32.lt_iff_toInt_lt, Int32.reduceToInt, Int64.reduceToInt, Int32.toInt_toInt64, i32_eq] at *); omega)]; done) | (rw [if_neg (by (try simp only [b2i_eq0] at *); (try simp only [Int32.lt_iff_toInt_lt, Int32.reduceToInt, Int64.reduceToInt, Int32.toInt_toInt64, i32_eq] at *); omega), if_neg (by (try simp only [b2i_eq0] at *); (try simp only [Int32.lt_iff_toInt_lt, Int32.reduceToInt, Int64.reduceToInt, Int32.toInt_toInt64, i32_eq] at *); omega), if_neg (by (try simp only [b2i_eq0] at *); (try simp only [Int32.lt_iff_toInt_lt, Int32.reduceToInt, Int64.reduceToInt, Int32.toInt_toInt64, i32_eq] at *); omega)]; done), by unfold hitV; rw [if_neg hlt9]; first | (rw [upm_at, if_neg (by omega)]; exact h10) | exact h10⟩)
              · refine r_aload_n (pc := 124) h dX1_endIn_124 rfl ?_
                refine r_iconst (v := 0) (pc := 125) h dX1_endIn_125 (by decide) ?_
                refine r_iconst (v := 0) (pc := 126) h dX1_endIn_126 (by decide) ?_
                refine r_aload_n (pc := 127) h dX1_endIn_127 rfl ?_
                refine gf_X1_135 (pc := 128) h dX1_endIn_128 ?_
                refine r_i2l (pc := 131) h dX1_endIn_131 ?_
                refine r_callVI (ci := 1) (pc := 132) h dX1_endIn_132 wm_X1_127 ca_X1_isNear rfl (c_X1_isNear E _ _ _ _ _ hk hkd) rfl rfl (Nat.le_of_ble_eq_true rfl) (by decide) (by decide) hk hkd (fun r I1 hq => ?_)
                obtain ⟨rfl, rfl⟩ := hq
                refine r_if_eq (pc := 135) h 146 dX1_endIn_135 (by decide) (fun c135 => ?_) (fun c135 => ?_)
                · refine r_aload_n (pc := 146) h dX1_endIn_146 rfl ?_
                  refine gf_X1_9 (pc := 147) h dX1_endIn_147 hk hkd ?_
                  refine r_sipush (v := 400) (pc := 150) h dX1_endIn_150 (by decide) ?_
                  refine r_icmp_lt (pc := 153) h 161 dX1_endIn_153 (by decide) (fun c153 => ?_) (fun c153 => ?_)
                  · exact hr _ _ _ dX1_endIn_161 (⟨fun a q => by first | exact upm_ne _ _ _ q | rfl, fun j q1 q2 => by first | (rw [upm_at, if_neg (fun z => q1 z.2)]; done) | rfl, by (first | rw [upm_eq] | rw [h9]); unfold endV; rw [if_neg hlt9]; first | (rw [if_pos (by (try simp only [b2i_eq0] at *); (try simp only [Int32.lt_iff_toInt_lt, Int32.reduceToInt, Int64.reduceToInt, Int32.toInt_toInt64, i32_eq] at *); omega)]; done) | (rw [if_neg (by (try simp only [b2i_eq0] at *); (try simp only [Int32.lt_iff_toInt_lt, Int32.reduceToInt, Int64.reduceToInt, Int32.toInt_toInt64, i32_eq] at *); omega), if_pos (by (try simp only [b2i_eq0] at *); (try simp only [Int32.lt_iff_toInt_lt, Int32.reduceToInt, Int64.reduceToInt, Int32.toInt_toInt64, i32_eq] at *); omega)]; done) | (rw [if_neg (by (try simp only [b2i_eq0] at *); (try simp only [Int32.lt_iff_toInt_lt, Int32.reduceToInt, Int64.reduceToInt, Int32.toInt_toInt64, i32_eq] at *); omega), if_neg (by (try simp only [b2i_eq0] at *); (try simp only [Int32.lt_iff_toInt_lt, Int32.reduceToInt, Int64.reduceToInt, Int32.toInt_toInt64, i32_eq] at *); omega), if_pos (by (try simp only [b2i_eq0] at *); (try simp only [Int32.lt_iff_toInt_lt, Int32.reduceToInt, Int64.reduceToInt, Int32.toInt_toInt64, i32_eq] at *); omega)]; done) | (rw [if_neg (by (try simp only [b2i_eq0] at *); (try simp only [Int32.lt_iff_toInt_lt, Int32.reduceToInt, Int64.reduceToInt, Int32.toInt_toInt64, i32_eq] at *); omega), if_neg (by (try simp only [b2i_eq0] at *); (try simp only [Int32.lt_iff_toInt_lt, Int32.reduceToInt, Int64.reduceToInt, Int32.toInt_toInt64, i32_eq] at *); omega), if_neg (by (try simp only [b2i_eq0] at *); (try simp only [Int32.lt_iff_toInt_lt, Int32.reduceToInt, Int64.reduceToInt, Int32.toInt_toInt64, i32_eq] at *); omega)]; done), by unfold hitV; rw [if_neg hlt9]; first | (rw [upm_at, if_neg (by omega)]; exact h10) | exact h10⟩)
                  · refine r_aload_n (pc := 156) h dX1_endIn_156 rfl ?_
                    refine r_iconst (v := 4) (pc := 157) h dX1_endIn_157 (by decide) ?_
                    refine pf_X1_15 (pc := 158) h dX1_endIn_158 hk hkd ?_
                    exact hr _ _ _ dX1_endIn_161 (⟨fun a q => by first | exact upm_ne _ _ _ q | rfl, fun j q1 q2 => by first | (rw [upm_at, if_neg (fun z => q1 z.2)]; done) | rfl, by (first | rw [upm_eq] | rw [h9]); unfold endV; rw [if_neg hlt9]; first | (rw [if_pos (by (try simp only [b2i_eq0] at *); (try simp only [Int32.lt_iff_toInt_lt, Int32.reduceToInt, Int64.reduceToInt, Int32.toInt_toInt64, i32_eq] at *); omega)]; done) | (rw [if_neg (by (try simp only [b2i_eq0] at *); (try simp only [Int32.lt_iff_toInt_lt, Int32.reduceToInt, Int64.reduceToInt, Int32.toInt_toInt64, i32_eq] at *); omega), if_pos (by (try simp only [b2i_eq0] at *); (try simp only [Int32.lt_iff_toInt_lt, Int32.reduceToInt, Int64.reduceToInt, Int32.toInt_toInt64, i32_eq] at *); omega)]; done) | (rw [if_neg (by (try simp only [b2i_eq0] at *); (try simp only [Int32.lt_iff_toInt_lt, Int32.reduceToInt, Int64.reduceToInt, Int32.toInt_toInt64, i32_eq] at *); omega), if_neg (by (try simp only [b2i_eq0] at *); (try simp only [Int32.lt_iff_toInt_lt, Int32.reduceToInt, Int64.reduceToInt, Int32.toInt_toInt64, i32_eq] at *); omega), if_pos (by (try simp only [b2i_eq0] at *); (try simp only [Int32.lt_iff_toInt_lt, Int32.reduceToInt, Int64.reduceToInt, Int32.toInt_toInt64, i32_eq] at *); omega)]; done) | (rw [if_neg (by (try simp only [b2i_eq0] at *); (try simp only [Int32.lt_iff_toInt_lt, Int32.reduceToInt, Int64.reduceToInt, Int32.toInt_toInt64, i32_eq] at *); omega), if_neg (by (try simp only [b2i_eq0] at *); (try simp only [Int32.lt_iff_toInt_lt, Int32.reduceToInt, Int64.reduceToInt, Int32.toInt_toInt64, i32_eq] at *); omega), if_neg (by (try simp only [b2i_eq0] at *); (try simp only [Int32.lt_iff_toInt_lt, Int32.reduceToInt, Int64.reduceToInt, Int32.toInt_toInt64, i32_eq] at *); omega)]; done), by unfold hitV; rw [if_neg hlt9]; first | (rw [upm_at, if_neg (by omega)]; exact h10) | exact h10⟩)
                · refine r_aload_n (pc := 138) h dX1_endIn_138 rfl ?_
                  refine r_iconst (v := 2) (pc := 139) h dX1_endIn_139 (by decide) ?_
                  refine pf_X1_15 (pc := 140) h dX1_endIn_140 hk hkd ?_
                  refine r_goto (pc := 143) h 161 dX1_endIn_143 (by decide) ?_
                  exact hr _ _ _ dX1_endIn_161 (⟨fun a q => by first | exact upm_ne _ _ _ q | rfl, fun j q1 q2 => by first | (rw [upm_at, if_neg (fun z => q1 z.2)]; done) | rfl, by (first | rw [upm_eq] | rw [h9]); unfold endV; rw [if_neg hlt9]; first | (rw [if_pos (by (try simp only [b2i_eq0] at *); (try simp only [Int32.lt_iff_toInt_lt, Int32.reduceToInt, Int64.reduceToInt, Int32.toInt_toInt64, i32_eq] at *); omega)]; done) | (rw [if_neg (by (try simp only [b2i_eq0] at *); (try simp only [Int32.lt_iff_toInt_lt, Int32.reduceToInt, Int64.reduceToInt, Int32.toInt_toInt64, i32_eq] at *); omega), if_pos (by (try simp only [b2i_eq0] at *); (try simp only [Int32.lt_iff_toInt_lt, Int32.reduceToInt, Int64.reduceToInt, Int32.toInt_toInt64, i32_eq] at *); omega)]; done) | (rw [if_neg (by (try simp only [b2i_eq0] at *); (try simp only [Int32.lt_iff_toInt_lt, Int32.reduceToInt, Int64.reduceToInt, Int32.toInt_toInt64, i32_eq] at *); omega), if_neg (by (try simp only [b2i_eq0] at *); (try simp only [Int32.lt_iff_toInt_lt, Int32.reduceToInt, Int64.reduceToInt, Int32.toInt_toInt64, i32_eq] at *); omega), if_pos (by (try simp only [b2i_eq0] at *); (try simp only [Int32.lt_iff_toInt_lt, Int32.reduceToInt, Int64.reduceToInt, Int32.toInt_toInt64, i32_eq] at *); omega)]; done) | (rw [if_neg (by (try simp only [b2i_eq0] at *); (try simp only [Int32.lt_iff_toInt_lt, Int32.reduceToInt, Int64.reduceToInt, Int32.toInt_toInt64, i32_eq] at *); omega), if_neg (by (try simp only [b2i_eq0] at *); (try simp only [Int32.lt_iff_toInt_lt, Int32.reduceToInt, Int64.reduceToInt, Int32.toInt_toInt64, i32_eq] at *); omega), if_neg (by (try simp only [b2i_eq0] at *); (try simp only [Int32.lt_iff_toInt_lt, Int32.reduceToInt, Int64.reduceToInt, Int32.toInt_toInt64, i32_eq] at *); omega)]; done), by unfold hitV; rw [if_neg hlt9]; first | (rw [upm_at, if_neg (by omega)]; exact h10) | exact h10⟩)
          · refine r_aload_n (pc := 92) h dX1_endIn_92 rfl ?_
            refine r_iconst (v := 1) (pc := 93) h dX1_endIn_93 (by decide) ?_
            refine pf_X1_15 (pc := 94) h dX1_endIn_94 hk hkd ?_
            refine r_goto (pc := 97) h 161 dX1_endIn_97 (by decide) ?_
            exact hr _ _ _ dX1_endIn_161 (⟨fun a q => by first | exact upm_ne _ _ _ q | rfl, fun j q1 q2 => by first | (rw [upm_at, if_neg (fun z => q1 z.2)]; done) | rfl, by (first | rw [upm_eq] | rw [h9]); unfold endV; rw [if_neg hlt9]; first | (rw [if_pos (by (try simp only [b2i_eq0] at *); (try simp only [Int32.lt_iff_toInt_lt, Int32.reduceToInt, Int64.reduceToInt, Int32.toInt_toInt64, i32_eq] at *); omega)]; done) | (rw [if_neg (by (try simp only [b2i_eq0] at *); (try simp only [Int32.lt_iff_toInt_lt, Int32.reduceToInt, Int64.reduceToInt, Int32.toInt_toInt64, i32_eq] at *); omega), if_pos (by (try simp only [b2i_eq0] at *); (try simp only [Int32.lt_iff_toInt_lt, Int32.reduceToInt, Int64.reduceToInt, Int32.toInt_toInt64, i32_eq] at *); omega)]; done) | (rw [if_neg (by (try simp only [b2i_eq0] at *); (try simp only [Int32.lt_iff_toInt_lt, Int32.reduceToInt, Int64.reduceToInt, Int32.toInt_toInt64, i32_eq] at *); omega), if_neg (by (try simp only [b2i_eq0] at *); (try simp only [Int32.lt_iff_toInt_lt, Int32.reduceToInt, Int64.reduceToInt, Int32.toInt_toInt64, i32_eq] at *); omega), if_pos (by (try simp only [b2i_eq0] at *); (try simp only [Int32.lt_iff_toInt_lt, Int32.reduceToInt, Int64.reduceToInt, Int32.toInt_toInt64, i32_eq] at *); omega)]; done) | (rw [if_neg (by (try simp only [b2i_eq0] at *); (try simp only [Int32.lt_iff_toInt_lt, Int32.reduceToInt, Int64.reduceToInt, Int32.toInt_toInt64, i32_eq] at *); omega), if_neg (by (try simp only [b2i_eq0] at *); (try simp only [Int32.lt_iff_toInt_lt, Int32.reduceToInt, Int64.reduceToInt, Int32.toInt_toInt64, i32_eq] at *); omega), if_neg (by (try simp only [b2i_eq0] at *); (try simp only [Int32.lt_iff_toInt_lt, Int32.reduceToInt, Int64.reduceToInt, Int32.toInt_toInt64, i32_eq] at *); omega)]; done), by unfold hitV; rw [if_neg hlt9]; first | (rw [upm_at, if_neg (by omega)]; exact h10) | exact h10⟩)
        · exact absurd h10 c74
      · have hlt : i < (I 7 1).toNatClampNeg := by rw [Int32.le_iff_toInt_le, ei] at c7; omega
        have hi6 : (nI i).toNatClampNeg < 6 := by rw [nI_tn (by omega)]; omega
        have en := nI_tn (i := i) (by omega)
        refine r_aload_n (pc := 10) h dX1_endIn_10 rfl ?_
        refine gf_X1_18 (pc := 11) h dX1_endIn_11 hk hkd ?_
        refine r_bipush (v := -4) (pc := 14) h dX1_endIn_14 (by decide) ?_
        refine r_icmp_ne (pc := 16) h 68 dX1_endIn_16 (by decide) (fun c16 => ?_) (fun c16 => ?_)
        · have hh : hitN (I kx) (trF I) (I 7 1).toNatClampNeg = (I 7 1).toNatClampNeg := by
            first
            | exact absurd h10 c16
            | (have := fst1_none (fun t => decide (treeP (I kx) (trF I) t)) (m := (I 7 1).toNatClampNeg) (i := 0) (fun k _ hk2 => hno k (by rw [Int32.le_iff_toInt_le, ei] at c7; omega))
               rw [Nat.zero_add] at this
               exact this)
          have hlt9 : ¬ hitN (I kx) (trF I) (I 7 1).toNatClampNeg < (I 7 1).toNatClampNeg := by omega
          refine r_aload_n (pc := 68) h dX1_endIn_68 rfl ?_
          refine gf_X1_18 (pc := 69) h dX1_endIn_69 hk hkd ?_
          refine r_bipush (v := -4) (pc := 72) h dX1_endIn_72 (by decide) ?_
          refine r_icmp_eq (pc := 74) h 85 dX1_endIn_74 (by decide) (fun c74 => ?_) (fun c74 => ?_)
          · refine r_aload_n (pc := 85) h dX1_endIn_85 rfl ?_
            refine gf_X1_34 (pc := 86) h dX1_endIn_86 hk hkd ?_
            refine r_if_gt (pc := 89) h 100 dX1_endIn_89 (by decide) (fun c89 => ?_) (fun c89 => ?_)
            · refine r_aload_n (pc := 100) h dX1_endIn_100 rfl ?_
              refine gf_X1_9 (pc := 101) h dX1_endIn_101 hk hkd ?_
              refine r_bipush (v := 20) (pc := 104) h dX1_endIn_104 (by decide) ?_
              refine r_icmp_lt (pc := 106) h 146 dX1_endIn_106 (by decide) (fun c106 => ?_) (fun c106 => ?_)
              · refine r_aload_n (pc := 146) h dX1_endIn_146 rfl ?_
                refine gf_X1_9 (pc := 147) h dX1_endIn_147 hk hkd ?_
                refine r_sipush (v := 400) (pc := 150) h dX1_endIn_150 (by decide) ?_
                refine r_icmp_lt (pc := 153) h 161 dX1_endIn_153 (by decide) (fun c153 => ?_) (fun c153 => ?_)
                · exact hr _ _ _ dX1_endIn_161 (⟨fun a q => by first | exact upm_ne _ _ _ q | rfl, fun j q1 q2 => by first | (rw [upm_at, if_neg (fun z => q1 z.2)]; done) | rfl, by (first | rw [upm_eq] | rw [h9]); unfold endV; rw [if_neg hlt9]; first | (rw [if_pos (by (try simp only [b2i_eq0] at *); (try simp only [Int32.lt_iff_toInt_lt, Int32.reduceToInt, Int64.reduceToInt, Int32.toInt_toInt64, i32_eq] at *); omega)]; done) | (rw [if_neg (by (try simp only [b2i_eq0] at *); (try simp only [Int32.lt_iff_toInt_lt, Int32.reduceToInt, Int64.reduceToInt, Int32.toInt_toInt64, i32_eq] at *); omega), if_pos (by (try simp only [b2i_eq0] at *); (try simp only [Int32.lt_iff_toInt_lt, Int32.reduceToInt, Int64.reduceToInt, Int32.toInt_toInt64, i32_eq] at *); omega)]; done) | (rw [if_neg (by (try simp only [b2i_eq0] at *); (try simp only [Int32.lt_iff_toInt_lt, Int32.reduceToInt, Int64.reduceToInt, Int32.toInt_toInt64, i32_eq] at *); omega), if_neg (by (try simp only [b2i_eq0] at *); (try simp only [Int32.lt_iff_toInt_lt, Int32.reduceToInt, Int64.reduceToInt, Int32.toInt_toInt64, i32_eq] at *); omega), if_pos (by (try simp only [b2i_eq0] at *); (try simp only [Int32.lt_iff_toInt_lt, Int32.reduceToInt, Int64.reduceToInt, Int32.toInt_toInt64, i32_eq] at *); omega)]; done) | (rw [if_neg (by (try simp only [b2i_eq0] at *); (try simp only [Int32.lt_iff_toInt_lt, Int32.reduceToInt, Int64.reduceToInt, Int32.toInt_toInt64, i32_eq] at *); omega), if_neg (by (try simp only [b2i_eq0] at *); (try simp only [Int32.lt_iff_toInt_lt, Int32.reduceToInt, Int64.reduceToInt, Int32.toInt_toInt64, i32_eq] at *); omega), if_neg (by (try simp only [b2i_eq0] at *); (try simp only [Int32.lt_iff_toInt_lt, Int32.reduceToInt, Int64.reduceToInt, Int32.toInt_toInt64, i32_eq] at *); omega)]; done), by unfold hitV; rw [if_neg hlt9]; first | (rw [upm_at, if_neg (by omega)]; exact h10) | exact h10⟩)
                · refine r_aload_n (pc := 156) h dX1_endIn_156 rfl ?_
                  refine r_iconst (v := 4) (pc := 157) h dX1_endIn_157 (by decide) ?_
                  refine pf_X1_15 (pc := 158) h dX1_endIn_158 hk hkd ?_
                  exact hr _ _ _ dX1_endIn_161 (⟨fun a q => by first | exact upm_ne _ _ _ q | rfl, fun j q1 q2 => by first | (rw [upm_at, if_neg (fun z => q1 z.2)]; done) | rfl, by (first | rw [upm_eq] | rw [h9]); unfold endV; rw [if_neg hlt9]; first | (rw [if_pos (by (try simp only [b2i_eq0] at *); (try simp only [Int32.lt_iff_toInt_lt, Int32.reduceToInt, Int64.reduceToInt, Int32.toInt_toInt64, i32_eq] at *); omega)]; done) | (rw [if_neg (by (try simp only [b2i_eq0] at *); (try simp only [Int32.lt_iff_toInt_lt, Int32.reduceToInt, Int64.reduceToInt, Int32.toInt_toInt64, i32_eq] at *); omega), if_pos (by (try simp only [b2i_eq0] at *); (try simp only [Int32.lt_iff_toInt_lt, Int32.reduceToInt, Int64.reduceToInt, Int32.toInt_toInt64, i32_eq] at *); omega)]; done) | (rw [if_neg (by (try simp only [b2i_eq0] at *); (try simp only [Int32.lt_iff_toInt_lt, Int32.reduceToInt, Int64.reduceToInt, Int32.toInt_toInt64, i32_eq] at *); omega), if_neg (by (try simp only [b2i_eq0] at *); (try simp only [Int32.lt_iff_toInt_lt, Int32.reduceToInt, Int64.reduceToInt, Int32.toInt_toInt64, i32_eq] at *); omega), if_pos (by (try simp only [b2i_eq0] at *); (try simp only [Int32.lt_iff_toInt_lt, Int32.reduceToInt, Int64.reduceToInt, Int32.toInt_toInt64, i32_eq] at *); omega)]; done) | (rw [if_neg (by (try simp only [b2i_eq0] at *); (try simp only [Int32.lt_iff_toInt_lt, Int32.reduceToInt, Int64.reduceToInt, Int32.toInt_toInt64, i32_eq] at *); omega), if_neg (by (try simp only [b2i_eq0] at *); (try simp only [Int32.lt_iff_toInt_lt, Int32.reduceToInt, Int64.reduceToInt, Int32.toInt_toInt64, i32_eq] at *); omega), if_neg (by (try simp only [b2i_eq0] at *); (try simp only [Int32.lt_iff_toInt_lt, Int32.reduceToInt, Int64.reduceToInt, Int32.toInt_toInt64, i32_eq] at *); omega)]; done), by unfold hitV; rw [if_neg hlt9]; first | (rw [upm_at, if_neg (by omega)]; exact h10) | exact h10⟩)
              · refine r_aload_n (pc := 109) h dX1_endIn_109 rfl ?_
                refine gf_X1_34 (pc := 110) h dX1_endIn_110 hk hkd ?_
                refine r_bipush (v := 50) (pc := 113) h dX1_endIn_113 (by decide) ?_
                refine r_sipush (v := 250) (pc := 115) h dX1_endIn_115 (by decide) ?_
                refine r_callSNI (pc := 118) h dX1_endIn_118 wm_X1_131 ca_X10_within (c_X10_within E _ _ _ _) rfl rfl (Nat.le_of_ble_eq_true rfl) (by decide) (fun r I1 hq => ?_)
                obtain ⟨rfl, rfl⟩ := hq
                refine r_if_eq (pc := 121) h 146 dX1_endIn_121 (by decide) (fun c121 => ?_) (fun c121 => ?_)
                · refine r_aload_n (pc := 146) h dX1_endIn_146 rfl ?_
                  refine gf_X1_9 (pc := 147) h dX1_endIn_147 hk hkd ?_
                  refine r_sipush (v := 400) (pc := 150) h dX1_endIn_150 (by decide) ?_
                  refine r_icmp_lt (pc := 153) h 161 dX1_endIn_153 (by decide) (fun c153 => ?_) (fun c153 => ?_)
                  · exact hr _ _ _ dX1_endIn_161 (⟨fun a q => by first | exact upm_ne _ _ _ q | rfl, fun j q1 q2 => by first | (rw [upm_at, if_neg (fun z => q1 z.2)]; done) | rfl, by (first | rw [upm_eq] | rw [h9]); unfold endV; rw [if_neg hlt9]; first | (rw [if_pos (by (try simp only [b2i_eq0] at *); (try simp only [Int32.lt_iff_toInt_lt, Int32.reduceToInt, Int64.reduceToInt, Int32.toInt_toInt64, i32_eq] at *); omega)]; done) | (rw [if_neg (by (try simp only [b2i_eq0] at *); (try simp only [Int32.lt_iff_toInt_lt, Int32.reduceToInt, Int64.reduceToInt, Int32.toInt_toInt64, i32_eq] at *); omega), if_pos (by (try simp only [b2i_eq0] at *); (try simp only [Int32.lt_iff_toInt_lt, Int32.reduceToInt, Int64.reduceToInt, Int32.toInt_toInt64, i32_eq] at *); omega)]; done) | (rw [if_neg (by (try simp only [b2i_eq0] at *); (try simp only [Int32.lt_iff_toInt_lt, Int32.reduceToInt, Int64.reduceToInt, Int32.toInt_toInt64, i32_eq] at *); omega), if_neg (by (try simp only [b2i_eq0] at *); (try simp only [Int32.lt_iff_toInt_lt, Int32.reduceToInt, Int64.reduceToInt, Int32.toInt_toInt64, i32_eq] at *); omega), if_pos (by (try simp only [b2i_eq0] at *); (try simp only [Int32.lt_iff_toInt_lt, Int32.reduceToInt, Int64.reduceToInt, Int32.toInt_toInt64, i32_eq] at *); omega)]; done) | (rw [if_neg (by (try simp only [b2i_eq0] at *); (try simp only [Int32.lt_iff_toInt_lt, Int32.reduceToInt, Int64.reduceToInt, Int32.toInt_toInt64, i32_eq] at *); omega), if_neg (by (try simp only [b2i_eq0] at *); (try simp only [Int32.lt_iff_toInt_lt, Int32.reduceToInt, Int64.reduceToInt, Int32.toInt_toInt64, i32_eq] at *); omega), if_neg (by (try simp only [b2i_eq0] at *); (try simp only [Int32.lt_iff_toInt_lt, Int32.reduceToInt, Int64.reduceToInt, Int32.toInt_toInt64, i32_eq] at *); omega)]; done), by unfold hitV; rw [if_neg hlt9]; first | (rw [upm_at, if_neg (by omega)]; exact h10) | exact h10⟩)
                  · refine r_aload_n (pc := 156) h dX1_endIn_156 rfl ?_
                    refine r_iconst (v := 4) (pc := 157) h dX1_endIn_157 (by decide) ?_
                    refine pf_X1_15 (pc := 158) h dX1_endIn_158 hk hkd ?_
                    exact hr _ _ _ dX1_endIn_161 (⟨fun a q => by first | exact upm_ne _ _ _ q | rfl, fun j q1 q2 => by first | (rw [upm_at, if_neg (fun z => q1 z.2)]; done) | rfl, by (first | rw [upm_eq] | rw [h9]); unfold endV; rw [if_neg hlt9]; first | (rw [if_pos (by (try simp only [b2i_eq0] at *); (try simp only [Int32.lt_iff_toInt_lt, Int32.reduceToInt, Int64.reduceToInt, Int32.toInt_toInt64, i32_eq] at *); omega)]; done) | (rw [if_neg (by (try simp only [b2i_eq0] at *); (try simp only [Int32.lt_iff_toInt_lt, Int32.reduceToInt, Int64.reduceToInt, Int32.toInt_toInt64, i32_eq] at *); omega), if_pos (by (try simp only [b2i_eq0] at *); (try simp only [Int32.lt_iff_toInt_lt, Int32.reduceToInt, Int64.reduceToInt, Int32.toInt_toInt64, i32_eq] at *); omega)]; done) | (rw [if_neg (by (try simp only [b2i_eq0] at *); (try simp only [Int32.lt_iff_toInt_lt, Int32.reduceToInt, Int64.reduceToInt, Int32.toInt_toInt64, i32_eq] at *); omega), if_neg (by (try simp only [b2i_eq0] at *); (try simp only [Int32.lt_iff_toInt_lt, Int32.reduceToInt, Int64.reduceToInt, Int32.toInt_toInt64, i32_eq] at *); omega), if_pos (by (try simp only [b2i_eq0] at *); (try simp only [Int32.lt_iff_toInt_lt, Int32.reduceToInt, Int64.reduceToInt, Int32.toInt_toInt64, i32_eq] at *); omega)]; done) | (rw [if_neg (by (try simp only [b2i_eq0] at *); (try simp only [Int32.lt_iff_toInt_lt, Int32.reduceToInt, Int64.reduceToInt, Int32.toInt_toInt64, i32_eq] at *); omega), if_neg (by (try simp only [b2i_eq0] at *); (try simp only [Int32.lt_iff_toInt_lt, Int32.reduceToInt, Int64.reduceToInt, Int32.toInt_toInt64, i32_eq] at *); omega), if_neg (by (try simp only [b2i_eq0] at *); (try simp only [Int32.lt_iff_toInt_lt, Int32.reduceToInt, Int64.reduceToInt, Int32.toInt_toInt64, i32_eq] at *); omega)]; done), by unfold hitV; rw [if_neg hlt9]; first | (rw [upm_at, if_neg (by omega)]; exact h10) | exact h10⟩)
                · refine r_aload_n (pc := 124) h dX1_endIn_124 rfl ?_
                  refine r_iconst (v := 0) (pc := 125) h dX1_endIn_125 (by decide) ?_
                  refine r_iconst (v := 0) (pc := 126) h dX1_endIn_126 (by decide) ?_
                  refine r_aload_n (pc := 127) h dX1_endIn_127 rfl ?_
                  refine gf_X1_135 (pc := 128) h dX1_endIn_128 ?_
                  refine r_i2l (pc := 131) h dX1_endIn_131 ?_
                  refine r_callVI (ci := 1) (pc := 132) h dX1_endIn_132 wm_X1_127 ca_X1_isNear rfl (c_X1_isNear E _ _ _ _ _ hk hkd) rfl rfl (Nat.le_of_ble_eq_true rfl) (by decide) (by decide) hk hkd (fun r I1 hq => ?_)
                  obtain ⟨rfl, rfl⟩ := hq
                  refine r_if_eq (pc := 135) h 146 dX1_endIn_135 (by decide) (fun c135 => ?_) (fun c135 => ?_)
                  · refine r_aload_n (pc := 146) h dX1_endIn_146 rfl ?_
                    refine gf_X1_9 (pc := 147) h dX1_endIn_147 hk hkd ?_
                    refine r_sipush (v := 400) (pc := 150) h dX1_endIn_150 (by decide) ?_
                    refine r_icmp_lt (pc := 153) h 161 dX1_endIn_153 (by decide) (fun c153 => ?_) (fun c153 => ?_)
                    · exact hr _ _ _ dX1_endIn_161 (⟨fun a q => by first | exact upm_ne _ _ _ q | rfl, fun j q1 q2 => by first | (rw [upm_at, if_neg (fun z => q1 z.2)]; done) | rfl, by (first | rw [upm_eq] | rw [h9]); unfold endV; rw [if_neg hlt9]; first | (rw [if_pos (by (try simp only [b2i_eq0] at *); (try simp only [Int32.lt_iff_toInt_lt, Int32.reduceToInt, Int64.reduceToInt, Int32.toInt_toInt64, i32_eq] at *); omega)]; done) | (rw [if_neg (by (try simp only [b2i_eq0] at *); (try simp only [Int32.lt_iff_toInt_lt, Int32.reduceToInt, Int64.reduceToInt, Int32.toInt_toInt64, i32_eq] at *); omega), if_pos (by (try simp only [b2i_eq0] at *); (try simp only [Int32.lt_iff_toInt_lt, Int32.reduceToInt, Int64.reduceToInt, Int32.toInt_toInt64, i32_eq] at *); omega)]; done) | (rw [if_neg (by (try simp only [b2i_eq0] at *); (try simp only [Int32.lt_iff_toInt_lt, Int32.reduceToInt, Int64.reduceToInt, Int32.toInt_toInt64, i32_eq] at *); omega), if_neg (by (try simp only [b2i_eq0] at *); (try simp only [Int32.lt_iff_toInt_lt, Int32.reduceToInt, Int64.reduceToInt, Int32.toInt_toInt64, i32_eq] at *); omega), if_pos (by (try simp only [b2i_eq0] at *); (try simp only [Int32.lt_iff_toInt_lt, Int32.reduceToInt, Int64.reduceToInt, Int32.toInt_toInt64, i32_eq] at *); omega)]; done) | (rw [if_neg (by (try simp only [b2i_eq0] at *); (try simp only [Int32.lt_iff_toInt_lt, Int32.reduceToInt, Int64.reduceToInt, Int32.toInt_toInt64, i32_eq] at *); omega), if_neg (by (try simp only [b2i_eq0] at *); (try simp only [Int32.lt_iff_toInt_lt, Int32.reduceToInt, Int64.reduceToInt, Int32.toInt_toInt64, i32_eq] at *); omega), if_neg (by (try simp only [b2i_eq0] at *); (try simp only [Int32.lt_iff_toInt_lt, Int32.reduceToInt, Int64.reduceToInt, Int32.toInt_toInt64, i32_eq] at *); omega)]; done), by unfold hitV; rw [if_neg hlt9]; first | (rw [upm_at, if_neg (by omega)]; exact h10) | exact h10⟩)
                    · refine r_aload_n (pc := 156) h dX1_endIn_156 rfl ?_
                      refine r_iconst (v := 4) (pc := 157) h dX1_endIn_157 (by decide) ?_
                      refine pf_X1_15 (pc := 158) h dX1_endIn_158 hk hkd ?_
                      exact hr _ _ _ dX1_endIn_161 (⟨fun a q => by first | exact upm_ne _ _ _ q | rfl, fun j q1 q2 => by first | (rw [upm_at, if_neg (fun z => q1 z.2)]; done) | rfl, by (first | rw [upm_eq] | rw [h9]); unfold endV; rw [if_neg hlt9]; first | (rw [if_pos (by (try simp only [b2i_eq0] at *); (try simp only [Int32.lt_iff_toInt_lt, Int32.reduceToInt, Int64.reduceToInt, Int32.toInt_toInt64, i32_eq] at *); omega)]; done) | (rw [if_neg (by (try simp only [b2i_eq0] at *); (try simp only [Int32.lt_iff_toInt_lt, Int32.reduceToInt, Int64.reduceToInt, Int32.toInt_toInt64, i32_eq] at *); omega), if_pos (by (try simp only [b2i_eq0] at *); (try simp only [Int32.lt_iff_toInt_lt, Int32.reduceToInt, Int64.reduceToInt, Int32.toInt_toInt64, i32_eq] at *); omega)]; done) | (rw [if_neg (by (try simp only [b2i_eq0] at *); (try simp only [Int32.lt_iff_toInt_lt, Int32.reduceToInt, Int64.reduceToInt, Int32.toInt_toInt64, i32_eq] at *); omega), if_neg (by (try simp only [b2i_eq0] at *); (try simp only [Int32.lt_iff_toInt_lt, Int32.reduceToInt, Int64.reduceToInt, Int32.toInt_toInt64, i32_eq] at *); omega), if_pos (by (try simp only [b2i_eq0] at *); (try simp only [Int32.lt_iff_toInt_lt, Int32.reduceToInt, Int64.reduceToInt, Int32.toInt_toInt64, i32_eq] at *); omega)]; done) | (rw [if_neg (by (try simp only [b2i_eq0] at *); (try simp only [Int32.lt_iff_toInt_lt, Int32.reduceToInt, Int64.reduceToInt, Int32.toInt_toInt64, i32_eq] at *); omega), if_neg (by (try simp only [b2i_eq0] at *); (try simp only [Int32.lt_iff_toInt_lt, Int32.reduceToInt, Int64.reduceToInt, Int32.toInt_toInt64, i32_eq] at *); omega), if_neg (by (try simp only [b2i_eq0] at *); (try simp only [Int32.lt_iff_toInt_lt, Int32.reduceToInt, Int64.reduceToInt, Int32.toInt_toInt64, i32_eq] at *); omega)]; done), by unfold hitV; rw [if_neg hlt9]; first | (rw [upm_at, if_neg (by omega)]; exact h10) | exact h10⟩)
                  · refine r_aload_n (pc := 138) h dX1_endIn_138 rfl ?_
                    refine r_iconst (v := 2) (pc := 139) h dX1_endIn_139 (by decide) ?_
                    refine pf_X1_15 (pc := 140) h dX1_endIn_140 hk hkd ?_
                    refine r_goto (pc := 143) h 161 dX1_endIn_143 (by decide) ?_
                    exact hr _ _ _ dX1_endIn_161 (⟨fun a q => by first | exact upm_ne _ _ _ q | rfl, fun j q1 q2 => by first | (rw [upm_at, if_neg (fun z => q1 z.2)]; done) | rfl, by (first | rw [upm_eq] | rw [h9]); unfold endV; rw [if_neg hlt9]; first | (rw [if_pos (by (try simp only [b2i_eq0] at *); (try simp only [Int32.lt_iff_toInt_lt, Int32.reduceToInt, Int64.reduceToInt, Int32.toInt_toInt64, i32_eq] at *); omega)]; done) | (rw [if_neg (by (try simp only [b2i_eq0] at *); (try simp only [Int32.lt_iff_toInt_lt, Int32.reduceToInt, Int64.reduceToInt, Int32.toInt_toInt64, i32_eq] at *); omega), if_pos (by (try simp only [b2i_eq0] at *); (try simp only [Int32.lt_iff_toInt_lt, Int32.reduceToInt, Int64.reduceToInt, Int32.toInt_toInt64, i32_eq] at *); omega)]; done) | (rw [if_neg (by (try simp only [b2i_eq0] at *); (try simp only [Int32.lt_iff_toInt_lt, Int32.reduceToInt, Int64.reduceToInt, Int32.toInt_toInt64, i32_eq] at *); omega), if_neg (by (try simp only [b2i_eq0] at *); (try simp only [Int32.lt_iff_toInt_lt, Int32.reduceToInt, Int64.reduceToInt, Int32.toInt_toInt64, i32_eq] at *); omega), if_pos (by (try simp only [b2i_eq0] at *); (try simp only [Int32.lt_iff_toInt_lt, Int32.reduceToInt, Int64.reduceToInt, Int32.toInt_toInt64, i32_eq] at *); omega)]; done) | (rw [if_neg (by (try simp only [b2i_eq0] at *); (try simp only [Int32.lt_iff_toInt_lt, Int32.reduceToInt, Int64.reduceToInt, Int32.toInt_toInt64, i32_eq] at *); omega), if_neg (by (try simp only [b2i_eq0] at *); (try simp only [Int32.lt_iff_toInt_lt, Int32.reduceToInt, Int64.reduceToInt, Int32.toInt_toInt64, i32_eq] at *); omega), if_neg (by (try simp only [b2i_eq0] at *); (try simp only [Int32.lt_iff_toInt_lt, Int32.reduceToInt, Int64.reduceToInt, Int32.toInt_toInt64, i32_eq] at *); omega)]; done), by unfold hitV; rw [if_neg hlt9]; first | (rw [upm_at, if_neg (by omega)]; exact h10) | exact h10⟩)
            · refine r_aload_n (pc := 92) h dX1_endIn_92 rfl ?_
              refine r_iconst (v := 1) (pc := 93) h dX1_endIn_93 (by decide) ?_
              refine pf_X1_15 (pc := 94) h dX1_endIn_94 hk hkd ?_
              refine r_goto (pc := 97) h 161 dX1_endIn_97 (by decide) ?_
              exact hr _ _ _ dX1_endIn_161 (⟨fun a q => by first | exact upm_ne _ _ _ q | rfl, fun j q1 q2 => by first | (rw [upm_at, if_neg (fun z => q1 z.2)]; done) | rfl, by (first | rw [upm_eq] | rw [h9]); unfold endV; rw [if_neg hlt9]; first | (rw [if_pos (by (try simp only [b2i_eq0] at *); (try simp only [Int32.lt_iff_toInt_lt, Int32.reduceToInt, Int64.reduceToInt, Int32.toInt_toInt64, i32_eq] at *); omega)]; done) | (rw [if_neg (by (try simp only [b2i_eq0] at *); (try simp only [Int32.lt_iff_toInt_lt, Int32.reduceToInt, Int64.reduceToInt, Int32.toInt_toInt64, i32_eq] at *); omega), if_pos (by (try simp only [b2i_eq0] at *); (try simp only [Int32.lt_iff_toInt_lt, Int32.reduceToInt, Int64.reduceToInt, Int32.toInt_toInt64, i32_eq] at *); omega)]; done) | (rw [if_neg (by (try simp only [b2i_eq0] at *); (try simp only [Int32.lt_iff_toInt_lt, Int32.reduceToInt, Int64.reduceToInt, Int32.toInt_toInt64, i32_eq] at *); omega), if_neg (by (try simp only [b2i_eq0] at *); (try simp only [Int32.lt_iff_toInt_lt, Int32.reduceToInt, Int64.reduceToInt, Int32.toInt_toInt64, i32_eq] at *); omega), if_pos (by (try simp only [b2i_eq0] at *); (try simp only [Int32.lt_iff_toInt_lt, Int32.reduceToInt, Int64.reduceToInt, Int32.toInt_toInt64, i32_eq] at *); omega)]; done) | (rw [if_neg (by (try simp only [b2i_eq0] at *); (try simp only [Int32.lt_iff_toInt_lt, Int32.reduceToInt, Int64.reduceToInt, Int32.toInt_toInt64, i32_eq] at *); omega), if_neg (by (try simp only [b2i_eq0] at *); (try simp only [Int32.lt_iff_toInt_lt, Int32.reduceToInt, Int64.reduceToInt, Int32.toInt_toInt64, i32_eq] at *); omega), if_neg (by (try simp only [b2i_eq0] at *); (try simp only [Int32.lt_iff_toInt_lt, Int32.reduceToInt, Int64.reduceToInt, Int32.toInt_toInt64, i32_eq] at *); omega)]; done), by unfold hitV; rw [if_neg hlt9]; first | (rw [upm_at, if_neg (by omega)]; exact h10) | exact h10⟩)
          · exact absurd h10 c74
        · refine r_aload_n (pc := 19) h dX1_endIn_19 rfl ?_
          refine gf_X1_113 (pc := 20) h dX1_endIn_20 ?_
          refine r_iload_n (pc := 23) h dX1_endIn_23 rfl ?_
          refine r_aa8 (pc := 24) h dX1_endIn_24 (vinI (n := 6) (by omega) (by omega)) ?_
          refine r_astore_n (pc := 25) h dX1_endIn_25 (by decide) ?_
          rw [en]
          rw [en] at hi6
          refine r_aload_n (pc := 26) h dX1_endIn_26 rfl ?_
          refine gf_X1_34 (pc := 27) h dX1_endIn_27 hk hkd ?_
          refine r_aload_n (pc := 30) h dX1_endIn_30 rfl ?_
          refine gf_X1_117 (pc := 31) h dX1_endIn_31 (by omega) (kdTr _ hi6) ?_
          refine r_icmp_gt (pc := 34) h 62 dX1_endIn_34 (by decide) (fun c34 => ?_) (fun c34 => ?_)
          · refine r_iinc (v := 1) (pc := 62) h dX1_endIn_62 rfl (by decide) (by decide) ?_
            refine r_goto (pc := 65) h 2 dX1_endIn_65 (by decide) ?_
            rw [← nI_succ]
            refine r_at h [(0, .ref (E.1 kx)), (1, .ref (E.1 7)), (2, .int (nI (i + 1)))] ⟨rfl, rfl, rfl, trivial⟩ (ih (i + 1) (by omega) (by omega) ?_)
            intro k hk2
            by_cases e : k = i
            · subst e
              simp only [decide_eq_false_iff_not]
              intro q
              first
              | exact (b2i_eq0.mp c54) q.1
              | (rw [Int32.lt_iff_toInt_lt] at c34; exact absurd q.2 (by show ¬ (I kx 2).toInt ≤ (I (9 + k) 3).toInt; omega))
            · exact hno k (by omega)
          · refine r_aload_n (pc := 37) h dX1_endIn_37 rfl ?_
            refine r_aload_n (pc := 38) h dX1_endIn_38 rfl ?_
            refine gf_X1_122 (pc := 39) h dX1_endIn_39 (by omega) (kdTr _ hi6) ?_
            refine r_aload_n (pc := 42) h dX1_endIn_42 rfl ?_
            refine gf_X1_123 (pc := 43) h dX1_endIn_43 (by omega) (kdTr _ hi6) ?_
            refine r_aload_n (pc := 46) h dX1_endIn_46 rfl ?_
            refine gf_X1_124 (pc := 47) h dX1_endIn_47 (by omega) (kdTr _ hi6) ?_
            refine r_i2l (pc := 50) h dX1_endIn_50 ?_
            refine r_callVI (ci := 1) (pc := 51) h dX1_endIn_51 wm_X1_127 ca_X1_isNear rfl (c_X1_isNear E _ _ _ _ _ hk hkd) rfl rfl (Nat.le_of_ble_eq_true rfl) (by decide) (by decide) hk hkd (fun r I1 hq => ?_)
            obtain ⟨rfl, rfl⟩ := hq
            refine r_if_eq (pc := 54) h 62 dX1_endIn_54 (by decide) (fun c54 => ?_) (fun c54 => ?_)
            · refine r_iinc (v := 1) (pc := 62) h dX1_endIn_62 rfl (by decide) (by decide) ?_
              refine r_goto (pc := 65) h 2 dX1_endIn_65 (by decide) ?_
              rw [← nI_succ]
              refine r_at h [(0, .ref (E.1 kx)), (1, .ref (E.1 7)), (2, .int (nI (i + 1)))] ⟨rfl, rfl, rfl, trivial⟩ (ih (i + 1) (by omega) (by omega) ?_)
              intro k hk2
              by_cases e : k = i
              · subst e
                simp only [decide_eq_false_iff_not]
                intro q
                first
                | exact (b2i_eq0.mp c54) q.1
                | (rw [Int32.lt_iff_toInt_lt] at c34; exact absurd q.2 (by show ¬ (I kx 2).toInt ≤ (I (9 + k) 3).toInt; omega))
              · exact hno k (by omega)
            · have htr : treeP (I kx) (trF I) i := by
                refine ⟨?_, ?_⟩
                · simp only [b2i_eq0, Classical.not_not] at c54
                  exact c54
                · rw [Int32.lt_iff_toInt_lt] at c34
                  show (I kx 2).toInt ≤ (I (9 + i) 3).toInt
                  omega
              have hh : hitN (I kx) (trF I) (I 7 1).toNatClampNeg = i := fst1_eq _ (by omega) (by omega) (by simp only [decide_eq_true_eq]; exact htr) (fun k _ hk2 => hno k hk2)
              refine r_aload_n (pc := 57) h dX1_endIn_57 rfl ?_
              refine r_iload_n (pc := 58) h dX1_endIn_58 rfl ?_
              refine pf_X1_18 (pc := 59) h dX1_endIn_59 hk hkd ?_
              refine r_iinc (v := 1) (pc := 62) h dX1_endIn_62 rfl (by decide) (by decide) ?_
              refine r_goto (pc := 65) h 2 dX1_endIn_65 (by decide) ?_
              exact r_at h [(0, .ref (E.1 kx)), (1, .ref (E.1 7)), (2, .int (nI i + 1))] ⟨rfl, rfl, rfl, trivial⟩ (hitS i _ hlt (by omega) hh)
  have h0 := loop2 ((I 7 1).toNatClampNeg + 1) 0 (by omega) (by omega) (fun k hk2 => by omega)
  exact r_at h [(0, .ref (E.1 kx)), (1, .ref (E.1 7)), (2, .int (nI 0))] ⟨rfl, rfl, rfl, trivial⟩ h0
