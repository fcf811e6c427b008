/-! seen of both -/
def fdI (x y : Int32) : Int32 := Int32.ofInt (x.toInt / y.toInt)
theorem fd_eq {x y q : Int} (hy : 0 < y) (h : x - x % y = y * q) : x / y = q := by
  have := Int.mul_ediv_add_emod x y
  exact Int.eq_of_mul_eq_mul_left (show y ≠ 0 by omega) (by omega)
def lineP (aw : Int32) : Int32 := maxI 0 (minI 4 (fdI (aw + 1000) 400))
theorem e4i : (4 : Int32).toInt = 4 := by decide
theorem lineP_bd (aw : Int32) : 0 ≤ (lineP aw).toInt ∧ (lineP aw).toInt ≤ 4 := by
  obtain ⟨z, hz⟩ : ∃ z, z = minI 4 (fdI (aw + 1000) 400) := ⟨_, rfl⟩
  have hz4 : z.toInt ≤ 4 := by
    rw [hz]
    unfold minI
    split
    · rename_i q
      rw [Int32.lt_iff_toInt_lt, e4i] at q
      omega
    · rw [e4i]
      omega
  unfold lineP
  rw [← hz]
  unfold maxI
  split
  · rename_i q
    rw [Int32.lt_iff_toInt_lt, z32] at q
    omega
  · rw [z32]
    omega
def colP (aw : Int32) : Int32 := if 0 ≤ aw + 1000 then (if aw + 1000 < 2000 then (aw + 1000) / 400 else 4) else 0
theorem e2000 : (2000 : Int32).toInt = 2000 := by decide
theorem e400 : (400 : Int32).toInt = 400 := by decide
theorem colP_bd (aw : Int32) : 0 ≤ (colP aw).toInt ∧ (colP aw).toInt ≤ 4 := by
  unfold colP
  split
  · rename_i q
    split
    · rename_i q2
      rw [Int32.le_iff_toInt_le, z32] at q
      rw [Int32.lt_iff_toInt_lt, e2000] at q2
      rw [tI_div (by rw [e400]; omega), e400, Int.tdiv_eq_ediv_of_nonneg q]
      omega
    · decide
  · decide
def spF (c l : Int32) (p : Nat) : Int32 := 1000 / (1 + (absI (nI p - nI p / 5 * 5 - c) + absI (nI p / 5 - l)))
def spR (c l : Int32) (p : Nat) : Int32 := 1000 / (1 + absI (nI p - nI p / 5 * 5 - c) + absI (nI p / 5 - l))
theorem sp_ne0 : ∀ p, p < 25 → ∀ c, c < 5 → ∀ l, l < 5 → (¬ 1 + (absI (nI p - nI p / 5 * 5 - nI c) + absI (nI p / 5 - nI l)) = 0) ∧ (¬ 1 + absI (nI p - nI p / 5 * 5 - nI c) + absI (nI p / 5 - nI l) = 0) := by decide +kernel
theorem sp_ne {c l : Int32} {p : Nat} (hc : 0 ≤ c.toInt ∧ c.toInt ≤ 4) (hl : 0 ≤ l.toInt ∧ l.toInt ≤ 4) (hp : p < 25) : (¬ 1 + (absI (nI p - nI p / 5 * 5 - c) + absI (nI p / 5 - l)) = 0) ∧ (¬ 1 + absI (nI p - nI p / 5 * 5 - c) + absI (nI p / 5 - l) = 0) := by
  have := sp_ne0 p hp c.toNatClampNeg (by rw [tn]; omega) l.toNatClampNeg (by rw [tn]; omega)
  rw [nI_ofx hc.1, nI_ofx hl.1] at this
  exact this
def F_seen (I : Mem) (t : Int32) : Int32 × Mem := if ¬ I 15 9 = 0 ∧ (0 ≤ t.toInt ∧ t.toInt ≤ (I 15 8).toInt) then (lineP (I 15 1 - I 16 (8 * t.toNatClampNeg + (1 : Int32).toNatClampNeg)) * 5 + lineP (I 15 0 - I 16 (8 * t.toNatClampNeg + (0 : Int32).toNatClampNeg)), rowQ I 38 0 (spF (lineP (I 15 0 - I 16 (8 * t.toNatClampNeg + (0 : Int32).toNatClampNeg))) (lineP (I 15 1 - I 16 (8 * t.toNatClampNeg + (1 : Int32).toNatClampNeg)))) 25) else (-1, I)
def R_seen (I : Mem) (t : Int32) : Int32 × Mem := if ¬ I 151 25 = 0 ∧ (0 ≤ t.toInt ∧ t.toInt ≤ (I 151 23).toInt) then (5 * colP (I 168 (8 * (I 151 23).toNatClampNeg + 1) - I 168 (8 * t.toNatClampNeg + 1)) + colP (I 168 (8 * (I 151 23).toNatClampNeg) - I 168 (8 * t.toNatClampNeg)), rowQ I 178 0 (spR (colP (I 168 (8 * (I 151 23).toNatClampNeg) - I 168 (8 * t.toNatClampNeg))) (colP (I 168 (8 * (I 151 23).toNatClampNeg + 1) - I 168 (8 * t.toNatClampNeg + 1)))) 25) else (-1, I)
theorem m8z {x : Int32} (h : 0 ≤ x.toInt ∧ x.toInt ≤ 400) : (8 * x).toInt = 8 * x.toInt ∧ (8 * x).toNatClampNeg = 8 * x.toNatClampNeg ∧ (8 * x + 1).toInt = 8 * x.toInt + 1 ∧ (8 * x + 1).toNatClampNeg = 8 * x.toNatClampNeg + 1 := by
  have em : (8 * x).toInt = 8 * x.toInt := by rw [tI_mul (by rw [e8i]; omega) (by rw [e8i]; omega), e8i]
  have e2 : (8 * x + 1).toInt = 8 * x.toInt + 1 := by rw [tI_add1 (by omega), em]
  refine ⟨em, ?_, e2, ?_⟩
  · rw [tn, tn, em]
    omega
  · rw [tn, tn, e2]
    omega
set_option maxRecDepth 100000 in
set_option maxHeartbeats 4000000 in
theorem c_J9_floorDiv_7cf53 (E : En) (I : Mem) (x : Int32) (y : Int32) (hy : 0 < y.toInt) : Ctr E yJ9_floorDiv_7cf53 cJ9_floorDiv_7cf53 3 (some .int) 1 [.int x, .int y] I (qI (fun (r : Int32) (I1 : Mem) => r = fdI x y ∧ I = I1)) := by
  refine Ctr.openI (by decide +kernel) (Nat.le_of_ble_eq_true rfl) (fun g h hr => ?_)
  have h : Sem cJ9_floorDiv_7cf53 RJ9 3 (rmL 1) E g := h
  show g I 0 [(0, .int x), (1, .int y)] []
  have hd9 := tI_div (x := x) hy
  have hx9 := xor_neg (x := x) (y := y) (by omega)
  have hb9 := tmod_bounds (a := x.toInt) hy
  have hdef := Int.tmod_def x.toInt y.toInt
  have hmb := tdiv_mul_bd x.toInt y.toInt hy
  have hmul : (x / y * y).toInt = x.toInt.tdiv y.toInt * y.toInt := by
    have h1 := tI_lo x
    have h2 := tI_hi x
    rw [tI_mul (by rw [hd9]; rcases Int.lt_or_le x.toInt 0 with h | h <;> omega) (by rw [hd9]; rcases Int.lt_or_le x.toInt 0 with h | h <;> omega), hd9]
  have hcm := Int.mul_comm (x.toInt.tdiv y.toInt) y.toInt
  refine r_iload_n (pc := 0) h dJ9_floorDiv_7cf53_0 rfl ?_
  refine r_iload_n (pc := 1) h dJ9_floorDiv_7cf53_1 rfl ?_
  refine r_idiv (pc := 2) h dJ9_floorDiv_7cf53_2 (fun q => by rw [q, z32] at hy; omega) ?_
  refine r_istore_n (pc := 3) h dJ9_floorDiv_7cf53_3 (by decide) ?_
  refine r_iload_n (pc := 4) h dJ9_floorDiv_7cf53_4 rfl ?_
  refine r_iload_n (pc := 5) h dJ9_floorDiv_7cf53_5 rfl ?_
  refine r_ixor (pc := 6) h dJ9_floorDiv_7cf53_6 ?_
  refine r_if_ge (pc := 7) h 21 dJ9_floorDiv_7cf53_7 (by decide) (fun c7 => ?_) (fun c7 => ?_)
  · have hpos : 0 ≤ x.toInt.tmod y.toInt := by
      first
      | (rw [Int32.le_iff_toInt_le, z32] at c7; exact Int.tmod_nonneg _ (by omega))
      | (rw [i32_eq, hmul] at c14; omega)
    refine r_iload_n (pc := 21) h dJ9_floorDiv_7cf53_21 rfl ?_
    exact hr _ _ _ _ dJ9_floorDiv_7cf53_22 (rfl) (⟨eq_ofInt (by rw [hd9]; exact (fd_eq hy (by rw [fm_b hy hpos]; omega)).symm), rfl⟩)
  · refine r_iload_n (pc := 10) h dJ9_floorDiv_7cf53_10 rfl ?_
    refine r_iload_n (pc := 11) h dJ9_floorDiv_7cf53_11 rfl ?_
    refine r_imul (pc := 12) h dJ9_floorDiv_7cf53_12 ?_
    refine r_iload_n (pc := 13) h dJ9_floorDiv_7cf53_13 rfl ?_
    refine r_icmp_eq (pc := 14) h 21 dJ9_floorDiv_7cf53_14 (by decide) (fun c14 => ?_) (fun c14 => ?_)
    · have hpos : 0 ≤ x.toInt.tmod y.toInt := by
        first
        | (rw [Int32.le_iff_toInt_le, z32] at c7; exact Int.tmod_nonneg _ (by omega))
        | (rw [i32_eq, hmul] at c14; omega)
      refine r_iload_n (pc := 21) h dJ9_floorDiv_7cf53_21 rfl ?_
      exact hr _ _ _ _ dJ9_floorDiv_7cf53_22 (rfl) (⟨eq_ofInt (by rw [hd9]; exact (fd_eq hy (by rw [fm_b hy hpos]; omega)).symm), rfl⟩)
    · have hneg : x.toInt.tmod y.toInt < 0 := by
        rw [Int32.le_iff_toInt_le, z32] at c7
        rw [i32_eq, hmul] at c14
        have h9 : x.toInt < 0 := by omega
        have h8 := (hmb.2 h9).1
        omega
      refine r_iload_n (pc := 17) h dJ9_floorDiv_7cf53_17 rfl ?_
      refine r_iconst (v := 1) (pc := 18) h dJ9_floorDiv_7cf53_18 (by decide) ?_
      refine r_isub (pc := 19) h dJ9_floorDiv_7cf53_19 ?_
      exact hr _ _ _ _ dJ9_floorDiv_7cf53_20 (rfl) (⟨eq_ofInt (by rw [tI_sub1 (by rw [hd9]; have h1 := tI_lo x; have h2 := tdiv_neg (a := x.toInt) (b := y.toInt) (by rcases Int.lt_or_le x.toInt 0 with h | h; exact h; have := Int.tmod_nonneg y.toInt h; omega) hy; rcases Int.lt_or_le (-2147483648) (x.toInt.tdiv y.toInt) with h3 | h3; exact h3; exfalso; have e8 : x.toInt.tdiv y.toInt * y.toInt ≤ x.toInt.tdiv y.toInt * 1 := Int.mul_le_mul_of_nonpos_left (by omega) (by omega); rcases hmb.2 (by omega) with ⟨h5, h6⟩; omega), hd9]; exact (fd_eq hy (by rw [fm_a hy hneg, Int.mul_sub, Int.mul_one]; omega)).symm), rfl⟩)
set_option maxRecDepth 100000 in
set_option maxHeartbeats 4000000 in
theorem c_X2_lineOf (E : En) (I : Mem) (aw : Int32)  : Ctr E yX2_lineOf cX2_lineOf 2 (some .int) 2 [.int aw] I (qI (fun (r : Int32) (I1 : Mem) => r = lineP aw ∧ I = I1)) := by
  refine Ctr.openI (by decide) (Nat.le_of_ble_eq_true rfl) (fun g h hr => ?_)
  have h : Sem cX2_lineOf RX2 2 (rmL 2) E g := h
  show g I 0 [(0, .int aw)] []
  refine r_iload_n (pc := 0) h dX2_lineOf_0 rfl ?_
  refine r_sipush (v := 1000) (pc := 1) h dX2_lineOf_1 (by decide) ?_
  refine r_iadd (pc := 4) h dX2_lineOf_4 ?_
  refine r_sipush (v := 400) (pc := 5) h dX2_lineOf_5 (by decide) ?_
  refine r_callSI (pc := 8) h dX2_lineOf_8 wm_X2_24 ca_J9_floorDiv_7cf53 (c_J9_floorDiv_7cf53 E _ _ _ (by decide)) rfl rfl (Nat.le_of_ble_eq_true rfl) (by decide) (fun r I1 hq => ?_)
  obtain ⟨rfl, rfl⟩ := hq
  refine r_istore_n (pc := 11) h dX2_lineOf_11 (by decide) ?_
  refine r_iconst (v := 0) (pc := 12) h dX2_lineOf_12 (by decide) ?_
  refine r_iconst (v := 4) (pc := 13) h dX2_lineOf_13 (by decide) ?_
  refine r_iload_n (pc := 14) h dX2_lineOf_14 rfl ?_
  refine r_callSI (pc := 15) h dX2_lineOf_15 wm_X2_30 ca_J9_min_7cf53 (c_J9_min_7cf53 E _ _ _) rfl rfl (Nat.le_of_ble_eq_true rfl) (by decide) (fun r I1 hq => ?_)
  obtain ⟨rfl, rfl⟩ := hq
  refine r_callSI (pc := 18) h dX2_lineOf_18 wm_X2_33 ca_J9_max_7cf53 (c_J9_max_7cf53 E _ _ _) rfl rfl (Nat.le_of_ble_eq_true rfl) (by decide) (fun r I1 hq => ?_)
  obtain ⟨rfl, rfl⟩ := hq
  exact hr _ _ _ _ dX2_lineOf_21 (rfl) (⟨rfl, rfl⟩)
set_option maxRecDepth 100000 in
set_option maxHeartbeats 4000000 in
theorem c_X2_spreadFrom (E : En) (I : Mem) (c : Int32) (l : Int32) (hc : 0 ≤ c.toInt ∧ c.toInt ≤ 4) (hl : 0 ≤ l.toInt ∧ l.toInt ≤ 4) : Ctr E yX2_spreadFrom cX2_spreadFrom 5 (some .int) 2 [.ref (E.1 37), .int c, .int l] I (qI (fun (r : Int32) (I1 : Mem) => r = l * 5 + c ∧ I1 = rowQ I 38 0 (spF c l) 25)) := by
  refine Ctr.openI (by decide) (Nat.le_of_ble_eq_true rfl) (fun g h hr => ?_)
  have h : Sem cX2_spreadFrom RX2 5 (rmL 2) E g := h
  show g I 0 [(0, .ref (E.1 37)), (1, .int c), (2, .int l)] []
  refine r_iconst (v := 0) (pc := 0) h dX2_spreadFrom_0 (by decide) ?_
  refine r_istore_n (pc := 1) h dX2_spreadFrom_1 (by decide) ?_
  have loop2 : ∀ (m i : Nat), i ≤ 25 → 25 + 1 ≤ i + m → g (rowQ I 38 0 (spF c l) i) 2 [(0, .ref (E.1 37)), (1, .int c), (2, .int l), (3, .int (nI i))] [] := by
    intro m
    induction m with
    | zero =>
      intro i h1 h2
      omega
    | succ m ih =>
      intro i hi him
      have ei := nI_tI (i := i) (by omega)
      refine r_iload_n (pc := 2) h dX2_spreadFrom_2 rfl ?_
      refine r_bipush (v := 25) (pc := 3) h dX2_spreadFrom_3 (by decide) ?_
      refine r_icmp_ge (pc := 5) h 47 dX2_spreadFrom_5 (by decide) (fun c5 => ?_) (fun c5 => ?_)
      · have hge : i = 25 := by rw [Int32.le_iff_toInt_le, ei, e25] at c5; omega
        refine r_iload_n (pc := 47) h dX2_spreadFrom_47 rfl ?_
        refine r_iconst (v := 5) (pc := 48) h dX2_spreadFrom_48 (by decide) ?_
        refine r_imul (pc := 49) h dX2_spreadFrom_49 ?_
        refine r_iload_n (pc := 50) h dX2_spreadFrom_50 rfl ?_
        refine r_iadd (pc := 51) h dX2_spreadFrom_51 ?_
        exact hr _ _ _ _ dX2_spreadFrom_52 (rfl) (⟨rfl, by rw [hge]⟩)
      · have hlt : i < 25 := by rw [Int32.le_iff_toInt_le, ei, e25] at c5; omega
        refine r_iload_n (pc := 8) h dX2_spreadFrom_8 rfl ?_
        refine r_iconst (v := 5) (pc := 9) h dX2_spreadFrom_9 (by decide) ?_
        refine r_irem (pc := 10) h dX2_spreadFrom_10 (by decide) ?_
        refine r_iload_n (pc := 11) h dX2_spreadFrom_11 rfl ?_
        refine r_isub (pc := 12) h dX2_spreadFrom_12 ?_
        refine r_callSI (pc := 13) h dX2_spreadFrom_13 wm_X2_36 ca_J9_abs_0f7a4 (c_J9_abs_0f7a4 E _ _) rfl rfl (Nat.le_of_ble_eq_true rfl) (by decide) (fun r I1 hq => ?_)
        obtain ⟨rfl, rfl⟩ := hq
        refine r_iload_n (pc := 16) h dX2_spreadFrom_16 rfl ?_
        refine r_iconst (v := 5) (pc := 17) h dX2_spreadFrom_17 (by decide) ?_
        refine r_idiv (pc := 18) h dX2_spreadFrom_18 (by decide) ?_
        refine r_iload_n (pc := 19) h dX2_spreadFrom_19 rfl ?_
        refine r_isub (pc := 20) h dX2_spreadFrom_20 ?_
        refine r_callSI (pc := 21) h dX2_spreadFrom_21 wm_X2_36 ca_J9_abs_0f7a4 (c_J9_abs_0f7a4 E _ _) rfl rfl (Nat.le_of_ble_eq_true rfl) (by decide) (fun r I1 hq => ?_)
        obtain ⟨rfl, rfl⟩ := hq
        refine r_iadd (pc := 24) h dX2_spreadFrom_24 ?_
        refine r_istore (pc := 25) h dX2_spreadFrom_25 (by decide) ?_
        refine r_aload_n (pc := 27) h dX2_spreadFrom_27 rfl ?_
        refine gf_X2_11 (pc := 28) h dX2_spreadFrom_28 ?_
        refine r_iload_n (pc := 31) h dX2_spreadFrom_31 rfl ?_
        refine r_sipush (v := 1000) (pc := 32) h dX2_spreadFrom_32 (by decide) ?_
        refine r_iconst (v := 1) (pc := 35) h dX2_spreadFrom_35 (by decide) ?_
        refine r_iload (pc := 36) h dX2_spreadFrom_36 rfl ?_
        refine r_iadd (pc := 38) h dX2_spreadFrom_38 ?_
        refine r_idiv (pc := 39) h dX2_spreadFrom_39 ((sp_ne hc hl hlt).1) ?_
        refine r_iastL (j := i) (pc := 40) h dX2_spreadFrom_40 (by decide) (by decide) (nI_tn (by omega)) (vinI (n := 25) (by omega) (by omega)) ?_
        refine r_iinc (v := 1) (pc := 41) h dX2_spreadFrom_41 rfl (by decide) (by decide) ?_
        refine r_goto (pc := 44) h 2 dX2_spreadFrom_44 (by decide) ?_
        rw [← nI_succ]
        rw [show upm (rowQ I 38 0 (spF c l) i) 38 i (1000 / (1 + (_ + _))) = (rowQ I 38 0 (spF c l) (i + 1)) by
          rw [← rowQ_step, Nat.zero_add]
          rfl]
        exact r_at h [(0, .ref (E.1 37)), (1, .int c), (2, .int l), (3, .int (nI (i + 1)))] ⟨rfl, rfl, rfl, rfl, trivial⟩ (ih (i + 1) (by omega) (by omega))
  have h0 := loop2 26 0 (by omega) (by omega)
  rw [rowQ_0] at h0
  exact r_at h [(0, .ref (E.1 37)), (1, .int c), (2, .int l), (3, .int (nI 0))] ⟨rfl, rfl, rfl, rfl, trivial⟩ h0
set_option maxRecDepth 100000 in
set_option maxHeartbeats 4000000 in
theorem c_X10_seen (E : En) (I : Mem) (t : Int32) (h4 : (I 15 8).toInt ≤ 400) : Ctr E yX10_seen cX10_seen 4 (some .int) 3 [.ref (E.1 0), .int t] I (qI (fun (r : Int32) (I1 : Mem) => r = (F_seen I t).1 ∧ (F_seen I t).2 = I1)) := by
  refine Ctr.openI (by decide) (Nat.le_of_ble_eq_true rfl) (fun g h hr => ?_)
  have h : Sem cX10_seen RX10 4 (rmL 3) E g := h
  show g I 0 [(0, .ref (E.1 0)), (1, .int t)] []
  refine r_aload_n (pc := 0) h dX10_seen_0 rfl ?_
  refine r_iload_n (pc := 1) h dX10_seen_1 rfl ?_
  refine r_callVI (ci := 10) (pc := 2) h dX10_seen_2 wm_X10_196 ca_X10_wasInLatest rfl (c_X10_wasInLatest E _ _) rfl rfl (Nat.le_of_ble_eq_true rfl) (by decide) (by decide) (by decide) (by decide) (fun r I1 hq => ?_)
  obtain ⟨rfl, rfl⟩ := hq
  refine r_if_ne (pc := 5) h 10 dX10_seen_5 (by decide) (fun c5 => ?_) (fun c5 => ?_)
  · have hv : ¬ I 15 9 = 0 ∧ (0 ≤ t.toInt ∧ t.toInt ≤ (I 15 8).toInt) := by
      simp only [b2i_eq0, Classical.not_not] at c5
      exact c5
    refine r_aload_n (pc := 10) h dX10_seen_10 rfl ?_
    refine gf_X10_53 (pc := 11) h dX10_seen_11 ?_
    refine gf_X10_305 (pc := 14) h dX10_seen_14 (by decide) (by decide) ?_
    refine r_aload_n (pc := 17) h dX10_seen_17 rfl ?_
    refine gf_X10_53 (pc := 18) h dX10_seen_18 ?_
    refine r_iload_n (pc := 21) h dX10_seen_21 rfl ?_
    refine r_iconst (v := 0) (pc := 22) h dX10_seen_22 (by decide) ?_
    refine r_callVI (ci := 1) (pc := 23) h dX10_seen_23 wm_X10_200 ca_X1_partAt rfl (c_X1_partAt E _ _ _ ⟨hv.2.1, by omega⟩ (by decide)) rfl rfl (Nat.le_of_ble_eq_true rfl) (by decide) (by decide) (by decide) (by decide) (fun r I1 hq => ?_)
    obtain ⟨rfl, rfl⟩ := hq
    refine r_isub (pc := 26) h dX10_seen_26 ?_
    refine r_callSI (pc := 27) h dX10_seen_27 wm_X10_308 ca_X2_lineOf (c_X2_lineOf E _ _) rfl rfl (Nat.le_of_ble_eq_true rfl) (by decide) (fun r I1 hq => ?_)
    obtain ⟨rfl, rfl⟩ := hq
    refine r_istore_n (pc := 30) h dX10_seen_30 (by decide) ?_
    refine r_aload_n (pc := 31) h dX10_seen_31 rfl ?_
    refine gf_X10_53 (pc := 32) h dX10_seen_32 ?_
    refine gf_X10_311 (pc := 35) h dX10_seen_35 (by decide) (by decide) ?_
    refine r_aload_n (pc := 38) h dX10_seen_38 rfl ?_
    refine gf_X10_53 (pc := 39) h dX10_seen_39 ?_
    refine r_iload_n (pc := 42) h dX10_seen_42 rfl ?_
    refine r_iconst (v := 1) (pc := 43) h dX10_seen_43 (by decide) ?_
    refine r_callVI (ci := 1) (pc := 44) h dX10_seen_44 wm_X10_200 ca_X1_partAt rfl (c_X1_partAt E _ _ _ ⟨hv.2.1, by omega⟩ (by decide)) rfl rfl (Nat.le_of_ble_eq_true rfl) (by decide) (by decide) (by decide) (by decide) (fun r I1 hq => ?_)
    obtain ⟨rfl, rfl⟩ := hq
    refine r_isub (pc := 47) h dX10_seen_47 ?_
    refine r_callSI (pc := 48) h dX10_seen_48 wm_X10_308 ca_X2_lineOf (c_X2_lineOf E _ _) rfl rfl (Nat.le_of_ble_eq_true rfl) (by decide) (fun r I1 hq => ?_)
    obtain ⟨rfl, rfl⟩ := hq
    refine r_istore_n (pc := 51) h dX10_seen_51 (by decide) ?_
    refine r_aload_n (pc := 52) h dX10_seen_52 rfl ?_
    refine gf_X10_101 (pc := 53) h dX10_seen_53 ?_
    refine r_iload_n (pc := 56) h dX10_seen_56 rfl ?_
    refine r_iload_n (pc := 57) h dX10_seen_57 rfl ?_
    refine r_callVI (ci := 2) (pc := 58) h dX10_seen_58 wm_X10_314 ca_X2_spreadFrom rfl (c_X2_spreadFrom E _ _ _ (lineP_bd _) (lineP_bd _)) rfl rfl (Nat.le_of_ble_eq_true rfl) (by decide) (by decide) (by decide) (by decide) (fun r I1 hq => ?_)
    obtain ⟨rfl, rfl⟩ := hq
    exact hr _ _ _ _ dX10_seen_61 (rfl) (by unfold F_seen; rw [if_pos hv]; exact ⟨rfl, rfl⟩)
  · refine r_iconst (v := -1) (pc := 8) h dX10_seen_8 (by decide) ?_
    exact hr _ _ _ _ dX10_seen_9 (rfl) (by unfold F_seen; rw [if_neg (b2i_eq0.mp (by assumption))]; exact ⟨rfl, rfl⟩)
set_option maxRecDepth 100000 in
set_option maxHeartbeats 4000000 in
theorem c_X11_size (E : En) (I : Mem) (v : Int32)  : Ctr E yX11_size cX11_size 1 (some .int) 1 [.int v] I (qI (fun (r : Int32) (I1 : Mem) => r = absI v ∧ I = I1)) := by
  refine Ctr.openI (by decide) (Nat.le_of_ble_eq_true rfl) (fun g h hr => ?_)
  have h : Sem cX11_size RX11 1 (rmL 1) E g := h
  show g I 0 [(0, .int v)] []
  refine r_iload_n (pc := 0) h dX11_size_0 rfl ?_
  refine r_if_ge (pc := 1) h 9 dX11_size_1 (by decide) (fun c1 => ?_) (fun c1 => ?_)
  · refine r_iload_n (pc := 9) h dX11_size_9 rfl ?_
    exact hr _ _ _ _ dX11_size_10 (rfl) (⟨by unfold absI; first | rw [if_pos c1] | rw [if_neg c1], rfl⟩)
  · refine r_iload_n (pc := 4) h dX11_size_4 rfl ?_
    refine r_ineg (pc := 5) h dX11_size_5 ?_
    refine r_goto (pc := 6) h 10 dX11_size_6 (by decide) ?_
    exact hr _ _ _ _ dX11_size_10 (rfl) (⟨by unfold absI; first | rw [if_pos c1] | rw [if_neg c1], rfl⟩)
set_option maxRecDepth 100000 in
set_option maxHeartbeats 4000000 in
theorem c_X11_column (E : En) (I : Mem) (aw : Int32)  : Ctr E yX11_column cX11_column 2 (some .int) 1 [.int aw] I (qI (fun (r : Int32) (I1 : Mem) => r = colP aw ∧ I = I1)) := by
  refine Ctr.openI (by decide) (Nat.le_of_ble_eq_true rfl) (fun g h hr => ?_)
  have h : Sem cX11_column RX11 2 (rmL 1) E g := h
  show g I 0 [(0, .int aw)] []
  refine r_iload_n (pc := 0) h dX11_column_0 rfl ?_
  refine r_sipush (v := 1000) (pc := 1) h dX11_column_1 (by decide) ?_
  refine r_iadd (pc := 4) h dX11_column_4 ?_
  refine r_istore_n (pc := 5) h dX11_column_5 (by decide) ?_
  refine r_iload_n (pc := 6) h dX11_column_6 rfl ?_
  refine r_if_ge (pc := 7) h 14 dX11_column_7 (by decide) (fun c7 => ?_) (fun c7 => ?_)
  · refine r_iload_n (pc := 14) h dX11_column_14 rfl ?_
    refine r_sipush (v := 2000) (pc := 15) h dX11_column_15 (by decide) ?_
    refine r_icmp_lt (pc := 18) h 25 dX11_column_18 (by decide) (fun c18 => ?_) (fun c18 => ?_)
    · refine r_iload_n (pc := 25) h dX11_column_25 rfl ?_
      refine r_sipush (v := 400) (pc := 26) h dX11_column_26 (by decide) ?_
      refine r_idiv (pc := 29) h dX11_column_29 (by decide) ?_
      exact hr _ _ _ _ dX11_column_30 (rfl) (⟨by unfold colP; first | (rw [if_pos c7]; first | rw [if_pos c18] | rw [if_neg c18]) | rw [if_neg c7], rfl⟩)
    · refine r_iconst (v := 4) (pc := 21) h dX11_column_21 (by decide) ?_
      refine r_goto (pc := 22) h 30 dX11_column_22 (by decide) ?_
      exact hr _ _ _ _ dX11_column_30 (rfl) (⟨by unfold colP; first | (rw [if_pos c7]; first | rw [if_pos c18] | rw [if_neg c18]) | rw [if_neg c7], rfl⟩)
  · refine r_iconst (v := 0) (pc := 10) h dX11_column_10 (by decide) ?_
    refine r_goto (pc := 11) h 30 dX11_column_11 (by decide) ?_
    exact hr _ _ _ _ dX11_column_30 (rfl) (⟨by unfold colP; first | (rw [if_pos c7]; first | rw [if_pos c18] | rw [if_neg c18]) | rw [if_neg c7], rfl⟩)
