/-! choose of both: pure part -/
abbrev Sg : Type := Int32 × (Nat → Int32)
def ch4 (s l a st : Int32) : Nat → Int32 := fun j => if j = 0 then s else if j = 1 then l else if j = 2 then a else st
def chS (n s l a st : Int32) (z : Sg) : Sg := if z.1 < n then (n, ch4 s l a st) else z
theorem ch_t {n s l a st : Int32} {z : Sg} (h : z.1 < n) : chS n s l a st z = (n, ch4 s l a st) := if_pos h
theorem ch_f {n s l a st : Int32} {z : Sg} (h : ¬ z.1 < n) : chS n s l a st z = z := if_neg h
def lnK (k : Nat) : Int32 := leanT (k / 16)
def anK (k : Nat) : Int32 := nI (45 * (k / 2 % 8))
def stK (k : Nat) : Int32 := strT (k % 2)
def chK (f : Nat → Int32) (s : Int32) : Nat → Sg → Sg
  | 0, z => z
  | k + 1, z => chS (f k) s (lnK k) (anK k) (stK k) (chK f s k z)
theorem chK_s (f : Nat → Int32) (s : Int32) (k : Nat) (z : Sg) : chK f s (k + 1) z = chS (f k) s (lnK k) (anK k) (stK k) (chK f s k z) := rfl
def chA (may : Nat → Bool) (f : Nat → Nat → Int32) : Nat → Sg → Sg
  | 0, z => z
  | i + 1, z => if may i = true then chK (f i) (nI i) 48 (chA may f i z) else chA may f i z
theorem chA_t {may : Nat → Bool} {f : Nat → Nat → Int32} {i : Nat} {z : Sg} (h : may i = true) : chA may f (i + 1) z = chK (f i) (nI i) 48 (chA may f i z) := if_pos h
theorem chA_f {may : Nat → Bool} {f : Nat → Nat → Int32} {i : Nat} {z : Sg} (h : may i = false) : chA may f (i + 1) z = chA may f i z := if_neg (by rw [h]; decide)
abbrev bitQ (x : Int32) (i : Nat) : Prop := (x >>> (nI i &&& 31)) &&& 1 = 1
theorem bitQ_all : ∀ k, k < 512 → ∀ i, i < 9 → (bitQ (nI k) i ↔ k.testBit i = true) := by decide +kernel
theorem bit_cnt : ∀ W, W ≤ 8 → ∀ k, k < 2 ^ W → cntP (fun w => decide (bitQ (nI k) w)) W = pcN k := by decide +kernel
theorem nI_and (a b : Nat) : nI a &&& nI b = nI (a &&& b) := by
  apply Int32.toBitVec_inj.1
  show BitVec.ofNat 32 a &&& BitVec.ofNat 32 b = BitVec.ofNat 32 (a &&& b)
  apply BitVec.eq_of_getLsbD_eq
  intro i hi
  simp [hi]
theorem bag_up : ∀ n, n < 9 → ∀ k, k < 2 ^ n → ∀ i, i < 9 → (k + 2 ^ n).testBit i = (if i = n then true else k.testBit i) := by decide +kernel
theorem bag_bit (p : Nat → Bool) : ∀ n, n ≤ 9 → ∀ i, i < 9 → (bagN p n).testBit i = (decide (i < n) && p i)
  | 0, _, i, _ => by
    show (0 : Nat).testBit i = _
    rw [Nat.zero_testBit]
    simp
  | n + 1, h, i, hi => by
    have ih := bag_bit p n (by omega) i hi
    by_cases q : p n = true
    · rw [show bagN p (n + 1) = bagN p n + 2 ^ n from if_pos q, bag_up n (by omega) _ (bagN_lt p n) i hi]
      by_cases e : i = n
      · rw [if_pos e, e, q]
        simp
      · rw [if_neg e, ih]
        have : (decide (i < n + 1)) = decide (i < n) := by
          by_cases z : i < n
          · simp [z]
            omega
          · simp [z]
            omega
        rw [this]
    · rw [show bagN p (n + 1) = bagN p n from if_neg q, ih]
      by_cases e : i = n
      · have q2 : p n = false := by revert q; cases p n <;> simp
        rw [e, q2]
        simp
      · have : (decide (i < n + 1)) = decide (i < n) := by
          by_cases z : i < n
          · simp [z]
            omega
          · simp [z]
            omega
        rw [this]
/-- bits of what is asked for and in the bag -/
theorem may_bit {so : Int32} {p : Nat → Bool} {n i : Nat} (hso : 0 ≤ so.toInt ∧ so.toInt < 512) (hn : n ≤ 9) (hi : i < n) : bitQ (so &&& nI (bagN p n)) i ↔ (decide (bitQ so i) && p i) = true := by
  obtain ⟨k, hk, rfl⟩ : ∃ k, k < 512 ∧ so = nI k := ⟨so.toNatClampNeg, by rw [tn]; omega, (nI_ofx hso.1).symm⟩
  have hb := bag512 p hn
  rw [nI_and, bitQ_all _ (Nat.lt_of_le_of_lt Nat.and_le_left hk) i (by omega), Nat.testBit_and, bag_bit p n hn i (by omega), Bool.and_eq_true, Bool.and_eq_true, Bool.and_eq_true, decide_eq_true_eq, decide_eq_true_eq, bitQ_all k hk i (by omega)]
  constructor
  · intro ⟨a, _, c⟩
    exact ⟨a, c⟩
  · intro ⟨a, c⟩
    exact ⟨a, hi, c⟩
theorem may_zero {so : Int32} {p : Nat → Bool} {n : Nat} (hso : 0 ≤ so.toInt ∧ so.toInt < 512) (hn : n ≤ 9) (hs2 : so.toInt < ((2 ^ n : Nat) : Int)) : so &&& nI (bagN p n) = 0 ↔ ∀ i, i < n → (decide (bitQ so i) && p i) = false := by
  constructor
  · intro h i hi
    have h9 := may_bit (p := p) hso hn hi
    rw [h] at h9
    have hz : ¬ bitQ 0 i := by
      have : ∀ i, i < 9 → ¬ bitQ 0 i := by decide +kernel
      exact this i (by omega)
    cases hc : (decide (bitQ so i) && p i)
    · rfl
    · exact absurd (h9.mpr hc) hz
  · intro h
    obtain ⟨k, hk, hk2, rfl⟩ : ∃ k, k < 512 ∧ k < 2 ^ n ∧ so = nI k := ⟨so.toNatClampNeg, by rw [tn]; omega, by rw [tn]; omega, (nI_ofx hso.1).symm⟩
    rw [nI_and]
    have e : k &&& bagN p n = 0 := by
      apply Nat.eq_of_testBit_eq
      intro i
      rw [Nat.testBit_and, Nat.zero_testBit]
      by_cases hi : i < n
      · rw [bag_bit p n hn i (by omega)]
        have h9 := h i hi
        have hb := bitQ_all k hk i (by omega)
        cases ht : k.testBit i
        · rfl
        · rw [decide_eq_true (hb.mpr ht)] at h9
          have h9 : p i = false := h9
          rw [h9]
          simp
      · have : k.testBit i = false := Nat.testBit_lt_two_pow (Nat.lt_of_lt_of_le hk2 (Nat.pow_le_pow_right (by decide) (by omega)))
        rw [this]
        rfl
    rw [e]
    rfl
theorem shl_pow : ∀ c, c ≤ 9 → ((1 : Int32) <<< (nI c &&& 31)).toInt = ((2 ^ c : Nat) : Int) := by decide +kernel
theorem shl_n {c : Int32} (h : 0 ≤ c.toInt ∧ c.toInt ≤ 9) : ((1 : Int32) <<< (c &&& 31)).toInt = ((2 ^ c.toNatClampNeg : Nat) : Int) := by
  have := shl_pow c.toNatClampNeg (by rw [tn]; omega)
  rw [nI_ofx h.1] at this
  exact this
theorem pow512 {c : Nat} (h : c ≤ 9) : 2 ^ c ≤ 512 := Nat.pow_le_pow_right (by decide) h
theorem pow256 {c : Nat} (h : c ≤ 8) : 2 ^ c ≤ 256 := Nat.pow_le_pow_right (by decide) h
theorem cnt_gap {p q : Nat → Bool} (h : ∀ i, p i = true → q i = true) (i : Nat) : ∀ d, cntP p (i + d) + cntP q i ≤ cntP p i + cntP q (i + d)
  | 0 => by
    rw [Nat.add_zero]
    omega
  | d + 1 => by
    have ih := cnt_gap h i d
    rw [← Nat.add_assoc]
    show (if p (i + d) = true then cntP p (i + d) + 1 else cntP p (i + d)) + _ ≤ _ + (if q (i + d) = true then cntP q (i + d) + 1 else cntP q (i + d))
    by_cases c : p (i + d) = true
    · rw [if_pos c, if_pos (h _ c)]
      omega
    · rw [if_neg c]
      split <;> omega
theorem cnt_le (q : Nat → Bool) (i : Nat) : ∀ d, cntP q i ≤ cntP q (i + d)
  | 0 => Nat.le_refl _
  | d + 1 => by
    have ih := cnt_le q i d
    rw [← Nat.add_assoc]
    show _ ≤ (if q (i + d) = true then cntP q (i + d) + 1 else cntP q (i + d))
    split <;> omega
theorem cnt_congr {p q : Nat → Bool} : ∀ n, (∀ i, i < n → p i = q i) → cntP p n = cntP q n
  | 0, _ => rfl
  | n + 1, h => by
    show (if p n = true then cntP p n + 1 else cntP p n) = (if q n = true then cntP q n + 1 else cntP q n)
    rw [h n (by omega), cnt_congr n (fun i hi => h i (by omega))]
theorem nI_m1 {n : Nat} (h : 1 ≤ n) : nI n + (-1) = nI (n - 1) := by
  obtain ⟨m, rfl⟩ : ∃ m, n = m + 1 := ⟨n - 1, by omega⟩
  rw [nI_succ, Int32.add_assoc, show (1 : Int32) + (-1) = 0 by decide, Int32.add_zero]
  rfl
abbrev qB (wb : Int32) : Nat → Bool := fun w => decide (bitQ wb w)
abbrev bpV (Z : Int32 → FlR) (wb : Int32) : Nat → Bool := fun w => decide (bitQ wb w) && decide ((Z (nI w)).1 = 2)
abbrev bkF (I : Mem) (wb : Int32) (s : Int32) (k : Nat) : Int32 := nI (cntP (bpV (fun w => FF I s (I (41 + 2 * s.toNatClampNeg) 5) w (lnK k) (anK k) (stK k) 800) wb) (I 0 4).toNatClampNeg)
abbrev bkR (I : Mem) (wb : Int32) (s : Int32) (k : Nat) : Int32 := nI (cntP (bpV (fun w => RR I s (I 158 s.toNatClampNeg) w (lnK k) (anK k) (stK k) 800) wb) 8)
abbrev setP (so c : Int32) : Prop := 0 < so.toInt ∧ so.toInt < ((2 ^ c.toNatClampNeg : Nat) : Int)
abbrev fr19 (I J : Mem) : Prop := (∀ a, a ≠ 17 → a ≠ 19 → J a = I a) ∧ (∀ j, j ≠ 5 → J 19 j = I 19 j)
theorem fr19_tr {I J K : Mem} (h : fr19 I J) (h2 : fr19 J K) : fr19 I K := ⟨fun a a1 a2 => (h2.1 a a1 a2).trans (h.1 a a1 a2), fun j j1 => (h2.2 j j1).trans (h.2 j j1)⟩
abbrev aim19 (I : Mem) : Prop := (0 ≤ (I 19 0).toInt ∧ (I 19 0).toInt < 9) ∧ (0 ≤ (I 19 1).toInt ∧ (I 19 1).toInt ≤ 90) ∧ (30 ≤ (I 19 3).toInt ∧ (I 19 3).toInt ≤ 250) ∧ (100 ≤ (I 19 4).toInt ∧ (I 19 4).toInt ≤ 1000)
abbrev z19 (I : Mem) : Int32 → FlR := fun w => FF I (I 19 0) (I (41 + 2 * (I 19 0).toNatClampNeg) 5) w (I 19 1) (I 19 2) (I 19 3) (I 19 4)
abbrev bp19 (I : Mem) (wb : Int32) : Nat → Bool := bpV (z19 I) wb
abbrev WN (I : Mem) : Nat := (I 0 4).toNatClampNeg
abbrev fr20 (I J : Mem) : Prop := ∀ a, a ≠ 17 → a ≠ 19 → a ≠ 20 → J a = I a
theorem fr20_FF {I J : Mem} (h : fr20 I J) (hc : 0 ≤ (I 7 1).toInt ∧ (I 7 1).toInt ≤ 6) : FF J = FF I := FF_congr (fun a ha => h a (by omega) (by omega) (by omega)) hc
theorem fr20_ok {I J : Mem} (h : fr20 I J) (hF : FlOkF I) : FlOkF J := FlOkF_of (fun a ha => h a (by omega) (by omega) (by omega)) hF
theorem bkF_fr {I J : Mem} (h : fr20 I J) (hc : 0 ≤ (I 7 1).toInt ∧ (I 7 1).toInt ≤ 6) (wb s : Int32) (k : Nat) : bkF J wb s k = bkF I wb s k := by
  unfold bkF bpV
  rw [fr20_FF h hc, h (41 + 2 * s.toNatClampNeg) (by omega) (by omega) (by omega), h 0 (by decide) (by decide) (by decide)]
def remC (I : Mem) : Mem := upm (upm (upm (upm I 20 0 (I 19 0)) 20 1 (I 19 1)) 20 2 (I 19 2)) 20 3 (I 19 3)
theorem remC_ne (I : Mem) {a : Nat} (h : a ≠ 20) : remC I a = I a := by
  unfold remC
  rw [upm_ne _ _ _ h, upm_ne _ _ _ h, upm_ne _ _ _ h, upm_ne _ _ _ h]
theorem remC_at (I : Mem) {j : Nat} (h : j < 4) : remC I 20 j = ch4 (I 19 0) (I 19 1) (I 19 2) (I 19 3) j := by
  unfold remC ch4
  rcases (show j = 0 ∨ j = 1 ∨ j = 2 ∨ j = 3 by omega) with e | e | e | e <;> subst e <;> rfl
theorem takeM_at (I : Mem) (k : Nat) (s l a st sp w : Int32) : takeM I k s l a st sp w k 0 = s ∧ takeM I k s l a st sp w k 1 = l ∧ takeM I k s l a st sp w k 2 = a ∧ takeM I k s l a st sp w k 3 = st ∧ takeM I k s l a st sp w k 4 = sp ∧ takeM I k s l a st sp w k 5 = w := by
  refine ⟨?_, ?_, ?_, ?_, ?_, ?_⟩ <;> simp [takeM, upm]
theorem leanT_bd (i : Nat) : 0 ≤ (leanT i).toInt ∧ (leanT i).toInt ≤ 90 := by
  unfold leanT
  split
  · decide
  · split <;> decide
theorem strT_bd (i : Nat) : 30 ≤ (strT i).toInt ∧ (strT i).toInt ≤ 250 := by
  unfold strT
  split <;> decide
theorem e800 : (800 : Int32).toInt = 800 := by decide
theorem e3i : (3 : Int32).toInt = 3 := by decide
theorem e2i : (2 : Int32).toInt = 2 := by decide
theorem e48 : (48 : Int32).toInt = 48 := by decide
theorem kK {i j l : Nat} (hj : j < 8) (hl : l < 2) : lnK (16 * i + 2 * j + l) = leanT i ∧ anK (16 * i + 2 * j + l) = nI (45 * j) ∧ stK (16 * i + 2 * j + l) = strT l := by
  unfold lnK anK stK
  rw [show (16 * i + 2 * j + l) / 16 = i by omega, show (16 * i + 2 * j + l) / 2 % 8 = j by omega, show (16 * i + 2 * j + l) % 2 = l by omega]
  exact ⟨rfl, rfl, rfl⟩
theorem kR_all : ∀ k, k < 48 → (20 + 25 * (nI k / 16) : Int32) = lnK k ∧ (45 * (nI k / 2 - nI k / 2 / 8 * 8) : Int32) = anK k ∧ (80 + 80 * (nI k - nI k / 2 * 2) : Int32) = stK k := by decide +kernel
theorem e45 : (45 : Int32).toInt = 45 := by decide
set_option maxRecDepth 100000 in
set_option maxHeartbeats 1000000 in
theorem c_X10_isSetOf (E : En) (I : Mem) (so : Int32) (c : Int32) (hc : 0 ≤ c.toInt ∧ c.toInt ≤ 9) : Ctr E yX10_isSetOf cX10_isSetOf 2 (some .boolean) 1 [.int so, .int c] I (qI (fun (r : Int32) (I1 : Mem) => r = b2i (setP so c) ∧ I = I1)) := by
  refine Ctr.openI (by decide) (Nat.le_of_ble_eq_true rfl) (fun g h hr => ?_)
  have h : Sem cX10_isSetOf RX10 2 (rmL 1) E g := h
  show g I 0 [(0, .int so), (1, .int c)] []
  have hs_ := shl_n hc
  refine r_iload_n (pc := 0) h dX10_isSetOf_0 rfl ?_
  refine r_if_le (pc := 1) h 15 dX10_isSetOf_1 (by decide) (fun c1 => ?_) (fun c1 => ?_)
  · refine r_iconst (v := 0) (pc := 15) h dX10_isSetOf_15 (by decide) ?_
    exact hr _ _ _ _ dX10_isSetOf_16 (by first | rfl | decide | exact b2i_nar) (⟨by first | (rw [eq1_b2i]; refine ⟨?_, ?_⟩; (rw [Int32.le_iff_toInt_le, z32] at c1; omega); (rw [Int32.le_iff_toInt_le, hs_] at c8; omega)) | (rw [eq0_b2i]; intro q_; rw [Int32.le_iff_toInt_le, z32] at c1; have := q_.1; omega) | (rw [eq0_b2i]; intro q_; rw [Int32.le_iff_toInt_le, hs_] at c8; have := q_.2; omega), rfl⟩)
  · refine r_iload_n (pc := 4) h dX10_isSetOf_4 rfl ?_
    refine r_iconst (v := 1) (pc := 5) h dX10_isSetOf_5 (by decide) ?_
    refine r_iload_n (pc := 6) h dX10_isSetOf_6 rfl ?_
    refine r_ishl (pc := 7) h dX10_isSetOf_7 ?_
    refine r_icmp_ge (pc := 8) h 15 dX10_isSetOf_8 (by decide) (fun c8 => ?_) (fun c8 => ?_)
    · refine r_iconst (v := 0) (pc := 15) h dX10_isSetOf_15 (by decide) ?_
      exact hr _ _ _ _ dX10_isSetOf_16 (by first | rfl | decide | exact b2i_nar) (⟨by first | (rw [eq1_b2i]; refine ⟨?_, ?_⟩; (rw [Int32.le_iff_toInt_le, z32] at c1; omega); (rw [Int32.le_iff_toInt_le, hs_] at c8; omega)) | (rw [eq0_b2i]; intro q_; rw [Int32.le_iff_toInt_le, z32] at c1; have := q_.1; omega) | (rw [eq0_b2i]; intro q_; rw [Int32.le_iff_toInt_le, hs_] at c8; have := q_.2; omega), rfl⟩)
    · refine r_iconst (v := 1) (pc := 11) h dX10_isSetOf_11 (by decide) ?_
      refine r_goto (pc := 12) h 16 dX10_isSetOf_12 (by decide) ?_
      exact hr _ _ _ _ dX10_isSetOf_16 (by first | rfl | decide | exact b2i_nar) (⟨by first | (rw [eq1_b2i]; refine ⟨?_, ?_⟩; (rw [Int32.le_iff_toInt_le, z32] at c1; omega); (rw [Int32.le_iff_toInt_le, hs_] at c8; omega)) | (rw [eq0_b2i]; intro q_; rw [Int32.le_iff_toInt_le, z32] at c1; have := q_.1; omega) | (rw [eq0_b2i]; intro q_; rw [Int32.le_iff_toInt_le, hs_] at c8; have := q_.2; omega), rfl⟩)
set_option maxRecDepth 100000 in
set_option maxHeartbeats 1000000 in
theorem c_X10_rememberChoice (E : En) (I : Mem)   : Ctr E yX10_rememberChoice cX10_rememberChoice 1 none 1 [.ref (E.1 0)] I (qV (fun I1 : Mem => I1 = remC I)) := by
  refine Ctr.openV (by decide) (Nat.le_of_ble_eq_true rfl) (fun g h hr => ?_)
  have h : Sem cX10_rememberChoice RX10 1 (rmL 1) E g := h
  show g I 0 [(0, .ref (E.1 0))] []
  refine r_aload_n (pc := 0) h dX10_rememberChoice_0 rfl ?_
  refine gf_X10_67 (pc := 1) h dX10_rememberChoice_1 ?_
  refine r_iconst (v := 0) (pc := 4) h dX10_rememberChoice_4 (by decide) ?_
  refine r_aload_n (pc := 5) h dX10_rememberChoice_5 rfl ?_
  refine gf_X10_63 (pc := 6) h dX10_rememberChoice_6 ?_
  refine gf_X10_222 (pc := 9) h dX10_rememberChoice_9 (by decide) (by decide) ?_
  refine r_iastL (j := 0) (pc := 12) h dX10_rememberChoice_12 (by decide) (by decide) (by decide) (vin (by decide) (by decide)) ?_
  refine r_aload_n (pc := 13) h dX10_rememberChoice_13 rfl ?_
  refine gf_X10_67 (pc := 14) h dX10_rememberChoice_14 ?_
  refine r_iconst (v := 1) (pc := 17) h dX10_rememberChoice_17 (by decide) ?_
  refine r_aload_n (pc := 18) h dX10_rememberChoice_18 rfl ?_
  refine gf_X10_63 (pc := 19) h dX10_rememberChoice_19 ?_
  refine gf_X10_399 (pc := 22) h dX10_rememberChoice_22 (by decide) (by decide) ?_
  refine r_iastL (j := 1) (pc := 25) h dX10_rememberChoice_25 (by decide) (by decide) (by decide) (vin (by decide) (by decide)) ?_
  refine r_aload_n (pc := 26) h dX10_rememberChoice_26 rfl ?_
  refine gf_X10_67 (pc := 27) h dX10_rememberChoice_27 ?_
  refine r_iconst (v := 2) (pc := 30) h dX10_rememberChoice_30 (by decide) ?_
  refine r_aload_n (pc := 31) h dX10_rememberChoice_31 rfl ?_
  refine gf_X10_63 (pc := 32) h dX10_rememberChoice_32 ?_
  refine gf_X10_402 (pc := 35) h dX10_rememberChoice_35 (by decide) (by decide) ?_
  refine r_iastL (j := 2) (pc := 38) h dX10_rememberChoice_38 (by decide) (by decide) (by decide) (vin (by decide) (by decide)) ?_
  refine r_aload_n (pc := 39) h dX10_rememberChoice_39 rfl ?_
  refine gf_X10_67 (pc := 40) h dX10_rememberChoice_40 ?_
  refine r_iconst (v := 3) (pc := 43) h dX10_rememberChoice_43 (by decide) ?_
  refine r_aload_n (pc := 44) h dX10_rememberChoice_44 rfl ?_
  refine gf_X10_63 (pc := 45) h dX10_rememberChoice_45 ?_
  refine gf_X10_405 (pc := 48) h dX10_rememberChoice_48 (by decide) (by decide) ?_
  refine r_iastL (j := 3) (pc := 51) h dX10_rememberChoice_51 (by decide) (by decide) (by decide) (vin (by decide) (by decide)) ?_
  exact hr _ _ _ dX10_rememberChoice_52 (rfl)
set_option maxRecDepth 100000 in
set_option maxHeartbeats 1000000 in
theorem c_X10_backsIn (E : En) (I : Mem) (wb : Int32) (tb : Int32) (hcw : 0 ≤ (I 0 4).toInt ∧ (I 0 4).toInt ≤ 8) (hwb : setP wb (I 0 4)) (ha : aim19 I) (hF : FlOkF I) : Ctr E yX10_backsIn cX10_backsIn 6 (some .int) 5 [.ref (E.1 0), .int wb, .int tb] I (qI (fun (r : Int32) (I1 : Mem) => (r = nI (cntP (bp19 I wb) (WN I)) ∨ (r ≤ tb ∧ nI (cntP (bp19 I wb) (WN I)) ≤ tb)) ∧ fr19 I I1)) := by
  refine Ctr.openI (by decide) (Nat.le_of_ble_eq_true rfl) (fun g h hr => ?_)
  have h : Sem cX10_backsIn RX10 6 (rmL 5) E g := h
  show g I 0 [(0, .ref (E.1 0)), (1, .int wb), (2, .int tb)] []
  have hW8 : WN I ≤ 8 := by show (I 0 4).toNatClampNeg ≤ 8; rw [tn]; omega
  have hWt : (WN I : Int) = (I 0 4).toInt := tnI _ hcw.1
  have hwb2 : 0 < wb.toInt ∧ wb.toInt < ((2 ^ WN I : Nat) : Int) := hwb
  refine r_iconst (v := 0) (pc := 0) h dX10_backsIn_0 (by decide) ?_
  refine r_istore_n (pc := 1) h dX10_backsIn_1 (by decide) ?_
  refine r_iload_n (pc := 2) h dX10_backsIn_2 rfl ?_
  refine r_callSI (pc := 3) h dX10_backsIn_3 wm_X10_254 ca_J6_bitCount_0f7a4 (c_J6_bitCount_0f7a4 E _ _) rfl rfl (Nat.le_of_ble_eq_true rfl) (by decide) (fun r I1 hq => ?_)
  obtain ⟨rfl, rfl⟩ := hq
  refine r_istore (pc := 6) h dX10_backsIn_6 (by decide) ?_
  refine r_iconst (v := 0) (pc := 8) h dX10_backsIn_8 (by decide) ?_
  refine r_istore (pc := 9) h dX10_backsIn_9 (by decide) ?_
  have loop11 : ∀ (m i : Nat) (J_ : Mem), fr19 I J_ → i ≤ WN I → WN I + 1 ≤ i + m → g J_ 11 [(0, .ref (E.1 0)), (1, .int wb), (2, .int tb), (3, .int (nI (cntP (bp19 I wb) i))), (4, .int (nI (cntP (qB wb) (WN I) - cntP (qB wb) i))), (5, .int (nI i))] [] := by
    intro m
    induction m with
    | zero =>
      intro i J_ hfr h1 h2
      omega
    | succ m ih =>
      intro i J_ hfr hi him
      have ei := nI_tI (i := i) (by omega)
      have hJ0 : J_ 0 4 = I 0 4 := by rw [hfr.1 0 (by decide) (by decide)]
      have hb1 := cntP_le (bp19 I wb) i
      have hb2 := cntP_le (qB wb) (WN I)
      have hb3 := cntP_le (qB wb) i
      have hle_ : cntP (qB wb) i ≤ cntP (qB wb) (WN I) := by
        have := cnt_le (qB wb) i (WN I - i)
        rw [show i + (WN I - i) = WN I by omega] at this
        exact this
      have en1 := nI_tI (i := cntP (bp19 I wb) i) (by omega)
      have en2 := nI_tI (i := cntP (qB wb) (WN I) - cntP (qB wb) i) (by omega)
      refine r_iload (pc := 11) h dX10_backsIn_11 rfl ?_
      refine r_aload_n (pc := 13) h dX10_backsIn_13 rfl ?_
      refine gf_X10_33 (pc := 14) h dX10_backsIn_14 ?_
      rw [hJ0]
      refine r_icmp_ge (pc := 17) h 70 dX10_backsIn_17 (by decide) (fun c17 => ?_) (fun c17 => ?_)
      · have fin70 : (nI (cntP (bp19 I wb) i) = nI (cntP (bp19 I wb) (WN I)) ∨ (nI (cntP (bp19 I wb) i) ≤ tb ∧ nI (cntP (bp19 I wb) (WN I)) ≤ tb)) ∧ fr19 I J_ := by
          refine ⟨?_, hfr⟩
          first
          | (left
             have hge : i = WN I := by rw [Int32.le_iff_toInt_le, ei] at c17; omega
             rw [hge]
             done)
          | (right
             have es_ : (nI (cntP (bp19 I wb) i) + nI (cntP (qB wb) (WN I) - cntP (qB wb) i)).toInt = (cntP (bp19 I wb) i : Int) + ((cntP (qB wb) (WN I) - cntP (qB wb) i : Nat) : Int) := by rw [tI_add (by rw [en1, en2]; omega) (by rw [en1, en2]; omega), en1, en2]
             rw [Int32.le_iff_toInt_le, es_] at c25
             have hg_ := cnt_gap (p := bp19 I wb) (q := qB wb) (fun z_ hz_ => by rw [Bool.and_eq_true] at hz_; exact hz_.1) i (WN I - i)
             rw [show i + (WN I - i) = WN I by omega] at hg_
             have hb4 := cntP_le (bp19 I wb) (WN I)
             rw [Int32.le_iff_toInt_le, Int32.le_iff_toInt_le, en1, nI_tI (by omega)]
             omega)
        refine r_iload_n (pc := 70) h dX10_backsIn_70 rfl ?_
        exact hr _ _ _ _ dX10_backsIn_71 rfl fin70
      · refine r_iload_n (pc := 20) h dX10_backsIn_20 rfl ?_
        refine r_iload (pc := 21) h dX10_backsIn_21 rfl ?_
        refine r_iadd (pc := 23) h dX10_backsIn_23 ?_
        refine r_iload_n (pc := 24) h dX10_backsIn_24 rfl ?_
        refine r_icmp_le (pc := 25) h 70 dX10_backsIn_25 (by decide) (fun c25 => ?_) (fun c25 => ?_)
        · have fin70 : (nI (cntP (bp19 I wb) i) = nI (cntP (bp19 I wb) (WN I)) ∨ (nI (cntP (bp19 I wb) i) ≤ tb ∧ nI (cntP (bp19 I wb) (WN I)) ≤ tb)) ∧ fr19 I J_ := by
            refine ⟨?_, hfr⟩
            first
            | (left
               have hge : i = WN I := by rw [Int32.le_iff_toInt_le, ei] at c17; omega
               rw [hge]
               done)
            | (right
               have es_ : (nI (cntP (bp19 I wb) i) + nI (cntP (qB wb) (WN I) - cntP (qB wb) i)).toInt = (cntP (bp19 I wb) i : Int) + ((cntP (qB wb) (WN I) - cntP (qB wb) i : Nat) : Int) := by rw [tI_add (by rw [en1, en2]; omega) (by rw [en1, en2]; omega), en1, en2]
               rw [Int32.le_iff_toInt_le, es_] at c25
               have hg_ := cnt_gap (p := bp19 I wb) (q := qB wb) (fun z_ hz_ => by rw [Bool.and_eq_true] at hz_; exact hz_.1) i (WN I - i)
               rw [show i + (WN I - i) = WN I by omega] at hg_
               have hb4 := cntP_le (bp19 I wb) (WN I)
               rw [Int32.le_iff_toInt_le, Int32.le_iff_toInt_le, en1, nI_tI (by omega)]
               omega)
          refine r_iload_n (pc := 70) h dX10_backsIn_70 rfl ?_
          exact hr _ _ _ _ dX10_backsIn_71 rfl fin70
        · have hlt : i < WN I := by rw [Int32.le_iff_toInt_le, ei] at c17; omega
          refine r_iload_n (pc := 28) h dX10_backsIn_28 rfl ?_
          refine r_iload (pc := 29) h dX10_backsIn_29 rfl ?_
          refine r_ishr (pc := 31) h dX10_backsIn_31 ?_
          refine r_iconst (v := 1) (pc := 32) h dX10_backsIn_32 (by decide) ?_
          refine r_iand (pc := 33) h dX10_backsIn_33 ?_
          refine r_iconst (v := 1) (pc := 34) h dX10_backsIn_34 (by decide) ?_
          refine r_icmp_ne (pc := 35) h 64 dX10_backsIn_35 (by decide) (fun c35 => ?_) (fun c35 => ?_)
          · refine r_iinc (v := 1) (pc := 64) h dX10_backsIn_64 rfl (by decide) (by decide) ?_
            refine r_goto (pc := 67) h 11 dX10_backsIn_67 (by decide) ?_
            rw [← nI_succ i]
            have hle2_ : cntP (qB wb) (i + 1) ≤ cntP (qB wb) (WN I) := by
              have := cnt_le (qB wb) (i + 1) (WN I - (i + 1))
              rw [show i + 1 + (WN I - (i + 1)) = WN I by omega] at this
              exact this
            first
            | (have e8_ : nI (cntP (bp19 I wb) (i + 1)) = nI (cntP (bp19 I wb) i) + 1 := cnt_t (by rw [Bool.and_eq_true]; exact ⟨decide_eq_true c35, decide_eq_true (hz1.symm.trans (b2i_ne c58))⟩)
               have e9_ : nI (cntP (qB wb) (WN I) - cntP (qB wb) (i + 1)) = nI (cntP (qB wb) (WN I) - cntP (qB wb) i) + (-1) := by
                 have e7_ : cntP (qB wb) (i + 1) = cntP (qB wb) i + 1 := if_pos (decide_eq_true c35)
                 rw [nI_m1 (by omega), e7_, Nat.sub_sub]
               exact r_at h [(0, .ref (E.1 0)), (1, .int wb), (2, .int tb), (3, .int (nI (cntP (bp19 I wb) (i + 1)))), (4, .int (nI (cntP (qB wb) (WN I) - cntP (qB wb) (i + 1)))), (5, .int (nI (i + 1)))] ⟨rfl, rfl, rfl, by rw [e8_]; rfl, by rw [e9_]; rfl, rfl, trivial⟩ (ih (i + 1) _ hfr2 (by omega) (by omega)))
            | (have e8_ : nI (cntP (bp19 I wb) (i + 1)) = nI (cntP (bp19 I wb) i) := cnt_f (by rw [Bool.and_eq_false_iff]; exact Or.inr (decide_eq_false (fun q_ => (b2i_eq0.mp c58) (hz1.trans q_))))
               have e9_ : nI (cntP (qB wb) (WN I) - cntP (qB wb) (i + 1)) = nI (cntP (qB wb) (WN I) - cntP (qB wb) i) + (-1) := by
                 have e7_ : cntP (qB wb) (i + 1) = cntP (qB wb) i + 1 := if_pos (decide_eq_true c35)
                 rw [nI_m1 (by omega), e7_, Nat.sub_sub]
               exact r_at h [(0, .ref (E.1 0)), (1, .int wb), (2, .int tb), (3, .int (nI (cntP (bp19 I wb) (i + 1)))), (4, .int (nI (cntP (qB wb) (WN I) - cntP (qB wb) (i + 1)))), (5, .int (nI (i + 1)))] ⟨rfl, rfl, rfl, by rw [e8_]; rfl, by rw [e9_]; rfl, rfl, trivial⟩ (ih (i + 1) _ hfr2 (by omega) (by omega)))
            | (have e8_ : nI (cntP (bp19 I wb) (i + 1)) = nI (cntP (bp19 I wb) i) := cnt_f (by rw [Bool.and_eq_false_iff]; exact Or.inl (decide_eq_false c35))
               have e9_ : nI (cntP (qB wb) (WN I) - cntP (qB wb) (i + 1)) = nI (cntP (qB wb) (WN I) - cntP (qB wb) i) := by
                 have e7_ : cntP (qB wb) (i + 1) = cntP (qB wb) i := if_neg (by rw [decide_eq_true_eq]; exact c35)
                 rw [e7_]
               exact r_at h [(0, .ref (E.1 0)), (1, .int wb), (2, .int tb), (3, .int (nI (cntP (bp19 I wb) (i + 1)))), (4, .int (nI (cntP (qB wb) (WN I) - cntP (qB wb) (i + 1)))), (5, .int (nI (i + 1)))] ⟨rfl, rfl, rfl, by rw [e8_]; rfl, by rw [e9_]; rfl, rfl, trivial⟩ (ih (i + 1) _ hfr (by omega) (by omega)))
          · refine r_iinc (v := -1) (pc := 38) h dX10_backsIn_38 rfl (by decide) (by decide) ?_
            refine r_aload_n (pc := 41) h dX10_backsIn_41 rfl ?_
            refine gf_X10_63 (pc := 42) h dX10_backsIn_42 ?_
            refine r_iload (pc := 45) h dX10_backsIn_45 rfl ?_
            refine pf_X10_369 (pc := 47) h dX10_backsIn_47 (by decide) (by decide) ?_
            refine r_nmG (fun K_ hK => ?_)
            have hK1 : ∀ a, a ≠ 19 → K_ a = J_ a := fun a ha_ => by rw [hK, upm_ne _ _ _ ha_]
            have hK5 : K_ 19 5 = nI i := by rw [hK, upm_eq]
            have hKj : ∀ j, j ≠ 5 → K_ 19 j = I 19 j := fun j j5 => by rw [hK, upm_at, if_neg (fun q_ => j5 q_.2), hfr.2 j j5]
            have haJ : AimOk K_ 19 := by
              unfold AimOk
              rw [hKj 0 (by decide), hKj 1 (by decide), hKj 3 (by decide), hKj 4 (by decide), hK5]
              exact ⟨ha.1, ha.2.1, ha.2.2.1, ha.2.2.2, Or.inr ⟨by rw [ei]; omega, by rw [ei]; omega⟩⟩
            refine r_aload_n (pc := 50) h dX10_backsIn_50 rfl ?_
            refine r_aload_n (pc := 51) h dX10_backsIn_51 rfl ?_
            refine gf_X10_63 (pc := 52) h dX10_backsIn_52 ?_
            refine r_callVI (ci := 10) (pc := 55) h dX10_backsIn_55 wm_X10_225 ca_X10_comesBack rfl (c_X10_comesBack E _ _ (by decide) (by decide) haJ (FlOkF_of (fun a ha_ => (hK1 a (by omega)).trans (hfr.1 a (by omega) (by omega))) hF)) rfl rfl (Nat.le_of_ble_eq_true rfl) (by decide) (by decide) (by decide) (by decide) (fun r_ L_ hq => ?_)
            obtain ⟨e_, hq0, hr0⟩ := hq
            obtain ⟨hz1, -, -, -, -, hz6, -⟩ := end17 hq0
            have hfa : fA K_ 19 (K_ (41 + 2 * (K_ 19 0).toNatClampNeg) 5) = z19 I (nI i) := by
              unfold fA z19
              rw [hKj 0 (by decide), hKj 1 (by decide), hKj 2 (by decide), hKj 3 (by decide), hKj 4 (by decide), hK5, hK1 (41 + 2 * (I 19 0).toNatClampNeg) (by omega), hfr.1 (41 + 2 * (I 19 0).toNatClampNeg) (by omega) (by omega), FF_congr (I := I) (J := K_) (fun a ha_ => (hK1 a (by omega)).trans (hfr.1 a (by omega) (by omega))) hF.2.1]
            rw [hfa] at hz1
            subst hr0
            have hfr2 : fr19 I L_ := ⟨fun a a1 a2 => by rw [hz6 a a1, hK1 a a2, hfr.1 a a1 a2], fun j j5 => by rw [hz6 19 (by decide), hKj j j5]⟩
            refine r_if_eq (pc := 58) h 64 dX10_backsIn_58 (by decide) (fun c58 => ?_) (fun c58 => ?_)
            · refine r_iinc (v := 1) (pc := 64) h dX10_backsIn_64 rfl (by decide) (by decide) ?_
              refine r_goto (pc := 67) h 11 dX10_backsIn_67 (by decide) ?_
              rw [← nI_succ i]
              have hle2_ : cntP (qB wb) (i + 1) ≤ cntP (qB wb) (WN I) := by
                have := cnt_le (qB wb) (i + 1) (WN I - (i + 1))
                rw [show i + 1 + (WN I - (i + 1)) = WN I by omega] at this
                exact this
              first
              | (have e8_ : nI (cntP (bp19 I wb) (i + 1)) = nI (cntP (bp19 I wb) i) + 1 := cnt_t (by rw [Bool.and_eq_true]; exact ⟨decide_eq_true c35, decide_eq_true (hz1.symm.trans (b2i_ne c58))⟩)
                 have e9_ : nI (cntP (qB wb) (WN I) - cntP (qB wb) (i + 1)) = nI (cntP (qB wb) (WN I) - cntP (qB wb) i) + (-1) := by
                   have e7_ : cntP (qB wb) (i + 1) = cntP (qB wb) i + 1 := if_pos (decide_eq_true c35)
                   rw [nI_m1 (by omega), e7_, Nat.sub_sub]
                 exact r_at h [(0, .ref (E.1 0)), (1, .int wb), (2, .int tb), (3, .int (nI (cntP (bp19 I wb) (i + 1)))), (4, .int (nI (cntP (qB wb) (WN I) - cntP (qB wb) (i + 1)))), (5, .int (nI (i + 1)))] ⟨rfl, rfl, rfl, by rw [e8_]; rfl, by rw [e9_]; rfl, rfl, trivial⟩ (ih (i + 1) _ hfr2 (by omega) (by omega)))
              | (have e8_ : nI (cntP (bp19 I wb) (i + 1)) = nI (cntP (bp19 I wb) i) := cnt_f (by rw [Bool.and_eq_false_iff]; exact Or.inr (decide_eq_false (fun q_ => (b2i_eq0.mp c58) (hz1.trans q_))))
                 have e9_ : nI (cntP (qB wb) (WN I) - cntP (qB wb) (i + 1)) = nI (cntP (qB wb) (WN I) - cntP (qB wb) i) + (-1) := by
                   have e7_ : cntP (qB wb) (i + 1) = cntP (qB wb) i + 1 := if_pos (decide_eq_true c35)
                   rw [nI_m1 (by omega), e7_, Nat.sub_sub]
                 exact r_at h [(0, .ref (E.1 0)), (1, .int wb), (2, .int tb), (3, .int (nI (cntP (bp19 I wb) (i + 1)))), (4, .int (nI (cntP (qB wb) (WN I) - cntP (qB wb) (i + 1)))), (5, .int (nI (i + 1)))] ⟨rfl, rfl, rfl, by rw [e8_]; rfl, by rw [e9_]; rfl, rfl, trivial⟩ (ih (i + 1) _ hfr2 (by omega) (by omega)))
              | (have e8_ : nI (cntP (bp19 I wb) (i + 1)) = nI (cntP (bp19 I wb) i) := cnt_f (by rw [Bool.and_eq_false_iff]; exact Or.inl (decide_eq_false c35))
                 have e9_ : nI (cntP (qB wb) (WN I) - cntP (qB wb) (i + 1)) = nI (cntP (qB wb) (WN I) - cntP (qB wb) i) := by
                   have e7_ : cntP (qB wb) (i + 1) = cntP (qB wb) i := if_neg (by rw [decide_eq_true_eq]; exact c35)
                   rw [e7_]
                 exact r_at h [(0, .ref (E.1 0)), (1, .int wb), (2, .int tb), (3, .int (nI (cntP (bp19 I wb) (i + 1)))), (4, .int (nI (cntP (qB wb) (WN I) - cntP (qB wb) (i + 1)))), (5, .int (nI (i + 1)))] ⟨rfl, rfl, rfl, by rw [e8_]; rfl, by rw [e9_]; rfl, rfl, trivial⟩ (ih (i + 1) _ hfr (by omega) (by omega)))
            · refine r_iinc (v := 1) (pc := 61) h dX10_backsIn_61 rfl (by decide) (by decide) ?_
              refine r_iinc (v := 1) (pc := 64) h dX10_backsIn_64 rfl (by decide) (by decide) ?_
              refine r_goto (pc := 67) h 11 dX10_backsIn_67 (by decide) ?_
              rw [← nI_succ i]
              have hle2_ : cntP (qB wb) (i + 1) ≤ cntP (qB wb) (WN I) := by
                have := cnt_le (qB wb) (i + 1) (WN I - (i + 1))
                rw [show i + 1 + (WN I - (i + 1)) = WN I by omega] at this
                exact this
              first
              | (have e8_ : nI (cntP (bp19 I wb) (i + 1)) = nI (cntP (bp19 I wb) i) + 1 := cnt_t (by rw [Bool.and_eq_true]; exact ⟨decide_eq_true c35, decide_eq_true (hz1.symm.trans (b2i_ne c58))⟩)
                 have e9_ : nI (cntP (qB wb) (WN I) - cntP (qB wb) (i + 1)) = nI (cntP (qB wb) (WN I) - cntP (qB wb) i) + (-1) := by
                   have e7_ : cntP (qB wb) (i + 1) = cntP (qB wb) i + 1 := if_pos (decide_eq_true c35)
                   rw [nI_m1 (by omega), e7_, Nat.sub_sub]
                 exact r_at h [(0, .ref (E.1 0)), (1, .int wb), (2, .int tb), (3, .int (nI (cntP (bp19 I wb) (i + 1)))), (4, .int (nI (cntP (qB wb) (WN I) - cntP (qB wb) (i + 1)))), (5, .int (nI (i + 1)))] ⟨rfl, rfl, rfl, by rw [e8_]; rfl, by rw [e9_]; rfl, rfl, trivial⟩ (ih (i + 1) _ hfr2 (by omega) (by omega)))
              | (have e8_ : nI (cntP (bp19 I wb) (i + 1)) = nI (cntP (bp19 I wb) i) := cnt_f (by rw [Bool.and_eq_false_iff]; exact Or.inr (decide_eq_false (fun q_ => (b2i_eq0.mp c58) (hz1.trans q_))))
                 have e9_ : nI (cntP (qB wb) (WN I) - cntP (qB wb) (i + 1)) = nI (cntP (qB wb) (WN I) - cntP (qB wb) i) + (-1) := by
                   have e7_ : cntP (qB wb) (i + 1) = cntP (qB wb) i + 1 := if_pos (decide_eq_true c35)
                   rw [nI_m1 (by omega), e7_, Nat.sub_sub]
                 exact r_at h [(0, .ref (E.1 0)), (1, .int wb), (2, .int tb), (3, .int (nI (cntP (bp19 I wb) (i + 1)))), (4, .int (nI (cntP (qB wb) (WN I) - cntP (qB wb) (i + 1)))), (5, .int (nI (i + 1)))] ⟨rfl, rfl, rfl, by rw [e8_]; rfl, by rw [e9_]; rfl, rfl, trivial⟩ (ih (i + 1) _ hfr2 (by omega) (by omega)))
              | (have e8_ : nI (cntP (bp19 I wb) (i + 1)) = nI (cntP (bp19 I wb) i) := cnt_f (by rw [Bool.and_eq_false_iff]; exact Or.inl (decide_eq_false c35))
                 have e9_ : nI (cntP (qB wb) (WN I) - cntP (qB wb) (i + 1)) = nI (cntP (qB wb) (WN I) - cntP (qB wb) i) := by
                   have e7_ : cntP (qB wb) (i + 1) = cntP (qB wb) i := if_neg (by rw [decide_eq_true_eq]; exact c35)
                   rw [e7_]
                 exact r_at h [(0, .ref (E.1 0)), (1, .int wb), (2, .int tb), (3, .int (nI (cntP (bp19 I wb) (i + 1)))), (4, .int (nI (cntP (qB wb) (WN I) - cntP (qB wb) (i + 1)))), (5, .int (nI (i + 1)))] ⟨rfl, rfl, rfl, by rw [e8_]; rfl, by rw [e9_]; rfl, rfl, trivial⟩ (ih (i + 1) _ hfr (by omega) (by omega)))
  have hbc : bcI wb = nI (cntP (qB wb) (WN I)) := by
    obtain ⟨k_, hk1, hk2⟩ : ∃ k, k < 2 ^ WN I ∧ wb = nI k := ⟨wb.toNatClampNeg, by rw [tn]; omega, (nI_ofx (by omega)).symm⟩
    rw [hk2, bc_all k_ (by have := pow256 hW8; omega)]
    exact congrArg nI (bit_cnt (WN I) hW8 k_ hk1).symm
  exact r_at h [(0, .ref (E.1 0)), (1, .int wb), (2, .int tb), (3, .int (nI (cntP (bp19 I wb) 0))), (4, .int (nI (cntP (qB wb) (WN I) - cntP (qB wb) 0))), (5, .int (nI 0))] ⟨rfl, rfl, rfl, rfl, by rw [hbc]; rfl, rfl, trivial⟩ (loop11 (WN I + 1) 0 I ⟨fun _ _ _ => rfl, fun _ _ => rfl⟩ (by omega) (by omega))
set_option maxRecDepth 100000 in
set_option maxHeartbeats 1000000 in
theorem c_X11_backs (E : En) (I : Mem) (s : Int32) (l : Int32) (a : Int32) (st : Int32) (wb : Int32) (hs : 0 ≤ s.toInt ∧ s.toInt < 9) (hl : 0 ≤ l.toInt ∧ l.toInt ≤ 90) (hF : FlOkR I) (h22 : I 151 22 = 0) : Ctr E yX11_backs cX11_backs 8 (some .int) 5 [.ref (E.1 151), .int s, .int l, .int a, .int st, .int wb] I (qI (fun (r : Int32) (I1 : Mem) => r = nI (cntP (bpV (fun w => RR I s (I 158 s.toNatClampNeg) w l a st 800) wb) 8) ∧ frR I I1)) := by
  refine Ctr.openI (by decide) (Nat.le_of_ble_eq_true rfl) (fun g h hr => ?_)
  have h : Sem cX11_backs RX11 8 (rmL 5) E g := h
  show g I 0 [(0, .ref (E.1 151)), (1, .int s), (2, .int l), (3, .int a), (4, .int st), (5, .int wb)] []
  refine r_iconst (v := 0) (pc := 0) h dX11_backs_0 (by decide) ?_
  refine r_istore (pc := 1) h dX11_backs_1 (by decide) ?_
  refine r_iconst (v := 0) (pc := 3) h dX11_backs_3 (by decide) ?_
  refine r_istore (pc := 4) h dX11_backs_4 (by decide) ?_
  have loop6 : ∀ (m i : Nat) (J_ : Mem), frR I J_ → i ≤ 8 → 9 ≤ i + m → g J_ 6 [(0, .ref (E.1 151)), (1, .int s), (2, .int l), (3, .int a), (4, .int st), (5, .int wb), (6, .int (nI (cntP (bpV (fun w => RR I s (I 158 s.toNatClampNeg) w l a st 800) wb) i))), (7, .int (nI i))] [] := by
    intro m
    induction m with
    | zero =>
      intro i J_ hfr h1 h2
      omega
    | succ m ih =>
      intro i J_ hfr hi him
      have ei := nI_tI (i := i) (by omega)
      refine r_iload (pc := 6) h dX11_backs_6 rfl ?_
      refine r_bipush (v := 8) (pc := 8) h dX11_backs_8 (by decide) ?_
      refine r_icmp_ge (pc := 10) h 64 dX11_backs_10 (by decide) (fun c10 => ?_) (fun c10 => ?_)
      · have hge : i = 8 := by rw [Int32.le_iff_toInt_le, ei, e8i] at c10; omega
        refine r_iload (pc := 64) h dX11_backs_64 rfl ?_
        exact hr _ _ _ _ dX11_backs_66 (rfl) (⟨by rw [hge], hfr⟩)
      · have hlt : i < 8 := by rw [Int32.le_iff_toInt_le, ei, e8i] at c10; omega
        refine r_iload (pc := 13) h dX11_backs_13 rfl ?_
        refine r_iload (pc := 15) h dX11_backs_15 rfl ?_
        refine r_iload (pc := 17) h dX11_backs_17 rfl ?_
        refine r_ishr (pc := 19) h dX11_backs_19 ?_
        refine r_iconst (v := 1) (pc := 20) h dX11_backs_20 (by decide) ?_
        refine r_iand (pc := 21) h dX11_backs_21 ?_
        refine r_iconst (v := 1) (pc := 22) h dX11_backs_22 (by decide) ?_
        refine r_icmp_ne (pc := 23) h 54 dX11_backs_23 (by decide) (fun c23 => ?_) (fun c23 => ?_)
        · refine r_iconst (v := 0) (pc := 54) h dX11_backs_54 (by decide) ?_
          refine r_iadd (pc := 55) h dX11_backs_55 ?_
          refine r_istore (pc := 56) h dX11_backs_56 (by decide) ?_
          refine r_iinc (v := 1) (pc := 58) h dX11_backs_58 rfl (by decide) (by decide) ?_
          refine r_goto (pc := 61) h 6 dX11_backs_61 (by decide) ?_
          rw [← nI_succ i]
          first
          | (have e9_ := cnt_t (p := (bpV (fun w => RR I s (I 158 s.toNatClampNeg) w l a st 800) wb)) (i := i) (by rw [Bool.and_eq_true]; exact ⟨decide_eq_true c23, decide_eq_true (hz1.symm.trans c47)⟩)
             exact r_at h [(0, .ref (E.1 151)), (1, .int s), (2, .int l), (3, .int a), (4, .int st), (5, .int wb), (6, .int (nI (cntP (bpV (fun w => RR I s (I 158 s.toNatClampNeg) w l a st 800) wb) (i + 1)))), (7, .int (nI (i + 1)))] ⟨rfl, rfl, rfl, rfl, rfl, rfl, by rw [e9_]; rfl, rfl, trivial⟩ (ih (i + 1) _ hfr2 (by omega) (by omega)))
          | (have e9_ := cnt_f0 (p := (bpV (fun w => RR I s (I 158 s.toNatClampNeg) w l a st 800) wb)) (i := i) (by rw [Bool.and_eq_false_iff]; exact Or.inr (decide_eq_false (fun q_ => c47 (hz1.trans q_))))
             exact r_at h [(0, .ref (E.1 151)), (1, .int s), (2, .int l), (3, .int a), (4, .int st), (5, .int wb), (6, .int (nI (cntP (bpV (fun w => RR I s (I 158 s.toNatClampNeg) w l a st 800) wb) (i + 1)))), (7, .int (nI (i + 1)))] ⟨rfl, rfl, rfl, rfl, rfl, rfl, by rw [e9_]; rfl, rfl, trivial⟩ (ih (i + 1) _ hfr2 (by omega) (by omega)))
          | (have e9_ := cnt_f0 (p := (bpV (fun w => RR I s (I 158 s.toNatClampNeg) w l a st 800) wb)) (i := i) (by rw [Bool.and_eq_false_iff]; exact Or.inl (decide_eq_false c23))
             exact r_at h [(0, .ref (E.1 151)), (1, .int s), (2, .int l), (3, .int a), (4, .int st), (5, .int wb), (6, .int (nI (cntP (bpV (fun w => RR I s (I 158 s.toNatClampNeg) w l a st 800) wb) (i + 1)))), (7, .int (nI (i + 1)))] ⟨rfl, rfl, rfl, rfl, rfl, rfl, by rw [e9_]; rfl, rfl, trivial⟩ (ih (i + 1) _ hfr (by omega) (by omega)))
        · refine r_aload_n (pc := 26) h dX11_backs_26 rfl ?_
          refine r_iload_n (pc := 27) h dX11_backs_27 rfl ?_
          refine r_aload_n (pc := 28) h dX11_backs_28 rfl ?_
          refine gf_X11_28 (pc := 29) h dX11_backs_29 ?_
          refine r_iload_n (pc := 32) h dX11_backs_32 rfl ?_
          refine r_iald (pc := 33) h dX11_backs_33 (by decide) (by decide) (vin (n := 9) (by omega) (by omega)) ?_
          refine r_iload_n (pc := 34) h dX11_backs_34 rfl ?_
          refine r_iload_n (pc := 35) h dX11_backs_35 rfl ?_
          refine r_iload (pc := 36) h dX11_backs_36 rfl ?_
          refine r_sipush (v := 800) (pc := 38) h dX11_backs_38 (by decide) ?_
          refine r_iload (pc := 41) h dX11_backs_41 rfl ?_
          refine r_callVI (ci := 11) (pc := 43) h dX11_backs_43 wm_X11_236 ca_X11_flies rfl (c_X11_flies E _ _ _ _ _ _ _ _ hs (by rw [ei]; omega) hl (frR_ok hfr hF).1 (frR_ok hfr hF).2.1 (frR_ok hfr hF).2.2) rfl rfl (Nat.le_of_ble_eq_true rfl) (by decide) (by decide) (by decide) (by decide) (fun e_ K_ hq => ?_)
          have hq : FliesPost J_ K_ s (J_ 158 s.toNatClampNeg) l a st 800 (nI i) e_ := hq
          obtain ⟨hz1, hz2, hz3, hz4, hz5, hz6, hz7, hz8⟩ := flies0 hq (by rw [hfr.2 22 (by decide) (by decide)]; exact h22)
          rw [frR_RR hfr, hfr.1 158 (by decide) (by decide)] at hz1
          have hfr2 : frR I K_ := frR_tr hfr ⟨hz6, hz7⟩
          refine r_iconst (v := 2) (pc := 46) h dX11_backs_46 (by decide) ?_
          refine r_icmp_ne (pc := 47) h 54 dX11_backs_47 (by decide) (fun c47 => ?_) (fun c47 => ?_)
          · refine r_iconst (v := 0) (pc := 54) h dX11_backs_54 (by decide) ?_
            refine r_iadd (pc := 55) h dX11_backs_55 ?_
            refine r_istore (pc := 56) h dX11_backs_56 (by decide) ?_
            refine r_iinc (v := 1) (pc := 58) h dX11_backs_58 rfl (by decide) (by decide) ?_
            refine r_goto (pc := 61) h 6 dX11_backs_61 (by decide) ?_
            rw [← nI_succ i]
            first
            | (have e9_ := cnt_t (p := (bpV (fun w => RR I s (I 158 s.toNatClampNeg) w l a st 800) wb)) (i := i) (by rw [Bool.and_eq_true]; exact ⟨decide_eq_true c23, decide_eq_true (hz1.symm.trans c47)⟩)
               exact r_at h [(0, .ref (E.1 151)), (1, .int s), (2, .int l), (3, .int a), (4, .int st), (5, .int wb), (6, .int (nI (cntP (bpV (fun w => RR I s (I 158 s.toNatClampNeg) w l a st 800) wb) (i + 1)))), (7, .int (nI (i + 1)))] ⟨rfl, rfl, rfl, rfl, rfl, rfl, by rw [e9_]; rfl, rfl, trivial⟩ (ih (i + 1) _ hfr2 (by omega) (by omega)))
            | (have e9_ := cnt_f0 (p := (bpV (fun w => RR I s (I 158 s.toNatClampNeg) w l a st 800) wb)) (i := i) (by rw [Bool.and_eq_false_iff]; exact Or.inr (decide_eq_false (fun q_ => c47 (hz1.trans q_))))
               exact r_at h [(0, .ref (E.1 151)), (1, .int s), (2, .int l), (3, .int a), (4, .int st), (5, .int wb), (6, .int (nI (cntP (bpV (fun w => RR I s (I 158 s.toNatClampNeg) w l a st 800) wb) (i + 1)))), (7, .int (nI (i + 1)))] ⟨rfl, rfl, rfl, rfl, rfl, rfl, by rw [e9_]; rfl, rfl, trivial⟩ (ih (i + 1) _ hfr2 (by omega) (by omega)))
            | (have e9_ := cnt_f0 (p := (bpV (fun w => RR I s (I 158 s.toNatClampNeg) w l a st 800) wb)) (i := i) (by rw [Bool.and_eq_false_iff]; exact Or.inl (decide_eq_false c23))
               exact r_at h [(0, .ref (E.1 151)), (1, .int s), (2, .int l), (3, .int a), (4, .int st), (5, .int wb), (6, .int (nI (cntP (bpV (fun w => RR I s (I 158 s.toNatClampNeg) w l a st 800) wb) (i + 1)))), (7, .int (nI (i + 1)))] ⟨rfl, rfl, rfl, rfl, rfl, rfl, by rw [e9_]; rfl, rfl, trivial⟩ (ih (i + 1) _ hfr (by omega) (by omega)))
          · refine r_iconst (v := 1) (pc := 50) h dX11_backs_50 (by decide) ?_
            refine r_goto (pc := 51) h 55 dX11_backs_51 (by decide) ?_
            refine r_iadd (pc := 55) h dX11_backs_55 ?_
            refine r_istore (pc := 56) h dX11_backs_56 (by decide) ?_
            refine r_iinc (v := 1) (pc := 58) h dX11_backs_58 rfl (by decide) (by decide) ?_
            refine r_goto (pc := 61) h 6 dX11_backs_61 (by decide) ?_
            rw [← nI_succ i]
            first
            | (have e9_ := cnt_t (p := (bpV (fun w => RR I s (I 158 s.toNatClampNeg) w l a st 800) wb)) (i := i) (by rw [Bool.and_eq_true]; exact ⟨decide_eq_true c23, decide_eq_true (hz1.symm.trans c47)⟩)
               exact r_at h [(0, .ref (E.1 151)), (1, .int s), (2, .int l), (3, .int a), (4, .int st), (5, .int wb), (6, .int (nI (cntP (bpV (fun w => RR I s (I 158 s.toNatClampNeg) w l a st 800) wb) (i + 1)))), (7, .int (nI (i + 1)))] ⟨rfl, rfl, rfl, rfl, rfl, rfl, by rw [e9_]; rfl, rfl, trivial⟩ (ih (i + 1) _ hfr2 (by omega) (by omega)))
            | (have e9_ := cnt_f0 (p := (bpV (fun w => RR I s (I 158 s.toNatClampNeg) w l a st 800) wb)) (i := i) (by rw [Bool.and_eq_false_iff]; exact Or.inr (decide_eq_false (fun q_ => c47 (hz1.trans q_))))
               exact r_at h [(0, .ref (E.1 151)), (1, .int s), (2, .int l), (3, .int a), (4, .int st), (5, .int wb), (6, .int (nI (cntP (bpV (fun w => RR I s (I 158 s.toNatClampNeg) w l a st 800) wb) (i + 1)))), (7, .int (nI (i + 1)))] ⟨rfl, rfl, rfl, rfl, rfl, rfl, by rw [e9_]; rfl, rfl, trivial⟩ (ih (i + 1) _ hfr2 (by omega) (by omega)))
            | (have e9_ := cnt_f0 (p := (bpV (fun w => RR I s (I 158 s.toNatClampNeg) w l a st 800) wb)) (i := i) (by rw [Bool.and_eq_false_iff]; exact Or.inl (decide_eq_false c23))
               exact r_at h [(0, .ref (E.1 151)), (1, .int s), (2, .int l), (3, .int a), (4, .int st), (5, .int wb), (6, .int (nI (cntP (bpV (fun w => RR I s (I 158 s.toNatClampNeg) w l a st 800) wb) (i + 1)))), (7, .int (nI (i + 1)))] ⟨rfl, rfl, rfl, rfl, rfl, rfl, by rw [e9_]; rfl, rfl, trivial⟩ (ih (i + 1) _ hfr (by omega) (by omega)))
  exact r_at h [(0, .ref (E.1 151)), (1, .int s), (2, .int l), (3, .int a), (4, .int st), (5, .int wb), (6, .int (nI (cntP (bpV (fun w => RR I s (I 158 s.toNatClampNeg) w l a st 800) wb) 0))), (7, .int (nI 0))] ⟨rfl, rfl, rfl, rfl, rfl, rfl, rfl, rfl, trivial⟩ (loop6 9 0 I ⟨fun _ _ _ => rfl, fun _ _ _ => rfl⟩ (by omega) (by omega))
set_option maxRecDepth 100000 in
set_option maxHeartbeats 1000000 in
theorem c_X10_bestOfStick (E : En) (I : Mem) (s : Int32) (wb : Int32) (mo : Int32) (hs : 0 ≤ s.toInt ∧ s.toInt < 9) (hcw : 0 ≤ (I 0 4).toInt ∧ (I 0 4).toInt ≤ 8) (hwb : setP wb (I 0 4)) (hF : FlOkF I) : Ctr E yX10_bestOfStick cX10_bestOfStick 15 (some .int) 6 [.ref (E.1 0), .int s, .int wb, .int mo] I (qI (fun (r : Int32) (I1 : Mem) => r = (chK (bkF I wb s) s 48 (mo, I 20)).1 ∧ (∀ q, q < 4 → I1 20 q = (chK (bkF I wb s) s 48 (mo, I 20)).2 q) ∧ fr20 I I1)) := by
  refine Ctr.openI (by decide) (Nat.le_of_ble_eq_true rfl) (fun g h hr => ?_)
  have h : Sem cX10_bestOfStick RX10 15 (rmL 6) E g := h
  show g I 0 [(0, .ref (E.1 0)), (1, .int s), (2, .int wb), (3, .int mo)] []
  obtain ⟨z0, hz0⟩ : ∃ z : Sg, z = (mo, I 20) := ⟨_, rfl⟩
  have hz01 : z0.1 = mo := by rw [hz0]
  have hz02 : z0.2 = I 20 := by rw [hz0]
  rw [← hz0] at hr
  refine r_iload_n (pc := 0) h dX10_bestOfStick_0 rfl ?_
  refine r_istore (pc := 1) h dX10_bestOfStick_1 (by decide) ?_
  refine r_getsL (pc := 3) h dX10_bestOfStick_3 ?_
  refine r_astore (pc := 6) h dX10_bestOfStick_6 (by decide) ?_
  refine r_aload (pc := 8) h dX10_bestOfStick_8 rfl ?_
  refine r_tlenL (pc := 10) h dX10_bestOfStick_10 ?_
  refine r_istore (pc := 11) h dX10_bestOfStick_11 (by decide) ?_
  refine r_iconst (v := 0) (pc := 13) h dX10_bestOfStick_13 (by decide) ?_
  refine r_istore (pc := 14) h dX10_bestOfStick_14 (by decide) ?_
  have loop16 : ∀ (m i : Nat) (J_ : Mem), i ≤ 3 → 4 ≤ i + m → fr20 I J_ → (∀ q, q < 4 → J_ 20 q = (chK (bkF I wb s) s (16 * i) z0).2 q) → g J_ 16 [(0, .ref (E.1 0)), (1, .int s), (2, .int wb), (4, .int (chK (bkF I wb s) s (16 * i) z0).1), (5, .ref E.2.2.2.1), (6, .int 3), (7, .int (nI i))] [] := by
    intro m
    induction m with
    | zero =>
      intro i J_ h1 h2
      omega
    | succ m ih =>
      intro i J_ hi him hfr hst
      have ei := nI_tI (i := i) (by omega)
      refine r_iload (pc := 16) h dX10_bestOfStick_16 rfl ?_
      refine r_iload (pc := 18) h dX10_bestOfStick_18 rfl ?_
      refine r_icmp_ge (pc := 20) h 128 dX10_bestOfStick_20 (by decide) (fun c20 => ?_) (fun c20 => ?_)
      · have hge : i = 3 := by rw [Int32.le_iff_toInt_le, ei, e3i] at c20; omega
        refine r_iload (pc := 128) h dX10_bestOfStick_128 rfl ?_
        exact hr _ _ _ _ dX10_bestOfStick_130 (rfl) (by rw [hge] at hst ⊢; exact ⟨rfl, hst, hfr⟩)
      · have hlt3 : i < 3 := by rw [Int32.le_iff_toInt_le, ei, e3i] at c20; omega
        refine r_aload (pc := 23) h dX10_bestOfStick_23 rfl ?_
        refine r_iload (pc := 25) h dX10_bestOfStick_25 rfl ?_
        refine r_taldL (pc := 27) (j := i) h dX10_bestOfStick_27 (nI_tn (by omega)) (vinI (n := 3) (by omega) (by omega)) ?_
        refine r_istore (pc := 28) h dX10_bestOfStick_28 (by decide) ?_
        refine r_iconst (v := 0) (pc := 30) h dX10_bestOfStick_30 (by decide) ?_
        refine r_istore (pc := 31) h dX10_bestOfStick_31 (by decide) ?_
        have loop33 : ∀ (m j : Nat) (J_ : Mem), j ≤ 8 → 9 ≤ j + m → fr20 I J_ → (∀ q, q < 4 → J_ 20 q = (chK (bkF I wb s) s (16 * i + 2 * j) z0).2 q) → g J_ 33 [(0, .ref (E.1 0)), (1, .int s), (2, .int wb), (4, .int (chK (bkF I wb s) s (16 * i + 2 * j) z0).1), (5, .ref E.2.2.2.1), (6, .int 3), (7, .int (nI i)), (8, .int (leanT i)), (9, .int (nI (45 * j)))] [] := by
          intro m
          induction m with
          | zero =>
            intro j J_ h1 h2
            omega
          | succ m ih2 =>
            intro j J_ hj hjm hfr hst
            have ej := nI_tI (i := 45 * j) (by omega)
            refine r_iload (pc := 33) h dX10_bestOfStick_33 rfl ?_
            refine r_sipush (v := 360) (pc := 35) h dX10_bestOfStick_35 (by decide) ?_
            refine r_icmp_ge (pc := 38) h 122 dX10_bestOfStick_38 (by decide) (fun c38 => ?_) (fun c38 => ?_)
            · have hjx : j = 8 := by rw [Int32.le_iff_toInt_le, ej, e360] at c38; omega
              obtain ⟨jx_, hjx_⟩ : ∃ z, z = j := ⟨_, rfl⟩
              rw [← hjx_] at hst hjx ⊢
              refine r_iinc (v := 1) (pc := 122) h dX10_bestOfStick_122 rfl (by decide) (by decide) ?_
              refine r_goto (pc := 125) h 16 dX10_bestOfStick_125 (by decide) ?_
              rw [← nI_succ i]
              exact r_at h [(0, .ref (E.1 0)), (1, .int s), (2, .int wb), (4, .int (chK (bkF I wb s) s (16 * (i + 1)) z0).1), (5, .ref E.2.2.2.1), (6, .int 3), (7, .int (nI (i + 1)))] ⟨rfl, rfl, rfl, by rw [show 16 * (i + 1) = 16 * i + 2 * jx_ by omega]; rfl, rfl, rfl, rfl, trivial⟩ (ih (i + 1) _ (by omega) (by omega) hfr (by rw [show 16 * (i + 1) = 16 * i + 2 * jx_ by omega]; exact hst))
            · have hlt8 : j < 8 := by rw [Int32.le_iff_toInt_le, ej, e360] at c38; omega
              refine r_getsS (pc := 41) h dX10_bestOfStick_41 ?_
              refine r_astore (pc := 44) h dX10_bestOfStick_44 (by decide) ?_
              refine r_aload (pc := 46) h dX10_bestOfStick_46 rfl ?_
              refine r_tlenS (pc := 48) h dX10_bestOfStick_48 ?_
              refine r_istore (pc := 49) h dX10_bestOfStick_49 (by decide) ?_
              refine r_iconst (v := 0) (pc := 51) h dX10_bestOfStick_51 (by decide) ?_
              refine r_istore (pc := 52) h dX10_bestOfStick_52 (by decide) ?_
              have loop54 : ∀ (m lx_ : Nat) (J_ : Mem), lx_ ≤ 2 → 3 ≤ lx_ + m → fr20 I J_ → (∀ q, q < 4 → J_ 20 q = (chK (bkF I wb s) s (16 * i + 2 * j + lx_) z0).2 q) → g J_ 54 [(0, .ref (E.1 0)), (1, .int s), (2, .int wb), (4, .int (chK (bkF I wb s) s (16 * i + 2 * j + lx_) z0).1), (5, .ref E.2.2.2.1), (6, .int 3), (7, .int (nI i)), (8, .int (leanT i)), (9, .int (nI (45 * j))), (10, .ref E.2.2.2.2), (11, .int 2), (12, .int (nI lx_))] [] := by
                intro m
                induction m with
                | zero =>
                  intro lx_ J_ h1 h2
                  omega
                | succ m ih3 =>
                  intro lx_ J_ hl hlm hfr hst
                  have el := nI_tI (i := lx_) (by omega)
                  refine r_iload (pc := 54) h dX10_bestOfStick_54 rfl ?_
                  refine r_iload (pc := 56) h dX10_bestOfStick_56 rfl ?_
                  refine r_icmp_ge (pc := 58) h 116 dX10_bestOfStick_58 (by decide) (fun c58 => ?_) (fun c58 => ?_)
                  · have hlx : lx_ = 2 := by rw [Int32.le_iff_toInt_le, el, e2i] at c58; omega
                    refine r_iinc (v := 45) (pc := 116) h dX10_bestOfStick_116 rfl (by decide) (by decide) ?_
                    refine r_goto (pc := 119) h 33 dX10_bestOfStick_119 (by decide) ?_
                    rw [show nI (45 * j) + 45 = nI (45 * (j + 1)) by rw [i32_eq, nI_tI (by omega), tI_add (by rw [ej, e45]; omega) (by rw [ej, e45]; omega), ej, e45]; omega]
                    exact r_at h [(0, .ref (E.1 0)), (1, .int s), (2, .int wb), (4, .int (chK (bkF I wb s) s (16 * i + 2 * (j + 1)) z0).1), (5, .ref E.2.2.2.1), (6, .int 3), (7, .int (nI i)), (8, .int (leanT i)), (9, .int (nI (45 * (j + 1))))] ⟨rfl, rfl, rfl, by rw [show 16 * i + 2 * (j + 1) = 16 * i + 2 * j + lx_ by omega]; rfl, rfl, rfl, rfl, rfl, rfl, trivial⟩ (ih2 (j + 1) _ (by omega) (by omega) hfr (by rw [show 16 * i + 2 * (j + 1) = 16 * i + 2 * j + lx_ by omega]; exact hst))
                  · have hlt2 : lx_ < 2 := by rw [Int32.le_iff_toInt_le, el, e2i] at c58; omega
                    refine r_aload (pc := 61) h dX10_bestOfStick_61 rfl ?_
                    refine r_iload (pc := 63) h dX10_bestOfStick_63 rfl ?_
                    refine r_taldS (pc := 65) (j := lx_) h dX10_bestOfStick_65 (nI_tn (by omega)) (vinI (n := 2) (by omega) (by omega)) ?_
                    refine r_istore (pc := 66) h dX10_bestOfStick_66 (by decide) ?_
                    refine r_aload_n (pc := 68) h dX10_bestOfStick_68 rfl ?_
                    refine gf_X10_63 (pc := 69) h dX10_bestOfStick_69 ?_
                    refine r_iload_n (pc := 72) h dX10_bestOfStick_72 rfl ?_
                    refine r_iload (pc := 73) h dX10_bestOfStick_73 rfl ?_
                    refine r_iload (pc := 75) h dX10_bestOfStick_75 rfl ?_
                    refine r_iload (pc := 77) h dX10_bestOfStick_77 rfl ?_
                    refine r_sipush (v := 800) (pc := 79) h dX10_bestOfStick_79 (by decide) ?_
                    refine r_iconst (v := -1) (pc := 82) h dX10_bestOfStick_82 (by decide) ?_
                    refine r_callVV (ci := 0) (pc := 83) h dX10_bestOfStick_83 wm_X10_188 ca_X0_take rfl (c_X0_take E _ 19 _ _ _ _ _ _ (by decide) (by decide)) rfl rfl (Nat.le_of_ble_eq_true rfl) (by decide) (by decide) (by decide) (by decide) (fun I1 hq => ?_)
                    subst hq
                    obtain hT := takeM_at J_ 19 s (leanT i) (nI (45 * j)) (strT lx_) 800 (-1)
                    have hTn : ∀ a, a ≠ 19 → takeM J_ 19 s (leanT i) (nI (45 * j)) (strT lx_) 800 (-1) a = J_ a := fun a ha_ => takeM_ne J_ _ _ _ _ _ _ ha_
                    have hfrT : fr20 I (takeM J_ 19 s (leanT i) (nI (45 * j)) (strT lx_) 800 (-1)) := fun a a1 a2 a3 => (hTn a a2).trans (hfr a a1 a2 a3)
                    refine r_nmG (fun T_ hTT => ?_)
                    rw [← hTT] at hT hTn hfrT
                    have hkk := kK (i := i) (j := j) (l := lx_) (by omega) (by omega)
                    have haT : aim19 T_ := by
                      unfold aim19
                      rw [hT.1, hT.2.1, hT.2.2.2.1, hT.2.2.2.2.1]
                      exact ⟨hs, leanT_bd i, strT_bd lx_, by rw [e800]; omega⟩
                    have hT04 : T_ 0 4 = I 0 4 := by rw [hfrT 0 (by decide) (by decide) (by decide)]
                    have hcT : nI (cntP (bp19 T_ wb) (WN T_)) = bkF I wb s (16 * i + 2 * j + lx_) := by
                      unfold bkF bp19 z19 WN
                      rw [hT.1, hT.2.1, hT.2.2.1, hT.2.2.2.1, hT.2.2.2.2.1, hT04, fr20_FF hfrT hF.2.1, hfrT (41 + 2 * s.toNatClampNeg) (by omega) (by omega) (by omega), hkk.1, hkk.2.1, hkk.2.2]
                    refine r_aload_n (pc := 86) h dX10_bestOfStick_86 rfl ?_
                    refine r_iload_n (pc := 87) h dX10_bestOfStick_87 rfl ?_
                    refine r_iload (pc := 88) h dX10_bestOfStick_88 rfl ?_
                    refine r_callVI (ci := 10) (pc := 90) h dX10_bestOfStick_90 wm_X10_393 ca_X10_backsIn rfl (c_X10_backsIn E _ _ _ (by rw [hT04]; exact hcw) (by rw [hT04]; exact hwb) haT (fr20_ok hfrT hF)) rfl rfl (Nat.le_of_ble_eq_true rfl) (by decide) (by decide) (by decide) (by decide) (fun b_ B_ hq => ?_)
                    obtain ⟨hbk, hfr2⟩ := hq
                    rw [hcT] at hbk
                    have hfr3 : fr20 I B_ := fun a a1 a2 a3 => (hfr2.1 a a1 a2).trans (hfrT a a1 a2 a3)
                    have hst3 : ∀ q, q < 4 → B_ 20 q = (chK (bkF I wb s) s (16 * i + 2 * j + lx_) z0).2 q := fun q hq_ => by rw [hfr2.1 20 (by decide) (by decide), hTn 20 (by decide)]; exact hst q hq_
                    refine r_istore (pc := 93) h dX10_bestOfStick_93 (by decide) ?_
                    refine r_iload (pc := 95) h dX10_bestOfStick_95 rfl ?_
                    refine r_iload (pc := 97) h dX10_bestOfStick_97 rfl ?_
                    refine r_icmp_le (pc := 99) h 110 dX10_bestOfStick_99 (by decide) (fun c99 => ?_) (fun c99 => ?_)
                    · refine r_iinc (v := 1) (pc := 110) h dX10_bestOfStick_110 rfl (by decide) (by decide) ?_
                      refine r_goto (pc := 113) h 54 dX10_bestOfStick_113 (by decide) ?_
                      rw [← nI_succ lx_]
                      first
                      | (have e9_ : chK (bkF I wb s) s (16 * i + 2 * j + (lx_ + 1)) z0 = (bkF I wb s (16 * i + 2 * j + lx_), ch4 s (leanT i) (nI (45 * j)) (strT lx_)) := by
                           show chK (bkF I wb s) s ((16 * i + 2 * j + lx_) + 1) z0 = _
                           rw [chK_s, hkk.1, hkk.2.1, hkk.2.2]
                           exact ch_t hbig_
                         exact r_at h [(0, .ref (E.1 0)), (1, .int s), (2, .int wb), (4, .int (chK (bkF I wb s) s (16 * i + 2 * j + (lx_ + 1)) z0).1), (5, .ref E.2.2.2.1), (6, .int 3), (7, .int (nI i)), (8, .int (leanT i)), (9, .int (nI (45 * j))), (10, .ref E.2.2.2.2), (11, .int 2), (12, .int (nI (lx_ + 1)))] ⟨rfl, rfl, rfl, by rw [e9_]; rfl, rfl, rfl, rfl, rfl, rfl, rfl, rfl, rfl, trivial⟩ (ih3 (lx_ + 1) _ (by omega) (by omega) (fun a a1 a2 a3 => by rw [remC_ne _ a3]; exact hfr3 a a1 a2 a3) (fun q hq_ => by rw [e9_, remC_at _ hq_, hfr2.2 0 (by decide), hfr2.2 1 (by decide), hfr2.2 2 (by decide), hfr2.2 3 (by decide), hT.1, hT.2.1, hT.2.2.1, hT.2.2.2.1])))
                      | (have e9_ : chK (bkF I wb s) s (16 * i + 2 * j + (lx_ + 1)) z0 = chK (bkF I wb s) s (16 * i + 2 * j + lx_) z0 := by
                           show chK (bkF I wb s) s ((16 * i + 2 * j + lx_) + 1) z0 = _
                           rw [chK_s]
                           refine ch_f (fun q_ => ?_)
                           rcases hbk with hbk | hbk
                           · rw [hbk] at c99
                             exact (Int32.not_lt.mpr c99) q_
                           · exact (Int32.not_lt.mpr hbk.2) q_
                         exact r_at h [(0, .ref (E.1 0)), (1, .int s), (2, .int wb), (4, .int (chK (bkF I wb s) s (16 * i + 2 * j + (lx_ + 1)) z0).1), (5, .ref E.2.2.2.1), (6, .int 3), (7, .int (nI i)), (8, .int (leanT i)), (9, .int (nI (45 * j))), (10, .ref E.2.2.2.2), (11, .int 2), (12, .int (nI (lx_ + 1)))] ⟨rfl, rfl, rfl, by rw [e9_]; rfl, rfl, rfl, rfl, rfl, rfl, rfl, rfl, rfl, trivial⟩ (ih3 (lx_ + 1) _ (by omega) (by omega) hfr3 (fun q hq_ => by rw [e9_, hst3 q hq_])))
                    · have hbig_ : (chK (bkF I wb s) s (16 * i + 2 * j + lx_) z0).1 < bkF I wb s (16 * i + 2 * j + lx_) := by
                        rcases hbk with hbk | hbk
                        · rw [← hbk]
                          exact Int32.not_le.mp c99
                        · exact absurd hbk.1 c99
                      have hbe_ : b_ = bkF I wb s (16 * i + 2 * j + lx_) := by
                        rcases hbk with hbk | hbk
                        · exact hbk
                        · exact absurd hbk.1 c99
                      subst hbe_
                      refine r_iload (pc := 102) h dX10_bestOfStick_102 rfl ?_
                      refine r_istore (pc := 104) h dX10_bestOfStick_104 (by decide) ?_
                      refine r_aload_n (pc := 106) h dX10_bestOfStick_106 rfl ?_
                      refine r_callVV (ci := 10) (pc := 107) h dX10_bestOfStick_107 wm_X10_396 ca_X10_rememberChoice rfl (c_X10_rememberChoice E _) rfl rfl (Nat.le_of_ble_eq_true rfl) (by decide) (by decide) (by decide) (by decide) (fun I1 hq => ?_)
                      subst hq
                      refine r_iinc (v := 1) (pc := 110) h dX10_bestOfStick_110 rfl (by decide) (by decide) ?_
                      refine r_goto (pc := 113) h 54 dX10_bestOfStick_113 (by decide) ?_
                      rw [← nI_succ lx_]
                      first
                      | (have e9_ : chK (bkF I wb s) s (16 * i + 2 * j + (lx_ + 1)) z0 = (bkF I wb s (16 * i + 2 * j + lx_), ch4 s (leanT i) (nI (45 * j)) (strT lx_)) := by
                           show chK (bkF I wb s) s ((16 * i + 2 * j + lx_) + 1) z0 = _
                           rw [chK_s, hkk.1, hkk.2.1, hkk.2.2]
                           exact ch_t hbig_
                         exact r_at h [(0, .ref (E.1 0)), (1, .int s), (2, .int wb), (4, .int (chK (bkF I wb s) s (16 * i + 2 * j + (lx_ + 1)) z0).1), (5, .ref E.2.2.2.1), (6, .int 3), (7, .int (nI i)), (8, .int (leanT i)), (9, .int (nI (45 * j))), (10, .ref E.2.2.2.2), (11, .int 2), (12, .int (nI (lx_ + 1)))] ⟨rfl, rfl, rfl, by rw [e9_]; rfl, rfl, rfl, rfl, rfl, rfl, rfl, rfl, rfl, trivial⟩ (ih3 (lx_ + 1) _ (by omega) (by omega) (fun a a1 a2 a3 => by rw [remC_ne _ a3]; exact hfr3 a a1 a2 a3) (fun q hq_ => by rw [e9_, remC_at _ hq_, hfr2.2 0 (by decide), hfr2.2 1 (by decide), hfr2.2 2 (by decide), hfr2.2 3 (by decide), hT.1, hT.2.1, hT.2.2.1, hT.2.2.2.1])))
                      | (have e9_ : chK (bkF I wb s) s (16 * i + 2 * j + (lx_ + 1)) z0 = chK (bkF I wb s) s (16 * i + 2 * j + lx_) z0 := by
                           show chK (bkF I wb s) s ((16 * i + 2 * j + lx_) + 1) z0 = _
                           rw [chK_s]
                           refine ch_f (fun q_ => ?_)
                           rcases hbk with hbk | hbk
                           · rw [hbk] at c99
                             exact (Int32.not_lt.mpr c99) q_
                           · exact (Int32.not_lt.mpr hbk.2) q_
                         exact r_at h [(0, .ref (E.1 0)), (1, .int s), (2, .int wb), (4, .int (chK (bkF I wb s) s (16 * i + 2 * j + (lx_ + 1)) z0).1), (5, .ref E.2.2.2.1), (6, .int 3), (7, .int (nI i)), (8, .int (leanT i)), (9, .int (nI (45 * j))), (10, .ref E.2.2.2.2), (11, .int 2), (12, .int (nI (lx_ + 1)))] ⟨rfl, rfl, rfl, by rw [e9_]; rfl, rfl, rfl, rfl, rfl, rfl, rfl, rfl, rfl, trivial⟩ (ih3 (lx_ + 1) _ (by omega) (by omega) hfr3 (fun q hq_ => by rw [e9_, hst3 q hq_])))
              exact r_at h [(0, .ref (E.1 0)), (1, .int s), (2, .int wb), (4, .int (chK (bkF I wb s) s (16 * i + 2 * j + 0) z0).1), (5, .ref E.2.2.2.1), (6, .int 3), (7, .int (nI i)), (8, .int (leanT i)), (9, .int (nI (45 * j))), (10, .ref E.2.2.2.2), (11, .int 2), (12, .int (nI 0))] ⟨rfl, rfl, rfl, rfl, rfl, rfl, rfl, rfl, rfl, rfl, rfl, rfl, trivial⟩ (loop54 3 0 _ (by omega) (by omega) hfr hst)
        exact r_at h [(0, .ref (E.1 0)), (1, .int s), (2, .int wb), (4, .int (chK (bkF I wb s) s (16 * i + 2 * 0) z0).1), (5, .ref E.2.2.2.1), (6, .int 3), (7, .int (nI i)), (8, .int (leanT i)), (9, .int (nI (45 * 0)))] ⟨rfl, rfl, rfl, rfl, rfl, rfl, rfl, rfl, rfl, trivial⟩ (loop33 9 0 _ (by omega) (by omega) hfr hst)
  exact r_at h [(0, .ref (E.1 0)), (1, .int s), (2, .int wb), (4, .int (chK (bkF I wb s) s (16 * 0) z0).1), (5, .ref E.2.2.2.1), (6, .int 3), (7, .int (nI 0))] ⟨rfl, rfl, rfl, by show some (Value.int mo) = some (Value.int z0.1); rw [hz01], rfl, rfl, rfl, trivial⟩ (loop16 4 0 I (by omega) (by omega) (fun _ _ _ _ => rfl) (fun q _ => by show I 20 q = z0.2 q; rw [hz02]))
