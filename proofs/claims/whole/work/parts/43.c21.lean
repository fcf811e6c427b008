/-! miss, explain, sure of both -/
def msV (z : FlR) (x y : Int32) : Int32 := minI 9999 (absI (x - z.2.2 0) + absI (y - z.2.2 1))
abbrev msF (I : Mem) (n : Nat) (bd : Int32) : Int32 := msV (fA I (83 + 2 * n + 1) bd) (I (83 + 2 * n) 1) (I (83 + 2 * n) 2)
abbrev msR (I : Mem) (n : Nat) (bd : Int32) : Int32 := msV (RR I (I 177 (7 * n)) bd (-1) (I 177 (7 * n + 1)) (I 177 (7 * n + 2)) (I 177 (7 * n + 3)) (I 177 (7 * n + 4))) (I 177 (7 * n + 5)) (I 177 (7 * n + 6))
def sumS (p : Nat → Bool) (f : Nat → Int32) : Nat → Int32
  | 0 => 0
  | i + 1 => if p i = true then sumS p f i + f i else sumS p f i
theorem sum_t {p : Nat → Bool} {f : Nat → Int32} {i : Nat} (h : p i = true) : sumS p f (i + 1) = sumS p f i + f i := if_pos h
theorem sum_f {p : Nat → Bool} {f : Nat → Int32} {i : Nat} (h : p i = false) : sumS p f (i + 1) = sumS p f i := if_neg (by rw [h]; decide)
theorem sum_f0 {p : Nat → Bool} {f : Nat → Int32} {i : Nat} (h : p i = false) : sumS p f (i + 1) = sumS p f i + 0 := by rw [sum_f h, Int32.add_zero]
theorem sum_congr {p q : Nat → Bool} {f g : Nat → Int32} : ∀ n, (∀ i, i < n → p i = q i) → (∀ i, i < n → p i = true → f i = g i) → sumS p f n = sumS q g n
  | 0, _, _ => rfl
  | n + 1, h1, h2 => by
    have ih := sum_congr n (fun i hi => h1 i (by omega)) (fun i hi => h2 i (by omega))
    by_cases c : p n = true
    · rw [sum_t c, sum_t (by rw [← h1 n (by omega)]; exact c), ih, h2 n (by omega) c]
    · have c2 : p n = false := by revert c; cases p n <;> simp
      rw [sum_f c2, sum_f (by rw [← h1 n (by omega)]; exact c2), ih]
abbrev smF (I : Mem) (s bd : Int32) : Int32 := sumS (rwF I s) (fun r => msF I r bd) (I 0 16).toNatClampNeg
abbrev smR (I : Mem) (s bd : Int32) : Int32 := sumS (rwR I s) (fun r => msR I r bd) (I 151 42).toNatClampNeg
def exStep (f : Int32 → Int32) (v : Int32) (z : Int32 × Int32) : Int32 × Int32 := (if f v < z.2 then v else z.1, if f v < z.2 then f v else z.2)
theorem ex_t {f : Int32 → Int32} {v : Int32} {z : Int32 × Int32} (h : f v < z.2) : exStep f v z = (v, f v) := by
  unfold exStep
  rw [if_pos h, if_pos h]
theorem ex_f {f : Int32 → Int32} {v : Int32} {z : Int32 × Int32} (h : ¬ f v < z.2) : exStep f v z = z := by
  unfold exStep
  rw [if_neg h, if_neg h]
def exC (f : Int32 → Int32) : Nat → Int32 × Int32
  | 0 => (0, f 0)
  | k + 1 => exStep f ((-1 + 2) * nI (k + 1)) (exStep f (-1 * nI (k + 1)) (exC f k))
def exR (f : Int32 → Int32) : Nat → Int32 × Int32
  | 0 => (0, f 0)
  | k + 1 => exStep f (nI (k + 1)) (exStep f (-nI (k + 1)) (exR f k))
theorem exCR (f : Int32 → Int32) : ∀ k, exC f k = exR f k
  | 0 => rfl
  | k + 1 => by
    unfold exC exR
    rw [exCR f k, Int32.neg_mul, Int32.one_mul, show (-1 + 2 : Int32) = 1 by decide, Int32.one_mul]
def F_sure (I : Mem) (s : Int32) : Int32 := if isS s (I 0 2) then (if nI (cntP (rwF I s) (I 0 16).toNatClampNeg) = 0 then -4 else if nI (cntP (rwF I s) (I 0 16).toNatClampNeg) < 3 then 0 else if 2 * smF I s (exC (smF I s) 9).1 < smF I s 0 then 1 else 0) else -1
def R_sure (I : Mem) (s : Int32) : Int32 := if isS s (I 151 1) then (if nI (cntP (rwR I s) (I 151 42).toNatClampNeg) = 0 then -4 else if nI (cntP (rwR I s) (I 151 42).toNatClampNeg) < 3 then 0 else if 2 * smR I s (exR (smR I s) 9).1 < smR I s 0 then 1 else 0) else -1
def F_explain (I : Mem) (s : Int32) : Int32 := if isS s (I 0 2) then (if nI (cntP (rwF I s) (I 0 16).toNatClampNeg) = 0 then -14 else (exC (smF I s) 9).1) else -11
def R_explain (I : Mem) (s : Int32) : Int32 := if isS s (I 151 1) then (if nI (cntP (rwR I s) (I 151 42).toNatClampNeg) = 0 then -14 else (exR (smR I s) 9).1) else -11
def F_miss (I : Mem) (r bd : Int32) : Int32 := if (0 ≤ r.toInt ∧ r.toInt < (I 0 16).toInt) ∧ (-9 ≤ bd.toInt ∧ bd.toInt ≤ 9) then msF I r.toNatClampNeg bd else -1
def R_miss (I : Mem) (r bd : Int32) : Int32 := if (0 ≤ r.toInt ∧ r.toInt < (I 151 42).toInt) ∧ (-9 ≤ bd.toInt ∧ bd.toInt ≤ 9) then msR I r.toNatClampNeg bd else -1
abbrev rowsF (I : Mem) : Prop := ∀ n, n < (I 0 16).toNatClampNeg → AimOk I (83 + 2 * n + 1)
abbrev rwOkR (I : Mem) (n : Nat) : Prop := (0 ≤ (I 177 (7 * n)).toInt ∧ (I 177 (7 * n)).toInt < 9) ∧ (0 ≤ (I 177 (7 * n + 1)).toInt ∧ (I 177 (7 * n + 1)).toInt ≤ 90)
abbrev rowsR (I : Mem) : Prop := ∀ n, n < (I 151 42).toNatClampNeg → rwOkR I n
theorem msF_fr {I J : Mem} (h : fr17 I J) (hc : 0 ≤ (I 7 1).toInt ∧ (I 7 1).toInt ≤ 6) (n : Nat) (bd : Int32) : msF J n bd = msF I n bd := by
  unfold msF fA
  rw [fr17_FF h hc, h (83 + 2 * n + 1) (by omega), h (83 + 2 * n) (by omega)]
theorem rwF_fr {I J : Mem} (h : fr17 I J) (s : Int32) : rwF J s = rwF I s := by
  funext r
  unfold rwF
  rw [h (83 + 2 * r + 1) (by omega)]
theorem smF_fr {I J : Mem} (h : fr17 I J) (hc : 0 ≤ (I 7 1).toInt ∧ (I 7 1).toInt ≤ 6) (s : Int32) : smF J s = smF I s := by
  funext bd
  unfold smF
  rw [rwF_fr h, h 0 (by decide)]
  exact congrArg (fun f => sumS (rwF I s) f (I 0 16).toNatClampNeg) (funext fun r => msF_fr h hc r bd)
theorem rowsF_fr {I J : Mem} (h : fr17 I J) (hr : rowsF I) : rowsF J := by
  intro n hn
  rw [h 0 (by decide)] at hn
  unfold AimOk
  rw [h (83 + 2 * n + 1) (by omega)]
  exact hr n hn
theorem msR_fr {I J : Mem} (h : frR I J) (n : Nat) (bd : Int32) : msR J n bd = msR I n bd := by
  unfold msR
  rw [frR_RR h, h.1 177 (by decide) (by decide)]
theorem rwR_fr {I J : Mem} (h : frR I J) (s : Int32) : rwR J s = rwR I s := by
  funext r
  unfold rwR
  rw [h.1 177 (by decide) (by decide)]
theorem smR_fr {I J : Mem} (h : frR I J) (s : Int32) : smR J s = smR I s := by
  funext bd
  unfold smR
  rw [rwR_fr h, h.2 42 (by decide) (by decide)]
  exact congrArg (fun f => sumS (rwR I s) f (I 151 42).toNatClampNeg) (funext fun r => msR_fr h r bd)
theorem rowsR_fr {I J : Mem} (h : frR I J) (hr : rowsR I) : rowsR J := by
  intro n hn
  rw [h.2 42 (by decide) (by decide)] at hn
  unfold rwOkR
  rw [h.1 177 (by decide) (by decide)]
  exact hr n hn
theorem absI_neg (z : Int32) : absI (-z) = absI z := by
  have h1 := tI_lo z
  have h2 := tI_hi z
  by_cases e : z.toInt = -2147483648
  · have : z = -2147483648 := by rw [i32_eq, e]; decide
    rw [this]
    decide
  · have en : (-z).toInt = -z.toInt := tI_neg (by omega)
    unfold absI
    by_cases p : 0 ≤ z
    · by_cases q : 0 ≤ -z
      · rw [if_pos p, if_pos q]
        rw [Int32.le_iff_toInt_le, z32] at p
        rw [Int32.le_iff_toInt_le, z32, en] at q
        rw [i32_eq, en]
        omega
      · rw [if_neg q, if_pos p, Int32.neg_neg]
    · by_cases q : 0 ≤ -z
      · rw [if_neg p, if_pos q]
      · exfalso
        rw [Int32.le_iff_toInt_le, z32] at p
        rw [Int32.le_iff_toInt_le, z32, en] at q
        omega
theorem abs_sub (x y : Int32) : absI (x - y) = absI (y - x) := by rw [← absI_neg (y - x), Int32.neg_sub]
theorem endV_nn (v : Vec) (t : Int32) (T : Nat → Nat → Int32) (n : Nat) (r : Int32) : 0 ≤ (endV v t T n r).toInt := by
  unfold endV
  split
  · decide
  · split
    · decide
    · split
      · decide
      · split <;> decide
theorem RR_pos {I : Mem} {s bd w l a st sp r : Int32} (h : r = (RR I s bd w l a st sp).1) (h0 : ¬ r = 0) : ¬ r ≤ 0 := by
  have e : 0 ≤ r.toInt := by
    rw [h]
    exact endV_nn _ _ _ _ _
  rw [Int32.le_iff_toInt_le, z32]
  rw [i32_eq, z32] at h0
  omega
theorem e9999 : (9999 : Int32).toInt = 9999 := by decide
theorem e9i : (9 : Int32).toInt = 9 := by decide
set_option maxRecDepth 100000 in
set_option maxHeartbeats 1000000 in
theorem c_X10_missOf (E : En) (I : Mem) (n : Nat) (bd : Int32) (hn : n < 30) (hao : AimOk I (83 + 2 * n + 1)) (hF : FlOkF I) : Ctr E yX10_missOf cX10_missOf 3 (some .int) 4 [.ref (E.1 0), .ref (E.1 (83 + 2 * n)), .int bd] I (qI (fun (r : Int32) (I1 : Mem) => r = msF I n bd ∧ fr17 I I1)) := by
  refine Ctr.openI (by decide) (Nat.le_of_ble_eq_true rfl) (fun g h hr => ?_)
  have h : Sem cX10_missOf RX10 3 (rmL 4) E g := h
  show g I 0 [(0, .ref (E.1 0)), (1, .ref (E.1 (83 + 2 * n))), (2, .int bd)] []
  refine r_aload_n (pc := 0) h dX10_missOf_0 rfl ?_
  refine r_aload_n (pc := 1) h dX10_missOf_1 rfl ?_
  refine gf_X10_57 (pc := 2) h dX10_missOf_2 ?_
  refine r_aload_n (pc := 5) h dX10_missOf_5 rfl ?_
  refine gf_X10_424 (pc := 6) h dX10_missOf_6 (by omega) (kdRo _ hn) (rfRa _ hn) ?_
  refine r_iload_n (pc := 9) h dX10_missOf_9 rfl ?_
  refine r_callVI (ci := 10) (pc := 10) h dX10_missOf_10 wm_X10_192 ca_X10_endOf rfl (c_endOf E _ 17 (83 + 2 * n + 1) _ (Or.inr rfl) (by omega) (kdRa _ hn) hao hF) rfl rfl (Nat.le_of_ble_eq_true rfl) (by decide) (by decide) (by decide) (by decide) (fun e_ K_ hq => ?_)
  obtain ⟨hz1, hz2, hz3, hz4, hz5, hz6, hz7⟩ := end17 hq
  refine r_pop (pc := 13) h dX10_missOf_13 rfl ?_
  refine r_sipush (v := 9999) (pc := 14) h dX10_missOf_14 (by decide) ?_
  refine r_aload_n (pc := 17) h dX10_missOf_17 rfl ?_
  refine gf_X10_427 (pc := 18) h dX10_missOf_18 (by omega) (kdRo _ hn) ?_
  refine r_aload_n (pc := 21) h dX10_missOf_21 rfl ?_
  refine gf_X10_57 (pc := 22) h dX10_missOf_22 ?_
  refine gf_X10_305 (pc := 25) h dX10_missOf_25 (by decide) (by decide) ?_
  refine r_isub (pc := 28) h dX10_missOf_28 ?_
  refine r_callSI (pc := 29) h dX10_missOf_29 wm_X10_229 ca_J9_abs_0f7a4 (c_J9_abs_0f7a4 E _ _) rfl rfl (Nat.le_of_ble_eq_true rfl) (by decide) (fun r I1 hq => ?_)
  obtain ⟨rfl, rfl⟩ := hq
  refine r_aload_n (pc := 32) h dX10_missOf_32 rfl ?_
  refine gf_X10_428 (pc := 33) h dX10_missOf_33 (by omega) (kdRo _ hn) ?_
  refine r_aload_n (pc := 36) h dX10_missOf_36 rfl ?_
  refine gf_X10_57 (pc := 37) h dX10_missOf_37 ?_
  refine gf_X10_311 (pc := 40) h dX10_missOf_40 (by decide) (by decide) ?_
  refine r_isub (pc := 43) h dX10_missOf_43 ?_
  refine r_callSI (pc := 44) h dX10_missOf_44 wm_X10_229 ca_J9_abs_0f7a4 (c_J9_abs_0f7a4 E _ _) rfl rfl (Nat.le_of_ble_eq_true rfl) (by decide) (fun r I1 hq => ?_)
  obtain ⟨rfl, rfl⟩ := hq
  refine r_iadd (pc := 47) h dX10_missOf_47 ?_
  refine r_callSI (pc := 48) h dX10_missOf_48 wm_X10_429 ca_J9_min_7cf53 (c_J9_min_7cf53 E _ _ _) rfl rfl (Nat.le_of_ble_eq_true rfl) (by decide) (fun r I1 hq => ?_)
  obtain ⟨rfl, rfl⟩ := hq
  exact hr _ _ _ _ dX10_missOf_51 (rfl) (⟨by unfold msF msV; rw [← hz4, ← hz5, ← hz6 (83 + 2 * n) (by omega)]; rfl, hz6⟩)
set_option maxRecDepth 100000 in
set_option maxHeartbeats 1000000 in
theorem c_X11_missOf (E : En) (I : Mem) (rw_ : Int32) (bd : Int32) (hr3 : 0 ≤ rw_.toInt ∧ rw_.toInt < 30) (hro : rwOkR I rw_.toNatClampNeg) (hF : FlOkR I) (h22 : I 151 22 = 0) : Ctr E yX11_missOf cX11_missOf 6 (some .int) 5 [.ref (E.1 151), .int rw_, .int bd] I (qI (fun (r : Int32) (I1 : Mem) => r = msR I rw_.toNatClampNeg bd ∧ frR I I1)) := by
  refine Ctr.openI (by decide) (Nat.le_of_ble_eq_true rfl) (fun g h hr => ?_)
  have h : Sem cX11_missOf RX11 6 (rmL 5) E g := h
  show g I 0 [(0, .ref (E.1 151)), (1, .int rw_), (2, .int bd)] []
  refine r_bipush (v := 7) (pc := 0) h dX11_missOf_0 (by decide) ?_
  refine r_iload_n (pc := 2) h dX11_missOf_2 rfl ?_
  refine r_imul (pc := 3) h dX11_missOf_3 ?_
  refine r_istore_n (pc := 4) h dX11_missOf_4 (by decide) ?_
  refine r_aload_n (pc := 5) h dX11_missOf_5 rfl ?_
  refine r_aload_n (pc := 6) h dX11_missOf_6 rfl ?_
  refine gf_X11_102 (pc := 7) h dX11_missOf_7 ?_
  refine r_iload_n (pc := 10) h dX11_missOf_10 rfl ?_
  refine r_ialdL (j := 7 * rw_.toNatClampNeg) (pc := 11) h dX11_missOf_11 (by decide) (by decide) ((m7x hr3).2) (vin (n := 210) (by rw [(m7x hr3).1]; omega) (by rw [(m7x hr3).1]; omega)) ?_
  refine r_iload_n (pc := 12) h dX11_missOf_12 rfl ?_
  refine r_aload_n (pc := 13) h dX11_missOf_13 rfl ?_
  refine gf_X11_102 (pc := 14) h dX11_missOf_14 ?_
  refine r_iload_n (pc := 17) h dX11_missOf_17 rfl ?_
  refine r_iconst (v := 1) (pc := 18) h dX11_missOf_18 (by decide) ?_
  refine r_iadd (pc := 19) h dX11_missOf_19 ?_
  refine r_ialdL (j := 7 * rw_.toNatClampNeg + 1) (pc := 20) h dX11_missOf_20 (by decide) (by decide) ((m7y hr3 (y := 1) (m := 1) (by decide) (by decide)).2) (vin (n := 210) (by rw [(m7y hr3 (y := 1) (m := 1) (by decide) (by decide)).1]; omega) (by rw [(m7y hr3 (y := 1) (m := 1) (by decide) (by decide)).1]; omega)) ?_
  refine r_aload_n (pc := 21) h dX11_missOf_21 rfl ?_
  refine gf_X11_102 (pc := 22) h dX11_missOf_22 ?_
  refine r_iload_n (pc := 25) h dX11_missOf_25 rfl ?_
  refine r_iconst (v := 2) (pc := 26) h dX11_missOf_26 (by decide) ?_
  refine r_iadd (pc := 27) h dX11_missOf_27 ?_
  refine r_ialdL (j := 7 * rw_.toNatClampNeg + 2) (pc := 28) h dX11_missOf_28 (by decide) (by decide) ((m7y hr3 (y := 2) (m := 2) (by decide) (by decide)).2) (vin (n := 210) (by rw [(m7y hr3 (y := 2) (m := 2) (by decide) (by decide)).1]; omega) (by rw [(m7y hr3 (y := 2) (m := 2) (by decide) (by decide)).1]; omega)) ?_
  refine r_aload_n (pc := 29) h dX11_missOf_29 rfl ?_
  refine gf_X11_102 (pc := 30) h dX11_missOf_30 ?_
  refine r_iload_n (pc := 33) h dX11_missOf_33 rfl ?_
  refine r_iconst (v := 3) (pc := 34) h dX11_missOf_34 (by decide) ?_
  refine r_iadd (pc := 35) h dX11_missOf_35 ?_
  refine r_ialdL (j := 7 * rw_.toNatClampNeg + 3) (pc := 36) h dX11_missOf_36 (by decide) (by decide) ((m7y hr3 (y := 3) (m := 3) (by decide) (by decide)).2) (vin (n := 210) (by rw [(m7y hr3 (y := 3) (m := 3) (by decide) (by decide)).1]; omega) (by rw [(m7y hr3 (y := 3) (m := 3) (by decide) (by decide)).1]; omega)) ?_
  refine r_aload_n (pc := 37) h dX11_missOf_37 rfl ?_
  refine gf_X11_102 (pc := 38) h dX11_missOf_38 ?_
  refine r_iload_n (pc := 41) h dX11_missOf_41 rfl ?_
  refine r_iconst (v := 4) (pc := 42) h dX11_missOf_42 (by decide) ?_
  refine r_iadd (pc := 43) h dX11_missOf_43 ?_
  refine r_ialdL (j := 7 * rw_.toNatClampNeg + 4) (pc := 44) h dX11_missOf_44 (by decide) (by decide) ((m7y hr3 (y := 4) (m := 4) (by decide) (by decide)).2) (vin (n := 210) (by rw [(m7y hr3 (y := 4) (m := 4) (by decide) (by decide)).1]; omega) (by rw [(m7y hr3 (y := 4) (m := 4) (by decide) (by decide)).1]; omega)) ?_
  refine r_iconst (v := -1) (pc := 45) h dX11_missOf_45 (by decide) ?_
  refine r_callVI (ci := 11) (pc := 46) h dX11_missOf_46 wm_X11_236 ca_X11_flies rfl (c_X11_flies E _ _ _ _ _ _ _ _ hro.1 (by decide) hro.2 hF.1 hF.2.1 hF.2.2) rfl rfl (Nat.le_of_ble_eq_true rfl) (by decide) (by decide) (by decide) (by decide) (fun e_ K_ hq => ?_)
  have hq : FliesPost I K_ (I 177 (7 * rw_.toNatClampNeg)) bd (I 177 (7 * rw_.toNatClampNeg + 1)) (I 177 (7 * rw_.toNatClampNeg + 2)) (I 177 (7 * rw_.toNatClampNeg + 3)) (I 177 (7 * rw_.toNatClampNeg + 4)) (-1) e_ := hq
  obtain ⟨hz1, hz2, hz3, hz4, hz5, hz6, hz7, hz8⟩ := flies0 hq h22
  have hps := RR_pos hz1 hz2
  refine r_istore (pc := 49) h dX11_missOf_49 (by decide) ?_
  refine r_aload_n (pc := 51) h dX11_missOf_51 rfl ?_
  refine gf_X11_60 (pc := 52) h dX11_missOf_52 ?_
  refine r_iconst (v := 0) (pc := 55) h dX11_missOf_55 (by decide) ?_
  refine r_ialdL (j := 0) (pc := 56) h dX11_missOf_56 (by decide) (by decide) (by decide) (vin (by decide) (by decide)) ?_
  refine r_aload_n (pc := 57) h dX11_missOf_57 rfl ?_
  refine gf_X11_102 (pc := 58) h dX11_missOf_58 ?_
  refine r_iload_n (pc := 61) h dX11_missOf_61 rfl ?_
  refine r_iconst (v := 5) (pc := 62) h dX11_missOf_62 (by decide) ?_
  refine r_iadd (pc := 63) h dX11_missOf_63 ?_
  refine r_ialdL (j := 7 * rw_.toNatClampNeg + 5) (pc := 64) h dX11_missOf_64 (by decide) (by decide) ((m7y hr3 (y := 5) (m := 5) (by decide) (by decide)).2) (vin (n := 210) (by rw [(m7y hr3 (y := 5) (m := 5) (by decide) (by decide)).1]; omega) (by rw [(m7y hr3 (y := 5) (m := 5) (by decide) (by decide)).1]; omega)) ?_
  refine r_isub (pc := 65) h dX11_missOf_65 ?_
  refine r_callSI (pc := 66) h dX11_missOf_66 wm_X11_311 ca_X11_size (c_X11_size E _ _) rfl rfl (Nat.le_of_ble_eq_true rfl) (by decide) (fun r I1 hq => ?_)
  obtain ⟨rfl, rfl⟩ := hq
  refine r_aload_n (pc := 69) h dX11_missOf_69 rfl ?_
  refine gf_X11_60 (pc := 70) h dX11_missOf_70 ?_
  refine r_iconst (v := 1) (pc := 73) h dX11_missOf_73 (by decide) ?_
  refine r_ialdL (j := 1) (pc := 74) h dX11_missOf_74 (by decide) (by decide) (by decide) (vin (by decide) (by decide)) ?_
  refine r_aload_n (pc := 75) h dX11_missOf_75 rfl ?_
  refine gf_X11_102 (pc := 76) h dX11_missOf_76 ?_
  refine r_iload_n (pc := 79) h dX11_missOf_79 rfl ?_
  refine r_bipush (v := 6) (pc := 80) h dX11_missOf_80 (by decide) ?_
  refine r_iadd (pc := 82) h dX11_missOf_82 ?_
  refine r_ialdL (j := 7 * rw_.toNatClampNeg + 6) (pc := 83) h dX11_missOf_83 (by decide) (by decide) ((m7y hr3 (y := 6) (m := 6) (by decide) (by decide)).2) (vin (n := 210) (by rw [(m7y hr3 (y := 6) (m := 6) (by decide) (by decide)).1]; omega) (by rw [(m7y hr3 (y := 6) (m := 6) (by decide) (by decide)).1]; omega)) ?_
  refine r_isub (pc := 84) h dX11_missOf_84 ?_
  refine r_callSI (pc := 85) h dX11_missOf_85 wm_X11_311 ca_X11_size (c_X11_size E _ _) rfl rfl (Nat.le_of_ble_eq_true rfl) (by decide) (fun r I1 hq => ?_)
  obtain ⟨rfl, rfl⟩ := hq
  refine r_iadd (pc := 88) h dX11_missOf_88 ?_
  refine r_istore (pc := 89) h dX11_missOf_89 (by decide) ?_
  have hgoal_ : msR I rw_.toNatClampNeg bd = minI 9999 (absI (K_ 167 0 - K_ 177 (7 * rw_.toNatClampNeg + 5)) + absI (K_ 167 1 - K_ 177 (7 * rw_.toNatClampNeg + 6))) := by
    unfold msR msV
    rw [hz4, hz5, hz6 177 (by decide) (by decide), abs_sub (I 177 (7 * rw_.toNatClampNeg + 5)), abs_sub (I 177 (7 * rw_.toNatClampNeg + 6))]
  refine r_iload (pc := 91) h dX11_missOf_91 rfl ?_
  refine r_if_le (pc := 93) h 110 dX11_missOf_93 (by decide) (fun c93 => ?_) (fun c93 => ?_)
  · refine r_iload (pc := 110) h dX11_missOf_110 rfl ?_
    exact hr _ _ _ _ dX11_missOf_112 (rfl) (⟨by rw [hgoal_]; unfold minI; first | exact absurd c93 hps | (rw [if_neg (fun q => absurd q (Int32.not_lt.mpr (Int32.le_of_lt (Int32.not_le.mp c101))))]; done) | (by_cases q_ : absI (K_ 167 0 - K_ 177 (7 * rw_.toNatClampNeg + 5)) + absI (K_ 167 1 - K_ 177 (7 * rw_.toNatClampNeg + 6)) < 9999; rw [if_pos q_]; rw [if_neg q_]; exact Int32.le_antisymm c101 (Int32.not_lt.mp q_)), hz6, hz7⟩)
  · refine r_iload (pc := 96) h dX11_missOf_96 rfl ?_
    refine r_sipush (v := 9999) (pc := 98) h dX11_missOf_98 (by decide) ?_
    refine r_icmp_le (pc := 101) h 110 dX11_missOf_101 (by decide) (fun c101 => ?_) (fun c101 => ?_)
    · refine r_iload (pc := 110) h dX11_missOf_110 rfl ?_
      exact hr _ _ _ _ dX11_missOf_112 (rfl) (⟨by rw [hgoal_]; unfold minI; first | exact absurd c93 hps | (rw [if_neg (fun q => absurd q (Int32.not_lt.mpr (Int32.le_of_lt (Int32.not_le.mp c101))))]; done) | (by_cases q_ : absI (K_ 167 0 - K_ 177 (7 * rw_.toNatClampNeg + 5)) + absI (K_ 167 1 - K_ 177 (7 * rw_.toNatClampNeg + 6)) < 9999; rw [if_pos q_]; rw [if_neg q_]; exact Int32.le_antisymm c101 (Int32.not_lt.mp q_)), hz6, hz7⟩)
    · refine r_sipush (v := 9999) (pc := 104) h dX11_missOf_104 (by decide) ?_
      refine r_goto (pc := 107) h 112 dX11_missOf_107 (by decide) ?_
      exact hr _ _ _ _ dX11_missOf_112 (rfl) (⟨by rw [hgoal_]; unfold minI; first | exact absurd c93 hps | (rw [if_neg (fun q => absurd q (Int32.not_lt.mpr (Int32.le_of_lt (Int32.not_le.mp c101))))]; done) | (by_cases q_ : absI (K_ 167 0 - K_ 177 (7 * rw_.toNatClampNeg + 5)) + absI (K_ 167 1 - K_ 177 (7 * rw_.toNatClampNeg + 6)) < 9999; rw [if_pos q_]; rw [if_neg q_]; exact Int32.le_antisymm c101 (Int32.not_lt.mp q_)), hz6, hz7⟩)
set_option maxRecDepth 100000 in
set_option maxHeartbeats 1000000 in
theorem c_X10_miss (E : En) (I : Mem) (rw_ : Int32) (bd : Int32) (hr9 : 0 ≤ (I 0 16).toInt ∧ (I 0 16).toInt ≤ 30) (hro : rowsF I) (hF : FlOkF I) : Ctr E yX10_miss cX10_miss 3 (some .int) 5 [.ref (E.1 0), .int rw_, .int bd] I (qI (fun (r : Int32) (I1 : Mem) => r = F_miss I rw_ bd ∧ fr17 I I1)) := by
  refine Ctr.openI (by decide) (Nat.le_of_ble_eq_true rfl) (fun g h hr => ?_)
  have h : Sem cX10_miss RX10 3 (rmL 5) E g := h
  show g I 0 [(0, .ref (E.1 0)), (1, .int rw_), (2, .int bd)] []
  have ec : (I 0 16 - 1).toInt = (I 0 16).toInt - 1 := tI_sub1 (by omega)
  refine r_iload_n (pc := 0) h dX10_miss_0 rfl ?_
  refine r_iconst (v := 0) (pc := 1) h dX10_miss_1 (by decide) ?_
  refine r_aload_n (pc := 2) h dX10_miss_2 rfl ?_
  refine gf_X10_95 (pc := 3) h dX10_miss_3 ?_
  refine r_iconst (v := 1) (pc := 6) h dX10_miss_6 (by decide) ?_
  refine r_isub (pc := 7) h dX10_miss_7 ?_
  refine r_callSI (pc := 8) h dX10_miss_8 wm_X10_118 ca_X10_within (c_X10_within E _ _ _ _) rfl rfl (Nat.le_of_ble_eq_true rfl) (by decide) (fun r I1 hq => ?_)
  obtain ⟨rfl, rfl⟩ := hq
  refine r_if_eq (pc := 11) h 21 dX10_miss_11 (by decide) (fun c11 => ?_) (fun c11 => ?_)
  · refine r_iconst (v := -1) (pc := 21) h dX10_miss_21 (by decide) ?_
    exact hr _ _ _ _ dX10_miss_22 (rfl) (⟨by unfold F_miss; rw [if_neg (by (try simp only [b2i_eq0] at *); (try simp only [Int32.reduceToInt, Int64.reduceToInt, Int32.toInt_toInt64] at *); omega)], fun _ _ => rfl⟩)
  · refine r_iload_n (pc := 14) h dX10_miss_14 rfl ?_
    refine r_callSI (pc := 15) h dX10_miss_15 wm_X10_133 ca_X10_isBend (c_X10_isBend E _ _) rfl rfl (Nat.le_of_ble_eq_true rfl) (by decide) (fun r I1 hq => ?_)
    obtain ⟨rfl, rfl⟩ := hq
    refine r_if_ne (pc := 18) h 23 dX10_miss_18 (by decide) (fun c18 => ?_) (fun c18 => ?_)
    · have hv : (0 ≤ rw_.toInt ∧ rw_.toInt < (I 0 16).toInt) ∧ (-9 ≤ bd.toInt ∧ bd.toInt ≤ 9) := by (try simp only [b2i_eq0] at *); (try simp only [Int32.reduceToInt, Int64.reduceToInt, Int32.toInt_toInt64] at *); omega
      have hn3 : rw_.toNatClampNeg < 30 := by rw [tn]; omega
      refine r_aload_n (pc := 23) h dX10_miss_23 rfl ?_
      refine r_aload_n (pc := 24) h dX10_miss_24 rfl ?_
      refine gf_X10_91 (pc := 25) h dX10_miss_25 ?_
      refine r_iload_n (pc := 28) h dX10_miss_28 rfl ?_
      refine r_aa36 (pc := 29) h dX10_miss_29 (vin (n := 30) (by omega) (by omega)) ?_
      refine r_iload_n (pc := 30) h dX10_miss_30 rfl ?_
      refine r_callVI (ci := 10) (pc := 31) h dX10_miss_31 wm_X10_276 ca_X10_missOf rfl (c_X10_missOf E _ _ _ hn3 (hro _ (by rw [tn, tn]; omega)) hF) rfl rfl (Nat.le_of_ble_eq_true rfl) (by decide) (by decide) (by decide) (by decide) (fun r I1 hq => ?_)
      obtain ⟨hp1, hp2⟩ := hq
      exact hr _ _ _ _ dX10_miss_34 (rfl) (⟨by unfold F_miss; rw [if_pos hv]; exact hp1, hp2⟩)
    · refine r_iconst (v := -1) (pc := 21) h dX10_miss_21 (by decide) ?_
      exact hr _ _ _ _ dX10_miss_22 (rfl) (⟨by unfold F_miss; rw [if_neg (by (try simp only [b2i_eq0] at *); (try simp only [Int32.reduceToInt, Int64.reduceToInt, Int32.toInt_toInt64] at *); omega)], fun _ _ => rfl⟩)
set_option maxRecDepth 100000 in
set_option maxHeartbeats 1000000 in
theorem c_X11_miss (E : En) (I : Mem) (rw_ : Int32) (bd : Int32) (hr9 : 0 ≤ (I 151 42).toInt ∧ (I 151 42).toInt ≤ 30) (hro : rowsR I) (hF : FlOkR I) (h22 : I 151 22 = 0) : Ctr E yX11_miss cX11_miss 3 (some .int) 6 [.ref (E.1 151), .int rw_, .int bd] I (qI (fun (r : Int32) (I1 : Mem) => r = R_miss I rw_ bd ∧ frR I I1)) := by
  refine Ctr.openI (by decide) (Nat.le_of_ble_eq_true rfl) (fun g h hr => ?_)
  have h : Sem cX11_miss RX11 3 (rmL 6) E g := h
  show g I 0 [(0, .ref (E.1 151)), (1, .int rw_), (2, .int bd)] []
  have ec : (I 151 42 - 1).toInt = (I 151 42).toInt - 1 := tI_sub1 (by omega)
  refine r_iload_n (pc := 0) h dX11_miss_0 rfl ?_
  refine r_i2l (pc := 1) h dX11_miss_1 ?_
  refine r_lconst (v := 0) (pc := 2) h dX11_miss_2 (by decide) ?_
  refine r_aload_n (pc := 3) h dX11_miss_3 rfl ?_
  refine gf_X11_300 (pc := 4) h dX11_miss_4 ?_
  refine r_iconst (v := 1) (pc := 7) h dX11_miss_7 (by decide) ?_
  refine r_isub (pc := 8) h dX11_miss_8 ?_
  refine r_i2l (pc := 9) h dX11_miss_9 ?_
  refine r_callSI (pc := 10) h dX11_miss_10 wm_X11_127 ca_X11_in (c_X11_in E _ _ _ _) rfl rfl (Nat.le_of_ble_eq_true rfl) (by decide) (fun r I1 hq => ?_)
  obtain ⟨rfl, rfl⟩ := hq
  refine r_if_eq (pc := 13) h 39 dX11_miss_13 (by decide) (fun c13 => ?_) (fun c13 => ?_)
  · refine r_iconst (v := -1) (pc := 39) h dX11_miss_39 (by decide) ?_
    exact hr _ _ _ _ dX11_miss_40 (rfl) (by first | exact ⟨by unfold R_miss; rw [if_pos hv]; exact hp1, hp2⟩ | exact ⟨by unfold R_miss; rw [if_neg (by (try simp only [b2i_eq0] at *); (try simp only [Int32.reduceToInt, Int64.reduceToInt, Int32.toInt_toInt64] at *); omega)], fun _ _ _ => rfl, fun _ _ _ => rfl⟩)
  · refine r_iload_n (pc := 16) h dX11_miss_16 rfl ?_
    refine r_i2l (pc := 17) h dX11_miss_17 ?_
    refine r_ldc2 (pc := 18) h dX11_miss_18 wc_X11_161 ?_
    refine r_ldc2 (pc := 21) h dX11_miss_21 wc_X11_163 ?_
    refine r_callSI (pc := 24) h dX11_miss_24 wm_X11_127 ca_X11_in (c_X11_in E _ _ _ _) rfl rfl (Nat.le_of_ble_eq_true rfl) (by decide) (fun r I1 hq => ?_)
    obtain ⟨rfl, rfl⟩ := hq
    refine r_if_eq (pc := 27) h 39 dX11_miss_27 (by decide) (fun c27 => ?_) (fun c27 => ?_)
    · refine r_iconst (v := -1) (pc := 39) h dX11_miss_39 (by decide) ?_
      exact hr _ _ _ _ dX11_miss_40 (rfl) (by first | exact ⟨by unfold R_miss; rw [if_pos hv]; exact hp1, hp2⟩ | exact ⟨by unfold R_miss; rw [if_neg (by (try simp only [b2i_eq0] at *); (try simp only [Int32.reduceToInt, Int64.reduceToInt, Int32.toInt_toInt64] at *); omega)], fun _ _ _ => rfl, fun _ _ _ => rfl⟩)
    · have hv : (0 ≤ rw_.toInt ∧ rw_.toInt < (I 151 42).toInt) ∧ (-9 ≤ bd.toInt ∧ bd.toInt ≤ 9) := by (try simp only [b2i_eq0] at *); (try simp only [Int32.reduceToInt, Int64.reduceToInt, Int32.toInt_toInt64] at *); omega
      have hn3 : rw_.toNatClampNeg < (I 151 42).toNatClampNeg := by rw [tn, tn]; omega
      refine r_aload_n (pc := 30) h dX11_miss_30 rfl ?_
      refine r_iload_n (pc := 31) h dX11_miss_31 rfl ?_
      refine r_iload_n (pc := 32) h dX11_miss_32 rfl ?_
      refine r_callVI (ci := 11) (pc := 33) h dX11_miss_33 wm_X11_314 ca_X11_missOf rfl (c_X11_missOf E _ _ _ ⟨hv.1.1, by omega⟩ (hro _ hn3) hF h22) rfl rfl (Nat.le_of_ble_eq_true rfl) (by decide) (by decide) (by decide) (by decide) (fun r I1 hq => ?_)
      obtain ⟨hp1, hp2⟩ := hq
      refine r_goto (pc := 36) h 40 dX11_miss_36 (by decide) ?_
      exact hr _ _ _ _ dX11_miss_40 (rfl) (by first | exact ⟨by unfold R_miss; rw [if_pos hv]; exact hp1, hp2⟩ | exact ⟨by unfold R_miss; rw [if_neg (by (try simp only [b2i_eq0] at *); (try simp only [Int32.reduceToInt, Int64.reduceToInt, Int32.toInt_toInt64] at *); omega)], fun _ _ _ => rfl, fun _ _ _ => rfl⟩)
set_option maxRecDepth 100000 in
set_option maxHeartbeats 1000000 in
theorem c_X10_missSum (E : En) (I : Mem) (s : Int32) (bd : Int32) (hr9 : 0 ≤ (I 0 16).toInt ∧ (I 0 16).toInt ≤ 30) (hro : rowsF I) (hF : FlOkF I) : Ctr E yX10_missSum cX10_missSum 5 (some .int) 5 [.ref (E.1 0), .int s, .int bd] I (qI (fun (r : Int32) (I1 : Mem) => r = smF I s bd ∧ fr17 I I1)) := by
  refine Ctr.openI (by decide) (Nat.le_of_ble_eq_true rfl) (fun g h hr => ?_)
  have h : Sem cX10_missSum RX10 5 (rmL 5) E g := h
  show g I 0 [(0, .ref (E.1 0)), (1, .int s), (2, .int bd)] []
  refine r_iconst (v := 0) (pc := 0) h dX10_missSum_0 (by decide) ?_
  refine r_istore_n (pc := 1) h dX10_missSum_1 (by decide) ?_
  refine r_iconst (v := 0) (pc := 2) h dX10_missSum_2 (by decide) ?_
  refine r_istore (pc := 3) h dX10_missSum_3 (by decide) ?_
  have loop5 : ∀ (m i : Nat) (J_ : Mem), fr17 I J_ → i ≤ (I 0 16).toNatClampNeg → (I 0 16).toNatClampNeg + 1 ≤ i + m → g J_ 5 [(0, .ref (E.1 0)), (1, .int s), (2, .int bd), (3, .int (sumS (rwF I s) (fun r => msF I r bd) i)), (4, .int (nI i))] [] := by
    intro m
    induction m with
    | zero =>
      intro i J_ hfr h1 h2
      omega
    | succ m ih =>
      intro i J_ hfr hi him
      have hC : ((I 0 16).toNatClampNeg : Int) = (I 0 16).toInt := tnI _ hr9.1
      have ei := nI_tI (i := i) (by omega)
      have hJ0 : J_ 0 16 = I 0 16 := by rw [hfr 0 (by decide)]
      refine r_iload (pc := 5) h dX10_missSum_5 rfl ?_
      refine r_aload_n (pc := 7) h dX10_missSum_7 rfl ?_
      refine gf_X10_95 (pc := 8) h dX10_missSum_8 ?_
      rw [hJ0]
      refine r_icmp_ge (pc := 11) h 52 dX10_missSum_11 (by decide) (fun c11 => ?_) (fun c11 => ?_)
      · have hge : i = (I 0 16).toNatClampNeg := by rw [Int32.le_iff_toInt_le, ei] at c11; omega
        refine r_iload_n (pc := 52) h dX10_missSum_52 rfl ?_
        exact hr _ _ _ _ dX10_missSum_53 (rfl) (⟨by rw [hge], hfr⟩)
      · have hlt : i < (I 0 16).toNatClampNeg := by rw [Int32.le_iff_toInt_le, ei] at c11; omega
        have hi3 : i < 30 := by omega
        have en := nI_tn (i := i) (by omega)
        refine r_aload_n (pc := 14) h dX10_missSum_14 rfl ?_
        refine gf_X10_91 (pc := 15) h dX10_missSum_15 ?_
        refine r_iload (pc := 18) h dX10_missSum_18 rfl ?_
        refine r_aa36 (pc := 20) h dX10_missSum_20 (vinI (n := 30) (by omega) (by omega)) ?_
        rw [en]
        refine gf_X10_424 (pc := 21) h dX10_missSum_21 (by omega) (kdRo _ hi3) (rfRa _ hi3) ?_
        refine gf_X10_222 (pc := 24) h dX10_missSum_24 (by omega) (kdRa _ hi3) ?_
        rw [hfr (83 + 2 * i + 1) (by omega)]
        refine r_iload_n (pc := 27) h dX10_missSum_27 rfl ?_
        refine r_icmp_ne (pc := 28) h 46 dX10_missSum_28 (by decide) (fun c28 => ?_) (fun c28 => ?_)
        · refine r_iinc (v := 1) (pc := 46) h dX10_missSum_46 rfl (by decide) (by decide) ?_
          refine r_goto (pc := 49) h 5 dX10_missSum_49 (by decide) ?_
          rw [← nI_succ i]
          first
          | (have e9_ := sum_t (p := rwF I s) (f := fun r => msF I r bd) (i := i) (decide_eq_true c28)
             exact r_at h [(0, .ref (E.1 0)), (1, .int s), (2, .int bd), (3, .int (sumS (rwF I s) (fun r => msF I r bd) (i + 1))), (4, .int (nI (i + 1)))] ⟨rfl, rfl, rfl, by rw [e9_]; rfl, rfl, trivial⟩ (ih (i + 1) _ hfr2 (by omega) (by omega)))
          | (have e9_ := sum_f (p := rwF I s) (f := fun r => msF I r bd) (i := i) (decide_eq_false c28)
             exact r_at h [(0, .ref (E.1 0)), (1, .int s), (2, .int bd), (3, .int (sumS (rwF I s) (fun r => msF I r bd) (i + 1))), (4, .int (nI (i + 1)))] ⟨rfl, rfl, rfl, by rw [e9_]; rfl, rfl, trivial⟩ (ih (i + 1) _ hfr (by omega) (by omega)))
        · refine r_iload_n (pc := 31) h dX10_missSum_31 rfl ?_
          refine r_aload_n (pc := 32) h dX10_missSum_32 rfl ?_
          refine r_aload_n (pc := 33) h dX10_missSum_33 rfl ?_
          refine gf_X10_91 (pc := 34) h dX10_missSum_34 ?_
          refine r_iload (pc := 37) h dX10_missSum_37 rfl ?_
          refine r_aa36 (pc := 39) h dX10_missSum_39 (vinI (n := 30) (by omega) (by omega)) ?_
          rw [en]
          refine r_iload_n (pc := 40) h dX10_missSum_40 rfl ?_
          refine r_callVI (ci := 10) (pc := 41) h dX10_missSum_41 wm_X10_276 ca_X10_missOf rfl (c_X10_missOf E _ _ _ hi3 (by show AimOk J_ _; unfold AimOk; rw [hfr (83 + 2 * i + 1) (by omega)]; exact hro i hlt) (fr17_ok hfr hF)) rfl rfl (Nat.le_of_ble_eq_true rfl) (by decide) (by decide) (by decide) (by decide) (fun v_ K_ hq => ?_)
          obtain ⟨hp1, hp2⟩ := hq
          rw [msF_fr hfr hF.2.1] at hp1
          subst hp1
          have hfr2 := fr17_tr hfr hp2
          refine r_iadd (pc := 44) h dX10_missSum_44 ?_
          refine r_istore_n (pc := 45) h dX10_missSum_45 (by decide) ?_
          refine r_iinc (v := 1) (pc := 46) h dX10_missSum_46 rfl (by decide) (by decide) ?_
          refine r_goto (pc := 49) h 5 dX10_missSum_49 (by decide) ?_
          rw [← nI_succ i]
          first
          | (have e9_ := sum_t (p := rwF I s) (f := fun r => msF I r bd) (i := i) (decide_eq_true c28)
             exact r_at h [(0, .ref (E.1 0)), (1, .int s), (2, .int bd), (3, .int (sumS (rwF I s) (fun r => msF I r bd) (i + 1))), (4, .int (nI (i + 1)))] ⟨rfl, rfl, rfl, by rw [e9_]; rfl, rfl, trivial⟩ (ih (i + 1) _ hfr2 (by omega) (by omega)))
          | (have e9_ := sum_f (p := rwF I s) (f := fun r => msF I r bd) (i := i) (decide_eq_false c28)
             exact r_at h [(0, .ref (E.1 0)), (1, .int s), (2, .int bd), (3, .int (sumS (rwF I s) (fun r => msF I r bd) (i + 1))), (4, .int (nI (i + 1)))] ⟨rfl, rfl, rfl, by rw [e9_]; rfl, rfl, trivial⟩ (ih (i + 1) _ hfr (by omega) (by omega)))
  exact r_at h [(0, .ref (E.1 0)), (1, .int s), (2, .int bd), (3, .int (sumS (rwF I s) (fun r => msF I r bd) 0)), (4, .int (nI 0))] ⟨rfl, rfl, rfl, rfl, rfl, trivial⟩ (loop5 ((I 0 16).toNatClampNeg + 1) 0 I (fun _ _ => rfl) (by omega) (by omega))
set_option maxRecDepth 100000 in
set_option maxHeartbeats 1000000 in
theorem c_X11_missAll (E : En) (I : Mem) (s : Int32) (bd : Int32) (hr9 : 0 ≤ (I 151 42).toInt ∧ (I 151 42).toInt ≤ 30) (hro : rowsR I) (hF : FlOkR I) (h22 : I 151 22 = 0) : Ctr E yX11_missAll cX11_missAll 5 (some .int) 6 [.ref (E.1 151), .int s, .int bd] I (qI (fun (r : Int32) (I1 : Mem) => r = smR I s bd ∧ frR I I1)) := by
  refine Ctr.openI (by decide) (Nat.le_of_ble_eq_true rfl) (fun g h hr => ?_)
  have h : Sem cX11_missAll RX11 5 (rmL 6) E g := h
  show g I 0 [(0, .ref (E.1 151)), (1, .int s), (2, .int bd)] []
  refine r_iconst (v := 0) (pc := 0) h dX11_missAll_0 (by decide) ?_
  refine r_istore_n (pc := 1) h dX11_missAll_1 (by decide) ?_
  refine r_iconst (v := 0) (pc := 2) h dX11_missAll_2 (by decide) ?_
  refine r_istore (pc := 3) h dX11_missAll_3 (by decide) ?_
  have loop5 : ∀ (m i : Nat) (J_ : Mem), frR I J_ → i ≤ (I 151 42).toNatClampNeg → (I 151 42).toNatClampNeg + 1 ≤ i + m → g J_ 5 [(0, .ref (E.1 151)), (1, .int s), (2, .int bd), (3, .int (sumS (rwR I s) (fun r => msR I r bd) i)), (4, .int (nI i))] [] := by
    intro m
    induction m with
    | zero =>
      intro i J_ hfr h1 h2
      omega
    | succ m ih =>
      intro i J_ hfr hi him
      have hC : ((I 151 42).toNatClampNeg : Int) = (I 151 42).toInt := tnI _ hr9.1
      have ei := nI_tI (i := i) (by omega)
      have hJ0 : J_ 151 42 = I 151 42 := hfr.2 42 (by decide) (by decide)
      refine r_iload (pc := 5) h dX11_missAll_5 rfl ?_
      refine r_aload_n (pc := 7) h dX11_missAll_7 rfl ?_
      refine gf_X11_300 (pc := 8) h dX11_missAll_8 ?_
      rw [hJ0]
      refine r_icmp_ge (pc := 11) h 48 dX11_missAll_11 (by decide) (fun c11 => ?_) (fun c11 => ?_)
      · have hge : i = (I 151 42).toNatClampNeg := by rw [Int32.le_iff_toInt_le, ei] at c11; omega
        refine r_iload_n (pc := 48) h dX11_missAll_48 rfl ?_
        exact hr _ _ _ _ dX11_missAll_49 (rfl) (⟨by rw [hge], hfr⟩)
      · have hlt : i < (I 151 42).toNatClampNeg := by rw [Int32.le_iff_toInt_le, ei] at c11; omega
        have hi3 : i < 30 := by omega
        have en := nI_tn (i := i) (by omega)
        refine r_iload_n (pc := 14) h dX11_missAll_14 rfl ?_
        refine r_aload_n (pc := 15) h dX11_missAll_15 rfl ?_
        refine gf_X11_102 (pc := 16) h dX11_missAll_16 ?_
        refine r_bipush (v := 7) (pc := 19) h dX11_missAll_19 (by decide) ?_
        refine r_iload (pc := 21) h dX11_missAll_21 rfl ?_
        refine r_imul (pc := 23) h dX11_missAll_23 ?_
        refine r_ialdL (j := 7 * i) (pc := 24) h dX11_missAll_24 (by decide) (by decide) ((m7k hi3).2) (vin (n := 210) (by rw [(m7k hi3).1]; omega) (by rw [(m7k hi3).1]; omega)) ?_
        rw [hfr.1 177 (by decide) (by decide)]
        refine r_iload_n (pc := 25) h dX11_missAll_25 rfl ?_
        refine r_icmp_ne (pc := 26) h 39 dX11_missAll_26 (by decide) (fun c26 => ?_) (fun c26 => ?_)
        · refine r_iconst (v := 0) (pc := 39) h dX11_missAll_39 (by decide) ?_
          refine r_iadd (pc := 40) h dX11_missAll_40 ?_
          refine r_istore_n (pc := 41) h dX11_missAll_41 (by decide) ?_
          refine r_iinc (v := 1) (pc := 42) h dX11_missAll_42 rfl (by decide) (by decide) ?_
          refine r_goto (pc := 45) h 5 dX11_missAll_45 (by decide) ?_
          rw [← nI_succ i]
          first
          | (have e9_ := sum_t (p := rwR I s) (f := fun r => msR I r bd) (i := i) (decide_eq_true c26)
             exact r_at h [(0, .ref (E.1 151)), (1, .int s), (2, .int bd), (3, .int (sumS (rwR I s) (fun r => msR I r bd) (i + 1))), (4, .int (nI (i + 1)))] ⟨rfl, rfl, rfl, by rw [e9_]; rfl, rfl, trivial⟩ (ih (i + 1) _ hfr2 (by omega) (by omega)))
          | (have e9_ := sum_f0 (p := rwR I s) (f := fun r => msR I r bd) (i := i) (decide_eq_false c26)
             exact r_at h [(0, .ref (E.1 151)), (1, .int s), (2, .int bd), (3, .int (sumS (rwR I s) (fun r => msR I r bd) (i + 1))), (4, .int (nI (i + 1)))] ⟨rfl, rfl, rfl, by rw [e9_]; rfl, rfl, trivial⟩ (ih (i + 1) _ hfr (by omega) (by omega)))
        · refine r_aload_n (pc := 29) h dX11_missAll_29 rfl ?_
          refine r_iload (pc := 30) h dX11_missAll_30 rfl ?_
          refine r_iload_n (pc := 32) h dX11_missAll_32 rfl ?_
          refine r_callVI (ci := 11) (pc := 33) h dX11_missAll_33 wm_X11_314 ca_X11_missOf rfl (c_X11_missOf E _ _ _ ⟨by rw [ei]; omega, by rw [ei]; omega⟩ (by rw [en]; exact rowsR_fr hfr hro i (by rw [hJ0]; exact hlt)) (frR_ok hfr hF) (by rw [hfr.2 22 (by decide) (by decide)]; exact h22)) rfl rfl (Nat.le_of_ble_eq_true rfl) (by decide) (by decide) (by decide) (by decide) (fun v_ K_ hq => ?_)
          obtain ⟨hp1, hp2⟩ := hq
          rw [en, msR_fr hfr] at hp1
          subst hp1
          have hfr2 := frR_tr hfr hp2
          refine r_goto (pc := 36) h 40 dX11_missAll_36 (by decide) ?_
          refine r_iadd (pc := 40) h dX11_missAll_40 ?_
          refine r_istore_n (pc := 41) h dX11_missAll_41 (by decide) ?_
          refine r_iinc (v := 1) (pc := 42) h dX11_missAll_42 rfl (by decide) (by decide) ?_
          refine r_goto (pc := 45) h 5 dX11_missAll_45 (by decide) ?_
          rw [← nI_succ i]
          first
          | (have e9_ := sum_t (p := rwR I s) (f := fun r => msR I r bd) (i := i) (decide_eq_true c26)
             exact r_at h [(0, .ref (E.1 151)), (1, .int s), (2, .int bd), (3, .int (sumS (rwR I s) (fun r => msR I r bd) (i + 1))), (4, .int (nI (i + 1)))] ⟨rfl, rfl, rfl, by rw [e9_]; rfl, rfl, trivial⟩ (ih (i + 1) _ hfr2 (by omega) (by omega)))
          | (have e9_ := sum_f0 (p := rwR I s) (f := fun r => msR I r bd) (i := i) (decide_eq_false c26)
             exact r_at h [(0, .ref (E.1 151)), (1, .int s), (2, .int bd), (3, .int (sumS (rwR I s) (fun r => msR I r bd) (i + 1))), (4, .int (nI (i + 1)))] ⟨rfl, rfl, rfl, by rw [e9_]; rfl, rfl, trivial⟩ (ih (i + 1) _ hfr (by omega) (by omega)))
  exact r_at h [(0, .ref (E.1 151)), (1, .int s), (2, .int bd), (3, .int (sumS (rwR I s) (fun r => msR I r bd) 0)), (4, .int (nI 0))] ⟨rfl, rfl, rfl, rfl, rfl, trivial⟩ (loop5 ((I 151 42).toNatClampNeg + 1) 0 I ⟨fun _ _ _ => rfl, fun _ _ _ => rfl⟩ (by omega) (by omega))
set_option maxRecDepth 100000 in
set_option maxHeartbeats 1000000 in
theorem c_X10_explainedBend (E : En) (I : Mem) (s : Int32) (hr9 : 0 ≤ (I 0 16).toInt ∧ (I 0 16).toInt ≤ 30) (hro : rowsF I) (hF : FlOkF I) : Ctr E yX10_explainedBend cX10_explainedBend 7 (some .int) 6 [.ref (E.1 0), .int s] I (qI (fun (r : Int32) (I1 : Mem) => r = (exC (smF I s) 9).1 ∧ fr17 I I1)) := by
  refine Ctr.openI (by decide) (Nat.le_of_ble_eq_true rfl) (fun g h hr => ?_)
  have h : Sem cX10_explainedBend RX10 7 (rmL 6) E g := h
  show g I 0 [(0, .ref (E.1 0)), (1, .int s)] []
  have aux28 : ∀ (J_ : Mem) (b_ l_ x_ sd_ : Int32), fr17 I J_ → (∀ K_, fr17 I K_ → g K_ 55 [(0, .ref (E.1 0)), (1, .int s), (2, .int (exStep (smF I s) (sd_ * x_) (b_, l_)).1), (3, .int (exStep (smF I s) (sd_ * x_) (b_, l_)).2), (4, .int x_), (5, .int sd_)] []) → g J_ 28 [(0, .ref (E.1 0)), (1, .int s), (2, .int b_), (3, .int l_), (4, .int x_), (5, .int sd_)] [] := by
    intro J_ b_ l_ x_ sd_ hfr kk
    refine r_aload_n (pc := 28) h dX10_explainedBend_28 rfl ?_
    refine r_iload_n (pc := 29) h dX10_explainedBend_29 rfl ?_
    refine r_iload (pc := 30) h dX10_explainedBend_30 rfl ?_
    refine r_iload (pc := 32) h dX10_explainedBend_32 rfl ?_
    refine r_imul (pc := 34) h dX10_explainedBend_34 ?_
    refine r_callVI (ci := 10) (pc := 35) h dX10_explainedBend_35 wm_X10_286 ca_X10_missSum rfl (c_X10_missSum E _ _ _ (by rw [hfr 0 (by decide)]; exact hr9) (rowsF_fr hfr hro) (fr17_ok hfr hF)) rfl rfl (Nat.le_of_ble_eq_true rfl) (by decide) (by decide) (by decide) (by decide) (fun v_ K_ hq => ?_)
    obtain ⟨hp1, hp2⟩ := hq
    rw [smF_fr hfr hF.2.1] at hp1
    subst hp1
    have hfr2 := fr17_tr hfr hp2
    have kk := kk K_ hfr2
    refine r_istore (pc := 38) h dX10_explainedBend_38 (by decide) ?_
    refine r_iload (pc := 40) h dX10_explainedBend_40 rfl ?_
    refine r_iload_n (pc := 42) h dX10_explainedBend_42 rfl ?_
    refine r_icmp_ge (pc := 43) h 55 dX10_explainedBend_43 (by decide) (fun c => ?_) (fun c => ?_)
    · rw [ex_f (show ¬ smF I s (sd_ * x_) < (b_, l_).2 from Int32.not_lt.mpr c)] at kk
      exact r_at h [(0, .ref (E.1 0)), (1, .int s), (2, .int b_), (3, .int l_), (4, .int x_), (5, .int sd_)] ⟨rfl, rfl, rfl, rfl, rfl, rfl, trivial⟩ kk
    · rw [ex_t (show smF I s (sd_ * x_) < (b_, l_).2 from Int32.not_le.mp c)] at kk
      refine r_iload (pc := 46) h dX10_explainedBend_46 rfl ?_
      refine r_istore_n (pc := 48) h dX10_explainedBend_48 (by decide) ?_
      refine r_iload (pc := 49) h dX10_explainedBend_49 rfl ?_
      refine r_iload (pc := 51) h dX10_explainedBend_51 rfl ?_
      refine r_imul (pc := 53) h dX10_explainedBend_53 ?_
      refine r_istore_n (pc := 54) h dX10_explainedBend_54 (by decide) ?_
      exact r_at h [(0, .ref (E.1 0)), (1, .int s), (2, .int (sd_ * x_)), (3, .int (smF I s (sd_ * x_))), (4, .int x_), (5, .int sd_)] ⟨rfl, rfl, rfl, rfl, rfl, rfl, trivial⟩ kk
  refine r_iconst (v := 0) (pc := 0) h dX10_explainedBend_0 (by decide) ?_
  refine r_istore_n (pc := 1) h dX10_explainedBend_1 (by decide) ?_
  refine r_aload_n (pc := 2) h dX10_explainedBend_2 rfl ?_
  refine r_iload_n (pc := 3) h dX10_explainedBend_3 rfl ?_
  refine r_iconst (v := 0) (pc := 4) h dX10_explainedBend_4 (by decide) ?_
  refine r_callVI (ci := 10) (pc := 5) h dX10_explainedBend_5 wm_X10_286 ca_X10_missSum rfl (c_X10_missSum E _ _ _ hr9 hro hF) rfl rfl (Nat.le_of_ble_eq_true rfl) (by decide) (by decide) (by decide) (by decide) (fun v_ K_ hq => ?_)
  obtain ⟨hp1, hfr⟩ := hq
  subst hp1
  refine r_istore_n (pc := 8) h dX10_explainedBend_8 (by decide) ?_
  refine r_iconst (v := 1) (pc := 9) h dX10_explainedBend_9 (by decide) ?_
  refine r_istore (pc := 10) h dX10_explainedBend_10 (by decide) ?_
  have loop12 : ∀ (m k : Nat) (J_ : Mem), fr17 I J_ → k ≤ 9 → 10 ≤ k + m → g J_ 12 [(0, .ref (E.1 0)), (1, .int s), (2, .int (exC (smF I s) k).1), (3, .int (exC (smF I s) k).2), (4, .int (nI (k + 1)))] [] := by
    intro m
    induction m with
    | zero =>
      intro k J_ hfr h1 h2
      omega
    | succ m ih =>
      intro k J_ hfr hk hkm
      have ei := nI_tI (i := k + 1) (by omega)
      refine r_iload (pc := 12) h dX10_explainedBend_12 rfl ?_
      refine r_bipush (v := 9) (pc := 14) h dX10_explainedBend_14 (by decide) ?_
      refine r_icmp_gt (pc := 16) h 67 dX10_explainedBend_16 (by decide) (fun c16 => ?_) (fun c16 => ?_)
      · have hge : k = 9 := by rw [Int32.lt_iff_toInt_lt, ei, e9i] at c16; omega
        refine r_iload_n (pc := 67) h dX10_explainedBend_67 rfl ?_
        exact hr _ _ _ _ dX10_explainedBend_68 (rfl) (⟨by rw [hge], hfr⟩)
      · have hlt : k < 9 := by rw [Int32.lt_iff_toInt_lt, ei, e9i] at c16; omega
        refine r_iconst (v := -1) (pc := 19) h dX10_explainedBend_19 (by decide) ?_
        refine r_istore (pc := 20) h dX10_explainedBend_20 (by decide) ?_
        refine r_iload (pc := 22) h dX10_explainedBend_22 rfl ?_
        refine r_iconst (v := 1) (pc := 24) h dX10_explainedBend_24 (by decide) ?_
        refine r_icmp_gt (pc := 25) h 61 dX10_explainedBend_25 (by decide) (fun c => absurd c (by decide)) (fun _ => ?_)
        refine r_at h [(0, .ref (E.1 0)), (1, .int s), (2, .int (_ : Int32)), (3, .int (_ : Int32)), (4, .int (nI (k + 1))), (5, .int (_ : Int32))] ⟨rfl, rfl, rfl, rfl, rfl, rfl, trivial⟩ (aux28 _ _ _ _ _ hfr (fun K_ hfr => ?_))
        refine r_iinc (v := 2) (pc := 55) h dX10_explainedBend_55 rfl (by decide) (by decide) ?_
        refine r_goto (pc := 58) h 22 dX10_explainedBend_58 (by decide) ?_
        refine r_iload (pc := 22) h dX10_explainedBend_22 rfl ?_
        refine r_iconst (v := 1) (pc := 24) h dX10_explainedBend_24 (by decide) ?_
        refine r_icmp_gt (pc := 25) h 61 dX10_explainedBend_25 (by decide) (fun c => absurd c (by decide)) (fun _ => ?_)
        refine r_at h [(0, .ref (E.1 0)), (1, .int s), (2, .int (_ : Int32)), (3, .int (_ : Int32)), (4, .int (nI (k + 1))), (5, .int (_ : Int32))] ⟨rfl, rfl, rfl, rfl, rfl, rfl, trivial⟩ (aux28 _ _ _ _ _ hfr (fun K_ hfr => ?_))
        refine r_iinc (v := 2) (pc := 55) h dX10_explainedBend_55 rfl (by decide) (by decide) ?_
        refine r_goto (pc := 58) h 22 dX10_explainedBend_58 (by decide) ?_
        refine r_iload (pc := 22) h dX10_explainedBend_22 rfl ?_
        refine r_iconst (v := 1) (pc := 24) h dX10_explainedBend_24 (by decide) ?_
        refine r_icmp_gt (pc := 25) h 61 dX10_explainedBend_25 (by decide) (fun _ => ?_) (fun c => absurd c (by decide))
        refine r_iinc (v := 1) (pc := 61) h dX10_explainedBend_61 rfl (by decide) (by decide) ?_
        refine r_goto (pc := 64) h 12 dX10_explainedBend_64 (by decide) ?_
        rw [← nI_succ (k + 1)]
        exact r_at h [(0, .ref (E.1 0)), (1, .int s), (2, .int (exC (smF I s) (k + 1)).1), (3, .int (exC (smF I s) (k + 1)).2), (4, .int (nI ((k + 1) + 1)))] ⟨rfl, rfl, rfl, rfl, rfl, trivial⟩ (ih (k + 1) K_ hfr (by omega) (by omega))
  exact r_at h [(0, .ref (E.1 0)), (1, .int s), (2, .int (exC (smF I s) 0).1), (3, .int (exC (smF I s) 0).2), (4, .int (nI (0 + 1)))] ⟨rfl, rfl, rfl, rfl, rfl, trivial⟩ (loop12 10 0 K_ hfr (by omega) (by omega))
set_option maxRecDepth 100000 in
set_option maxHeartbeats 1000000 in
theorem c_X11_explained (E : En) (I : Mem) (s : Int32) (hr9 : 0 ≤ (I 151 42).toInt ∧ (I 151 42).toInt ≤ 30) (hro : rowsR I) (hF : FlOkR I) (h22 : I 151 22 = 0) : Ctr E yX11_explained cX11_explained 7 (some .int) 7 [.ref (E.1 151), .int s] I (qI (fun (r : Int32) (I1 : Mem) => r = (exR (smR I s) 9).1 ∧ frR I I1)) := by
  refine Ctr.openI (by decide) (Nat.le_of_ble_eq_true rfl) (fun g h hr => ?_)
  have h : Sem cX11_explained RX11 7 (rmL 7) E g := h
  show g I 0 [(0, .ref (E.1 151)), (1, .int s)] []
  have t29 : ∀ (J : Mem) (lv : LV) (st : List Value) (l x a b : Int32), lk lv 5 = some (.int l) → lk lv 3 = some (.int x) → lk lv 4 = some (.int a) → lk lv 2 = some (.int b) → g J 42 lv (.int (if l < x then -a else b) :: st) → g J 29 lv st := by
    intro J lv st l x a b h1 h2 h3 h4 kk
    refine r_iload (pc := 29) h dX11_explained_29 h1 ?_
    refine r_iload_n (pc := 31) h dX11_explained_31 h2 ?_
    refine r_icmp_ge (pc := 32) h 41 dX11_explained_32 (by decide) (fun c => ?_) (fun c => ?_)
    · refine r_iload_n (pc := 41) h dX11_explained_41 h4 ?_
      rw [if_neg (Int32.not_lt.mpr c)] at kk
      exact kk
    · refine r_iload (pc := 35) h dX11_explained_35 h3 ?_
      refine r_ineg (pc := 37) h dX11_explained_37 ?_
      refine r_goto (pc := 38) h 42 dX11_explained_38 (by decide) ?_
      rw [if_pos (Int32.not_le.mp c)] at kk
      exact kk
  have t43 : ∀ (J : Mem) (lv : LV) (st : List Value) (l x a b : Int32), lk lv 5 = some (.int l) → lk lv 3 = some (.int x) → lk lv 5 = some (.int a) → lk lv 3 = some (.int b) → g J 55 lv (.int (if l < x then a else b) :: st) → g J 43 lv st := by
    intro J lv st l x a b h1 h2 h3 h4 kk
    refine r_iload (pc := 43) h dX11_explained_43 h1 ?_
    refine r_iload_n (pc := 45) h dX11_explained_45 h2 ?_
    refine r_icmp_ge (pc := 46) h 54 dX11_explained_46 (by decide) (fun c => ?_) (fun c => ?_)
    · refine r_iload_n (pc := 54) h dX11_explained_54 h4 ?_
      rw [if_neg (Int32.not_lt.mpr c)] at kk
      exact kk
    · refine r_iload (pc := 49) h dX11_explained_49 h3 ?_
      refine r_goto (pc := 51) h 55 dX11_explained_51 (by decide) ?_
      rw [if_pos (Int32.not_le.mp c)] at kk
      exact kk
  have t65 : ∀ (J : Mem) (lv : LV) (st : List Value) (l x a b : Int32), lk lv 6 = some (.int l) → lk lv 3 = some (.int x) → lk lv 4 = some (.int a) → lk lv 2 = some (.int b) → g J 77 lv (.int (if l < x then a else b) :: st) → g J 65 lv st := by
    intro J lv st l x a b h1 h2 h3 h4 kk
    refine r_iload (pc := 65) h dX11_explained_65 h1 ?_
    refine r_iload_n (pc := 67) h dX11_explained_67 h2 ?_
    refine r_icmp_ge (pc := 68) h 76 dX11_explained_68 (by decide) (fun c => ?_) (fun c => ?_)
    · refine r_iload_n (pc := 76) h dX11_explained_76 h4 ?_
      rw [if_neg (Int32.not_lt.mpr c)] at kk
      exact kk
    · refine r_iload (pc := 71) h dX11_explained_71 h3 ?_
      refine r_goto (pc := 73) h 77 dX11_explained_73 (by decide) ?_
      rw [if_pos (Int32.not_le.mp c)] at kk
      exact kk
  have t78 : ∀ (J : Mem) (lv : LV) (st : List Value) (l x a b : Int32), lk lv 6 = some (.int l) → lk lv 3 = some (.int x) → lk lv 6 = some (.int a) → lk lv 3 = some (.int b) → g J 90 lv (.int (if l < x then a else b) :: st) → g J 78 lv st := by
    intro J lv st l x a b h1 h2 h3 h4 kk
    refine r_iload (pc := 78) h dX11_explained_78 h1 ?_
    refine r_iload_n (pc := 80) h dX11_explained_80 h2 ?_
    refine r_icmp_ge (pc := 81) h 89 dX11_explained_81 (by decide) (fun c => ?_) (fun c => ?_)
    · refine r_iload_n (pc := 89) h dX11_explained_89 h4 ?_
      rw [if_neg (Int32.not_lt.mpr c)] at kk
      exact kk
    · refine r_iload (pc := 84) h dX11_explained_84 h3 ?_
      refine r_goto (pc := 86) h 90 dX11_explained_86 (by decide) ?_
      rw [if_pos (Int32.not_le.mp c)] at kk
      exact kk
  refine r_iconst (v := 0) (pc := 0) h dX11_explained_0 (by decide) ?_
  refine r_istore_n (pc := 1) h dX11_explained_1 (by decide) ?_
  refine r_aload_n (pc := 2) h dX11_explained_2 rfl ?_
  refine r_iload_n (pc := 3) h dX11_explained_3 rfl ?_
  refine r_iconst (v := 0) (pc := 4) h dX11_explained_4 (by decide) ?_
  refine r_callVI (ci := 11) (pc := 5) h dX11_explained_5 wm_X11_317 ca_X11_missAll rfl (c_X11_missAll E _ _ _ hr9 hro hF h22) rfl rfl (Nat.le_of_ble_eq_true rfl) (by decide) (by decide) (by decide) (by decide) (fun v_ K_ hq => ?_)
  obtain ⟨hp1, hfr⟩ := hq
  subst hp1
  refine r_istore_n (pc := 8) h dX11_explained_8 (by decide) ?_
  refine r_iconst (v := 1) (pc := 9) h dX11_explained_9 (by decide) ?_
  refine r_istore (pc := 10) h dX11_explained_10 (by decide) ?_
  have loop12 : ∀ (m k : Nat) (J_ : Mem), frR I J_ → k ≤ 9 → 10 ≤ k + m → g J_ 12 [(0, .ref (E.1 151)), (1, .int s), (2, .int (exR (smR I s) k).1), (3, .int (exR (smR I s) k).2), (4, .int (nI (k + 1)))] [] := by
    intro m
    induction m with
    | zero =>
      intro k J_ hfr h1 h2
      omega
    | succ m ih =>
      intro k J_ hfr hk hkm
      have ei := nI_tI (i := k + 1) (by omega)
      refine r_iload (pc := 12) h dX11_explained_12 rfl ?_
      refine r_bipush (v := 9) (pc := 14) h dX11_explained_14 (by decide) ?_
      refine r_icmp_gt (pc := 16) h 97 dX11_explained_16 (by decide) (fun c16 => ?_) (fun c16 => ?_)
      · have hge : k = 9 := by rw [Int32.lt_iff_toInt_lt, ei, e9i] at c16; omega
        refine r_iload_n (pc := 97) h dX11_explained_97 rfl ?_
        exact hr _ _ _ _ dX11_explained_98 (rfl) (⟨by rw [hge], hfr⟩)
      · have hlt : k < 9 := by rw [Int32.lt_iff_toInt_lt, ei, e9i] at c16; omega
        refine r_aload_n (pc := 19) h dX11_explained_19 rfl ?_
        refine r_iload_n (pc := 20) h dX11_explained_20 rfl ?_
        refine r_iload (pc := 21) h dX11_explained_21 rfl ?_
        refine r_ineg (pc := 23) h dX11_explained_23 ?_
        refine r_callVI (ci := 11) (pc := 24) h dX11_explained_24 wm_X11_317 ca_X11_missAll rfl (c_X11_missAll E _ _ _ (by rw [hfr.2 42 (by decide) (by decide)]; exact hr9) (rowsR_fr hfr hro) (frR_ok hfr hF) (by rw [hfr.2 22 (by decide) (by decide)]; exact h22)) rfl rfl (Nat.le_of_ble_eq_true rfl) (by decide) (by decide) (by decide) (by decide) (fun v_ K_ hq => ?_)
        obtain ⟨hp1, hp2⟩ := hq
        rw [smR_fr hfr] at hp1
        subst hp1
        have hfr2 := frR_tr hfr hp2
        refine r_istore (pc := 27) h dX11_explained_27 (by decide) ?_
        refine t29 _ _ _ _ _ _ _ rfl rfl rfl rfl ?_
        refine r_istore_n (pc := 42) h dX11_explained_42 (by decide) ?_
        refine t43 _ _ _ _ _ _ _ rfl rfl rfl rfl ?_
        refine r_istore_n (pc := 55) h dX11_explained_55 (by decide) ?_
        refine r_aload_n (pc := 56) h dX11_explained_56 rfl ?_
        refine r_iload_n (pc := 57) h dX11_explained_57 rfl ?_
        refine r_iload (pc := 58) h dX11_explained_58 rfl ?_
        refine r_callVI (ci := 11) (pc := 60) h dX11_explained_60 wm_X11_317 ca_X11_missAll rfl (c_X11_missAll E _ _ _ (by rw [hfr2.2 42 (by decide) (by decide)]; exact hr9) (rowsR_fr hfr2 hro) (frR_ok hfr2 hF) (by rw [hfr2.2 22 (by decide) (by decide)]; exact h22)) rfl rfl (Nat.le_of_ble_eq_true rfl) (by decide) (by decide) (by decide) (by decide) (fun v_ K2_ hq => ?_)
        obtain ⟨hp1, hp2⟩ := hq
        rw [smR_fr hfr2] at hp1
        subst hp1
        have hfr3 := frR_tr hfr2 hp2
        refine r_istore (pc := 63) h dX11_explained_63 (by decide) ?_
        refine t65 _ _ _ _ _ _ _ rfl rfl rfl rfl ?_
        refine r_istore_n (pc := 77) h dX11_explained_77 (by decide) ?_
        refine t78 _ _ _ _ _ _ _ rfl rfl rfl rfl ?_
        refine r_istore_n (pc := 90) h dX11_explained_90 (by decide) ?_
        refine r_iinc (v := 1) (pc := 91) h dX11_explained_91 rfl (by decide) (by decide) ?_
        refine r_goto (pc := 94) h 12 dX11_explained_94 (by decide) ?_
        rw [← nI_succ (k + 1)]
        exact r_at h [(0, .ref (E.1 151)), (1, .int s), (2, .int (exR (smR I s) (k + 1)).1), (3, .int (exR (smR I s) (k + 1)).2), (4, .int (nI ((k + 1) + 1)))] ⟨rfl, rfl, rfl, rfl, rfl, trivial⟩ (ih (k + 1) _ hfr3 (by omega) (by omega))
  exact r_at h [(0, .ref (E.1 151)), (1, .int s), (2, .int (exR (smR I s) 0).1), (3, .int (exR (smR I s) 0).2), (4, .int (nI (0 + 1)))] ⟨rfl, rfl, rfl, rfl, rfl, trivial⟩ (loop12 10 0 K_ hfr (by omega) (by omega))
set_option maxRecDepth 100000 in
set_option maxHeartbeats 1000000 in
theorem c_X10_explain (E : En) (I : Mem) (s : Int32) (hc : 0 ≤ (I 0 2).toInt ∧ (I 0 2).toInt ≤ 9) (hr9 : 0 ≤ (I 0 16).toInt ∧ (I 0 16).toInt ≤ 30) (hro : rowsF I) (hF : FlOkF I) : Ctr E yX10_explain cX10_explain 2 (some .int) 7 [.ref (E.1 0), .int s] I (qI (fun (r : Int32) (I1 : Mem) => r = F_explain I s ∧ fr17 I I1)) := by
  refine Ctr.openI (by decide) (Nat.le_of_ble_eq_true rfl) (fun g h hr => ?_)
  have h : Sem cX10_explain RX10 2 (rmL 7) E g := h
  show g I 0 [(0, .ref (E.1 0)), (1, .int s)] []
  have ec : (I 0 2 - 1).toInt = (I 0 2).toInt - 1 := tI_sub1 (by omega)
  refine r_aload_n (pc := 0) h dX10_explain_0 rfl ?_
  refine r_iload_n (pc := 1) h dX10_explain_1 rfl ?_
  refine r_callVI (ci := 10) (pc := 2) h dX10_explain_2 wm_X10_126 ca_X10_isStick rfl (c_X10_isStick E _ _) rfl rfl (Nat.le_of_ble_eq_true rfl) (by decide) (by decide) (by decide) (by decide) (fun r I1 hq => ?_)
  obtain ⟨rfl, rfl⟩ := hq
  refine r_if_ne (pc := 5) h 11 dX10_explain_5 (by decide) (fun c5 => ?_) (fun c5 => ?_)
  · have hv : isS s (I 0 2) := by (try simp only [b2i_eq0] at *); (try simp only [Int32.reduceToInt, Int64.reduceToInt, Int32.toInt_toInt64] at *); omega
    refine r_aload_n (pc := 11) h dX10_explain_11 rfl ?_
    refine r_iload_n (pc := 12) h dX10_explain_12 rfl ?_
    refine r_callVI (ci := 10) (pc := 13) h dX10_explain_13 wm_X10_280 ca_X10_rowsOf rfl (c_X10_rowsOf E _ _ hr9) rfl rfl (Nat.le_of_ble_eq_true rfl) (by decide) (by decide) (by decide) (by decide) (fun r I1 hq => ?_)
    obtain ⟨rfl, rfl⟩ := hq
    refine r_if_ne (pc := 16) h 22 dX10_explain_16 (by decide) (fun c16 => ?_) (fun c16 => ?_)
    · refine r_aload_n (pc := 22) h dX10_explain_22 rfl ?_
      refine r_iload_n (pc := 23) h dX10_explain_23 rfl ?_
      refine r_callVI (ci := 10) (pc := 24) h dX10_explain_24 wm_X10_283 ca_X10_explainedBend rfl (c_X10_explainedBend E _ _ hr9 hro hF) rfl rfl (Nat.le_of_ble_eq_true rfl) (by decide) (by decide) (by decide) (by decide) (fun r I1 hq => ?_)
      obtain ⟨hp1, hp2⟩ := hq
      exact hr _ _ _ _ dX10_explain_27 (rfl) (⟨by unfold F_explain; rw [if_pos hv, if_neg c16]; exact hp1, hp2⟩)
    · refine r_bipush (v := -14) (pc := 19) h dX10_explain_19 (by decide) ?_
      exact hr _ _ _ _ dX10_explain_21 (rfl) (⟨by unfold F_explain; rw [if_pos hv, if_pos c16], fun _ _ => rfl⟩)
  · refine r_bipush (v := -11) (pc := 8) h dX10_explain_8 (by decide) ?_
    exact hr _ _ _ _ dX10_explain_10 (rfl) (⟨by unfold F_explain; rw [if_neg (by (try simp only [b2i_eq0] at *); (try simp only [Int32.reduceToInt, Int64.reduceToInt, Int32.toInt_toInt64] at *); omega)], fun _ _ => rfl⟩)
set_option maxRecDepth 100000 in
set_option maxHeartbeats 1000000 in
theorem c_X11_explain (E : En) (I : Mem) (s : Int32) (hc : 0 ≤ (I 151 1).toInt ∧ (I 151 1).toInt ≤ 9) (hr9 : 0 ≤ (I 151 42).toInt ∧ (I 151 42).toInt ≤ 30) (hro : rowsR I) (hF : FlOkR I) (h22 : I 151 22 = 0) : Ctr E yX11_explain cX11_explain 2 (some .int) 8 [.ref (E.1 151), .int s] I (qI (fun (r : Int32) (I1 : Mem) => r = R_explain I s ∧ frR I I1)) := by
  refine Ctr.openI (by decide) (Nat.le_of_ble_eq_true rfl) (fun g h hr => ?_)
  have h : Sem cX11_explain RX11 2 (rmL 8) E g := h
  show g I 0 [(0, .ref (E.1 151)), (1, .int s)] []
  have ec : (I 151 1 - 1).toInt = (I 151 1).toInt - 1 := tI_sub1 (by omega)
  refine r_aload_n (pc := 0) h dX11_explain_0 rfl ?_
  refine r_iload_n (pc := 1) h dX11_explain_1 rfl ?_
  refine r_callVI (ci := 11) (pc := 2) h dX11_explain_2 wm_X11_153 ca_X11_isStick rfl (c_X11_isStick E _ _) rfl rfl (Nat.le_of_ble_eq_true rfl) (by decide) (by decide) (by decide) (by decide) (fun r I1 hq => ?_)
  obtain ⟨rfl, rfl⟩ := hq
  refine r_if_ne (pc := 5) h 11 dX11_explain_5 (by decide) (fun c5 => ?_) (fun c5 => ?_)
  · have hv : isS s (I 151 1) := by (try simp only [b2i_eq0] at *); (try simp only [Int32.reduceToInt, Int64.reduceToInt, Int32.toInt_toInt64] at *); omega
    refine r_aload_n (pc := 11) h dX11_explain_11 rfl ?_
    refine r_iload_n (pc := 12) h dX11_explain_12 rfl ?_
    refine r_callVI (ci := 11) (pc := 13) h dX11_explain_13 wm_X11_320 ca_X11_rowsOf rfl (c_X11_rowsOf E _ _ hr9) rfl rfl (Nat.le_of_ble_eq_true rfl) (by decide) (by decide) (by decide) (by decide) (fun r I1 hq => ?_)
    obtain ⟨rfl, rfl⟩ := hq
    refine r_if_ne (pc := 16) h 24 dX11_explain_16 (by decide) (fun c16 => ?_) (fun c16 => ?_)
    · refine r_aload_n (pc := 24) h dX11_explain_24 rfl ?_
      refine r_iload_n (pc := 25) h dX11_explain_25 rfl ?_
      refine r_callVI (ci := 11) (pc := 26) h dX11_explain_26 wm_X11_323 ca_X11_explained rfl (c_X11_explained E _ _ hr9 hro hF h22) rfl rfl (Nat.le_of_ble_eq_true rfl) (by decide) (by decide) (by decide) (by decide) (fun r I1 hq => ?_)
      obtain ⟨hp1, hp2⟩ := hq
      exact hr _ _ _ _ dX11_explain_29 (rfl) (by first | exact ⟨by unfold R_explain; rw [if_pos hv, if_neg c16]; exact hp1, hp2⟩ | exact ⟨by unfold R_explain; rw [if_pos hv, if_pos c16], fun _ _ _ => rfl, fun _ _ _ => rfl⟩)
    · refine r_bipush (v := -14) (pc := 19) h dX11_explain_19 (by decide) ?_
      refine r_goto (pc := 21) h 29 dX11_explain_21 (by decide) ?_
      exact hr _ _ _ _ dX11_explain_29 (rfl) (by first | exact ⟨by unfold R_explain; rw [if_pos hv, if_neg c16]; exact hp1, hp2⟩ | exact ⟨by unfold R_explain; rw [if_pos hv, if_pos c16], fun _ _ _ => rfl, fun _ _ _ => rfl⟩)
  · refine r_bipush (v := -11) (pc := 8) h dX11_explain_8 (by decide) ?_
    exact hr _ _ _ _ dX11_explain_10 (rfl) (⟨by unfold R_explain; rw [if_neg (by (try simp only [b2i_eq0] at *); (try simp only [Int32.reduceToInt, Int64.reduceToInt, Int32.toInt_toInt64] at *); omega)], fun _ _ _ => rfl, fun _ _ _ => rfl⟩)
set_option maxRecDepth 100000 in
set_option maxHeartbeats 1000000 in
theorem c_X10_sure (E : En) (I : Mem) (s : Int32) (hc : 0 ≤ (I 0 2).toInt ∧ (I 0 2).toInt ≤ 9) (hr9 : 0 ≤ (I 0 16).toInt ∧ (I 0 16).toInt ≤ 30) (hro : rowsF I) (hF : FlOkF I) : Ctr E yX10_sure cX10_sure 4 (some .int) 7 [.ref (E.1 0), .int s] I (qI (fun (r : Int32) (I1 : Mem) => r = F_sure I s ∧ fr17 I I1)) := by
  refine Ctr.openI (by decide) (Nat.le_of_ble_eq_true rfl) (fun g h hr => ?_)
  have h : Sem cX10_sure RX10 4 (rmL 7) E g := h
  show g I 0 [(0, .ref (E.1 0)), (1, .int s)] []
  have ec : (I 0 2 - 1).toInt = (I 0 2).toInt - 1 := tI_sub1 (by omega)
  refine r_aload_n (pc := 0) h dX10_sure_0 rfl ?_
  refine r_iload_n (pc := 1) h dX10_sure_1 rfl ?_
  refine r_callVI (ci := 10) (pc := 2) h dX10_sure_2 wm_X10_126 ca_X10_isStick rfl (c_X10_isStick E _ _) rfl rfl (Nat.le_of_ble_eq_true rfl) (by decide) (by decide) (by decide) (by decide) (fun r I1 hq => ?_)
  obtain ⟨rfl, rfl⟩ := hq
  refine r_if_ne (pc := 5) h 10 dX10_sure_5 (by decide) (fun c5 => ?_) (fun c5 => ?_)
  · have hv : isS s (I 0 2) := by (try simp only [b2i_eq0] at *); (try simp only [Int32.reduceToInt, Int64.reduceToInt, Int32.toInt_toInt64] at *); omega
    refine r_aload_n (pc := 10) h dX10_sure_10 rfl ?_
    refine r_iload_n (pc := 11) h dX10_sure_11 rfl ?_
    refine r_callVI (ci := 10) (pc := 12) h dX10_sure_12 wm_X10_280 ca_X10_rowsOf rfl (c_X10_rowsOf E _ _ hr9) rfl rfl (Nat.le_of_ble_eq_true rfl) (by decide) (by decide) (by decide) (by decide) (fun r I1 hq => ?_)
    obtain ⟨rfl, rfl⟩ := hq
    refine r_istore_n (pc := 15) h dX10_sure_15 (by decide) ?_
    refine r_iload_n (pc := 16) h dX10_sure_16 rfl ?_
    refine r_if_ne (pc := 17) h 23 dX10_sure_17 (by decide) (fun c17 => ?_) (fun c17 => ?_)
    · refine r_iload_n (pc := 23) h dX10_sure_23 rfl ?_
      refine r_iconst (v := 3) (pc := 24) h dX10_sure_24 (by decide) ?_
      refine r_icmp_ge (pc := 25) h 30 dX10_sure_25 (by decide) (fun c25 => ?_) (fun c25 => ?_)
      · refine r_aload_n (pc := 30) h dX10_sure_30 rfl ?_
        refine r_iload_n (pc := 31) h dX10_sure_31 rfl ?_
        refine r_aload_n (pc := 32) h dX10_sure_32 rfl ?_
        refine r_iload_n (pc := 33) h dX10_sure_33 rfl ?_
        refine r_callVI (ci := 10) (pc := 34) h dX10_sure_34 wm_X10_283 ca_X10_explainedBend rfl (c_X10_explainedBend E _ _ hr9 hro hF) rfl rfl (Nat.le_of_ble_eq_true rfl) (by decide) (by decide) (by decide) (by decide) (fun ex_ K_ hq => ?_)
        obtain ⟨hex_, hfr⟩ := hq
        refine r_callVI (ci := 10) (pc := 37) h dX10_sure_37 wm_X10_286 ca_X10_missSum rfl (c_X10_missSum E _ _ _ (by rw [hfr 0 (by decide)]; exact hr9) (rowsF_fr hfr hro) (fr17_ok hfr hF)) rfl rfl (Nat.le_of_ble_eq_true rfl) (by decide) (by decide) (by decide) (by decide) (fun v_ L_ hq => ?_)
        obtain ⟨hp1, hp2⟩ := hq
        rw [smF_fr hfr hF.2.1] at hp1
        subst hp1
        have hfr2 := fr17_tr hfr hp2
        refine r_istore_n (pc := 40) h dX10_sure_40 (by decide) ?_
        refine r_aload_n (pc := 41) h dX10_sure_41 rfl ?_
        refine r_iload_n (pc := 42) h dX10_sure_42 rfl ?_
        refine r_iconst (v := 0) (pc := 43) h dX10_sure_43 (by decide) ?_
        refine r_callVI (ci := 10) (pc := 44) h dX10_sure_44 wm_X10_286 ca_X10_missSum rfl (c_X10_missSum E _ _ _ (by rw [hfr2 0 (by decide)]; exact hr9) (rowsF_fr hfr2 hro) (fr17_ok hfr2 hF)) rfl rfl (Nat.le_of_ble_eq_true rfl) (by decide) (by decide) (by decide) (by decide) (fun v_ M_ hq => ?_)
        obtain ⟨hp1, hp2⟩ := hq
        rw [smF_fr hfr2 hF.2.1] at hp1
        subst hp1
        have hfr3 := fr17_tr hfr2 hp2
        refine r_iconst (v := 2) (pc := 47) h dX10_sure_47 (by decide) ?_
        refine r_iload_n (pc := 48) h dX10_sure_48 rfl ?_
        refine r_imul (pc := 49) h dX10_sure_49 ?_
        refine r_icmp_le (pc := 50) h 57 dX10_sure_50 (by decide) (fun c50 => ?_) (fun c50 => ?_)
        · refine r_iconst (v := 0) (pc := 57) h dX10_sure_57 (by decide) ?_
          exact hr _ _ _ _ dX10_sure_58 (rfl) (⟨by unfold F_sure; rw [if_pos hv, if_neg c17, if_neg (Int32.not_lt.mpr c25), ← hex_]; first | rw [if_neg (Int32.not_lt.mpr c50)] | rw [if_pos (Int32.not_le.mp c50)], hfr3⟩)
        · refine r_iconst (v := 1) (pc := 53) h dX10_sure_53 (by decide) ?_
          refine r_goto (pc := 54) h 58 dX10_sure_54 (by decide) ?_
          exact hr _ _ _ _ dX10_sure_58 (rfl) (⟨by unfold F_sure; rw [if_pos hv, if_neg c17, if_neg (Int32.not_lt.mpr c25), ← hex_]; first | rw [if_neg (Int32.not_lt.mpr c50)] | rw [if_pos (Int32.not_le.mp c50)], hfr3⟩)
      · refine r_iconst (v := 0) (pc := 28) h dX10_sure_28 (by decide) ?_
        exact hr _ _ _ _ dX10_sure_29 (rfl) (⟨by unfold F_sure; rw [if_pos hv, if_neg c17, if_pos (Int32.not_le.mp c25)], fun _ _ => rfl⟩)
    · refine r_bipush (v := -4) (pc := 20) h dX10_sure_20 (by decide) ?_
      exact hr _ _ _ _ dX10_sure_22 (rfl) (⟨by unfold F_sure; rw [if_pos hv, if_pos c17], fun _ _ => rfl⟩)
  · refine r_iconst (v := -1) (pc := 8) h dX10_sure_8 (by decide) ?_
    exact hr _ _ _ _ dX10_sure_9 (rfl) (⟨by unfold F_sure; rw [if_neg (by (try simp only [b2i_eq0] at *); (try simp only [Int32.reduceToInt, Int64.reduceToInt, Int32.toInt_toInt64] at *); omega)], fun _ _ => rfl⟩)
set_option maxRecDepth 100000 in
set_option maxHeartbeats 1000000 in
theorem c_X11_sure (E : En) (I : Mem) (s : Int32) (hc : 0 ≤ (I 151 1).toInt ∧ (I 151 1).toInt ≤ 9) (hr9 : 0 ≤ (I 151 42).toInt ∧ (I 151 42).toInt ≤ 30) (hro : rowsR I) (hF : FlOkR I) (h22 : I 151 22 = 0) : Ctr E yX11_sure cX11_sure 3 (some .int) 8 [.ref (E.1 151), .int s] I (qI (fun (r : Int32) (I1 : Mem) => r = R_sure I s ∧ frR I I1)) := by
  refine Ctr.openI (by decide) (Nat.le_of_ble_eq_true rfl) (fun g h hr => ?_)
  have h : Sem cX11_sure RX11 3 (rmL 8) E g := h
  show g I 0 [(0, .ref (E.1 151)), (1, .int s)] []
  have ec : (I 151 1 - 1).toInt = (I 151 1).toInt - 1 := tI_sub1 (by omega)
  refine r_aload_n (pc := 0) h dX11_sure_0 rfl ?_
  refine r_iload_n (pc := 1) h dX11_sure_1 rfl ?_
  refine r_callVI (ci := 11) (pc := 2) h dX11_sure_2 wm_X11_153 ca_X11_isStick rfl (c_X11_isStick E _ _) rfl rfl (Nat.le_of_ble_eq_true rfl) (by decide) (by decide) (by decide) (by decide) (fun r I1 hq => ?_)
  obtain ⟨rfl, rfl⟩ := hq
  refine r_if_ne (pc := 5) h 10 dX11_sure_5 (by decide) (fun c5 => ?_) (fun c5 => ?_)
  · have hv : isS s (I 151 1) := by (try simp only [b2i_eq0] at *); (try simp only [Int32.reduceToInt, Int64.reduceToInt, Int32.toInt_toInt64] at *); omega
    refine r_aload_n (pc := 10) h dX11_sure_10 rfl ?_
    refine r_iload_n (pc := 11) h dX11_sure_11 rfl ?_
    refine r_callVI (ci := 11) (pc := 12) h dX11_sure_12 wm_X11_320 ca_X11_rowsOf rfl (c_X11_rowsOf E _ _ hr9) rfl rfl (Nat.le_of_ble_eq_true rfl) (by decide) (by decide) (by decide) (by decide) (fun r I1 hq => ?_)
    obtain ⟨rfl, rfl⟩ := hq
    refine r_istore_n (pc := 15) h dX11_sure_15 (by decide) ?_
    refine r_iload_n (pc := 16) h dX11_sure_16 rfl ?_
    refine r_if_ne (pc := 17) h 23 dX11_sure_17 (by decide) (fun c17 => ?_) (fun c17 => ?_)
    · refine r_iload_n (pc := 23) h dX11_sure_23 rfl ?_
      refine r_iconst (v := 3) (pc := 24) h dX11_sure_24 (by decide) ?_
      refine r_icmp_lt (pc := 25) h 53 dX11_sure_25 (by decide) (fun c25 => ?_) (fun c25 => ?_)
      · refine r_iconst (v := 0) (pc := 53) h dX11_sure_53 (by decide) ?_
        exact hr _ _ _ _ dX11_sure_54 (rfl) (by first | exact ⟨by unfold R_sure; rw [if_pos hv, if_neg c17, if_neg c25, ← hex_]; first | rw [if_neg (Int32.not_lt.mpr c46)] | rw [if_pos (Int32.not_le.mp c46)], hfr3⟩ | exact ⟨by unfold R_sure; rw [if_pos hv, if_neg c17, if_pos c25], fun _ _ _ => rfl, fun _ _ _ => rfl⟩)
      · refine r_aload_n (pc := 28) h dX11_sure_28 rfl ?_
        refine r_iload_n (pc := 29) h dX11_sure_29 rfl ?_
        refine r_iconst (v := 0) (pc := 30) h dX11_sure_30 (by decide) ?_
        refine r_callVI (ci := 11) (pc := 31) h dX11_sure_31 wm_X11_317 ca_X11_missAll rfl (c_X11_missAll E _ _ _ hr9 hro hF h22) rfl rfl (Nat.le_of_ble_eq_true rfl) (by decide) (by decide) (by decide) (by decide) (fun v_ K_ hq => ?_)
        obtain ⟨hp1, hfr⟩ := hq
        subst hp1
        refine r_iconst (v := 2) (pc := 34) h dX11_sure_34 (by decide) ?_
        refine r_aload_n (pc := 35) h dX11_sure_35 rfl ?_
        refine r_iload_n (pc := 36) h dX11_sure_36 rfl ?_
        refine r_aload_n (pc := 37) h dX11_sure_37 rfl ?_
        refine r_iload_n (pc := 38) h dX11_sure_38 rfl ?_
        refine r_callVI (ci := 11) (pc := 39) h dX11_sure_39 wm_X11_323 ca_X11_explained rfl (c_X11_explained E _ _ (by rw [hfr.2 42 (by decide) (by decide)]; exact hr9) (rowsR_fr hfr hro) (frR_ok hfr hF) (by rw [hfr.2 22 (by decide) (by decide)]; exact h22)) rfl rfl (Nat.le_of_ble_eq_true rfl) (by decide) (by decide) (by decide) (by decide) (fun ex_ L_ hq => ?_)
        obtain ⟨hex_, hp2⟩ := hq
        rw [smR_fr hfr] at hex_
        have hfr2 := frR_tr hfr hp2
        refine r_callVI (ci := 11) (pc := 42) h dX11_sure_42 wm_X11_317 ca_X11_missAll rfl (c_X11_missAll E _ _ _ (by rw [hfr2.2 42 (by decide) (by decide)]; exact hr9) (rowsR_fr hfr2 hro) (frR_ok hfr2 hF) (by rw [hfr2.2 22 (by decide) (by decide)]; exact h22)) rfl rfl (Nat.le_of_ble_eq_true rfl) (by decide) (by decide) (by decide) (by decide) (fun v_ M_ hq => ?_)
        obtain ⟨hp1, hp2⟩ := hq
        rw [smR_fr hfr2] at hp1
        subst hp1
        have hfr3 := frR_tr hfr2 hp2
        refine r_imul (pc := 45) h dX11_sure_45 ?_
        refine r_icmp_le (pc := 46) h 53 dX11_sure_46 (by decide) (fun c46 => ?_) (fun c46 => ?_)
        · refine r_iconst (v := 0) (pc := 53) h dX11_sure_53 (by decide) ?_
          exact hr _ _ _ _ dX11_sure_54 (rfl) (by first | exact ⟨by unfold R_sure; rw [if_pos hv, if_neg c17, if_neg c25, ← hex_]; first | rw [if_neg (Int32.not_lt.mpr c46)] | rw [if_pos (Int32.not_le.mp c46)], hfr3⟩ | exact ⟨by unfold R_sure; rw [if_pos hv, if_neg c17, if_pos c25], fun _ _ _ => rfl, fun _ _ _ => rfl⟩)
        · refine r_iconst (v := 1) (pc := 49) h dX11_sure_49 (by decide) ?_
          refine r_goto (pc := 50) h 54 dX11_sure_50 (by decide) ?_
          exact hr _ _ _ _ dX11_sure_54 (rfl) (by first | exact ⟨by unfold R_sure; rw [if_pos hv, if_neg c17, if_neg c25, ← hex_]; first | rw [if_neg (Int32.not_lt.mpr c46)] | rw [if_pos (Int32.not_le.mp c46)], hfr3⟩ | exact ⟨by unfold R_sure; rw [if_pos hv, if_neg c17, if_pos c25], fun _ _ _ => rfl, fun _ _ _ => rfl⟩)
    · refine r_bipush (v := -4) (pc := 20) h dX11_sure_20 (by decide) ?_
      exact hr _ _ _ _ dX11_sure_22 (rfl) (⟨by unfold R_sure; rw [if_pos hv, if_pos c17], fun _ _ _ => rfl, fun _ _ _ => rfl⟩)
  · refine r_iconst (v := -1) (pc := 8) h dX11_sure_8 (by decide) ?_
    exact hr _ _ _ _ dX11_sure_9 (rfl) (⟨by unfold R_sure; rw [if_neg (by (try simp only [b2i_eq0] at *); (try simp only [Int32.reduceToInt, Int64.reduceToInt, Int32.toInt_toInt64] at *); omega)], fun _ _ _ => rfl, fun _ _ _ => rfl⟩)
