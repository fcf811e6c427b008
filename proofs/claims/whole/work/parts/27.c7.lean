/-! THE REFERENCE's flight: near, ending, keepsTick, flies -/
theorem m8n {x : Int32} {i : Nat} (h0 : 0 ≤ x.toInt) (h1 : x.toInt ≤ 400) (hi : i < 8) : (8 * x + nI i).toInt = 8 * x.toInt + i ∧ (8 * x + nI i).toNatClampNeg = 8 * x.toNatClampNeg + i := by
  have e8 : (8 : Int32).toInt = 8 := by decide
  have ei := nI_tI (i := i) (by omega)
  have em : (8 * x).toInt = 8 * x.toInt := by rw [tI_mul (by rw [e8]; omega) (by rw [e8]; omega), e8]
  have h : (8 * x + nI i).toInt = 8 * x.toInt + i := by rw [tI_add (by rw [em, ei]; omega) (by rw [em, ei]; omega), em, ei]
  refine ⟨h, ?_⟩
  rw [tn, tn, h]
  omega
theorem heldI_bd {v lo hi : Int32} (h : lo.toInt ≤ hi.toInt) : lo.toInt ≤ (heldI v lo hi).toInt ∧ (heldI v lo hi).toInt ≤ hi.toInt := by
  unfold heldI
  split
  · omega
  · rename_i q
    rw [Int32.lt_iff_toInt_lt] at q
    split
    · omega
    · rename_i q2
      rw [Int32.lt_iff_toInt_lt] at q2
      omega
theorem pst_congr {pr v v' : Vec} {t : Int32} (h : ∀ j, j < 8 → v j = v' j) : ∀ j, j < 8 → pst pr t v j = pst pr t v' j := by
  intro j hj
  unfold pst pX pY pW pC
  rw [h 0 (by omega), h 1 (by omega), h 2 (by omega), h 3 (by omega), h 4 (by omega), h 5 (by omega), h 6 (by omega), h 7 (by omega), h j hj]
theorem hitN_congr {v v' : Vec} {T : Nat → Nat → Int32} {n : Nat} (h : ∀ j, j < 8 → v j = v' j) : hitN v T n = hitN v' T n := by
  unfold hitN treeP
  rw [h 0 (by omega), h 1 (by omega), h 2 (by omega)]
theorem endV_congr {v v' : Vec} {t : Int32} {T : Nat → Nat → Int32} {n : Nat} {r : Int32} (h : ∀ j, j < 8 → v j = v' j) : endV v t T n r = endV v' t T n r := by
  unfold endV
  rw [hitN_congr h, h 0 (by omega), h 1 (by omega), h 2 (by omega)]
theorem hitV_congr {v v' : Vec} {T : Nat → Nat → Int32} {n : Nat} (h : ∀ j, j < 8 → v j = v' j) : hitV v T n = hitV v' T n := by
  unfold hitV
  rw [hitN_congr h]
theorem end400 (v : Vec) (T : Nat → Nat → Int32) (n : Nat) (r : Int32) : ¬ endV v (nI 400) T n r = 0 := by
  unfold endV
  split
  · decide
  · split
    · decide
    · split
      · decide
      · rw [if_pos (by rw [nI_tI (by omega)]; rfl)]
        decide
theorem prM_rows {I J : Mem} (s bd w : Int32) (h : ∀ a, a ≠ 167 → a ≠ 151 → a ≠ 168 → J a = I a) : prM J s bd w = prM I s bd w := by
  unfold prM
  rw [h 153 (by decide) (by decide) (by decide), h 154 (by decide) (by decide) (by decide), h 155 (by decide) (by decide) (by decide), h 156 (by decide) (by decide) (by decide), h 157 (by decide) (by decide) (by decide), h 159 (by decide) (by decide) (by decide), h 161 (by decide) (by decide) (by decide), h 162 (by decide) (by decide) (by decide)]
theorem trM_rows {I J : Mem} (h : ∀ a, a ≠ 167 → a ≠ 151 → a ≠ 168 → J a = I a) : trM J = trM I := by
  unfold trM
  rw [h 163 (by decide) (by decide) (by decide), h 164 (by decide) (by decide) (by decide), h 165 (by decide) (by decide) (by decide), h 166 (by decide) (by decide) (by decide)]
theorem vSeq_lean {pr v0 : Vec} (h : 0 ≤ (v0 7).toInt ∧ (v0 7).toInt ≤ 90) : ∀ i, 0 ≤ (vSeq pr v0 i 7).toInt ∧ (vSeq pr v0 i 7).toInt ≤ 90
  | 0 => h
  | i + 1 => by
    have ih := vSeq_lean (pr := pr) h i
    show 0 ≤ (pst pr (nI (i + 1)) (vSeq pr v0 i) 7).toInt ∧ (pst pr (nI (i + 1)) (vSeq pr v0 i) 7).toInt ≤ 90
    unfold pst
    rw [if_neg (by decide), if_neg (by decide), if_neg (by decide), if_neg (by decide), if_neg (by decide), if_neg (by decide), if_neg (by decide), if_pos rfl]
    split
    · exact heldI_bd (v := vSeq pr v0 i 7 - 1) (lo := 0) (hi := 90) (by decide)
    · exact ih
/-- the reference at tick i of a flight that began at I -/
def FlM (I J : Mem) (pr v0 : Vec) (i : Nat) : Prop := (∀ a, a ≠ 167 → a ≠ 151 → a ≠ 168 → J a = I a) ∧ (∀ j, j ≠ 20 → j ≠ 21 → J 151 j = I 151 j) ∧ J 151 20 = nI i ∧ (∀ j, j < 8 → J 167 j = vSeq pr v0 i j) ∧ (I 151 22 = 0 → J 168 = I 168) ∧ (¬ I 151 22 = 0 → ∀ m, m ≤ i → ∀ j, j < 8 → J 168 (8 * m + j) = vSeq pr v0 m j)
def eM (I : Mem) (pr v0 : Vec) (m : Nat) : Int32 := endV (vSeq pr v0 m) (nI m) (trM I) (I 151 13).toNatClampNeg (I 151 18)
set_option maxRecDepth 100000 in
set_option maxHeartbeats 4000000 in
theorem c_X11_isNear (E : En) (I : Mem) (x : Int32) (y : Int32) (far : Int32)  : Ctr E yX11_isNear cX11_isNear 8 (some .boolean) 1 [.ref (E.1 151), .int x, .int y, .int far] I (qI (fun (r : Int32) (I1 : Mem) => r = b2i (nearP (I 167 0) (I 167 1) x y far) ∧ I = I1)) := by
  refine Ctr.openI (by decide) (Nat.le_of_ble_eq_true rfl) (fun g h hr => ?_)
  have h : Sem cX11_isNear RX11 8 (rmL 1) E g := h
  show g I 0 [(0, .ref (E.1 151)), (1, .int x), (2, .int y), (3, .int far)] []
  refine r_aload_n (pc := 0) h dX11_isNear_0 rfl ?_
  refine gf_X11_60 (pc := 1) h dX11_isNear_1 ?_
  refine r_iconst (v := 0) (pc := 4) h dX11_isNear_4 (by decide) ?_
  refine r_ialdL (j := 0) (pc := 5) h dX11_isNear_5 (by decide) (by decide) (by decide) (vin (by decide) (by decide)) ?_
  refine r_iload_n (pc := 6) h dX11_isNear_6 rfl ?_
  refine r_isub (pc := 7) h dX11_isNear_7 ?_
  refine r_i2l (pc := 8) h dX11_isNear_8 ?_
  refine r_lstore (pc := 9) h dX11_isNear_9 (by decide) ?_
  refine r_aload_n (pc := 11) h dX11_isNear_11 rfl ?_
  refine gf_X11_60 (pc := 12) h dX11_isNear_12 ?_
  refine r_iconst (v := 1) (pc := 15) h dX11_isNear_15 (by decide) ?_
  refine r_ialdL (j := 1) (pc := 16) h dX11_isNear_16 (by decide) (by decide) (by decide) (vin (by decide) (by decide)) ?_
  refine r_iload_n (pc := 17) h dX11_isNear_17 rfl ?_
  refine r_isub (pc := 18) h dX11_isNear_18 ?_
  refine r_i2l (pc := 19) h dX11_isNear_19 ?_
  refine r_lstore (pc := 20) h dX11_isNear_20 (by decide) ?_
  refine r_lload (pc := 22) h dX11_isNear_22 rfl ?_
  refine r_lload (pc := 24) h dX11_isNear_24 rfl ?_
  refine r_lmul (pc := 26) h dX11_isNear_26 ?_
  refine r_lload (pc := 27) h dX11_isNear_27 rfl ?_
  refine r_lload (pc := 29) h dX11_isNear_29 rfl ?_
  refine r_lmul (pc := 31) h dX11_isNear_31 ?_
  refine r_ladd (pc := 32) h dX11_isNear_32 ?_
  refine r_iload_n (pc := 33) h dX11_isNear_33 rfl ?_
  refine r_i2l (pc := 34) h dX11_isNear_34 ?_
  refine r_iload_n (pc := 35) h dX11_isNear_35 rfl ?_
  refine r_i2l (pc := 36) h dX11_isNear_36 ?_
  refine r_lmul (pc := 37) h dX11_isNear_37 ?_
  refine r_lcmp (pc := 38) h dX11_isNear_38 ?_
  refine r_if_gt (pc := 39) h 46 dX11_isNear_39 (by decide) (fun c39 => ?_) (fun c39 => ?_)
  · refine r_iconst (v := 0) (pc := 46) h dX11_isNear_46 (by decide) ?_
    exact hr _ _ _ _ dX11_isNear_47 (by first | rfl | decide | exact b2i_nar) (⟨by simp only [lg_gt, lg_ngt, eq0_b2i, eq1_b2i] at *; omega, rfl⟩)
  · refine r_iconst (v := 1) (pc := 42) h dX11_isNear_42 (by decide) ?_
    refine r_goto (pc := 43) h 47 dX11_isNear_43 (by decide) ?_
    exact hr _ _ _ _ dX11_isNear_47 (by first | rfl | decide | exact b2i_nar) (⟨by simp only [lg_gt, lg_ngt, eq0_b2i, eq1_b2i] at *; omega, rfl⟩)
set_option maxRecDepth 100000 in
set_option maxHeartbeats 4000000 in
theorem c_X11_ending (E : En) (I : Mem)  (hc : 0 ≤ (I 151 13).toInt ∧ (I 151 13).toInt ≤ 6) : Ctr E yX11_ending cX11_ending 2 (some .int) 2 [.ref (E.1 151)] I (qI (fun (r : Int32) (I1 : Mem) => r = endV (I 167) (I 151 20) (trM I) (I 151 13).toNatClampNeg (I 151 18) ∧ I1 = (if hitN (I 167) (trM I) (I 151 13).toNatClampNeg < (I 151 13).toNatClampNeg then upm I 151 21 (nI (hitN (I 167) (trM I) (I 151 13).toNatClampNeg)) else I))) := by
  refine Ctr.openI (by decide) (Nat.le_of_ble_eq_true rfl) (fun g h hr => ?_)
  have h : Sem cX11_ending RX11 2 (rmL 2) E g := h
  show g I 0 [(0, .ref (E.1 151))] []
  refine r_iconst (v := 0) (pc := 0) h dX11_ending_0 (by decide) ?_
  refine r_istore_n (pc := 1) h dX11_ending_1 (by decide) ?_
  have loop2 : ∀ (m i : Nat), i ≤ (I 151 13).toNatClampNeg → (I 151 13).toNatClampNeg + 1 ≤ i + m → (∀ k, k < i → decide (treeP (I 167) (trM I) k) = false) → g I 2 [(0, .ref (E.1 151)), (1, .int (nI i))] [] := by
    intro m
    induction m with
    | zero =>
      intro i h1 h2
      omega
    | succ m ih =>
      intro i hi him hno
      have ei := nI_tI (i := i) (by rw [tn] at hi; omega)
      have hC6 : (I 151 13).toNatClampNeg ≤ 6 := by rw [tn]; omega
      have hCI : ((I 151 13).toNatClampNeg : Int) = (I 151 13).toInt := tnI _ hc.1
      refine r_iload_n (pc := 2) h dX11_ending_2 rfl ?_
      refine r_aload_n (pc := 3) h dX11_ending_3 rfl ?_
      refine gf_X11_180 (pc := 4) h dX11_ending_4 ?_
      refine r_icmp_ge (pc := 7) h 63 dX11_ending_7 (by decide) (fun c7 => ?_) (fun c7 => ?_)
      · have hh : hitN (I 167) (trM I) (I 151 13).toNatClampNeg = (I 151 13).toNatClampNeg := by
          have := fst1_none (fun t => decide (treeP (I 167) (trM I) t)) (m := (I 151 13).toNatClampNeg) (i := 0) (fun k _ hk => hno k (by rw [Int32.le_iff_toInt_le, ei] at c7; omega))
          rw [Nat.zero_add] at this
          exact this
        have hlt : ¬ hitN (I 167) (trM I) (I 151 13).toNatClampNeg < (I 151 13).toNatClampNeg := by omega
        refine r_aload_n (pc := 63) h dX11_ending_63 rfl ?_
        refine gf_X11_60 (pc := 64) h dX11_ending_64 ?_
        refine r_iconst (v := 2) (pc := 67) h dX11_ending_67 (by decide) ?_
        refine r_ialdL (j := 2) (pc := 68) h dX11_ending_68 (by decide) (by decide) (by decide) (vin (by decide) (by decide)) ?_
        refine r_if_gt (pc := 69) h 74 dX11_ending_69 (by decide) (fun c69 => ?_) (fun c69 => ?_)
        · refine r_aload_n (pc := 74) h dX11_ending_74 rfl ?_
          refine gf_X11_189 (pc := 75) h dX11_ending_75 ?_
          refine r_bipush (v := 20) (pc := 78) h dX11_ending_78 (by decide) ?_
          refine r_icmp_lt (pc := 80) h 119 dX11_ending_80 (by decide) (fun c80 => ?_) (fun c80 => ?_)
          · refine r_aload_n (pc := 119) h dX11_ending_119 rfl ?_
            refine gf_X11_189 (pc := 120) h dX11_ending_120 ?_
            refine r_sipush (v := 400) (pc := 123) h dX11_ending_123 (by decide) ?_
            refine r_icmp_ne (pc := 126) h 133 dX11_ending_126 (by decide) (fun c126 => ?_) (fun c126 => ?_)
            · refine r_iconst (v := 0) (pc := 133) h dX11_ending_133 (by decide) ?_
              exact hr _ _ _ _ dX11_ending_134 (rfl) (⟨by unfold endV; rw [if_neg hlt, if_neg (by (try simp only [b2i_eq0] at *); (try simp only [Int32.lt_iff_toInt_lt, Int32.reduceToInt, Int64.reduceToInt, Int32.toInt_toInt64, i32_eq] at *); omega)]; first | (rw [if_pos (by (try simp only [b2i_eq0] at *); (try simp only [Int32.lt_iff_toInt_lt, Int32.reduceToInt, Int64.reduceToInt, Int32.toInt_toInt64, i32_eq] at *); omega)]; done) | (rw [if_neg (by (try simp only [b2i_eq0] at *); (try simp only [Int32.lt_iff_toInt_lt, Int32.reduceToInt, Int64.reduceToInt, Int32.toInt_toInt64, i32_eq] at *); omega), if_pos (by (try simp only [b2i_eq0] at *); (try simp only [Int32.lt_iff_toInt_lt, Int32.reduceToInt, Int64.reduceToInt, Int32.toInt_toInt64, i32_eq] at *); omega)]; done) | (rw [if_neg (by (try simp only [b2i_eq0] at *); (try simp only [Int32.lt_iff_toInt_lt, Int32.reduceToInt, Int64.reduceToInt, Int32.toInt_toInt64, i32_eq] at *); omega), if_neg (by (try simp only [b2i_eq0] at *); (try simp only [Int32.lt_iff_toInt_lt, Int32.reduceToInt, Int64.reduceToInt, Int32.toInt_toInt64, i32_eq] at *); omega)]; done), (if_neg hlt).symm⟩)
            · refine r_iconst (v := 4) (pc := 129) h dX11_ending_129 (by decide) ?_
              refine r_goto (pc := 130) h 134 dX11_ending_130 (by decide) ?_
              exact hr _ _ _ _ dX11_ending_134 (rfl) (⟨by unfold endV; rw [if_neg hlt, if_neg (by (try simp only [b2i_eq0] at *); (try simp only [Int32.lt_iff_toInt_lt, Int32.reduceToInt, Int64.reduceToInt, Int32.toInt_toInt64, i32_eq] at *); omega)]; first | (rw [if_pos (by (try simp only [b2i_eq0] at *); (try simp only [Int32.lt_iff_toInt_lt, Int32.reduceToInt, Int64.reduceToInt, Int32.toInt_toInt64, i32_eq] at *); omega)]; done) | (rw [if_neg (by (try simp only [b2i_eq0] at *); (try simp only [Int32.lt_iff_toInt_lt, Int32.reduceToInt, Int64.reduceToInt, Int32.toInt_toInt64, i32_eq] at *); omega), if_pos (by (try simp only [b2i_eq0] at *); (try simp only [Int32.lt_iff_toInt_lt, Int32.reduceToInt, Int64.reduceToInt, Int32.toInt_toInt64, i32_eq] at *); omega)]; done) | (rw [if_neg (by (try simp only [b2i_eq0] at *); (try simp only [Int32.lt_iff_toInt_lt, Int32.reduceToInt, Int64.reduceToInt, Int32.toInt_toInt64, i32_eq] at *); omega), if_neg (by (try simp only [b2i_eq0] at *); (try simp only [Int32.lt_iff_toInt_lt, Int32.reduceToInt, Int64.reduceToInt, Int32.toInt_toInt64, i32_eq] at *); omega)]; done), (if_neg hlt).symm⟩)
          · refine r_aload_n (pc := 83) h dX11_ending_83 rfl ?_
            refine r_iconst (v := 0) (pc := 84) h dX11_ending_84 (by decide) ?_
            refine r_iconst (v := 0) (pc := 85) h dX11_ending_85 (by decide) ?_
            refine r_aload_n (pc := 86) h dX11_ending_86 rfl ?_
            refine gf_X11_56 (pc := 87) h dX11_ending_87 ?_
            refine r_callVI (ci := 11) (pc := 90) h dX11_ending_90 wm_X11_201 ca_X11_isNear rfl (c_X11_isNear E _ _ _ _) rfl rfl (Nat.le_of_ble_eq_true rfl) (by decide) (by decide) (by decide) (by decide) (fun r I1 hq => ?_)
            obtain ⟨rfl, rfl⟩ := hq
            refine r_if_eq (pc := 93) h 119 dX11_ending_93 (by decide) (fun c93 => ?_) (fun c93 => ?_)
            · refine r_aload_n (pc := 119) h dX11_ending_119 rfl ?_
              refine gf_X11_189 (pc := 120) h dX11_ending_120 ?_
              refine r_sipush (v := 400) (pc := 123) h dX11_ending_123 (by decide) ?_
              refine r_icmp_ne (pc := 126) h 133 dX11_ending_126 (by decide) (fun c126 => ?_) (fun c126 => ?_)
              · refine r_iconst (v := 0) (pc := 133) h dX11_ending_133 (by decide) ?_
                exact hr _ _ _ _ dX11_ending_134 (rfl) (⟨by unfold endV; rw [if_neg hlt, if_neg (by (try simp only [b2i_eq0] at *); (try simp only [Int32.lt_iff_toInt_lt, Int32.reduceToInt, Int64.reduceToInt, Int32.toInt_toInt64, i32_eq] at *); omega)]; first | (rw [if_pos (by (try simp only [b2i_eq0] at *); (try simp only [Int32.lt_iff_toInt_lt, Int32.reduceToInt, Int64.reduceToInt, Int32.toInt_toInt64, i32_eq] at *); omega)]; done) | (rw [if_neg (by (try simp only [b2i_eq0] at *); (try simp only [Int32.lt_iff_toInt_lt, Int32.reduceToInt, Int64.reduceToInt, Int32.toInt_toInt64, i32_eq] at *); omega), if_pos (by (try simp only [b2i_eq0] at *); (try simp only [Int32.lt_iff_toInt_lt, Int32.reduceToInt, Int64.reduceToInt, Int32.toInt_toInt64, i32_eq] at *); omega)]; done) | (rw [if_neg (by (try simp only [b2i_eq0] at *); (try simp only [Int32.lt_iff_toInt_lt, Int32.reduceToInt, Int64.reduceToInt, Int32.toInt_toInt64, i32_eq] at *); omega), if_neg (by (try simp only [b2i_eq0] at *); (try simp only [Int32.lt_iff_toInt_lt, Int32.reduceToInt, Int64.reduceToInt, Int32.toInt_toInt64, i32_eq] at *); omega)]; done), (if_neg hlt).symm⟩)
              · refine r_iconst (v := 4) (pc := 129) h dX11_ending_129 (by decide) ?_
                refine r_goto (pc := 130) h 134 dX11_ending_130 (by decide) ?_
                exact hr _ _ _ _ dX11_ending_134 (rfl) (⟨by unfold endV; rw [if_neg hlt, if_neg (by (try simp only [b2i_eq0] at *); (try simp only [Int32.lt_iff_toInt_lt, Int32.reduceToInt, Int64.reduceToInt, Int32.toInt_toInt64, i32_eq] at *); omega)]; first | (rw [if_pos (by (try simp only [b2i_eq0] at *); (try simp only [Int32.lt_iff_toInt_lt, Int32.reduceToInt, Int64.reduceToInt, Int32.toInt_toInt64, i32_eq] at *); omega)]; done) | (rw [if_neg (by (try simp only [b2i_eq0] at *); (try simp only [Int32.lt_iff_toInt_lt, Int32.reduceToInt, Int64.reduceToInt, Int32.toInt_toInt64, i32_eq] at *); omega), if_pos (by (try simp only [b2i_eq0] at *); (try simp only [Int32.lt_iff_toInt_lt, Int32.reduceToInt, Int64.reduceToInt, Int32.toInt_toInt64, i32_eq] at *); omega)]; done) | (rw [if_neg (by (try simp only [b2i_eq0] at *); (try simp only [Int32.lt_iff_toInt_lt, Int32.reduceToInt, Int64.reduceToInt, Int32.toInt_toInt64, i32_eq] at *); omega), if_neg (by (try simp only [b2i_eq0] at *); (try simp only [Int32.lt_iff_toInt_lt, Int32.reduceToInt, Int64.reduceToInt, Int32.toInt_toInt64, i32_eq] at *); omega)]; done), (if_neg hlt).symm⟩)
            · refine r_aload_n (pc := 96) h dX11_ending_96 rfl ?_
              refine gf_X11_60 (pc := 97) h dX11_ending_97 ?_
              refine r_iconst (v := 2) (pc := 100) h dX11_ending_100 (by decide) ?_
              refine r_ialdL (j := 2) (pc := 101) h dX11_ending_101 (by decide) (by decide) (by decide) (vin (by decide) (by decide)) ?_
              refine r_i2l (pc := 102) h dX11_ending_102 ?_
              refine r_ldc2 (pc := 103) h dX11_ending_103 wc_X11_208 ?_
              refine r_ldc2 (pc := 106) h dX11_ending_106 wc_X11_210 ?_
              refine r_callSI (pc := 109) h dX11_ending_109 wm_X11_127 ca_X11_in (c_X11_in E _ _ _ _) rfl rfl (Nat.le_of_ble_eq_true rfl) (by decide) (fun r I1 hq => ?_)
              obtain ⟨rfl, rfl⟩ := hq
              refine r_if_eq (pc := 112) h 119 dX11_ending_112 (by decide) (fun c112 => ?_) (fun c112 => ?_)
              · refine r_aload_n (pc := 119) h dX11_ending_119 rfl ?_
                refine gf_X11_189 (pc := 120) h dX11_ending_120 ?_
                refine r_sipush (v := 400) (pc := 123) h dX11_ending_123 (by decide) ?_
                refine r_icmp_ne (pc := 126) h 133 dX11_ending_126 (by decide) (fun c126 => ?_) (fun c126 => ?_)
                · refine r_iconst (v := 0) (pc := 133) h dX11_ending_133 (by decide) ?_
                  exact hr _ _ _ _ dX11_ending_134 (rfl) (⟨by unfold endV; rw [if_neg hlt, if_neg (by (try simp only [b2i_eq0] at *); (try simp only [Int32.lt_iff_toInt_lt, Int32.reduceToInt, Int64.reduceToInt, Int32.toInt_toInt64, i32_eq] at *); omega)]; first | (rw [if_pos (by (try simp only [b2i_eq0] at *); (try simp only [Int32.lt_iff_toInt_lt, Int32.reduceToInt, Int64.reduceToInt, Int32.toInt_toInt64, i32_eq] at *); omega)]; done) | (rw [if_neg (by (try simp only [b2i_eq0] at *); (try simp only [Int32.lt_iff_toInt_lt, Int32.reduceToInt, Int64.reduceToInt, Int32.toInt_toInt64, i32_eq] at *); omega), if_pos (by (try simp only [b2i_eq0] at *); (try simp only [Int32.lt_iff_toInt_lt, Int32.reduceToInt, Int64.reduceToInt, Int32.toInt_toInt64, i32_eq] at *); omega)]; done) | (rw [if_neg (by (try simp only [b2i_eq0] at *); (try simp only [Int32.lt_iff_toInt_lt, Int32.reduceToInt, Int64.reduceToInt, Int32.toInt_toInt64, i32_eq] at *); omega), if_neg (by (try simp only [b2i_eq0] at *); (try simp only [Int32.lt_iff_toInt_lt, Int32.reduceToInt, Int64.reduceToInt, Int32.toInt_toInt64, i32_eq] at *); omega)]; done), (if_neg hlt).symm⟩)
                · refine r_iconst (v := 4) (pc := 129) h dX11_ending_129 (by decide) ?_
                  refine r_goto (pc := 130) h 134 dX11_ending_130 (by decide) ?_
                  exact hr _ _ _ _ dX11_ending_134 (rfl) (⟨by unfold endV; rw [if_neg hlt, if_neg (by (try simp only [b2i_eq0] at *); (try simp only [Int32.lt_iff_toInt_lt, Int32.reduceToInt, Int64.reduceToInt, Int32.toInt_toInt64, i32_eq] at *); omega)]; first | (rw [if_pos (by (try simp only [b2i_eq0] at *); (try simp only [Int32.lt_iff_toInt_lt, Int32.reduceToInt, Int64.reduceToInt, Int32.toInt_toInt64, i32_eq] at *); omega)]; done) | (rw [if_neg (by (try simp only [b2i_eq0] at *); (try simp only [Int32.lt_iff_toInt_lt, Int32.reduceToInt, Int64.reduceToInt, Int32.toInt_toInt64, i32_eq] at *); omega), if_pos (by (try simp only [b2i_eq0] at *); (try simp only [Int32.lt_iff_toInt_lt, Int32.reduceToInt, Int64.reduceToInt, Int32.toInt_toInt64, i32_eq] at *); omega)]; done) | (rw [if_neg (by (try simp only [b2i_eq0] at *); (try simp only [Int32.lt_iff_toInt_lt, Int32.reduceToInt, Int64.reduceToInt, Int32.toInt_toInt64, i32_eq] at *); omega), if_neg (by (try simp only [b2i_eq0] at *); (try simp only [Int32.lt_iff_toInt_lt, Int32.reduceToInt, Int64.reduceToInt, Int32.toInt_toInt64, i32_eq] at *); omega)]; done), (if_neg hlt).symm⟩)
              · refine r_iconst (v := 2) (pc := 115) h dX11_ending_115 (by decide) ?_
                refine r_goto (pc := 116) h 134 dX11_ending_116 (by decide) ?_
                exact hr _ _ _ _ dX11_ending_134 (rfl) (⟨by unfold endV; rw [if_neg hlt, if_neg (by (try simp only [b2i_eq0] at *); (try simp only [Int32.lt_iff_toInt_lt, Int32.reduceToInt, Int64.reduceToInt, Int32.toInt_toInt64, i32_eq] at *); omega)]; first | (rw [if_pos (by (try simp only [b2i_eq0] at *); (try simp only [Int32.lt_iff_toInt_lt, Int32.reduceToInt, Int64.reduceToInt, Int32.toInt_toInt64, i32_eq] at *); omega)]; done) | (rw [if_neg (by (try simp only [b2i_eq0] at *); (try simp only [Int32.lt_iff_toInt_lt, Int32.reduceToInt, Int64.reduceToInt, Int32.toInt_toInt64, i32_eq] at *); omega), if_pos (by (try simp only [b2i_eq0] at *); (try simp only [Int32.lt_iff_toInt_lt, Int32.reduceToInt, Int64.reduceToInt, Int32.toInt_toInt64, i32_eq] at *); omega)]; done) | (rw [if_neg (by (try simp only [b2i_eq0] at *); (try simp only [Int32.lt_iff_toInt_lt, Int32.reduceToInt, Int64.reduceToInt, Int32.toInt_toInt64, i32_eq] at *); omega), if_neg (by (try simp only [b2i_eq0] at *); (try simp only [Int32.lt_iff_toInt_lt, Int32.reduceToInt, Int64.reduceToInt, Int32.toInt_toInt64, i32_eq] at *); omega)]; done), (if_neg hlt).symm⟩)
        · refine r_iconst (v := 1) (pc := 72) h dX11_ending_72 (by decide) ?_
          exact hr _ _ _ _ dX11_ending_73 (rfl) (⟨by unfold endV; rw [if_neg hlt, if_pos (by (try simp only [b2i_eq0] at *); (try simp only [Int32.lt_iff_toInt_lt, Int32.reduceToInt, Int64.reduceToInt, Int32.toInt_toInt64, i32_eq] at *); omega)], (if_neg hlt).symm⟩)
      · have hlt : i < (I 151 13).toNatClampNeg := by rw [Int32.le_iff_toInt_le, ei] at c7; omega
        refine r_aload_n (pc := 10) h dX11_ending_10 rfl ?_
        refine r_aload_n (pc := 11) h dX11_ending_11 rfl ?_
        refine gf_X11_44 (pc := 12) h dX11_ending_12 ?_
        refine r_iload_n (pc := 15) h dX11_ending_15 rfl ?_
        refine r_ialdL (j := i) (pc := 16) h dX11_ending_16 (by decide) (by decide) (nI_tn (by omega)) (vinI (n := 6) (by omega) (by omega)) ?_
        refine r_aload_n (pc := 17) h dX11_ending_17 rfl ?_
        refine gf_X11_47 (pc := 18) h dX11_ending_18 ?_
        refine r_iload_n (pc := 21) h dX11_ending_21 rfl ?_
        refine r_ialdL (j := i) (pc := 22) h dX11_ending_22 (by decide) (by decide) (nI_tn (by omega)) (vinI (n := 6) (by omega) (by omega)) ?_
        refine r_aload_n (pc := 23) h dX11_ending_23 rfl ?_
        refine gf_X11_50 (pc := 24) h dX11_ending_24 ?_
        refine r_iload_n (pc := 27) h dX11_ending_27 rfl ?_
        refine r_ialdL (j := i) (pc := 28) h dX11_ending_28 (by decide) (by decide) (nI_tn (by omega)) (vinI (n := 6) (by omega) (by omega)) ?_
        refine r_callVI (ci := 11) (pc := 29) h dX11_ending_29 wm_X11_201 ca_X11_isNear rfl (c_X11_isNear E _ _ _ _) rfl rfl (Nat.le_of_ble_eq_true rfl) (by decide) (by decide) (by decide) (by decide) (fun r I1 hq => ?_)
        obtain ⟨rfl, rfl⟩ := hq
        refine r_if_eq (pc := 32) h 57 dX11_ending_32 (by decide) (fun c32 => ?_) (fun c32 => ?_)
        · refine r_iinc (v := 1) (pc := 57) h dX11_ending_57 rfl (by decide) (by decide) ?_
          refine r_goto (pc := 60) h 2 dX11_ending_60 (by decide) ?_
          rw [← nI_succ]
          refine r_at h [(0, .ref (E.1 151)), (1, .int (nI (i + 1)))] ⟨rfl, rfl, trivial⟩ (ih (i + 1) (by omega) (by omega) ?_)
          intro k hk
          by_cases e : k = i
          · subst e
            simp only [decide_eq_false_iff_not]
            intro q
            first
            | exact (b2i_eq0.mp c32) q.1
            | (rw [Int32.lt_iff_toInt_lt] at c47; have q2 := q.2; exact absurd q2 (by show ¬ (I 167 2).toInt ≤ (I 166 k).toInt; omega))
          · exact hno k (by omega)
        · refine r_aload_n (pc := 35) h dX11_ending_35 rfl ?_
          refine gf_X11_60 (pc := 36) h dX11_ending_36 ?_
          refine r_iconst (v := 2) (pc := 39) h dX11_ending_39 (by decide) ?_
          refine r_ialdL (j := 2) (pc := 40) h dX11_ending_40 (by decide) (by decide) (by decide) (vin (by decide) (by decide)) ?_
          refine r_aload_n (pc := 41) h dX11_ending_41 rfl ?_
          refine gf_X11_53 (pc := 42) h dX11_ending_42 ?_
          refine r_iload_n (pc := 45) h dX11_ending_45 rfl ?_
          refine r_ialdL (j := i) (pc := 46) h dX11_ending_46 (by decide) (by decide) (nI_tn (by omega)) (vinI (n := 6) (by omega) (by omega)) ?_
          refine r_icmp_gt (pc := 47) h 57 dX11_ending_47 (by decide) (fun c47 => ?_) (fun c47 => ?_)
          · refine r_iinc (v := 1) (pc := 57) h dX11_ending_57 rfl (by decide) (by decide) ?_
            refine r_goto (pc := 60) h 2 dX11_ending_60 (by decide) ?_
            rw [← nI_succ]
            refine r_at h [(0, .ref (E.1 151)), (1, .int (nI (i + 1)))] ⟨rfl, rfl, trivial⟩ (ih (i + 1) (by omega) (by omega) ?_)
            intro k hk
            by_cases e : k = i
            · subst e
              simp only [decide_eq_false_iff_not]
              intro q
              first
              | exact (b2i_eq0.mp c32) q.1
              | (rw [Int32.lt_iff_toInt_lt] at c47; have q2 := q.2; exact absurd q2 (by show ¬ (I 167 2).toInt ≤ (I 166 k).toInt; omega))
            · exact hno k (by omega)
          · have htr : treeP (I 167) (trM I) i := by
              refine ⟨?_, ?_⟩
              · simp only [b2i_eq0, Classical.not_not] at c32
                exact c32
              · rw [Int32.lt_iff_toInt_lt] at c47
                show (I 167 2).toInt ≤ (I 166 i).toInt
                omega
            have hh : hitN (I 167) (trM I) (I 151 13).toNatClampNeg = i := fst1_eq _ (by omega) (by omega) (by simp only [decide_eq_true_eq]; exact htr) (fun k _ hk => hno k hk)
            refine r_aload_n (pc := 50) h dX11_ending_50 rfl ?_
            refine r_iload_n (pc := 51) h dX11_ending_51 rfl ?_
            refine pf_X11_205 (pc := 52) h dX11_ending_52 ?_
            refine r_iconst (v := 3) (pc := 55) h dX11_ending_55 (by decide) ?_
            exact hr _ _ _ _ dX11_ending_56 (rfl) (⟨by unfold endV; rw [if_pos (by omega)], by rw [if_pos (by omega), hh]⟩)
  have h0 := loop2 ((I 151 13).toNatClampNeg + 1) 0 (by omega) (by omega) (fun k hk => by omega)
  exact r_at h [(0, .ref (E.1 151)), (1, .int (nI 0))] ⟨rfl, rfl, trivial⟩ h0
set_option maxRecDepth 100000 in
set_option maxHeartbeats 4000000 in
theorem c_X11_keepsTick0 (E : En) (I : Mem)  (hk : I 151 22 = 0) : Ctr E yX11_keepsTick cX11_keepsTick 2 none 1 [.ref (E.1 151)] I (qV (fun I1 : Mem => I1 = I)) := by
  refine Ctr.openV (by decide) (Nat.le_of_ble_eq_true rfl) (fun g h hr => ?_)
  have h : Sem cX11_keepsTick RX11 2 (rmL 1) E g := h
  show g I 0 [(0, .ref (E.1 151))] []
  refine r_iconst (v := 0) (pc := 0) h dX11_keepsTick_0 (by decide) ?_
  refine r_istore_n (pc := 1) h dX11_keepsTick_1 (by decide) ?_
  refine r_iload_n (pc := 2) h dX11_keepsTick_2 rfl ?_
  refine r_bipush (v := 8) (pc := 3) h dX11_keepsTick_3 (by decide) ?_
  refine r_icmp_ge (pc := 5) h 41 dX11_keepsTick_5 (by decide) (fun c => absurd c (by decide)) (fun _ => ?_)
  refine r_aload_n (pc := 8) h dX11_keepsTick_8 rfl ?_
  refine gf_X11_185 (pc := 9) h dX11_keepsTick_9 ?_
  refine r_if_eq (pc := 12) h 41 dX11_keepsTick_12 (by decide) (fun c12 => ?_) (fun c12 => ?_)
  · exact hr _ _ _ dX11_keepsTick_41 (rfl)
  · exact absurd hk c12
set_option maxRecDepth 100000 in
set_option maxHeartbeats 4000000 in
theorem c_X11_keepsTick1 (E : En) (I : Mem)  (hk : ¬ I 151 22 = 0) (ht : 0 ≤ (I 151 20).toInt ∧ (I 151 20).toInt ≤ 400) : Ctr E yX11_keepsTick cX11_keepsTick 2 none 1 [.ref (E.1 151)] I (qV (fun I1 : Mem => I1 = rowQ I 168 (8 * (I 151 20).toNatClampNeg) (I 167) 8)) := by
  refine Ctr.openV (by decide) (Nat.le_of_ble_eq_true rfl) (fun g h hr => ?_)
  have h : Sem cX11_keepsTick RX11 2 (rmL 1) E g := h
  show g I 0 [(0, .ref (E.1 151))] []
  refine r_iconst (v := 0) (pc := 0) h dX11_keepsTick_0 (by decide) ?_
  refine r_istore_n (pc := 1) h dX11_keepsTick_1 (by decide) ?_
  have loop2 : ∀ (m i : Nat), i ≤ 8 → 8 + 1 ≤ i + m → g (rowQ I 168 (8 * (I 151 20).toNatClampNeg) (I 167) i) 2 [(0, .ref (E.1 151)), (1, .int (nI i))] [] := by
    intro m
    induction m with
    | zero =>
      intro i h1 h2
      omega
    | succ m ih =>
      intro i hi him
      have ei := nI_tI (i := i) (by omega)
      have e88 : (8 : Int32).toInt = 8 := by decide
      refine r_iload_n (pc := 2) h dX11_keepsTick_2 rfl ?_
      refine r_bipush (v := 8) (pc := 3) h dX11_keepsTick_3 (by decide) ?_
      refine r_icmp_ge (pc := 5) h 41 dX11_keepsTick_5 (by decide) (fun c5 => ?_) (fun c5 => ?_)
      · have h41 : i = 8 := by first | (rw [Int32.le_iff_toInt_le, ei, e88] at c5; omega) | exact absurd c12 hk
        exact hr _ _ _ dX11_keepsTick_41 (by rw [h41])
      · have h8 : i < 8 := by rw [Int32.le_iff_toInt_le, ei, e88] at c5; omega
        refine r_aload_n (pc := 8) h dX11_keepsTick_8 rfl ?_
        refine gf_X11_185 (pc := 9) h dX11_keepsTick_9 ?_
        refine r_if_eq (pc := 12) h 41 dX11_keepsTick_12 (by decide) (fun c12 => ?_) (fun c12 => ?_)
        · have h41 : i = 8 := by first | (rw [Int32.le_iff_toInt_le, ei, e88] at c5; omega) | exact absurd c12 hk
          exact hr _ _ _ dX11_keepsTick_41 (by rw [h41])
        · refine r_aload_n (pc := 15) h dX11_keepsTick_15 rfl ?_
          refine gf_X11_66 (pc := 16) h dX11_keepsTick_16 ?_
          refine r_bipush (v := 8) (pc := 19) h dX11_keepsTick_19 (by decide) ?_
          refine r_aload_n (pc := 21) h dX11_keepsTick_21 rfl ?_
          refine gf_X11_189 (pc := 22) h dX11_keepsTick_22 ?_
          refine r_imul (pc := 25) h dX11_keepsTick_25 ?_
          refine r_iload_n (pc := 26) h dX11_keepsTick_26 rfl ?_
          refine r_iadd (pc := 27) h dX11_keepsTick_27 ?_
          have em := m8n ht.1 ht.2 h8
          have ht9 := tnI _ ht.1
          refine r_aload_n (pc := 28) h dX11_keepsTick_28 rfl ?_
          refine gf_X11_60 (pc := 29) h dX11_keepsTick_29 ?_
          refine r_iload_n (pc := 32) h dX11_keepsTick_32 rfl ?_
          refine r_ialdL (j := i) (pc := 33) h dX11_keepsTick_33 (by decide) (by decide) (nI_tn (by omega)) (vinI (n := 8) (by omega) (by omega)) ?_
          refine r_iastL (j := 8 * (I 151 20).toNatClampNeg + i) (pc := 34) h dX11_keepsTick_34 (by decide) (by decide) (em.2) (vin (n := 3208) (by show 0 ≤ (8 * I 151 20 + nI i).toInt; omega) (by show (8 * I 151 20 + nI i).toInt < _; omega)) ?_
          refine r_iinc (v := 1) (pc := 35) h dX11_keepsTick_35 rfl (by decide) (by decide) ?_
          refine r_goto (pc := 38) h 2 dX11_keepsTick_38 (by decide) ?_
          rw [← nI_succ]
          rw [show upm (rowQ I 168 (8 * (I 151 20).toNatClampNeg) (I 167) i) 168 (8 * (I 151 20).toNatClampNeg + i) _ = (rowQ I 168 (8 * (I 151 20).toNatClampNeg) (I 167) (i + 1)) by
            rw [rowQ_ne _ _ _ _ (by decide), ← rowQ_step]]
          exact r_at h [(0, .ref (E.1 151)), (1, .int (nI (i + 1)))] ⟨rfl, rfl, trivial⟩ (ih (i + 1) (by omega) (by omega))
  have h0 := loop2 9 0 (by omega) (by omega)
  rw [rowQ_0] at h0
  exact r_at h [(0, .ref (E.1 151)), (1, .int (nI 0))] ⟨rfl, rfl, trivial⟩ h0
theorem c_X11_keepsTick (E : En) (I : Mem) (ht : 0 ≤ (I 151 20).toInt ∧ (I 151 20).toInt ≤ 400) : Ctr E yX11_keepsTick cX11_keepsTick 2 none 1 [.ref (E.1 151)] I (qV (fun I1 : Mem => (∀ a, a ≠ 168 → I1 a = I a) ∧ (I 151 22 = 0 → I1 168 = I 168) ∧ (¬ I 151 22 = 0 → ∀ b, I1 168 b = rowQ I 168 (8 * (I 151 20).toNatClampNeg) (I 167) 8 168 b))) := by
  by_cases hk : I 151 22 = 0
  · exact (c_X11_keepsTick0 E I hk).vMono (fun I1 e => by subst e; exact ⟨fun _ _ => rfl, fun _ => rfl, fun q => absurd hk q⟩)
  · exact (c_X11_keepsTick1 E I hk ht).vMono (fun I1 e => by subst e; exact ⟨fun a ha => rowQ_ne _ _ _ _ ha, fun q => absurd q hk, fun _ _ => rfl⟩)
set_option maxRecDepth 100000 in
set_option maxHeartbeats 4000000 in
theorem c_X11_flies (E : En) (I : Mem) (s : Int32) (bd : Int32) (lean : Int32) (angle : Int32) (strength : Int32) (spin : Int32) (w : Int32) (hs : 0 ≤ s.toInt ∧ s.toInt < 9) (hw : w.toInt < 8) (hl : 0 ≤ lean.toInt ∧ lean.toInt ≤ 90) (ht : ∀ p, p < 32 → 0 ≤ (I 162 p).toInt ∧ (I 162 p).toInt ≤ 359) (hc : 0 ≤ (I 151 13).toInt ∧ (I 151 13).toInt ≤ 6) (hT : I 152 = sinTab) : Ctr E yX11_flies cX11_flies 9 (some .int) 4 [.ref (E.1 151), .int s, .int bd, .int lean, .int angle, .int strength, .int spin, .int w] I (qI (fun (r : Int32) (I1 : Mem) => ∃ N, 1 ≤ N ∧ N ≤ 400 ∧ (∀ q, 1 ≤ q → q < N → eM I (prM I s bd w) (v0of lean angle strength spin) q = 0) ∧ ¬ eM I (prM I s bd w) (v0of lean angle strength spin) N = 0 ∧ r = eM I (prM I s bd w) (v0of lean angle strength spin) N ∧ FlM I I1 (prM I s bd w) (v0of lean angle strength spin) N ∧ I1 151 21 = hitV (vSeq (prM I s bd w) (v0of lean angle strength spin) N) (trM I) (I 151 13).toNatClampNeg)) := by
  refine Ctr.openI (by decide) (Nat.le_of_ble_eq_true rfl) (fun g h hr => ?_)
  have h : Sem cX11_flies RX11 9 (rmL 4) E g := h
  show g I 0 [(0, .ref (E.1 151)), (1, .int s), (2, .int bd), (3, .int lean), (4, .int angle), (5, .int strength), (6, .int spin), (7, .int w)] []
  refine r_aload_n (pc := 0) h dX11_flies_0 rfl ?_
  refine gf_X11_60 (pc := 1) h dX11_flies_1 ?_
  refine r_iconst (v := 0) (pc := 4) h dX11_flies_4 (by decide) ?_
  refine r_iconst (v := 0) (pc := 5) h dX11_flies_5 (by decide) ?_
  refine r_iastL (j := 0) (pc := 6) h dX11_flies_6 (by decide) (by decide) (by decide) (vin (by decide) (by decide)) ?_
  refine r_aload_n (pc := 7) h dX11_flies_7 rfl ?_
  refine gf_X11_60 (pc := 8) h dX11_flies_8 ?_
  refine r_iconst (v := 1) (pc := 11) h dX11_flies_11 (by decide) ?_
  refine r_iconst (v := 0) (pc := 12) h dX11_flies_12 (by decide) ?_
  refine r_iastL (j := 1) (pc := 13) h dX11_flies_13 (by decide) (by decide) (by decide) (vin (by decide) (by decide)) ?_
  refine r_aload_n (pc := 14) h dX11_flies_14 rfl ?_
  refine gf_X11_60 (pc := 15) h dX11_flies_15 ?_
  refine r_iconst (v := 2) (pc := 18) h dX11_flies_18 (by decide) ?_
  refine r_sipush (v := 150) (pc := 19) h dX11_flies_19 (by decide) ?_
  refine r_iastL (j := 2) (pc := 22) h dX11_flies_22 (by decide) (by decide) (by decide) (vin (by decide) (by decide)) ?_
  refine r_aload_n (pc := 23) h dX11_flies_23 rfl ?_
  refine gf_X11_60 (pc := 24) h dX11_flies_24 ?_
  refine r_iconst (v := 3) (pc := 27) h dX11_flies_27 (by decide) ?_
  refine r_iconst (v := 0) (pc := 28) h dX11_flies_28 (by decide) ?_
  refine r_iastL (j := 3) (pc := 29) h dX11_flies_29 (by decide) (by decide) (by decide) (vin (by decide) (by decide)) ?_
  refine r_aload_n (pc := 30) h dX11_flies_30 rfl ?_
  refine gf_X11_60 (pc := 31) h dX11_flies_31 ?_
  refine r_iconst (v := 4) (pc := 34) h dX11_flies_34 (by decide) ?_
  refine r_bipush (v := 100) (pc := 35) h dX11_flies_35 (by decide) ?_
  refine r_iload (pc := 37) h dX11_flies_37 rfl ?_
  refine r_imul (pc := 39) h dX11_flies_39 ?_
  refine r_iastL (j := 4) (pc := 40) h dX11_flies_40 (by decide) (by decide) (by decide) (vin (by decide) (by decide)) ?_
  refine r_aload_n (pc := 41) h dX11_flies_41 rfl ?_
  refine gf_X11_60 (pc := 42) h dX11_flies_42 ?_
  refine r_iconst (v := 5) (pc := 45) h dX11_flies_45 (by decide) ?_
  refine r_iload (pc := 46) h dX11_flies_46 rfl ?_
  refine r_iastL (j := 5) (pc := 48) h dX11_flies_48 (by decide) (by decide) (by decide) (vin (by decide) (by decide)) ?_
  refine r_aload_n (pc := 49) h dX11_flies_49 rfl ?_
  refine gf_X11_60 (pc := 50) h dX11_flies_50 ?_
  refine r_bipush (v := 6) (pc := 53) h dX11_flies_53 (by decide) ?_
  refine r_iload (pc := 55) h dX11_flies_55 rfl ?_
  refine r_iastL (j := 6) (pc := 57) h dX11_flies_57 (by decide) (by decide) (by decide) (vin (by decide) (by decide)) ?_
  refine r_aload_n (pc := 58) h dX11_flies_58 rfl ?_
  refine gf_X11_60 (pc := 59) h dX11_flies_59 ?_
  refine r_bipush (v := 7) (pc := 62) h dX11_flies_62 (by decide) ?_
  refine r_iload_n (pc := 64) h dX11_flies_64 rfl ?_
  refine r_iastL (j := 7) (pc := 65) h dX11_flies_65 (by decide) (by decide) (by decide) (vin (by decide) (by decide)) ?_
  refine r_aload_n (pc := 66) h dX11_flies_66 rfl ?_
  refine r_iconst (v := 0) (pc := 67) h dX11_flies_67 (by decide) ?_
  refine pf_X11_189 (pc := 68) h dX11_flies_68 ?_
  refine r_aload_n (pc := 71) h dX11_flies_71 rfl ?_
  refine r_bipush (v := -4) (pc := 72) h dX11_flies_72 (by decide) ?_
  refine pf_X11_205 (pc := 74) h dX11_flies_74 ?_
  refine r_nmG (fun M0 hM0 => ?_)
  have h022 : M0 151 22 = I 151 22 := by rw [hM0]; rfl
  have h0t : 0 ≤ (M0 151 20).toInt ∧ (M0 151 20).toInt ≤ 400 := by rw [hM0]; exact (by decide : 0 ≤ (0 : Int32).toInt ∧ (0 : Int32).toInt ≤ 400)
  refine r_aload_n (pc := 77) h dX11_flies_77 rfl ?_
  refine r_callVV (ci := 11) (pc := 78) h dX11_flies_78 wm_X11_212 ca_X11_keepsTick rfl (c_X11_keepsTick E _ h0t) rfl rfl (Nat.le_of_ble_eq_true rfl) (by decide) (by decide) (by decide) (by decide) (fun M1 hq => ?_)
  rw [h022] at hq
  obtain ⟨hK1, hK2, hK3a⟩ := hq
  have hK3 : ¬ I 151 22 = 0 → ∀ j, j < 8 → M1 168 (8 * 0 + j) = M0 167 j := fun q j hj => by
    rw [hK3a q, show (M0 151 20).toNatClampNeg = 0 by rw [hM0]; rfl]
    exact rowQ_in _ _ _ _ hj
  refine r_iconst (v := 0) (pc := 81) h dX11_flies_81 (by decide) ?_
  refine r_istore (pc := 82) h dX11_flies_82 (by decide) ?_
  have loop84 : ∀ (m i : Nat) (J : Mem), i < 400 → 400 ≤ i + m → FlM I J (prM I s bd w) (v0of lean angle strength spin) i → J 151 21 = -4 → (∀ q, 1 ≤ q → q ≤ i → eM I (prM I s bd w) (v0of lean angle strength spin) q = 0) → g J 84 [(0, .ref (E.1 151)), (1, .int s), (2, .int bd), (3, .int lean), (4, .int angle), (5, .int strength), (6, .int spin), (7, .int w), (8, .int 0)] [] := by
    intro m
    induction m with
    | zero =>
      intro i J h1 h2
      omega
    | succ m ih =>
      intro i J hi him hF h21 hE
      obtain ⟨f1, f2, f3, f4, f5, f6⟩ := id hF
      have hT2 : J 152 = sinTab := by rw [f1 152 (by decide) (by decide) (by decide), hT]
      have hl2 : 0 ≤ (J 167 7).toInt ∧ (J 167 7).toInt ≤ 90 := by rw [f4 7 (by decide)]; exact vSeq_lean hl i
      have ht2 : ∀ p, p < 32 → 0 ≤ (J 162 p).toInt ∧ (J 162 p).toInt ≤ 359 := by rw [f1 162 (by decide) (by decide) (by decide)]; exact ht
      refine r_iload (pc := 84) h dX11_flies_84 rfl ?_
      refine r_if_ne (pc := 86) h 110 dX11_flies_86 (by decide) (fun c => absurd c (by decide)) (fun _ => ?_)
      refine r_aload_n (pc := 89) h dX11_flies_89 rfl ?_
      refine r_iload_n (pc := 90) h dX11_flies_90 rfl ?_
      refine r_iload_n (pc := 91) h dX11_flies_91 rfl ?_
      refine r_iload (pc := 92) h dX11_flies_92 rfl ?_
      refine r_callVV (ci := 11) (pc := 94) h dX11_flies_94 wm_X11_215 ca_X11_steps rfl (c_X11_steps E _ _ _ _ hs hw hl2 ht2) rfl rfl (Nat.le_of_ble_eq_true rfl) (by decide) (by decide) (by decide) (by decide) (fun I1 hq => ?_)
      subst hq
      refine r_nmG (fun L hL => ?_)
      obtain ⟨sA, sB, sC⟩ := R_steps_is J s bd w hT2 hs hw
      rw [← hL] at sA sB sC
      have l20 : L 151 20 = nI (i + 1) := by rw [sC, if_pos rfl, f3, nI_succ]
      have l22 : L 151 22 = I 151 22 := by rw [sC, if_neg (by decide), f2 22 (by decide) (by decide)]
      have l20b : 0 ≤ (L 151 20).toInt ∧ (L 151 20).toInt ≤ 400 := by rw [l20, nI_tI (by omega)]; omega
      have lv : ∀ j, j < 8 → L 167 j = vSeq (prM I s bd w) (v0of lean angle strength spin) (i + 1) j := fun j hj => by
        rw [sA j hj, prM_rows s bd w f1, f3, ← nI_succ]
        exact pst_congr f4 j hj
      refine r_aload_n (pc := 97) h dX11_flies_97 rfl ?_
      refine r_callVV (ci := 11) (pc := 98) h dX11_flies_98 wm_X11_212 ca_X11_keepsTick rfl (c_X11_keepsTick E _ l20b) rfl rfl (Nat.le_of_ble_eq_true rfl) (by decide) (by decide) (by decide) (by decide) (fun K hq => ?_)
      rw [l22] at hq
      obtain ⟨kA, kB, kC⟩ := hq
      have kv : ∀ j, j < 8 → K 167 j = vSeq (prM I s bd w) (v0of lean angle strength spin) (i + 1) j := fun j hj => by rw [kA 167 (by decide)]; exact lv j hj
      have kF : FlM I K (prM I s bd w) (v0of lean angle strength spin) (i + 1) := by
        refine ⟨fun a a1 a2 a3 => by rw [kA a a3, sB a a1 a2, f1 a a1 a2 a3], fun j j1 j2 => by rw [kA 151 (by decide), sC, if_neg j1, f2 j j1 j2], by rw [kA 151 (by decide), l20], kv, fun q => by rw [kB q, sB 168 (by decide) (by decide), f5 q], fun q m2 hm2 j hj => ?_⟩
        rw [kC q, l20, nI_tn (by omega)]
        by_cases e : m2 = i + 1
        · rw [e, rowQ_in _ _ _ _ hj]
          exact lv j hj
        · rw [rowQ_out _ _ _ (by omega), sB 168 (by decide) (by decide)]
          exact f6 q m2 (by omega) j hj
      have k13 : K 151 13 = I 151 13 := kF.2.1 13 (by decide) (by decide)
      have k18 : K 151 18 = I 151 18 := kF.2.1 18 (by decide) (by decide)
      have k20 : K 151 20 = nI (i + 1) := kF.2.2.1
      have ktr : trM K = trM I := trM_rows kF.1
      have k21 : K 151 21 = -4 := by rw [kA 151 (by decide), sC, if_neg (by decide), h21]
      refine r_aload_n (pc := 101) h dX11_flies_101 rfl ?_
      refine r_callVI (ci := 11) (pc := 102) h dX11_flies_102 wm_X11_219 ca_X11_ending rfl (c_X11_ending E _ (by rw [k13]; exact hc)) rfl rfl (Nat.le_of_ble_eq_true rfl) (by decide) (by decide) (by decide) (by decide) (fun r I9 hq => ?_)
      obtain ⟨hr9, hI9⟩ := hq
      have hI9 := hI9
      refine r_istore (pc := 105) h dX11_flies_105 (by decide) ?_
      refine r_goto (pc := 107) h 84 dX11_flies_107 (by decide) ?_
      rw [show r = eM I (prM I s bd w) (v0of lean angle strength spin) (i + 1) by rw [hr9]; unfold eM; rw [k20, k13, k18, ktr]; exact endV_congr kv]
      by_cases he : eM I (prM I s bd w) (v0of lean angle strength spin) (i + 1) = 0
      · have hn4 : i + 1 < 400 := by
          rcases Nat.lt_or_ge (i + 1) 400 with q | q
          · exact q
          · have e4 : i + 1 = 400 := by omega
            rw [e4] at he
            exact absurd he (end400 _ _ _ _)
        have hm9 : ¬ hitN (K 167) (trM K) (K 151 13).toNatClampNeg < (K 151 13).toNatClampNeg := by
          intro q
          have e3 : eM I (prM I s bd w) (v0of lean angle strength spin) (i + 1) = 3 := by
            unfold eM endV
            rw [← hitN_congr kv, ← ktr, ← k13, if_pos q]
          rw [e3] at he
          exact absurd he (by decide)
        rw [if_neg hm9] at hI9
        rw [hI9, he]
        exact r_at h [(0, .ref (E.1 151)), (1, .int s), (2, .int bd), (3, .int lean), (4, .int angle), (5, .int strength), (6, .int spin), (7, .int w), (8, .int 0)] ⟨rfl, rfl, rfl, rfl, rfl, rfl, rfl, rfl, rfl, trivial⟩ (ih (i + 1) K hn4 (by omega) kF k21 (fun q q1 q2 => by
          by_cases e : q = i + 1
          · rw [e]; exact he
          · exact hE q q1 (by omega)))
      · refine r_iload (pc := 84) h dX11_flies_84 rfl ?_
        refine r_if_ne (pc := 86) h 110 dX11_flies_86 (by decide) (fun _ => ?_) (fun c => absurd c he)
        refine r_iload (pc := 110) h dX11_flies_110 rfl ?_
        refine hr _ _ _ _ dX11_flies_112 rfl ⟨i + 1, by omega, by omega, fun q q1 q2 => hE q q1 (by omega), he, rfl, ?_, ?_⟩
        · obtain ⟨g1, g2, g3, g4, g5, g6⟩ := kF
          have hI8 : ∀ a, a ≠ 151 → I9 a = K a := fun a ha => by
            rw [hI9]
            split
            · exact upm_ne _ _ _ ha
            · rfl
          have hI7 : ∀ j, j ≠ 21 → I9 151 j = K 151 j := fun j hj => by
            rw [hI9]
            split
            · rw [upm_at, if_neg (fun q => hj q.2)]
            · rfl
          refine ⟨fun a a1 a2 a3 => by rw [hI8 a a2, g1 a a1 a2 a3], fun j j1 j2 => by rw [hI7 j j2, g2 j j1 j2], by rw [hI7 20 (by decide), g3], fun j hj => by rw [hI8 167 (by decide), g4 j hj], fun q => by rw [hI8 168 (by decide), g5 q], fun q m2 hm2 j hj => by rw [hI8 168 (by decide), g6 q m2 hm2 j hj]⟩
        · rw [hI9]
          unfold hitV
          rw [← hitN_congr kv, ← ktr, ← k13]
          split
          · rw [upm_eq]
          · exact k21
  have hv0 : ∀ j, j < 8 → M0 167 j = v0of lean angle strength spin j := by
    intro j hj
    rw [hM0]
    rcases (show j = 0 ∨ j = 1 ∨ j = 2 ∨ j = 3 ∨ j = 4 ∨ j = 5 ∨ j = 6 ∨ j = 7 by omega) with rfl | rfl | rfl | rfl | rfl | rfl | rfl | rfl <;> rfl
  have ha0 : ∀ a, a ≠ 167 → a ≠ 151 → M0 a = I a := by
    intro a a1 a2
    rw [hM0]
    rw [upm_ne _ _ _ a2, upm_ne _ _ _ a2, upm_ne _ _ _ a1, upm_ne _ _ _ a1, upm_ne _ _ _ a1, upm_ne _ _ _ a1, upm_ne _ _ _ a1, upm_ne _ _ _ a1, upm_ne _ _ _ a1, upm_ne _ _ _ a1]
  have hj0 : ∀ j, j ≠ 20 → j ≠ 21 → M0 151 j = I 151 j := by
    intro j j1 j2
    rw [hM0, upm_at, if_neg (fun q => j2 q.2), upm_at, if_neg (fun q => j1 q.2)]
    rfl
  have h20 : M0 151 20 = nI 0 := by rw [hM0]; rfl
  have h21 : M0 151 21 = -4 := by rw [hM0]; rfl
  refine r_at h [(0, .ref (E.1 151)), (1, .int s), (2, .int bd), (3, .int lean), (4, .int angle), (5, .int strength), (6, .int spin), (7, .int w), (8, .int 0)] ⟨rfl, rfl, rfl, rfl, rfl, rfl, rfl, rfl, rfl, trivial⟩ (loop84 400 0 M1 (by omega) (by omega) ?_ ?_ (fun q q1 q2 => by omega))
  · refine ⟨fun a a1 a2 a3 => by rw [hK1 a a3, ha0 a a1 a2], fun j j1 j2 => by rw [hK1 151 (by decide), hj0 j j1 j2], by rw [hK1 151 (by decide), h20], fun j hj => by rw [hK1 167 (by decide)]; exact hv0 j hj, fun q => by rw [hK2 q, ha0 168 (by decide) (by decide)], fun q m2 hm2 j hj => ?_⟩
    have e0 : m2 = 0 := by omega
    rw [e0]
    show M1 168 (8 * 0 + j) = v0of lean angle strength spin j
    rw [hK3 q j hj, hv0 j hj]
  · rw [hK1 151 (by decide), h21]
