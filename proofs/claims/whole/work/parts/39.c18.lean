/-! rows for ldc_w, System.arraycopy, the two static rows -/
theorem wl_row (E : En) {I J : Mem} {k : Nat} (hk : kd k = 12) (h : ∀ a, a ≠ k → J a = I a) : (wl E I).set k (E.1 k, .inl (E.2.2.1 12, ln k, .inl (J k))) = wl E J := by
  rw [← ent_int E J hk]
  apply List.ext_getElem?
  intro i
  by_cases hi : i < 184
  · by_cases e : i = k
    · subst e
      simp [wl, hi]
    · have e2 : ¬ k = i := fun q => e q.symm
      have e3 : ent E J i = ent E I i := by
        unfold ent flds
        rw [h i e]
      simp [wl, hi, e2, e3]
  · simp [wl, hi]
def cpM (I : Mem) (k0 k1 sp dp n : Nat) : Mem := fun a b => if a = k1 ∧ dp ≤ b ∧ b < dp + n then I k0 (sp + (b - dp)) else I a b
theorem cpM_ne (I : Mem) {k0 k1 sp dp n a : Nat} (h : a ≠ k1) : cpM I k0 k1 sp dp n a = I a := by
  funext b
  unfold cpM
  rw [if_neg (fun q => h q.1)]
theorem cpM_row (I : Mem) (k0 k1 sp dp n : Nat) : cpM I k0 k1 sp dp n k1 = va_cpy (I k0) (I k1) sp dp n := by
  funext b
  unfold cpM va_cpy
  by_cases q : dp ≤ b ∧ b < dp + n
  · rw [if_pos ⟨rfl, q⟩, if_pos q]
  · rw [if_neg (fun z => q z.2), if_neg q]
theorem w_cpn : Cond.native arraycopyName ∈ TB := tb_at 698 (by decide +kernel) (by decide +kernel)
theorem w_cps : Cond.static arraycopyName ∈ TB := tb_at 697 (by decide +kernel) (by decide +kernel)
theorem w_cpi : Cond.initialized "java/lang/System" ∈ TB := tb_at 67 (by decide +kernel) (by decide +kernel)
theorem wm_X10_cp : Cond.methodLink RX10 357 arraycopyName ∈ TB := tb_at 851 (by decide +kernel) (by decide +kernel)
theorem wm_X3_cp : Cond.methodLink RX3 51 arraycopyName ∈ TB := tb_at 696 (by decide +kernel) (by decide +kernel)
section GS
variable {cc : ByteArray} {own : String} {nL : Nat} {R : Room} {E : En} {g : GT} {I : Mem} {lv : LV} {st : List Value}
theorem r_ldcw (h : Sem cc own nL R E g) {pc n : Nat} {v : Int32} (d : decode cc pc = .ok (.ldc_w n, 3)) (hw : Cond.constant own n v ∈ TB) (kk : g I (pc + 3) lv (.int v :: st)) : g I pc lv st := by
  obtain ⟨p, l, e, s, m, args, below, meth, c, A, Z, n1, n2, ⟨hx, hb, hml, hown, hts, hK, hN, hT, hA, hn1, hn2⟩, hg⟩ := h
  have kk := (hg _ _ _ _).mp kk
  refine (hg _ _ _ _).mpr (fun H locs ls hP hD hS hv => ?_)
  exact lv_ldcw hx hb hown (hts _ hw) d (kk H locs ls hP hD hS hv)
theorem r_copy (h : Sem cc own nL R E g) {pc idx k0 k1 : Nat} {sp dp n : Int32} (d : decode cc pc = .ok (.invokestatic idx, 3)) (hw : Cond.methodLink own idx arraycopyName ∈ TB) (hk0 : k0 < 184) (hkd0 : kd k0 = 12) (hk1 : k1 < 184) (hkd1 : kd k1 = 12) (h1 : ¬ sp < 0) (h2 : ¬ dp < 0) (h3 : ¬ n < 0) (h4 : sp.toNatClampNeg + n.toNatClampNeg ≤ ln k0) (h5 : dp.toNatClampNeg + n.toNatClampNeg ≤ ln k1) (hf : 1 ≤ R.frames) (hl : (st.map fun v => v.category).sum + (nativeFrameWords "java/lang/System" "arraycopy" 5 + 11) ≤ R.locals) (kk : g (cpM I k0 k1 sp.toNatClampNeg dp.toNatClampNeg n.toNatClampNeg) (pc + 3) lv st) : g I pc lv (.int n :: .int dp :: .ref (E.1 k1) :: .int sp :: .ref (E.1 k0) :: st) := by
  obtain ⟨p, l, e, s, m, args, below, meth, c, A, Z, n1, n2, ⟨hx, hb, hml, hown, hts, hK, hN, hT, hA, hn1, hn2⟩, hg⟩ := h
  have kk := (hg _ _ _ _).mp kk
  refine (hg _ _ _ _).mpr (fun H locs ls hP hD hS hv => ?_)
  refine va_copyi (ty := .int) hx hb (by rw [hml, hv.1]) hown (hts _ hw) (hts _ w_cpn) (hts _ w_cps) (hts _ w_cpi) hK hP hD hS k0 k1 0 0 ((wl_get E I hk0).trans (by rw [ent_int E I hkd0])) ((wl_get E I hk1).trans (by rw [ent_int E I hkd1])) rfl rfl rfl h1 h2 h3 h4 h5 (fun _ _ => rfl) hf hl d (fun H1 locs1 hP1 hD1 hS1 => ?_)
  rw [← cpM_row, wl_row E hkd1 (fun a ha => cpM_ne I ha)] at hP1 hD1
  exact kk H1 locs1 ls hP1 hD1 hS1 hv
theorem r_getsL (h : Sem cc RX10 nL R E g) {pc : Nat} (d : decode cc pc = .ok (.getstatic 387, 3)) (kk : g I (pc + 3) lv (.ref E.2.2.2.1 :: st)) : g I pc lv st := by
  obtain ⟨p, l, e, s, m, args, below, meth, c, A, Z, n1, n2, ⟨hx, hb, hml, hown, hts, hK, hN, hT, hA, hn1, hn2⟩, hg⟩ := h
  have kk := (hg _ _ _ _).mp kk
  refine (hg _ _ _ _).mpr (fun H locs ls hP hD hS hv => ?_)
  exact va_gets hx hb hT.1 hS hown (hts _ wf_X10_387) (fun _ h9 => h9) d (kk H locs ls hP hD hS hv)
theorem r_getsS (h : Sem cc RX10 nL R E g) {pc : Nat} (d : decode cc pc = .ok (.getstatic 390, 3)) (kk : g I (pc + 3) lv (.ref E.2.2.2.2 :: st)) : g I pc lv st := by
  obtain ⟨p, l, e, s, m, args, below, meth, c, A, Z, n1, n2, ⟨hx, hb, hml, hown, hts, hK, hN, hT, hA, hn1, hn2⟩, hg⟩ := h
  have kk := (hg _ _ _ _).mp kk
  refine (hg _ _ _ _).mpr (fun H locs ls hP hD hS hv => ?_)
  exact va_gets hx hb hT.2.2.1 hS hown (hts _ wf_X10_390) (fun _ h9 => h9) d (kk H locs ls hP hD hS hv)
theorem r_tlenL (h : Sem cc own nL R E g) {pc : Nat} (d : decode cc pc = .ok (.arraylength, 1)) (kk : g I (pc + 1) lv (.int 3 :: st)) : g I pc lv (.ref E.2.2.2.1 :: st) := by
  obtain ⟨p, l, e, s, m, args, below, meth, c, A, Z, n1, n2, ⟨hx, hb, hml, hown, hts, hK, hN, hT, hA, hn1, hn2⟩, hg⟩ := h
  have kk := (hg _ _ _ _).mp kk
  refine (hg _ _ _ _).mpr (fun H locs ls hP hD hS hv => ?_)
  exact va_tlen hx hb hT.2.1 hS (by decide) d (kk H locs ls hP hD hS hv)
theorem r_tlenS (h : Sem cc own nL R E g) {pc : Nat} (d : decode cc pc = .ok (.arraylength, 1)) (kk : g I (pc + 1) lv (.int 2 :: st)) : g I pc lv (.ref E.2.2.2.2 :: st) := by
  obtain ⟨p, l, e, s, m, args, below, meth, c, A, Z, n1, n2, ⟨hx, hb, hml, hown, hts, hK, hN, hT, hA, hn1, hn2⟩, hg⟩ := h
  have kk := (hg _ _ _ _).mp kk
  refine (hg _ _ _ _).mpr (fun H locs ls hP hD hS hv => ?_)
  exact va_tlen hx hb hT.2.2.2 hS (by decide) d (kk H locs ls hP hD hS hv)
def leanT (j : Nat) : Int32 := if j = 0 then 20 else if j = 1 then 45 else 70
def strT (j : Nat) : Int32 := if j = 0 then 80 else 160
theorem r_taldL (h : Sem cc own nL R E g) {pc : Nat} {i : Int32} (j : Nat) (d : decode cc pc = .ok (.iaload, 1)) (hj : i.toNatClampNeg = j) (hin : vp_in i 3) (kk : g I (pc + 1) lv (.int (leanT j) :: st)) : g I pc lv (.int i :: .ref E.2.2.2.1 :: st) := by
  obtain ⟨p, l, e, s, m, args, below, meth, c, A, Z, n1, n2, ⟨hx, hb, hml, hown, hts, hK, hN, hT, hA, hn1, hn2⟩, hg⟩ := h
  have kk := (hg _ _ _ _).mp kk
  refine (hg _ _ _ _).mpr (fun H locs ls hP hD hS hv => ?_)
  exact va_ti hx hb hT.2.1 hS hin (show leansV i.toNatClampNeg = .int (leanT j) by rw [hj]; rfl) d (kk H locs ls hP hD hS hv)
theorem r_taldS (h : Sem cc own nL R E g) {pc : Nat} {i : Int32} (j : Nat) (d : decode cc pc = .ok (.iaload, 1)) (hj : i.toNatClampNeg = j) (hin : vp_in i 2) (kk : g I (pc + 1) lv (.int (strT j) :: st)) : g I pc lv (.int i :: .ref E.2.2.2.2 :: st) := by
  obtain ⟨p, l, e, s, m, args, below, meth, c, A, Z, n1, n2, ⟨hx, hb, hml, hown, hts, hK, hN, hT, hA, hn1, hn2⟩, hg⟩ := h
  have kk := (hg _ _ _ _).mp kk
  refine (hg _ _ _ _).mpr (fun H locs ls hP hD hS hv => ?_)
  exact va_ti hx hb hT.2.2.2 hS hin (show strsV i.toNatClampNeg = .int (strT j) by rw [hj]; rfl) d (kk H locs ls hP hD hS hv)
end GS
theorem b2i_ne {p : Prop} [Decidable p] (h : ¬ b2i p = 0) : p := Classical.not_not.mp (fun q => h (b2i_eq0.mpr q))
/-! seen of the reference; rowsOf, bagBits, throwCount, inBag, count of both -/
def cntP (p : Nat → Bool) : Nat → Nat
  | 0 => 0
  | i + 1 => if p i = true then cntP p i + 1 else cntP p i
theorem cntP_le (p : Nat → Bool) : ∀ i, cntP p i ≤ i
  | 0 => Nat.le_refl _
  | i + 1 => by
    have := cntP_le p i
    unfold cntP
    split <;> omega
theorem cnt_t {p : Nat → Bool} {i : Nat} (h : p i = true) : nI (cntP p (i + 1)) = nI (cntP p i) + 1 := by
  rw [show cntP p (i + 1) = cntP p i + 1 from if_pos h, nI_succ]
theorem cnt_f {p : Nat → Bool} {i : Nat} (h : p i = false) : nI (cntP p (i + 1)) = nI (cntP p i) := by
  rw [show cntP p (i + 1) = cntP p i from if_neg (by rw [h]; decide)]
theorem cnt_f0 {p : Nat → Bool} {i : Nat} (h : p i = false) : nI (cntP p (i + 1)) = nI (cntP p i) + 0 := by
  rw [cnt_f h, Int32.add_zero]
abbrev rwF (I : Mem) (s : Int32) : Nat → Bool := fun r => decide (I (83 + 2 * r + 1) 0 = s)
abbrev rwR (I : Mem) (s : Int32) : Nat → Bool := fun r => decide (I 177 (7 * r) = s)
def bagN (p : Nat → Bool) : Nat → Nat
  | 0 => 0
  | i + 1 => if p i = true then bagN p i + 2 ^ i else bagN p i
theorem bagN_lt (p : Nat → Bool) : ∀ i, bagN p i < 2 ^ i
  | 0 => by
    show 0 < 1
    decide
  | i + 1 => by
    have := bagN_lt p i
    have e : 2 ^ (i + 1) = 2 ^ i + 2 ^ i := by rw [Nat.pow_succ]; omega
    unfold bagN
    split <;> omega
theorem orN0 : ∀ i, i < 9 → ∀ k, k < 2 ^ i → nI (k + 2 ^ i) = nI k ||| ((1 : Int32) <<< (nI i &&& 31)) := by decide +kernel
theorem bag_t {p : Nat → Bool} {i : Nat} (h : p i = true) (hi : i < 9) : nI (bagN p (i + 1)) = nI (bagN p i) ||| ((1 : Int32) <<< (nI i &&& 31)) := by
  rw [show bagN p (i + 1) = bagN p i + 2 ^ i from if_pos h]
  exact orN0 i hi _ (bagN_lt p i)
theorem bag_f {p : Nat → Bool} {i : Nat} (h : p i = false) : nI (bagN p (i + 1)) = nI (bagN p i) := by
  rw [show bagN p (i + 1) = bagN p i from if_neg (by rw [h]; decide)]
def shrU (x y : Int32) : Int32 := (x.toUInt32 >>> (y.toUInt32 &&& Int32.toUInt32 31)).toInt32
def bc1 (x : Int32) : Int32 := x - (shrU x 1 &&& 1431655765)
def bc2 (x : Int32) : Int32 := (x &&& 858993459) + (shrU x 2 &&& 858993459)
def bc3 (x : Int32) : Int32 := (x + shrU x 4) &&& 252645135
def bc4 (x : Int32) : Int32 := x + shrU x 8
def bc5 (x : Int32) : Int32 := x + shrU x 16
def bcI (x : Int32) : Int32 := bc5 (bc4 (bc3 (bc2 (bc1 x)))) &&& 63
def pcN (k : Nat) : Nat := k % 2 + k / 2 % 2 + k / 4 % 2 + k / 8 % 2 + k / 16 % 2 + k / 32 % 2 + k / 64 % 2 + k / 128 % 2 + k / 256 % 2
theorem bc_all : ∀ k, k < 512 → bcI (nI k) = nI (pcN k) := by decide +kernel
theorem pc_up : ∀ i, i < 9 → ∀ k, k < 2 ^ i → pcN (k + 2 ^ i) = pcN k + 1 := by decide +kernel
theorem pc_bag (p : Nat → Bool) : ∀ i, i ≤ 9 → pcN (bagN p i) = cntP p i
  | 0, _ => by
    show pcN 0 = 0
    decide
  | i + 1, h => by
    have ih := pc_bag p i (by omega)
    by_cases q : p i = true
    · rw [show bagN p (i + 1) = bagN p i + 2 ^ i from if_pos q, show cntP p (i + 1) = cntP p i + 1 from if_pos q, pc_up i (by omega) _ (bagN_lt p i), ih]
    · rw [show bagN p (i + 1) = bagN p i from if_neg q, show cntP p (i + 1) = cntP p i from if_neg q, ih]
theorem bag512 (p : Nat → Bool) {i : Nat} (h : i ≤ 9) : bagN p i < 512 := Nat.lt_of_lt_of_le (bagN_lt p i) (Nat.pow_le_pow_right (by decide) h)
theorem bc_bag (p : Nat → Bool) {i : Nat} (h : i ≤ 9) : bcI (nI (bagN p i)) = nI (cntP p i) := by
  rw [bc_all _ (bag512 p h), pc_bag p i h]
abbrev bgF (I : Mem) : Nat → Bool := fun i => decide (¬ I (41 + 2 * i) 6 = 0)
abbrev bgR (I : Mem) : Nat → Bool := fun i => decide (I 160 i = 0)
abbrev mtF (I : Mem) : Nat → Bool := fun i => decide (¬ I 26 i = -2)
abbrev mtR (I : Mem) : Nat → Bool := fun i => decide (¬ I 172 i < -1)
def F_count (I : Mem) (w : Int32) : Int32 := if w.toInt = 0 then I 0 2 else if w.toInt = 1 then nI (cntP (bgF I) (I 0 2).toNatClampNeg) else if w.toInt = 2 then I 0 4 else if w.toInt = 3 then I 7 1 else if w.toInt = 4 then I 0 16 else if w.toInt = 5 then nI (cntP (mtF I) 5) else -1
def R_count (I : Mem) (w : Int32) : Int32 := if w.toInt = 0 then I 151 1 else if w.toInt = 1 then nI (cntP (bgR I) (I 151 1).toNatClampNeg) else if w.toInt = 2 then I 151 10 else if w.toInt = 3 then I 151 13 else if w.toInt = 4 then I 151 42 else if w.toInt = 5 then nI (cntP (mtR I) 5) else -1
theorem m7k {i : Nat} (h : i < 30) : (7 * nI i).toInt = 7 * i ∧ (7 * nI i).toNatClampNeg = 7 * i := by
  have e := m7x (x := nI i) (by rw [nI_tI (by omega)]; omega)
  rw [nI_tI (by omega), nI_tn (by omega)] at e
  exact e
theorem e5i : (5 : Int32).toInt = 5 := by decide
set_option maxRecDepth 100000 in
set_option maxHeartbeats 4000000 in
theorem c_X11_seen (E : En) (I : Mem) (t : Int32) (h4 : (I 151 23).toInt ≤ 400) : Ctr E yX11_seen cX11_seen 5 (some .int) 2 [.ref (E.1 151), .int t] I (qI (fun (r : Int32) (I1 : Mem) => r = (R_seen I t).1 ∧ (R_seen I t).2 = I1)) := by
  refine Ctr.openI (by decide) (Nat.le_of_ble_eq_true rfl) (fun g h hr => ?_)
  have h : Sem cX11_seen RX11 5 (rmL 2) E g := h
  show g I 0 [(0, .ref (E.1 151)), (1, .int t)] []
  refine r_aload_n (pc := 0) h dX11_seen_0 rfl ?_
  refine gf_X11_240 (pc := 1) h dX11_seen_1 ?_
  refine r_if_eq (pc := 4) h 21 dX11_seen_4 (by decide) (fun c4 => ?_) (fun c4 => ?_)
  · refine r_iconst (v := -1) (pc := 21) h dX11_seen_21 (by decide) ?_
    exact hr _ _ _ _ dX11_seen_22 (rfl) (by unfold R_seen; rw [if_neg (by intro q; obtain ⟨q1, q2⟩ := q; first | exact q1 c4 | ((try simp only [b2i_eq0] at *); (try simp only [Int32.reduceToInt, Int64.reduceToInt, Int32.toInt_toInt64] at *); omega))]; exact ⟨rfl, rfl⟩)
  · refine r_iload_n (pc := 7) h dX11_seen_7 rfl ?_
    refine r_i2l (pc := 8) h dX11_seen_8 ?_
    refine r_lconst (v := 0) (pc := 9) h dX11_seen_9 (by decide) ?_
    refine r_aload_n (pc := 10) h dX11_seen_10 rfl ?_
    refine gf_X11_243 (pc := 11) h dX11_seen_11 ?_
    refine r_i2l (pc := 14) h dX11_seen_14 ?_
    refine r_callSI (pc := 15) h dX11_seen_15 wm_X11_127 ca_X11_in (c_X11_in E _ _ _ _) rfl rfl (Nat.le_of_ble_eq_true rfl) (by decide) (fun r I1 hq => ?_)
    obtain ⟨rfl, rfl⟩ := hq
    refine r_if_ne (pc := 18) h 23 dX11_seen_18 (by decide) (fun c18 => ?_) (fun c18 => ?_)
    · have hv2 : 0 ≤ t.toInt ∧ t.toInt ≤ (I 151 23).toInt := by (try simp only [b2i_eq0] at *); (try simp only [Int32.reduceToInt, Int64.reduceToInt, Int32.toInt_toInt64] at *); omega
      have hv : ¬ I 151 25 = 0 ∧ (0 ≤ t.toInt ∧ t.toInt ≤ (I 151 23).toInt) := ⟨c4, hv2⟩
      have zT := m8z (x := I 151 23) (by omega)
      have zt := m8z (x := t) (by omega)
      refine r_aload_n (pc := 23) h dX11_seen_23 rfl ?_
      refine gf_X11_66 (pc := 24) h dX11_seen_24 ?_
      refine r_bipush (v := 8) (pc := 27) h dX11_seen_27 (by decide) ?_
      refine r_aload_n (pc := 29) h dX11_seen_29 rfl ?_
      refine gf_X11_243 (pc := 30) h dX11_seen_30 ?_
      refine r_imul (pc := 33) h dX11_seen_33 ?_
      refine r_ialdL (j := 8 * (I 151 23).toNatClampNeg) (pc := 34) h dX11_seen_34 (by decide) (by decide) (zT.2.1) (vin (n := 3208) (by show 0 ≤ (8 * I 151 23).toInt; rw [zT.1]; omega) (by show (8 * I 151 23).toInt < _; rw [zT.1]; omega)) ?_
      refine r_aload_n (pc := 35) h dX11_seen_35 rfl ?_
      refine gf_X11_66 (pc := 36) h dX11_seen_36 ?_
      refine r_bipush (v := 8) (pc := 39) h dX11_seen_39 (by decide) ?_
      refine r_iload_n (pc := 41) h dX11_seen_41 rfl ?_
      refine r_imul (pc := 42) h dX11_seen_42 ?_
      refine r_ialdL (j := 8 * t.toNatClampNeg) (pc := 43) h dX11_seen_43 (by decide) (by decide) (zt.2.1) (vin (n := 3208) (by rw [zt.1]; omega) (by rw [zt.1]; omega)) ?_
      refine r_isub (pc := 44) h dX11_seen_44 ?_
      refine r_callSI (pc := 45) h dX11_seen_45 wm_X11_326 ca_X11_column (c_X11_column E _ _) rfl rfl (Nat.le_of_ble_eq_true rfl) (by decide) (fun r I1 hq => ?_)
      obtain ⟨rfl, rfl⟩ := hq
      refine r_istore_n (pc := 48) h dX11_seen_48 (by decide) ?_
      refine r_aload_n (pc := 49) h dX11_seen_49 rfl ?_
      refine gf_X11_66 (pc := 50) h dX11_seen_50 ?_
      refine r_bipush (v := 8) (pc := 53) h dX11_seen_53 (by decide) ?_
      refine r_aload_n (pc := 55) h dX11_seen_55 rfl ?_
      refine gf_X11_243 (pc := 56) h dX11_seen_56 ?_
      refine r_imul (pc := 59) h dX11_seen_59 ?_
      refine r_iconst (v := 1) (pc := 60) h dX11_seen_60 (by decide) ?_
      refine r_iadd (pc := 61) h dX11_seen_61 ?_
      refine r_ialdL (j := 8 * (I 151 23).toNatClampNeg + 1) (pc := 62) h dX11_seen_62 (by decide) (by decide) (zT.2.2.2) (vin (n := 3208) (by show 0 ≤ (8 * I 151 23 + 1).toInt; rw [zT.2.2.1]; omega) (by show (8 * I 151 23 + 1).toInt < _; rw [zT.2.2.1]; omega)) ?_
      refine r_aload_n (pc := 63) h dX11_seen_63 rfl ?_
      refine gf_X11_66 (pc := 64) h dX11_seen_64 ?_
      refine r_bipush (v := 8) (pc := 67) h dX11_seen_67 (by decide) ?_
      refine r_iload_n (pc := 69) h dX11_seen_69 rfl ?_
      refine r_imul (pc := 70) h dX11_seen_70 ?_
      refine r_iconst (v := 1) (pc := 71) h dX11_seen_71 (by decide) ?_
      refine r_iadd (pc := 72) h dX11_seen_72 ?_
      refine r_ialdL (j := 8 * t.toNatClampNeg + 1) (pc := 73) h dX11_seen_73 (by decide) (by decide) (zt.2.2.2) (vin (n := 3208) (by rw [zt.2.2.1]; omega) (by rw [zt.2.2.1]; omega)) ?_
      refine r_isub (pc := 74) h dX11_seen_74 ?_
      refine r_callSI (pc := 75) h dX11_seen_75 wm_X11_326 ca_X11_column (c_X11_column E _ _) rfl rfl (Nat.le_of_ble_eq_true rfl) (by decide) (fun r I1 hq => ?_)
      obtain ⟨rfl, rfl⟩ := hq
      refine r_istore_n (pc := 78) h dX11_seen_78 (by decide) ?_
      obtain ⟨cx_, hcx_⟩ : ∃ z, z = (colP (I 168 (8 * (I 151 23).toNatClampNeg) - I 168 (8 * t.toNatClampNeg))) := ⟨_, rfl⟩
      obtain ⟨rx_, hrx_⟩ : ∃ z, z = (colP (I 168 (8 * (I 151 23).toNatClampNeg + 1) - I 168 (8 * t.toNatClampNeg + 1))) := ⟨_, rfl⟩
      have hcx : 0 ≤ cx_.toInt ∧ cx_.toInt ≤ 4 := by rw [hcx_]; exact colP_bd _
      have hrx : 0 ≤ rx_.toInt ∧ rx_.toInt ≤ 4 := by rw [hrx_]; exact colP_bd _
      refine r_at h [(0, .ref (E.1 151)), (2, .int cx_), (3, .int rx_)] ⟨rfl, by rw [hcx_]; rfl, by rw [hrx_]; rfl, trivial⟩ ?_
      refine r_iconst (v := 0) (pc := 79) h dX11_seen_79 (by decide) ?_
      refine r_istore (pc := 80) h dX11_seen_80 (by decide) ?_
      have loop82 : ∀ (m i : Nat), i ≤ 25 → 25 + 1 ≤ i + m → g (rowQ I 178 0 (spR cx_ rx_) i) 82 [(0, .ref (E.1 151)), (2, .int cx_), (3, .int rx_), (4, .int (nI i))] [] := by
        intro m
        induction m with
        | zero =>
          intro i h1 h2
          omega
        | succ m ih =>
          intro i hi him
          have ei := nI_tI (i := i) (by omega)
          refine r_iload (pc := 82) h dX11_seen_82 rfl ?_
          refine r_bipush (v := 25) (pc := 84) h dX11_seen_84 (by decide) ?_
          refine r_icmp_ge (pc := 86) h 127 dX11_seen_86 (by decide) (fun c86 => ?_) (fun c86 => ?_)
          · have hge : i = 25 := by rw [Int32.le_iff_toInt_le, ei, e25] at c86; omega
            refine r_iconst (v := 5) (pc := 127) h dX11_seen_127 (by decide) ?_
            refine r_iload_n (pc := 128) h dX11_seen_128 rfl ?_
            refine r_imul (pc := 129) h dX11_seen_129 ?_
            refine r_iload_n (pc := 130) h dX11_seen_130 rfl ?_
            refine r_iadd (pc := 131) h dX11_seen_131 ?_
            exact hr _ _ _ _ dX11_seen_132 (rfl) (by unfold R_seen; rw [if_pos hv, hge, ← hcx_, ← hrx_]; exact ⟨rfl, rfl⟩)
          · have hlt : i < 25 := by rw [Int32.le_iff_toInt_le, ei, e25] at c86; omega
            refine r_aload_n (pc := 89) h dX11_seen_89 rfl ?_
            refine gf_X11_105 (pc := 90) h dX11_seen_90 ?_
            refine r_iload (pc := 93) h dX11_seen_93 rfl ?_
            refine r_sipush (v := 1000) (pc := 95) h dX11_seen_95 (by decide) ?_
            refine r_iconst (v := 1) (pc := 98) h dX11_seen_98 (by decide) ?_
            refine r_iload (pc := 99) h dX11_seen_99 rfl ?_
            refine r_iconst (v := 5) (pc := 101) h dX11_seen_101 (by decide) ?_
            refine r_irem (pc := 102) h dX11_seen_102 (by decide) ?_
            refine r_iload_n (pc := 103) h dX11_seen_103 rfl ?_
            refine r_isub (pc := 104) h dX11_seen_104 ?_
            refine r_callSI (pc := 105) h dX11_seen_105 wm_X11_311 ca_X11_size (c_X11_size E _ _) rfl rfl (Nat.le_of_ble_eq_true rfl) (by decide) (fun r I1 hq => ?_)
            obtain ⟨rfl, rfl⟩ := hq
            refine r_iadd (pc := 108) h dX11_seen_108 ?_
            refine r_iload (pc := 109) h dX11_seen_109 rfl ?_
            refine r_iconst (v := 5) (pc := 111) h dX11_seen_111 (by decide) ?_
            refine r_idiv (pc := 112) h dX11_seen_112 (by decide) ?_
            refine r_iload_n (pc := 113) h dX11_seen_113 rfl ?_
            refine r_isub (pc := 114) h dX11_seen_114 ?_
            refine r_callSI (pc := 115) h dX11_seen_115 wm_X11_311 ca_X11_size (c_X11_size E _ _) rfl rfl (Nat.le_of_ble_eq_true rfl) (by decide) (fun r I1 hq => ?_)
            obtain ⟨rfl, rfl⟩ := hq
            refine r_iadd (pc := 118) h dX11_seen_118 ?_
            refine r_idiv (pc := 119) h dX11_seen_119 ((sp_ne hcx hrx hlt).2) ?_
            refine r_iastL (j := i) (pc := 120) h dX11_seen_120 (by decide) (by decide) (nI_tn (by omega)) (vinI (n := 25) (by omega) (by omega)) ?_
            refine r_iinc (v := 1) (pc := 121) h dX11_seen_121 rfl (by decide) (by decide) ?_
            refine r_goto (pc := 124) h 82 dX11_seen_124 (by decide) ?_
            rw [← nI_succ]
            rw [show upm (rowQ I 178 0 (spR cx_ rx_) i) 178 i (1000 / (1 + _ + _)) = (rowQ I 178 0 (spR cx_ rx_) (i + 1)) by
              rw [← rowQ_step, Nat.zero_add]
              rfl]
            exact r_at h [(0, .ref (E.1 151)), (2, .int cx_), (3, .int rx_), (4, .int (nI (i + 1)))] ⟨rfl, rfl, rfl, rfl, trivial⟩ (ih (i + 1) (by omega) (by omega))
      have h0 := loop82 26 0 (by omega) (by omega)
      rw [rowQ_0] at h0
      exact r_at h [(0, .ref (E.1 151)), (2, .int cx_), (3, .int rx_), (4, .int (nI 0))] ⟨rfl, rfl, rfl, rfl, trivial⟩ h0
    · refine r_iconst (v := -1) (pc := 21) h dX11_seen_21 (by decide) ?_
      exact hr _ _ _ _ dX11_seen_22 (rfl) (by unfold R_seen; rw [if_neg (by intro q; obtain ⟨q1, q2⟩ := q; first | exact q1 c4 | ((try simp only [b2i_eq0] at *); (try simp only [Int32.reduceToInt, Int64.reduceToInt, Int32.toInt_toInt64] at *); omega))]; exact ⟨rfl, rfl⟩)
set_option maxRecDepth 100000 in
set_option maxHeartbeats 4000000 in
theorem c_X10_rowsOf (E : En) (I : Mem) (s : Int32) (hr9 : 0 ≤ (I 0 16).toInt ∧ (I 0 16).toInt ≤ 30) : Ctr E yX10_rowsOf cX10_rowsOf 4 (some .int) 1 [.ref (E.1 0), .int s] I (qI (fun (r : Int32) (I1 : Mem) => r = nI (cntP (rwF I s) (I 0 16).toNatClampNeg) ∧ I = I1)) := by
  refine Ctr.openI (by decide) (Nat.le_of_ble_eq_true rfl) (fun g h hr => ?_)
  have h : Sem cX10_rowsOf RX10 4 (rmL 1) E g := h
  show g I 0 [(0, .ref (E.1 0)), (1, .int s)] []
  refine r_iconst (v := 0) (pc := 0) h dX10_rowsOf_0 (by decide) ?_
  refine r_istore_n (pc := 1) h dX10_rowsOf_1 (by decide) ?_
  refine r_iconst (v := 0) (pc := 2) h dX10_rowsOf_2 (by decide) ?_
  refine r_istore_n (pc := 3) h dX10_rowsOf_3 (by decide) ?_
  have loop4 : ∀ (m i : Nat), i ≤ (I 0 16).toNatClampNeg → (I 0 16).toNatClampNeg + 1 ≤ i + m → g I 4 [(0, .ref (E.1 0)), (1, .int s), (2, .int (nI (cntP (rwF I s) i))), (3, .int (nI i))] [] := by
    intro m
    induction m with
    | zero =>
      intro i h1 h2
      omega
    | succ m ih =>
      intro i hi him
      have hC : ((I 0 16).toNatClampNeg : Int) = (I 0 16).toInt := tnI _ hr9.1
      have ei := nI_tI (i := i) (by omega)
      refine r_iload_n (pc := 4) h dX10_rowsOf_4 rfl ?_
      refine r_aload_n (pc := 5) h dX10_rowsOf_5 rfl ?_
      refine gf_X10_95 (pc := 6) h dX10_rowsOf_6 ?_
      refine r_icmp_ge (pc := 9) h 37 dX10_rowsOf_9 (by decide) (fun c9 => ?_) (fun c9 => ?_)
      · have hge : i = (I 0 16).toNatClampNeg := by rw [Int32.le_iff_toInt_le, ei] at c9; omega
        refine r_iload_n (pc := 37) h dX10_rowsOf_37 rfl ?_
        exact hr _ _ _ _ dX10_rowsOf_38 (rfl) (⟨by rw [hge], rfl⟩)
      · have hlt : i < (I 0 16).toNatClampNeg := by rw [Int32.le_iff_toInt_le, ei] at c9; omega
        have hi3 : i < 30 := by omega
        have en := nI_tn (i := i) (by omega)
        refine r_aload_n (pc := 12) h dX10_rowsOf_12 rfl ?_
        refine gf_X10_91 (pc := 13) h dX10_rowsOf_13 ?_
        refine r_iload_n (pc := 16) h dX10_rowsOf_16 rfl ?_
        refine r_aa36 (pc := 17) h dX10_rowsOf_17 (vinI (n := 30) (by omega) (by omega)) ?_
        rw [en]
        refine gf_X10_424 (pc := 18) h dX10_rowsOf_18 (by omega) (kdRo _ hi3) (rfRa _ hi3) ?_
        refine gf_X10_222 (pc := 21) h dX10_rowsOf_21 (by omega) (kdRa _ hi3) ?_
        refine r_iload_n (pc := 24) h dX10_rowsOf_24 rfl ?_
        refine r_icmp_ne (pc := 25) h 31 dX10_rowsOf_25 (by decide) (fun c25 => ?_) (fun c25 => ?_)
        · refine r_iinc (v := 1) (pc := 31) h dX10_rowsOf_31 rfl (by decide) (by decide) ?_
          refine r_goto (pc := 34) h 4 dX10_rowsOf_34 (by decide) ?_
          rw [← nI_succ i]
          first
          | (have e9_ := cnt_t (p := rwF I s) (i := i) (decide_eq_true c25)
             exact r_at h [(0, .ref (E.1 0)), (1, .int s), (2, .int (nI (cntP (rwF I s) (i + 1)))), (3, .int (nI (i + 1)))] ⟨rfl, rfl, by rw [e9_]; rfl, rfl, trivial⟩ (ih (i + 1) (by omega) (by omega)))
          | (have e9_ := cnt_f (p := rwF I s) (i := i) (decide_eq_false c25)
             exact r_at h [(0, .ref (E.1 0)), (1, .int s), (2, .int (nI (cntP (rwF I s) (i + 1)))), (3, .int (nI (i + 1)))] ⟨rfl, rfl, by rw [e9_]; rfl, rfl, trivial⟩ (ih (i + 1) (by omega) (by omega)))
        · refine r_iinc (v := 1) (pc := 28) h dX10_rowsOf_28 rfl (by decide) (by decide) ?_
          refine r_iinc (v := 1) (pc := 31) h dX10_rowsOf_31 rfl (by decide) (by decide) ?_
          refine r_goto (pc := 34) h 4 dX10_rowsOf_34 (by decide) ?_
          rw [← nI_succ i]
          first
          | (have e9_ := cnt_t (p := rwF I s) (i := i) (decide_eq_true c25)
             exact r_at h [(0, .ref (E.1 0)), (1, .int s), (2, .int (nI (cntP (rwF I s) (i + 1)))), (3, .int (nI (i + 1)))] ⟨rfl, rfl, by rw [e9_]; rfl, rfl, trivial⟩ (ih (i + 1) (by omega) (by omega)))
          | (have e9_ := cnt_f (p := rwF I s) (i := i) (decide_eq_false c25)
             exact r_at h [(0, .ref (E.1 0)), (1, .int s), (2, .int (nI (cntP (rwF I s) (i + 1)))), (3, .int (nI (i + 1)))] ⟨rfl, rfl, by rw [e9_]; rfl, rfl, trivial⟩ (ih (i + 1) (by omega) (by omega)))
  have h0 := loop4 ((I 0 16).toNatClampNeg + 1) 0 (by omega) (by omega)
  exact r_at h [(0, .ref (E.1 0)), (1, .int s), (2, .int (nI (cntP (rwF I s) 0))), (3, .int (nI 0))] ⟨rfl, rfl, rfl, rfl, trivial⟩ h0
set_option maxRecDepth 100000 in
set_option maxHeartbeats 4000000 in
theorem c_X11_rowsOf (E : En) (I : Mem) (s : Int32) (hr9 : 0 ≤ (I 151 42).toInt ∧ (I 151 42).toInt ≤ 30) : Ctr E yX11_rowsOf cX11_rowsOf 4 (some .int) 1 [.ref (E.1 151), .int s] I (qI (fun (r : Int32) (I1 : Mem) => r = nI (cntP (rwR I s) (I 151 42).toNatClampNeg) ∧ I = I1)) := by
  refine Ctr.openI (by decide) (Nat.le_of_ble_eq_true rfl) (fun g h hr => ?_)
  have h : Sem cX11_rowsOf RX11 4 (rmL 1) E g := h
  show g I 0 [(0, .ref (E.1 151)), (1, .int s)] []
  refine r_iconst (v := 0) (pc := 0) h dX11_rowsOf_0 (by decide) ?_
  refine r_istore_n (pc := 1) h dX11_rowsOf_1 (by decide) ?_
  refine r_iconst (v := 0) (pc := 2) h dX11_rowsOf_2 (by decide) ?_
  refine r_istore_n (pc := 3) h dX11_rowsOf_3 (by decide) ?_
  have loop4 : ∀ (m i : Nat), i ≤ (I 151 42).toNatClampNeg → (I 151 42).toNatClampNeg + 1 ≤ i + m → g I 4 [(0, .ref (E.1 151)), (1, .int s), (2, .int (nI (cntP (rwR I s) i))), (3, .int (nI i))] [] := by
    intro m
    induction m with
    | zero =>
      intro i h1 h2
      omega
    | succ m ih =>
      intro i hi him
      have hC : ((I 151 42).toNatClampNeg : Int) = (I 151 42).toInt := tnI _ hr9.1
      have ei := nI_tI (i := i) (by omega)
      refine r_iload_n (pc := 4) h dX11_rowsOf_4 rfl ?_
      refine r_aload_n (pc := 5) h dX11_rowsOf_5 rfl ?_
      refine gf_X11_300 (pc := 6) h dX11_rowsOf_6 ?_
      refine r_icmp_ge (pc := 9) h 39 dX11_rowsOf_9 (by decide) (fun c9 => ?_) (fun c9 => ?_)
      · have hge : i = (I 151 42).toNatClampNeg := by rw [Int32.le_iff_toInt_le, ei] at c9; omega
        refine r_iload_n (pc := 39) h dX11_rowsOf_39 rfl ?_
        exact hr _ _ _ _ dX11_rowsOf_40 (rfl) (⟨by rw [hge], rfl⟩)
      · have hlt : i < (I 151 42).toNatClampNeg := by rw [Int32.le_iff_toInt_le, ei] at c9; omega
        have hi3 : i < 30 := by omega
        refine r_iload_n (pc := 12) h dX11_rowsOf_12 rfl ?_
        refine r_aload_n (pc := 13) h dX11_rowsOf_13 rfl ?_
        refine gf_X11_102 (pc := 14) h dX11_rowsOf_14 ?_
        refine r_bipush (v := 7) (pc := 17) h dX11_rowsOf_17 (by decide) ?_
        refine r_iload_n (pc := 19) h dX11_rowsOf_19 rfl ?_
        refine r_imul (pc := 20) h dX11_rowsOf_20 ?_
        refine r_ialdL (j := 7 * i) (pc := 21) h dX11_rowsOf_21 (by decide) (by decide) ((m7k hi3).2) (vin (n := 210) (by rw [(m7k hi3).1]; omega) (by rw [(m7k hi3).1]; omega)) ?_
        refine r_iload_n (pc := 22) h dX11_rowsOf_22 rfl ?_
        refine r_icmp_ne (pc := 23) h 30 dX11_rowsOf_23 (by decide) (fun c23 => ?_) (fun c23 => ?_)
        · refine r_iconst (v := 0) (pc := 30) h dX11_rowsOf_30 (by decide) ?_
          refine r_iadd (pc := 31) h dX11_rowsOf_31 ?_
          refine r_istore_n (pc := 32) h dX11_rowsOf_32 (by decide) ?_
          refine r_iinc (v := 1) (pc := 33) h dX11_rowsOf_33 rfl (by decide) (by decide) ?_
          refine r_goto (pc := 36) h 4 dX11_rowsOf_36 (by decide) ?_
          rw [← nI_succ i]
          first
          | (have e9_ := cnt_t (p := rwR I s) (i := i) (decide_eq_true c23)
             exact r_at h [(0, .ref (E.1 151)), (1, .int s), (2, .int (nI (cntP (rwR I s) (i + 1)))), (3, .int (nI (i + 1)))] ⟨rfl, rfl, by rw [e9_]; rfl, rfl, trivial⟩ (ih (i + 1) (by omega) (by omega)))
          | (have e9_ := cnt_f0 (p := rwR I s) (i := i) (decide_eq_false c23)
             exact r_at h [(0, .ref (E.1 151)), (1, .int s), (2, .int (nI (cntP (rwR I s) (i + 1)))), (3, .int (nI (i + 1)))] ⟨rfl, rfl, by rw [e9_]; rfl, rfl, trivial⟩ (ih (i + 1) (by omega) (by omega)))
        · refine r_iconst (v := 1) (pc := 26) h dX11_rowsOf_26 (by decide) ?_
          refine r_goto (pc := 27) h 31 dX11_rowsOf_27 (by decide) ?_
          refine r_iadd (pc := 31) h dX11_rowsOf_31 ?_
          refine r_istore_n (pc := 32) h dX11_rowsOf_32 (by decide) ?_
          refine r_iinc (v := 1) (pc := 33) h dX11_rowsOf_33 rfl (by decide) (by decide) ?_
          refine r_goto (pc := 36) h 4 dX11_rowsOf_36 (by decide) ?_
          rw [← nI_succ i]
          first
          | (have e9_ := cnt_t (p := rwR I s) (i := i) (decide_eq_true c23)
             exact r_at h [(0, .ref (E.1 151)), (1, .int s), (2, .int (nI (cntP (rwR I s) (i + 1)))), (3, .int (nI (i + 1)))] ⟨rfl, rfl, by rw [e9_]; rfl, rfl, trivial⟩ (ih (i + 1) (by omega) (by omega)))
          | (have e9_ := cnt_f0 (p := rwR I s) (i := i) (decide_eq_false c23)
             exact r_at h [(0, .ref (E.1 151)), (1, .int s), (2, .int (nI (cntP (rwR I s) (i + 1)))), (3, .int (nI (i + 1)))] ⟨rfl, rfl, by rw [e9_]; rfl, rfl, trivial⟩ (ih (i + 1) (by omega) (by omega)))
  have h0 := loop4 ((I 151 42).toNatClampNeg + 1) 0 (by omega) (by omega)
  exact r_at h [(0, .ref (E.1 151)), (1, .int s), (2, .int (nI (cntP (rwR I s) 0))), (3, .int (nI 0))] ⟨rfl, rfl, rfl, rfl, trivial⟩ h0
set_option maxRecDepth 100000 in
set_option maxHeartbeats 4000000 in
theorem c_J6_bitCount_0f7a4 (E : En) (I : Mem) (x : Int32)  : Ctr E yJ6_bitCount_0f7a4 cJ6_bitCount_0f7a4 1 (some .int) 1 [.int x] I (qI (fun (r : Int32) (I1 : Mem) => r = bcI x ∧ I = I1)) := by
  refine Ctr.openI (by decide +kernel) (Nat.le_of_ble_eq_true rfl) (fun g h hr => ?_)
  have h : Sem cJ6_bitCount_0f7a4 RJ6 1 (rmL 1) E g := h
  show g I 0 [(0, .int x)] []
  refine r_iload_n (pc := 0) h dJ6_bitCount_0f7a4_0 rfl ?_
  refine r_iload_n (pc := 1) h dJ6_bitCount_0f7a4_1 rfl ?_
  refine r_iconst (v := 1) (pc := 2) h dJ6_bitCount_0f7a4_2 (by decide) ?_
  refine r_iushr (pc := 3) h dJ6_bitCount_0f7a4_3 ?_
  refine r_ldcw (pc := 4) h dJ6_bitCount_0f7a4_4 wc_J6_265 ?_
  refine r_iand (pc := 7) h dJ6_bitCount_0f7a4_7 ?_
  refine r_isub (pc := 8) h dJ6_bitCount_0f7a4_8 ?_
  refine r_istore_n (pc := 9) h dJ6_bitCount_0f7a4_9 (by decide) ?_
  refine r_iload_n (pc := 10) h dJ6_bitCount_0f7a4_10 rfl ?_
  refine r_ldcw (pc := 11) h dJ6_bitCount_0f7a4_11 wc_J6_266 ?_
  refine r_iand (pc := 14) h dJ6_bitCount_0f7a4_14 ?_
  refine r_iload_n (pc := 15) h dJ6_bitCount_0f7a4_15 rfl ?_
  refine r_iconst (v := 2) (pc := 16) h dJ6_bitCount_0f7a4_16 (by decide) ?_
  refine r_iushr (pc := 17) h dJ6_bitCount_0f7a4_17 ?_
  refine r_ldcw (pc := 18) h dJ6_bitCount_0f7a4_18 wc_J6_266 ?_
  refine r_iand (pc := 21) h dJ6_bitCount_0f7a4_21 ?_
  refine r_iadd (pc := 22) h dJ6_bitCount_0f7a4_22 ?_
  refine r_istore_n (pc := 23) h dJ6_bitCount_0f7a4_23 (by decide) ?_
  refine r_iload_n (pc := 24) h dJ6_bitCount_0f7a4_24 rfl ?_
  refine r_iload_n (pc := 25) h dJ6_bitCount_0f7a4_25 rfl ?_
  refine r_iconst (v := 4) (pc := 26) h dJ6_bitCount_0f7a4_26 (by decide) ?_
  refine r_iushr (pc := 27) h dJ6_bitCount_0f7a4_27 ?_
  refine r_iadd (pc := 28) h dJ6_bitCount_0f7a4_28 ?_
  refine r_ldcw (pc := 29) h dJ6_bitCount_0f7a4_29 wc_J6_267 ?_
  refine r_iand (pc := 32) h dJ6_bitCount_0f7a4_32 ?_
  refine r_istore_n (pc := 33) h dJ6_bitCount_0f7a4_33 (by decide) ?_
  refine r_iload_n (pc := 34) h dJ6_bitCount_0f7a4_34 rfl ?_
  refine r_iload_n (pc := 35) h dJ6_bitCount_0f7a4_35 rfl ?_
  refine r_bipush (v := 8) (pc := 36) h dJ6_bitCount_0f7a4_36 (by decide) ?_
  refine r_iushr (pc := 38) h dJ6_bitCount_0f7a4_38 ?_
  refine r_iadd (pc := 39) h dJ6_bitCount_0f7a4_39 ?_
  refine r_istore_n (pc := 40) h dJ6_bitCount_0f7a4_40 (by decide) ?_
  refine r_iload_n (pc := 41) h dJ6_bitCount_0f7a4_41 rfl ?_
  refine r_iload_n (pc := 42) h dJ6_bitCount_0f7a4_42 rfl ?_
  refine r_bipush (v := 16) (pc := 43) h dJ6_bitCount_0f7a4_43 (by decide) ?_
  refine r_iushr (pc := 45) h dJ6_bitCount_0f7a4_45 ?_
  refine r_iadd (pc := 46) h dJ6_bitCount_0f7a4_46 ?_
  refine r_istore_n (pc := 47) h dJ6_bitCount_0f7a4_47 (by decide) ?_
  refine r_iload_n (pc := 48) h dJ6_bitCount_0f7a4_48 rfl ?_
  refine r_bipush (v := 63) (pc := 49) h dJ6_bitCount_0f7a4_49 (by decide) ?_
  refine r_iand (pc := 51) h dJ6_bitCount_0f7a4_51 ?_
  exact hr _ _ _ _ dJ6_bitCount_0f7a4_52 (rfl) (⟨rfl, rfl⟩)
set_option maxRecDepth 100000 in
set_option maxHeartbeats 4000000 in
theorem c_X10_bagBits (E : En) (I : Mem)  (hc : 0 ≤ (I 0 2).toInt ∧ (I 0 2).toInt ≤ 9) : Ctr E yX10_bagBits cX10_bagBits 3 (some .int) 1 [.ref (E.1 0)] I (qI (fun (r : Int32) (I1 : Mem) => r = nI (bagN (bgF I) (I 0 2).toNatClampNeg) ∧ I = I1)) := by
  refine Ctr.openI (by decide) (Nat.le_of_ble_eq_true rfl) (fun g h hr => ?_)
  have h : Sem cX10_bagBits RX10 3 (rmL 1) E g := h
  show g I 0 [(0, .ref (E.1 0))] []
  refine r_iconst (v := 0) (pc := 0) h dX10_bagBits_0 (by decide) ?_
  refine r_istore_n (pc := 1) h dX10_bagBits_1 (by decide) ?_
  refine r_iconst (v := 0) (pc := 2) h dX10_bagBits_2 (by decide) ?_
  refine r_istore_n (pc := 3) h dX10_bagBits_3 (by decide) ?_
  have loop4 : ∀ (m i : Nat), i ≤ (I 0 2).toNatClampNeg → (I 0 2).toNatClampNeg + 1 ≤ i + m → g I 4 [(0, .ref (E.1 0)), (1, .int (nI (bagN (bgF I) i))), (2, .int (nI i))] [] := by
    intro m
    induction m with
    | zero =>
      intro i h1 h2
      omega
    | succ m ih =>
      intro i hi him
      have hC : ((I 0 2).toNatClampNeg : Int) = (I 0 2).toInt := tnI _ hc.1
      have ei := nI_tI (i := i) (by omega)
      refine r_iload_n (pc := 4) h dX10_bagBits_4 rfl ?_
      refine r_aload_n (pc := 5) h dX10_bagBits_5 rfl ?_
      refine gf_X10_23 (pc := 6) h dX10_bagBits_6 ?_
      refine r_icmp_ge (pc := 9) h 36 dX10_bagBits_9 (by decide) (fun c9 => ?_) (fun c9 => ?_)
      · have hge : i = (I 0 2).toNatClampNeg := by rw [Int32.le_iff_toInt_le, ei] at c9; omega
        refine r_iload_n (pc := 36) h dX10_bagBits_36 rfl ?_
        exact hr _ _ _ _ dX10_bagBits_37 (rfl) (⟨by rw [hge], rfl⟩)
      · have hlt : i < (I 0 2).toNatClampNeg := by rw [Int32.le_iff_toInt_le, ei] at c9; omega
        have hi9 : i < 9 := by omega
        have en := nI_tn (i := i) (by omega)
        refine r_aload_n (pc := 12) h dX10_bagBits_12 rfl ?_
        refine gf_X10_19 (pc := 13) h dX10_bagBits_13 ?_
        refine r_iload_n (pc := 16) h dX10_bagBits_16 rfl ?_
        refine r_aa2 (pc := 17) h dX10_bagBits_17 (vinI (n := 9) (by omega) (by omega)) ?_
        rw [en]
        refine gf_X10_158 (pc := 18) h dX10_bagBits_18 (by omega) (kdSt _ hi9) ?_
        refine r_if_eq (pc := 21) h 30 dX10_bagBits_21 (by decide) (fun c21 => ?_) (fun c21 => ?_)
        · refine r_iinc (v := 1) (pc := 30) h dX10_bagBits_30 rfl (by decide) (by decide) ?_
          refine r_goto (pc := 33) h 4 dX10_bagBits_33 (by decide) ?_
          rw [← nI_succ i]
          first
          | (have e9_ := bag_t (p := bgF I) (i := i) (decide_eq_true c21) (by omega)
             exact r_at h [(0, .ref (E.1 0)), (1, .int (nI (bagN (bgF I) (i + 1)))), (2, .int (nI (i + 1)))] ⟨rfl, by rw [e9_]; rfl, rfl, trivial⟩ (ih (i + 1) (by omega) (by omega)))
          | (have e9_ := bag_f (p := bgF I) (i := i) (decide_eq_false (fun q => q c21))
             exact r_at h [(0, .ref (E.1 0)), (1, .int (nI (bagN (bgF I) (i + 1)))), (2, .int (nI (i + 1)))] ⟨rfl, by rw [e9_]; rfl, rfl, trivial⟩ (ih (i + 1) (by omega) (by omega)))
        · refine r_iload_n (pc := 24) h dX10_bagBits_24 rfl ?_
          refine r_iconst (v := 1) (pc := 25) h dX10_bagBits_25 (by decide) ?_
          refine r_iload_n (pc := 26) h dX10_bagBits_26 rfl ?_
          refine r_ishl (pc := 27) h dX10_bagBits_27 ?_
          refine r_ior (pc := 28) h dX10_bagBits_28 ?_
          refine r_istore_n (pc := 29) h dX10_bagBits_29 (by decide) ?_
          refine r_iinc (v := 1) (pc := 30) h dX10_bagBits_30 rfl (by decide) (by decide) ?_
          refine r_goto (pc := 33) h 4 dX10_bagBits_33 (by decide) ?_
          rw [← nI_succ i]
          first
          | (have e9_ := bag_t (p := bgF I) (i := i) (decide_eq_true c21) (by omega)
             exact r_at h [(0, .ref (E.1 0)), (1, .int (nI (bagN (bgF I) (i + 1)))), (2, .int (nI (i + 1)))] ⟨rfl, by rw [e9_]; rfl, rfl, trivial⟩ (ih (i + 1) (by omega) (by omega)))
          | (have e9_ := bag_f (p := bgF I) (i := i) (decide_eq_false (fun q => q c21))
             exact r_at h [(0, .ref (E.1 0)), (1, .int (nI (bagN (bgF I) (i + 1)))), (2, .int (nI (i + 1)))] ⟨rfl, by rw [e9_]; rfl, rfl, trivial⟩ (ih (i + 1) (by omega) (by omega)))
  have h0 := loop4 ((I 0 2).toNatClampNeg + 1) 0 (by omega) (by omega)
  exact r_at h [(0, .ref (E.1 0)), (1, .int (nI (bagN (bgF I) 0))), (2, .int (nI 0))] ⟨rfl, rfl, rfl, trivial⟩ h0
set_option maxRecDepth 100000 in
set_option maxHeartbeats 4000000 in
theorem c_X3_throwCount (E : En) (I : Mem)   : Ctr E yX3_throwCount cX3_throwCount 3 (some .int) 1 [.ref (E.1 25)] I (qI (fun (r : Int32) (I1 : Mem) => r = nI (cntP (mtF I) 5) ∧ I = I1)) := by
  refine Ctr.openI (by decide) (Nat.le_of_ble_eq_true rfl) (fun g h hr => ?_)
  have h : Sem cX3_throwCount RX3 3 (rmL 1) E g := h
  show g I 0 [(0, .ref (E.1 25))] []
  refine r_iconst (v := 0) (pc := 0) h dX3_throwCount_0 (by decide) ?_
  refine r_istore_n (pc := 1) h dX3_throwCount_1 (by decide) ?_
  refine r_iconst (v := 0) (pc := 2) h dX3_throwCount_2 (by decide) ?_
  refine r_istore_n (pc := 3) h dX3_throwCount_3 (by decide) ?_
  have loop4 : ∀ (m i : Nat), i ≤ 5 → 5 + 1 ≤ i + m → g I 4 [(0, .ref (E.1 25)), (1, .int (nI (cntP (mtF I) i))), (2, .int (nI i))] [] := by
    intro m
    induction m with
    | zero =>
      intro i h1 h2
      omega
    | succ m ih =>
      intro i hi him
      skip
      have ei := nI_tI (i := i) (by omega)
      refine r_iload_n (pc := 4) h dX3_throwCount_4 rfl ?_
      refine r_iconst (v := 5) (pc := 5) h dX3_throwCount_5 (by decide) ?_
      refine r_icmp_ge (pc := 6) h 29 dX3_throwCount_6 (by decide) (fun c6 => ?_) (fun c6 => ?_)
      · have hge : i = 5 := by rw [Int32.le_iff_toInt_le, ei, e5i] at c6; omega
        refine r_iload_n (pc := 29) h dX3_throwCount_29 rfl ?_
        exact hr _ _ _ _ dX3_throwCount_30 (rfl) (⟨by rw [hge], rfl⟩)
      · have hlt : i < 5 := by rw [Int32.le_iff_toInt_le, ei, e5i] at c6; omega
        refine r_aload_n (pc := 9) h dX3_throwCount_9 rfl ?_
        refine gf_X3_11 (pc := 10) h dX3_throwCount_10 ?_
        refine r_iload_n (pc := 13) h dX3_throwCount_13 rfl ?_
        refine r_ialdL (j := i) (pc := 14) h dX3_throwCount_14 (by decide) (by decide) (nI_tn (by omega)) (vinI (n := 5) (by omega) (by omega)) ?_
        refine r_bipush (v := -2) (pc := 15) h dX3_throwCount_15 (by decide) ?_
        refine r_icmp_eq (pc := 17) h 23 dX3_throwCount_17 (by decide) (fun c17 => ?_) (fun c17 => ?_)
        · refine r_iinc (v := 1) (pc := 23) h dX3_throwCount_23 rfl (by decide) (by decide) ?_
          refine r_goto (pc := 26) h 4 dX3_throwCount_26 (by decide) ?_
          rw [← nI_succ i]
          first
          | (have e9_ := cnt_t (p := mtF I) (i := i) (decide_eq_true c17)
             exact r_at h [(0, .ref (E.1 25)), (1, .int (nI (cntP (mtF I) (i + 1)))), (2, .int (nI (i + 1)))] ⟨rfl, by rw [e9_]; rfl, rfl, trivial⟩ (ih (i + 1) (by omega) (by omega)))
          | (have e9_ := cnt_f (p := mtF I) (i := i) (decide_eq_false (fun q => q c17))
             exact r_at h [(0, .ref (E.1 25)), (1, .int (nI (cntP (mtF I) (i + 1)))), (2, .int (nI (i + 1)))] ⟨rfl, by rw [e9_]; rfl, rfl, trivial⟩ (ih (i + 1) (by omega) (by omega)))
        · refine r_iinc (v := 1) (pc := 20) h dX3_throwCount_20 rfl (by decide) (by decide) ?_
          refine r_iinc (v := 1) (pc := 23) h dX3_throwCount_23 rfl (by decide) (by decide) ?_
          refine r_goto (pc := 26) h 4 dX3_throwCount_26 (by decide) ?_
          rw [← nI_succ i]
          first
          | (have e9_ := cnt_t (p := mtF I) (i := i) (decide_eq_true c17)
             exact r_at h [(0, .ref (E.1 25)), (1, .int (nI (cntP (mtF I) (i + 1)))), (2, .int (nI (i + 1)))] ⟨rfl, by rw [e9_]; rfl, rfl, trivial⟩ (ih (i + 1) (by omega) (by omega)))
          | (have e9_ := cnt_f (p := mtF I) (i := i) (decide_eq_false (fun q => q c17))
             exact r_at h [(0, .ref (E.1 25)), (1, .int (nI (cntP (mtF I) (i + 1)))), (2, .int (nI (i + 1)))] ⟨rfl, by rw [e9_]; rfl, rfl, trivial⟩ (ih (i + 1) (by omega) (by omega)))
  have h0 := loop4 (5 + 1) 0 (by omega) (by omega)
  exact r_at h [(0, .ref (E.1 25)), (1, .int (nI (cntP (mtF I) 0))), (2, .int (nI 0))] ⟨rfl, rfl, rfl, trivial⟩ h0
set_option maxRecDepth 100000 in
set_option maxHeartbeats 4000000 in
theorem c_X11_inBag (E : En) (I : Mem)  (hc : 0 ≤ (I 151 1).toInt ∧ (I 151 1).toInt ≤ 9) : Ctr E yX11_inBag cX11_inBag 3 (some .int) 1 [.ref (E.1 151)] I (qI (fun (r : Int32) (I1 : Mem) => r = nI (cntP (bgR I) (I 151 1).toNatClampNeg) ∧ I = I1)) := by
  refine Ctr.openI (by decide) (Nat.le_of_ble_eq_true rfl) (fun g h hr => ?_)
  have h : Sem cX11_inBag RX11 3 (rmL 1) E g := h
  show g I 0 [(0, .ref (E.1 151))] []
  refine r_iconst (v := 0) (pc := 0) h dX11_inBag_0 (by decide) ?_
  refine r_istore_n (pc := 1) h dX11_inBag_1 (by decide) ?_
  refine r_iconst (v := 0) (pc := 2) h dX11_inBag_2 (by decide) ?_
  refine r_istore_n (pc := 3) h dX11_inBag_3 (by decide) ?_
  have loop4 : ∀ (m i : Nat), i ≤ (I 151 1).toNatClampNeg → (I 151 1).toNatClampNeg + 1 ≤ i + m → g I 4 [(0, .ref (E.1 151)), (1, .int (nI (cntP (bgR I) i))), (2, .int (nI i))] [] := by
    intro m
    induction m with
    | zero =>
      intro i h1 h2
      omega
    | succ m ih =>
      intro i hi him
      have hC : ((I 151 1).toNatClampNeg : Int) = (I 151 1).toInt := tnI _ hc.1
      have ei := nI_tI (i := i) (by omega)
      refine r_iload_n (pc := 4) h dX11_inBag_4 rfl ?_
      refine r_aload_n (pc := 5) h dX11_inBag_5 rfl ?_
      refine gf_X11_144 (pc := 6) h dX11_inBag_6 ?_
      refine r_icmp_ge (pc := 9) h 35 dX11_inBag_9 (by decide) (fun c9 => ?_) (fun c9 => ?_)
      · have hge : i = (I 151 1).toNatClampNeg := by rw [Int32.le_iff_toInt_le, ei] at c9; omega
        refine r_iload_n (pc := 35) h dX11_inBag_35 rfl ?_
        exact hr _ _ _ _ dX11_inBag_36 (rfl) (⟨by rw [hge], rfl⟩)
      · have hlt : i < (I 151 1).toNatClampNeg := by rw [Int32.le_iff_toInt_le, ei] at c9; omega
        refine r_iload_n (pc := 12) h dX11_inBag_12 rfl ?_
        refine r_aload_n (pc := 13) h dX11_inBag_13 rfl ?_
        refine gf_X11_34 (pc := 14) h dX11_inBag_14 ?_
        refine r_iload_n (pc := 17) h dX11_inBag_17 rfl ?_
        refine r_zaldL (j := i) (pc := 18) h dX11_inBag_18 (by decide) (by decide) (nI_tn (by omega)) (vinI (n := 9) (by omega) (by omega)) ?_
        refine r_if_eq (pc := 19) h 26 dX11_inBag_19 (by decide) (fun c19 => ?_) (fun c19 => ?_)
        · refine r_iconst (v := 1) (pc := 26) h dX11_inBag_26 (by decide) ?_
          refine r_iadd (pc := 27) h dX11_inBag_27 ?_
          refine r_istore_n (pc := 28) h dX11_inBag_28 (by decide) ?_
          refine r_iinc (v := 1) (pc := 29) h dX11_inBag_29 rfl (by decide) (by decide) ?_
          refine r_goto (pc := 32) h 4 dX11_inBag_32 (by decide) ?_
          rw [← nI_succ i]
          first
          | (have e9_ := cnt_t (p := bgR I) (i := i) (decide_eq_true c19)
             exact r_at h [(0, .ref (E.1 151)), (1, .int (nI (cntP (bgR I) (i + 1)))), (2, .int (nI (i + 1)))] ⟨rfl, by rw [e9_]; rfl, rfl, trivial⟩ (ih (i + 1) (by omega) (by omega)))
          | (have e9_ := cnt_f0 (p := bgR I) (i := i) (decide_eq_false c19)
             exact r_at h [(0, .ref (E.1 151)), (1, .int (nI (cntP (bgR I) (i + 1)))), (2, .int (nI (i + 1)))] ⟨rfl, by rw [e9_]; rfl, rfl, trivial⟩ (ih (i + 1) (by omega) (by omega)))
        · refine r_iconst (v := 0) (pc := 22) h dX11_inBag_22 (by decide) ?_
          refine r_goto (pc := 23) h 27 dX11_inBag_23 (by decide) ?_
          refine r_iadd (pc := 27) h dX11_inBag_27 ?_
          refine r_istore_n (pc := 28) h dX11_inBag_28 (by decide) ?_
          refine r_iinc (v := 1) (pc := 29) h dX11_inBag_29 rfl (by decide) (by decide) ?_
          refine r_goto (pc := 32) h 4 dX11_inBag_32 (by decide) ?_
          rw [← nI_succ i]
          first
          | (have e9_ := cnt_t (p := bgR I) (i := i) (decide_eq_true c19)
             exact r_at h [(0, .ref (E.1 151)), (1, .int (nI (cntP (bgR I) (i + 1)))), (2, .int (nI (i + 1)))] ⟨rfl, by rw [e9_]; rfl, rfl, trivial⟩ (ih (i + 1) (by omega) (by omega)))
          | (have e9_ := cnt_f0 (p := bgR I) (i := i) (decide_eq_false c19)
             exact r_at h [(0, .ref (E.1 151)), (1, .int (nI (cntP (bgR I) (i + 1)))), (2, .int (nI (i + 1)))] ⟨rfl, by rw [e9_]; rfl, rfl, trivial⟩ (ih (i + 1) (by omega) (by omega)))
  have h0 := loop4 ((I 151 1).toNatClampNeg + 1) 0 (by omega) (by omega)
  exact r_at h [(0, .ref (E.1 151)), (1, .int (nI (cntP (bgR I) 0))), (2, .int (nI 0))] ⟨rfl, rfl, rfl, trivial⟩ h0
set_option maxRecDepth 100000 in
set_option maxHeartbeats 4000000 in
theorem c_X10_count (E : En) (I : Mem) (w : Int32) (hc : 0 ≤ (I 0 2).toInt ∧ (I 0 2).toInt ≤ 9) : Ctr E yX10_count cX10_count 2 (some .int) 2 [.ref (E.1 0), .int w] I (qI (fun (r : Int32) (I1 : Mem) => r = F_count I w ∧ I = I1)) := by
  refine Ctr.openI (by decide) (Nat.le_of_ble_eq_true rfl) (fun g h hr => ?_)
  have h : Sem cX10_count RX10 2 (rmL 2) E g := h
  show g I 0 [(0, .ref (E.1 0)), (1, .int w)] []
  refine r_iload_n (pc := 0) h dX10_count_0 rfl ?_
  by_cases hsw : w.toInt < 0 ∨ 5 < w.toInt
  · refine r_tableOut (pc := 1) h 79 dX10_count_1 hsw (by decide) ?_
    refine r_iconst (v := -1) (pc := 79) h dX10_count_79 (by decide) ?_
    exact hr _ _ _ _ dX10_count_80 (rfl) (⟨by unfold F_count; first | (rw [if_neg (by omega), if_neg (by omega), if_neg (by omega), if_neg (by omega), if_neg (by omega), if_neg (by omega)]; done) | (rw [if_pos esw]; done) | (rw [if_neg (by omega), if_pos esw]; done) | (rw [if_neg (by omega), if_neg (by omega), if_pos esw]; done) | (rw [if_neg (by omega), if_neg (by omega), if_neg (by omega), if_pos esw]; done) | (rw [if_neg (by omega), if_neg (by omega), if_neg (by omega), if_neg (by omega), if_pos esw]; done) | (rw [if_neg (by omega), if_neg (by omega), if_neg (by omega), if_neg (by omega), if_neg (by omega), if_pos esw]; done), rfl⟩)
  · rcases (show w.toInt = 0 ∨ w.toInt = 1 ∨ w.toInt = 2 ∨ w.toInt = 3 ∨ w.toInt = 4 ∨ w.toInt = 5 by omega) with esw | esw | esw | esw | esw | esw
    · refine r_tableIn (pc := 1) h 40 dX10_count_1 (by omega) (by omega) (by rw [esw]; rfl) (by decide) ?_
      refine r_aload_n (pc := 40) h dX10_count_40 rfl ?_
      refine gf_X10_23 (pc := 41) h dX10_count_41 ?_
      exact hr _ _ _ _ dX10_count_44 (rfl) (⟨by unfold F_count; first | (rw [if_neg (by omega), if_neg (by omega), if_neg (by omega), if_neg (by omega), if_neg (by omega), if_neg (by omega)]; done) | (rw [if_pos esw]; done) | (rw [if_neg (by omega), if_pos esw]; done) | (rw [if_neg (by omega), if_neg (by omega), if_pos esw]; done) | (rw [if_neg (by omega), if_neg (by omega), if_neg (by omega), if_pos esw]; done) | (rw [if_neg (by omega), if_neg (by omega), if_neg (by omega), if_neg (by omega), if_pos esw]; done) | (rw [if_neg (by omega), if_neg (by omega), if_neg (by omega), if_neg (by omega), if_neg (by omega), if_pos esw]; done), rfl⟩)
    · refine r_tableIn (pc := 1) h 45 dX10_count_1 (by omega) (by omega) (by rw [esw]; rfl) (by decide) ?_
      refine r_aload_n (pc := 45) h dX10_count_45 rfl ?_
      refine r_callVI (ci := 10) (pc := 46) h dX10_count_46 wm_X10_214 ca_X10_bagBits rfl (c_X10_bagBits E _ hc) rfl rfl (Nat.le_of_ble_eq_true rfl) (by decide) (by decide) (by decide) (by decide) (fun r I1 hq => ?_)
      obtain ⟨rfl, rfl⟩ := hq
      refine r_callSI (pc := 49) h dX10_count_49 wm_X10_254 ca_J6_bitCount_0f7a4 (c_J6_bitCount_0f7a4 E _ _) rfl rfl (Nat.le_of_ble_eq_true rfl) (by decide) (fun r I1 hq => ?_)
      obtain ⟨rfl, rfl⟩ := hq
      rw [bc_bag (bgF I) (by rw [tn]; omega)]
      exact hr _ _ _ _ dX10_count_52 (rfl) (⟨by unfold F_count; first | (rw [if_neg (by omega), if_neg (by omega), if_neg (by omega), if_neg (by omega), if_neg (by omega), if_neg (by omega)]; done) | (rw [if_pos esw]; done) | (rw [if_neg (by omega), if_pos esw]; done) | (rw [if_neg (by omega), if_neg (by omega), if_pos esw]; done) | (rw [if_neg (by omega), if_neg (by omega), if_neg (by omega), if_pos esw]; done) | (rw [if_neg (by omega), if_neg (by omega), if_neg (by omega), if_neg (by omega), if_pos esw]; done) | (rw [if_neg (by omega), if_neg (by omega), if_neg (by omega), if_neg (by omega), if_neg (by omega), if_pos esw]; done), rfl⟩)
    · refine r_tableIn (pc := 1) h 53 dX10_count_1 (by omega) (by omega) (by rw [esw]; rfl) (by decide) ?_
      refine r_aload_n (pc := 53) h dX10_count_53 rfl ?_
      refine gf_X10_33 (pc := 54) h dX10_count_54 ?_
      exact hr _ _ _ _ dX10_count_57 (rfl) (⟨by unfold F_count; first | (rw [if_neg (by omega), if_neg (by omega), if_neg (by omega), if_neg (by omega), if_neg (by omega), if_neg (by omega)]; done) | (rw [if_pos esw]; done) | (rw [if_neg (by omega), if_pos esw]; done) | (rw [if_neg (by omega), if_neg (by omega), if_pos esw]; done) | (rw [if_neg (by omega), if_neg (by omega), if_neg (by omega), if_pos esw]; done) | (rw [if_neg (by omega), if_neg (by omega), if_neg (by omega), if_neg (by omega), if_pos esw]; done) | (rw [if_neg (by omega), if_neg (by omega), if_neg (by omega), if_neg (by omega), if_neg (by omega), if_pos esw]; done), rfl⟩)
    · refine r_tableIn (pc := 1) h 58 dX10_count_1 (by omega) (by omega) (by rw [esw]; rfl) (by decide) ?_
      refine r_aload_n (pc := 58) h dX10_count_58 rfl ?_
      refine gf_X10_44 (pc := 59) h dX10_count_59 ?_
      refine gf_X10_332 (pc := 62) h dX10_count_62 ?_
      exact hr _ _ _ _ dX10_count_65 (rfl) (⟨by unfold F_count; first | (rw [if_neg (by omega), if_neg (by omega), if_neg (by omega), if_neg (by omega), if_neg (by omega), if_neg (by omega)]; done) | (rw [if_pos esw]; done) | (rw [if_neg (by omega), if_pos esw]; done) | (rw [if_neg (by omega), if_neg (by omega), if_pos esw]; done) | (rw [if_neg (by omega), if_neg (by omega), if_neg (by omega), if_pos esw]; done) | (rw [if_neg (by omega), if_neg (by omega), if_neg (by omega), if_neg (by omega), if_pos esw]; done) | (rw [if_neg (by omega), if_neg (by omega), if_neg (by omega), if_neg (by omega), if_neg (by omega), if_pos esw]; done), rfl⟩)
    · refine r_tableIn (pc := 1) h 66 dX10_count_1 (by omega) (by omega) (by rw [esw]; rfl) (by decide) ?_
      refine r_aload_n (pc := 66) h dX10_count_66 rfl ?_
      refine gf_X10_95 (pc := 67) h dX10_count_67 ?_
      exact hr _ _ _ _ dX10_count_70 (rfl) (⟨by unfold F_count; first | (rw [if_neg (by omega), if_neg (by omega), if_neg (by omega), if_neg (by omega), if_neg (by omega), if_neg (by omega)]; done) | (rw [if_pos esw]; done) | (rw [if_neg (by omega), if_pos esw]; done) | (rw [if_neg (by omega), if_neg (by omega), if_pos esw]; done) | (rw [if_neg (by omega), if_neg (by omega), if_neg (by omega), if_pos esw]; done) | (rw [if_neg (by omega), if_neg (by omega), if_neg (by omega), if_neg (by omega), if_pos esw]; done) | (rw [if_neg (by omega), if_neg (by omega), if_neg (by omega), if_neg (by omega), if_neg (by omega), if_pos esw]; done), rfl⟩)
    · refine r_tableIn (pc := 1) h 71 dX10_count_1 (by omega) (by omega) (by rw [esw]; rfl) (by decide) ?_
      refine r_aload_n (pc := 71) h dX10_count_71 rfl ?_
      refine gf_X10_85 (pc := 72) h dX10_count_72 ?_
      refine r_callVI (ci := 3) (pc := 75) h dX10_count_75 wm_X10_251 ca_X3_throwCount rfl (c_X3_throwCount E _) rfl rfl (Nat.le_of_ble_eq_true rfl) (by decide) (by decide) (by decide) (by decide) (fun r I1 hq => ?_)
      obtain ⟨rfl, rfl⟩ := hq
      exact hr _ _ _ _ dX10_count_78 (rfl) (⟨by unfold F_count; first | (rw [if_neg (by omega), if_neg (by omega), if_neg (by omega), if_neg (by omega), if_neg (by omega), if_neg (by omega)]; done) | (rw [if_pos esw]; done) | (rw [if_neg (by omega), if_pos esw]; done) | (rw [if_neg (by omega), if_neg (by omega), if_pos esw]; done) | (rw [if_neg (by omega), if_neg (by omega), if_neg (by omega), if_pos esw]; done) | (rw [if_neg (by omega), if_neg (by omega), if_neg (by omega), if_neg (by omega), if_pos esw]; done) | (rw [if_neg (by omega), if_neg (by omega), if_neg (by omega), if_neg (by omega), if_neg (by omega), if_pos esw]; done), rfl⟩)
set_option maxRecDepth 100000 in
set_option maxHeartbeats 4000000 in
theorem c_X11_count (E : En) (I : Mem) (w : Int32) (hc : 0 ≤ (I 151 1).toInt ∧ (I 151 1).toInt ≤ 9) : Ctr E yX11_count cX11_count 4 (some .int) 2 [.ref (E.1 151), .int w] I (qI (fun (r : Int32) (I1 : Mem) => r = R_count I w ∧ I = I1)) := by
  refine Ctr.openI (by decide) (Nat.le_of_ble_eq_true rfl) (fun g h hr => ?_)
  have h : Sem cX11_count RX11 4 (rmL 2) E g := h
  show g I 0 [(0, .ref (E.1 151)), (1, .int w)] []
  refine r_iconst (v := 0) (pc := 0) h dX11_count_0 (by decide) ?_
  refine r_istore_n (pc := 1) h dX11_count_1 (by decide) ?_
  refine r_iconst (v := 0) (pc := 2) h dX11_count_2 (by decide) ?_
  refine r_istore_n (pc := 3) h dX11_count_3 (by decide) ?_
  have loop4 : ∀ (m i : Nat), i ≤ 5 → 5 + 1 ≤ i + m → g I 4 [(0, .ref (E.1 151)), (1, .int w), (2, .int (nI (cntP (mtR I) i))), (3, .int (nI i))] [] := by
    intro m
    induction m with
    | zero =>
      intro i h1 h2
      omega
    | succ m ih =>
      intro i hi him
      skip
      have ei := nI_tI (i := i) (by omega)
      refine r_iload_n (pc := 4) h dX11_count_4 rfl ?_
      refine r_iconst (v := 5) (pc := 5) h dX11_count_5 (by decide) ?_
      refine r_icmp_ge (pc := 6) h 33 dX11_count_6 (by decide) (fun c6 => ?_) (fun c6 => ?_)
      · have hge : i = 5 := by rw [Int32.le_iff_toInt_le, ei, e5i] at c6; omega
        rw [hge]
        refine r_iload_n (pc := 33) h dX11_count_33 rfl ?_
        by_cases hsw : w.toInt < 0 ∨ 5 < w.toInt
        · refine r_tableOut (pc := 34) h 99 dX11_count_34 hsw (by decide) ?_
          refine r_iconst (v := -1) (pc := 99) h dX11_count_99 (by decide) ?_
          exact hr _ _ _ _ dX11_count_100 (rfl) (⟨by unfold R_count; first | (rw [if_neg (by omega), if_neg (by omega), if_neg (by omega), if_neg (by omega), if_neg (by omega), if_neg (by omega)]; done) | (rw [if_pos esw]; done) | (rw [if_neg (by omega), if_pos esw]; done) | (rw [if_neg (by omega), if_neg (by omega), if_pos esw]; done) | (rw [if_neg (by omega), if_neg (by omega), if_neg (by omega), if_pos esw]; done) | (rw [if_neg (by omega), if_neg (by omega), if_neg (by omega), if_neg (by omega), if_pos esw]; done) | (rw [if_neg (by omega), if_neg (by omega), if_neg (by omega), if_neg (by omega), if_neg (by omega), if_pos esw]; done), rfl⟩)
        · rcases (show w.toInt = 0 ∨ w.toInt = 1 ∨ w.toInt = 2 ∨ w.toInt = 3 ∨ w.toInt = 4 ∨ w.toInt = 5 by omega) with esw | esw | esw | esw | esw | esw
          · refine r_tableIn (pc := 34) h 72 dX11_count_34 (by omega) (by omega) (by rw [esw]; rfl) (by decide) ?_
            refine r_aload_n (pc := 72) h dX11_count_72 rfl ?_
            refine gf_X11_144 (pc := 73) h dX11_count_73 ?_
            exact hr _ _ _ _ dX11_count_76 (rfl) (⟨by unfold R_count; first | (rw [if_neg (by omega), if_neg (by omega), if_neg (by omega), if_neg (by omega), if_neg (by omega), if_neg (by omega)]; done) | (rw [if_pos esw]; done) | (rw [if_neg (by omega), if_pos esw]; done) | (rw [if_neg (by omega), if_neg (by omega), if_pos esw]; done) | (rw [if_neg (by omega), if_neg (by omega), if_neg (by omega), if_pos esw]; done) | (rw [if_neg (by omega), if_neg (by omega), if_neg (by omega), if_neg (by omega), if_pos esw]; done) | (rw [if_neg (by omega), if_neg (by omega), if_neg (by omega), if_neg (by omega), if_neg (by omega), if_pos esw]; done), rfl⟩)
          · refine r_tableIn (pc := 34) h 77 dX11_count_34 (by omega) (by omega) (by rw [esw]; rfl) (by decide) ?_
            refine r_aload_n (pc := 77) h dX11_count_77 rfl ?_
            refine r_callVI (ci := 11) (pc := 78) h dX11_count_78 wm_X11_283 ca_X11_inBag rfl (c_X11_inBag E _ hc) rfl rfl (Nat.le_of_ble_eq_true rfl) (by decide) (by decide) (by decide) (by decide) (fun r I1 hq => ?_)
            obtain ⟨rfl, rfl⟩ := hq
            exact hr _ _ _ _ dX11_count_81 (rfl) (⟨by unfold R_count; first | (rw [if_neg (by omega), if_neg (by omega), if_neg (by omega), if_neg (by omega), if_neg (by omega), if_neg (by omega)]; done) | (rw [if_pos esw]; done) | (rw [if_neg (by omega), if_pos esw]; done) | (rw [if_neg (by omega), if_neg (by omega), if_pos esw]; done) | (rw [if_neg (by omega), if_neg (by omega), if_neg (by omega), if_pos esw]; done) | (rw [if_neg (by omega), if_neg (by omega), if_neg (by omega), if_neg (by omega), if_pos esw]; done) | (rw [if_neg (by omega), if_neg (by omega), if_neg (by omega), if_neg (by omega), if_neg (by omega), if_pos esw]; done), rfl⟩)
          · refine r_tableIn (pc := 34) h 82 dX11_count_34 (by omega) (by omega) (by rw [esw]; rfl) (by decide) ?_
            refine r_aload_n (pc := 82) h dX11_count_82 rfl ?_
            refine gf_X11_165 (pc := 83) h dX11_count_83 ?_
            exact hr _ _ _ _ dX11_count_86 (rfl) (⟨by unfold R_count; first | (rw [if_neg (by omega), if_neg (by omega), if_neg (by omega), if_neg (by omega), if_neg (by omega), if_neg (by omega)]; done) | (rw [if_pos esw]; done) | (rw [if_neg (by omega), if_pos esw]; done) | (rw [if_neg (by omega), if_neg (by omega), if_pos esw]; done) | (rw [if_neg (by omega), if_neg (by omega), if_neg (by omega), if_pos esw]; done) | (rw [if_neg (by omega), if_neg (by omega), if_neg (by omega), if_neg (by omega), if_pos esw]; done) | (rw [if_neg (by omega), if_neg (by omega), if_neg (by omega), if_neg (by omega), if_neg (by omega), if_pos esw]; done), rfl⟩)
          · refine r_tableIn (pc := 34) h 87 dX11_count_34 (by omega) (by omega) (by rw [esw]; rfl) (by decide) ?_
            refine r_aload_n (pc := 87) h dX11_count_87 rfl ?_
            refine gf_X11_180 (pc := 88) h dX11_count_88 ?_
            exact hr _ _ _ _ dX11_count_91 (rfl) (⟨by unfold R_count; first | (rw [if_neg (by omega), if_neg (by omega), if_neg (by omega), if_neg (by omega), if_neg (by omega), if_neg (by omega)]; done) | (rw [if_pos esw]; done) | (rw [if_neg (by omega), if_pos esw]; done) | (rw [if_neg (by omega), if_neg (by omega), if_pos esw]; done) | (rw [if_neg (by omega), if_neg (by omega), if_neg (by omega), if_pos esw]; done) | (rw [if_neg (by omega), if_neg (by omega), if_neg (by omega), if_neg (by omega), if_pos esw]; done) | (rw [if_neg (by omega), if_neg (by omega), if_neg (by omega), if_neg (by omega), if_neg (by omega), if_pos esw]; done), rfl⟩)
          · refine r_tableIn (pc := 34) h 92 dX11_count_34 (by omega) (by omega) (by rw [esw]; rfl) (by decide) ?_
            refine r_aload_n (pc := 92) h dX11_count_92 rfl ?_
            refine gf_X11_300 (pc := 93) h dX11_count_93 ?_
            exact hr _ _ _ _ dX11_count_96 (rfl) (⟨by unfold R_count; first | (rw [if_neg (by omega), if_neg (by omega), if_neg (by omega), if_neg (by omega), if_neg (by omega), if_neg (by omega)]; done) | (rw [if_pos esw]; done) | (rw [if_neg (by omega), if_pos esw]; done) | (rw [if_neg (by omega), if_neg (by omega), if_pos esw]; done) | (rw [if_neg (by omega), if_neg (by omega), if_neg (by omega), if_pos esw]; done) | (rw [if_neg (by omega), if_neg (by omega), if_neg (by omega), if_neg (by omega), if_pos esw]; done) | (rw [if_neg (by omega), if_neg (by omega), if_neg (by omega), if_neg (by omega), if_neg (by omega), if_pos esw]; done), rfl⟩)
          · refine r_tableIn (pc := 34) h 97 dX11_count_34 (by omega) (by omega) (by rw [esw]; rfl) (by decide) ?_
            refine r_iload_n (pc := 97) h dX11_count_97 rfl ?_
            exact hr _ _ _ _ dX11_count_98 (rfl) (⟨by unfold R_count; first | (rw [if_neg (by omega), if_neg (by omega), if_neg (by omega), if_neg (by omega), if_neg (by omega), if_neg (by omega)]; done) | (rw [if_pos esw]; done) | (rw [if_neg (by omega), if_pos esw]; done) | (rw [if_neg (by omega), if_neg (by omega), if_pos esw]; done) | (rw [if_neg (by omega), if_neg (by omega), if_neg (by omega), if_pos esw]; done) | (rw [if_neg (by omega), if_neg (by omega), if_neg (by omega), if_neg (by omega), if_pos esw]; done) | (rw [if_neg (by omega), if_neg (by omega), if_neg (by omega), if_neg (by omega), if_neg (by omega), if_pos esw]; done), rfl⟩)
      · have hlt : i < 5 := by rw [Int32.le_iff_toInt_le, ei, e5i] at c6; omega
        refine r_iload_n (pc := 9) h dX11_count_9 rfl ?_
        refine r_aload_n (pc := 10) h dX11_count_10 rfl ?_
        refine gf_X11_78 (pc := 11) h dX11_count_11 ?_
        refine r_iload_n (pc := 14) h dX11_count_14 rfl ?_
        refine r_ialdL (j := i) (pc := 15) h dX11_count_15 (by decide) (by decide) (nI_tn (by omega)) (vinI (n := 5) (by omega) (by omega)) ?_
        refine r_iconst (v := -1) (pc := 16) h dX11_count_16 (by decide) ?_
        refine r_icmp_lt (pc := 17) h 24 dX11_count_17 (by decide) (fun c17 => ?_) (fun c17 => ?_)
        · refine r_iconst (v := 0) (pc := 24) h dX11_count_24 (by decide) ?_
          refine r_iadd (pc := 25) h dX11_count_25 ?_
          refine r_istore_n (pc := 26) h dX11_count_26 (by decide) ?_
          refine r_iinc (v := 1) (pc := 27) h dX11_count_27 rfl (by decide) (by decide) ?_
          refine r_goto (pc := 30) h 4 dX11_count_30 (by decide) ?_
          rw [← nI_succ i]
          first
          | (have e9_ := cnt_t (p := mtR I) (i := i) (decide_eq_true c17)
             exact r_at h [(0, .ref (E.1 151)), (1, .int w), (2, .int (nI (cntP (mtR I) (i + 1)))), (3, .int (nI (i + 1)))] ⟨rfl, rfl, by rw [e9_]; rfl, rfl, trivial⟩ (ih (i + 1) (by omega) (by omega)))
          | (have e9_ := cnt_f0 (p := mtR I) (i := i) (decide_eq_false (fun q => q c17))
             exact r_at h [(0, .ref (E.1 151)), (1, .int w), (2, .int (nI (cntP (mtR I) (i + 1)))), (3, .int (nI (i + 1)))] ⟨rfl, rfl, by rw [e9_]; rfl, rfl, trivial⟩ (ih (i + 1) (by omega) (by omega)))
        · refine r_iconst (v := 1) (pc := 20) h dX11_count_20 (by decide) ?_
          refine r_goto (pc := 21) h 25 dX11_count_21 (by decide) ?_
          refine r_iadd (pc := 25) h dX11_count_25 ?_
          refine r_istore_n (pc := 26) h dX11_count_26 (by decide) ?_
          refine r_iinc (v := 1) (pc := 27) h dX11_count_27 rfl (by decide) (by decide) ?_
          refine r_goto (pc := 30) h 4 dX11_count_30 (by decide) ?_
          rw [← nI_succ i]
          first
          | (have e9_ := cnt_t (p := mtR I) (i := i) (decide_eq_true c17)
             exact r_at h [(0, .ref (E.1 151)), (1, .int w), (2, .int (nI (cntP (mtR I) (i + 1)))), (3, .int (nI (i + 1)))] ⟨rfl, rfl, by rw [e9_]; rfl, rfl, trivial⟩ (ih (i + 1) (by omega) (by omega)))
          | (have e9_ := cnt_f0 (p := mtR I) (i := i) (decide_eq_false (fun q => q c17))
             exact r_at h [(0, .ref (E.1 151)), (1, .int w), (2, .int (nI (cntP (mtR I) (i + 1)))), (3, .int (nI (i + 1)))] ⟨rfl, rfl, by rw [e9_]; rfl, rfl, trivial⟩ (ih (i + 1) (by omega) (by omega)))
  have h0 := loop4 (5 + 1) 0 (by omega) (by omega)
  exact r_at h [(0, .ref (E.1 151)), (1, .int w), (2, .int (nI (cntP (mtR I) 0))), (3, .int (nI 0))] ⟨rfl, rfl, rfl, rfl, trivial⟩ h0
