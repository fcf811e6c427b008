/-! grass, meadow, wave -/
theorem w_zast {cc : ByteArray} {own : String} {nL : Nat} {R : Room} {E : En} {sn : SN} {sz : Nat} {mi : Bool} {g : WT} {ws : va_W} {n1 n2 : Nat} {lv : LV} {st : List Value} (h : Smw cc own nL R E sn sz mi g) {pc k a n : Nat} {f : Nat → Int32} {i x : Int32} {ws2 : va_W} (d : decode cc pc = .ok (.bastore, 1)) (k0 : k = k) (he : ws[k]? = some (a, .inl (E.2.2.1 13, n, .inl f))) (hin : vp_in i n) (hw2 : ws.set k (a, .inl (E.2.2.1 13, n, .inl (upd f i.toNatClampNeg (vp_nar .boolean x)))) = ws2) (kk : g ws2 n1 n2 (pc + 1) lv st) : g ws n1 n2 pc lv (.int x :: .int i :: .ref a :: st) := by
  obtain ⟨p, l, e, s, m, args, below, meth, c, A, Z, ⟨hx, hb, hml, hown, hts, hK, hN, hO, hX, hA, hz, hi0⟩, hg⟩ := h
  have kk := (hg _ _ _ _ _ _).mp kk
  refine (hg _ _ _ _ _ _).mpr (fun H locs ls hP hD hS hv => ?_)
  refine va_zast hx hb hK hP hD hS k 1 he rfl hin d (fun H1 locs1 hP1 hD1 hS1 => ?_)
  rw [hw2] at hP1 hD1
  exact kk H1 locs1 ls hP1 hD1 hS1 hv
set_option maxRecDepth 100000 in
set_option maxHeartbeats 1000000 in
theorem k_X2_init (E : En) (sn : SN) (a : Nat)  : CtrC E sn yX2_init cX2_init 1 none 2 2 50 [.ref a] [(a, .inr (2, [.null, .null]))] (fun _ => none) (fun sz => [(a, .inr (2, [.ref (sz + 0), .ref (sz + 1)])), (sz + 0, .inl (E.2.2.1 12, 25, .inl (fun _ => 0))), (sz + 1, .inl (E.2.2.1 12, 25, .inl (fillV 25 (5) (fun _ => 0))))]) := by
  refine CtrC.openV (by decide) (Nat.le_of_ble_eq_true rfl) (fun sz g h hr => ?_)
  have h : Smw cX2_init RX2 1 (rmC 2 2 50) E sn sz true g := h
  have hr : RetC cX2_init 2 50 _ g := hr
  show g [(a, .inr (2, [.null, .null]))] 0 0 0 [(0, .ref a)] []
  refine w_aload_n (pc := 0) h dX2_init_0 rfl ?_
  refine w_oi (pc := 1) h dX2_init_1 wo_X2 (Nat.le_of_ble_eq_true rfl) (Nat.le_of_ble_eq_true rfl) (Nat.le_of_ble_eq_true rfl) ?_
  refine w_aload_n (pc := 4) h dX2_init_4 rfl ?_
  refine w_bipush (v := 25) (pc := 5) h dX2_init_5 (by decide) ?_
  refine w_newi (N := 25) (pc := 7) h dX2_init_7 (by decide) (by decide) (by decide) ⟨(Nat.le_of_ble_eq_true rfl), (Nat.le_of_ble_eq_true rfl)⟩ (Or.inl rfl) rfl ?_
  refine w_putF (ci := 2) (C := RX2) (T := TX2) (N := 2) (ty := (.array .int)) (k := 0) (pc := 9) h dX2_init_9 rfl tinX2 tyX2_ok nmX2 0 (by decide) wf_X2_11 rfl rfl rfl (by decide +kernel) rfl rfl rfl rfl (Nat.le_of_ble_eq_true rfl) rfl ?_
  refine w_aload_n (pc := 12) h dX2_init_12 rfl ?_
  refine w_bipush (v := 25) (pc := 13) h dX2_init_13 (by decide) ?_
  refine w_newi (N := 25) (pc := 15) h dX2_init_15 (by decide) (by decide) (by decide) ⟨(Nat.le_of_ble_eq_true rfl), (Nat.le_of_ble_eq_true rfl)⟩ (Or.inr ⟨1, _, rfl⟩) rfl ?_
  refine w_putF (ci := 2) (C := RX2) (T := TX2) (N := 2) (ty := (.array .int)) (k := 0) (pc := 17) h dX2_init_17 rfl tinX2 tyX2_ok nmX2 1 (by decide) wf_X2_15 rfl rfl rfl (by decide +kernel) rfl rfl rfl rfl (Nat.le_of_ble_eq_true rfl) rfl ?_
  refine w_aload_n (pc := 20) h dX2_init_20 rfl ?_
  refine w_get (ci := 2) (C := RX2) (T := TX2) (N := 2) (k := 0) (pc := 21) h dX2_init_21 rfl tinX2 1 (by decide) wf_X2_15 rfl rfl rfl ?_
  refine w_iconst (v := 5) (pc := 24) h dX2_init_24 (by decide) ?_
  refine w_callS (k := 2) (pc := 25) h dX2_init_25 wm_X2_18 ca_J7_fill_53178 (k_fill E sn _ 25 _ (5) (by decide)) rfl rfl rfl rfl (Nat.le_of_ble_eq_true rfl) ⟨(Nat.le_of_ble_eq_true rfl), (Nat.le_of_ble_eq_true rfl)⟩ ⟨(Nat.le_of_ble_eq_true rfl), (Nat.le_of_ble_eq_true rfl)⟩ rfl ?_
  exact hr _ _ _ dX2_init_28 rfl
set_option maxRecDepth 100000 in
set_option maxHeartbeats 1000000 in
theorem k_X4_init (E : En) (sn : SN) (a : Nat)  : CtrC E sn yX4_init cX4_init 2 none 3 7 30 [.ref a] [(a, .inr (4, [.null, .int 0, .int 0]))] (fun _ => none) (fun sz => [(a, .inr (4, [.ref (sz + 0), .int 0, .int 300])), (sz + 0, .inl (E.2.2.1 18, 6, .inr (.inr (.inr (.inr (upTo (fun j => sz + (1 + 1 * j)) 6)))))), (sz + 1, .inr (8, [.int 0, .int 0, .int 0, .int 0])), (sz + 2, .inr (8, [.int 0, .int 0, .int 0, .int 0])), (sz + 3, .inr (8, [.int 0, .int 0, .int 0, .int 0])), (sz + 4, .inr (8, [.int 0, .int 0, .int 0, .int 0])), (sz + 5, .inr (8, [.int 0, .int 0, .int 0, .int 0])), (sz + 6, .inr (8, [.int 0, .int 0, .int 0, .int 0]))]) := by
  refine CtrC.openV (by decide) (Nat.le_of_ble_eq_true rfl) (fun sz g h hr => ?_)
  have h : Smw cX4_init RX4 2 (rmC 3 7 30) E sn sz true g := h
  have hr : RetC cX4_init 7 30 _ g := hr
  show g [(a, .inr (4, [.null, .int 0, .int 0]))] 0 0 0 [(0, .ref a)] []
  refine w_aload_n (pc := 0) h dX4_init_0 rfl ?_
  refine w_oi (pc := 1) h dX4_init_1 wo_X4 (Nat.le_of_ble_eq_true rfl) (Nat.le_of_ble_eq_true rfl) (Nat.le_of_ble_eq_true rfl) ?_
  refine w_aload_n (pc := 4) h dX4_init_4 rfl ?_
  refine w_bipush (v := 6) (pc := 5) h dX4_init_5 (by decide) ?_
  refine w_newq (N := 6) (C := "ThrowersBag$Tree") (cA := E.2.2.1 18) (t0 := 6) (pc := 7) h dX4_init_7 wk_X4_9 (by decide) rfl (by decide) (by decide) (by decide) ⟨(Nat.le_of_ble_eq_true rfl), (Nat.le_of_ble_eq_true rfl)⟩ (Or.inl rfl) rfl ?_
  refine w_putF (ci := 4) (C := RX4) (T := TX4) (N := 3) (ty := (.array (.object "ThrowersBag$Tree"))) (k := 0) (pc := 10) h dX4_init_10 rfl tinX4 tyX4_ok nmX4 0 (by decide) wf_X4_11 rfl rfl rfl (by decide +kernel) rfl rfl rfl rfl (Nat.le_of_ble_eq_true rfl) rfl ?_
  refine w_aload_n (pc := 13) h dX4_init_13 rfl ?_
  refine w_iconst (v := 0) (pc := 14) h dX4_init_14 (by decide) ?_
  refine w_put (ci := 4) (C := RX4) (T := TX4) (N := 3) (ty := .int) (k := 0) (pc := 15) h dX4_init_15 rfl tinX4 tyX4_ok nmX4 1 (by decide) wf_X4_17 rfl (by decide +kernel) rfl rfl rfl rfl (Nat.le_of_ble_eq_true rfl) rfl ?_
  refine w_aload_n (pc := 18) h dX4_init_18 rfl ?_
  refine w_sipush (v := 300) (pc := 19) h dX4_init_19 (by decide) ?_
  refine w_put (ci := 4) (C := RX4) (T := TX4) (N := 3) (ty := .int) (k := 0) (pc := 22) h dX4_init_22 rfl tinX4 tyX4_ok nmX4 2 (by decide) wf_X4_21 rfl (by decide +kernel) rfl rfl rfl rfl (Nat.le_of_ble_eq_true rfl) rfl ?_
  refine w_iconst (v := 0) (pc := 25) h dX4_init_25 (by decide) ?_
  refine w_istore_n (pc := 26) h dX4_init_26 (by decide) ?_
  refine w_at h [(0, .ref a), (1, .int (nI 0))] ⟨rfl, rfl, trivial⟩ ?_
  refine lp_tree h (k := 1) (a0 := sz + 0) rfl rfl rfl (by decide) (Or.inr ⟨1, _, rfl⟩) ⟨(Nat.le_of_ble_eq_true rfl), (Nat.le_of_ble_eq_true rfl)⟩ ⟨(Nat.le_of_ble_eq_true rfl), (Nat.le_of_ble_eq_true rfl)⟩ ?_
  exact hr _ _ _ dX4_init_52 rfl
def wv1 : Nat → Nat → Int32
  | 0 => fun _ => 0
  | i + 1 => upd (upd (upd (upd (wv1 i) i (sinTab i)) (180 - i) (sinTab i)) (180 + i) (-(sinTab i))) (360 - i) (-(sinTab i))
def wv2 : Nat → Nat → Int32
  | 0 => wv1 91
  | i + 1 => upd (wv2 i) (360 + i) (wv2 i i)
theorem wv_all : ∀ j, j < 450 → wv2 90 j = wvT j := by decide +kernel
theorem wv_ix : ∀ i, i < 91 → (180 - nI i).toNatClampNeg = 180 - i ∧ (180 + nI i).toNatClampNeg = 180 + i ∧ (360 - nI i).toNatClampNeg = 360 - i ∧ ¬ (180 - nI i) < 0 ∧ ¬ (180 + nI i) < 0 ∧ ¬ (360 - nI i) < 0 := by decide +kernel
theorem wv_iy : ∀ i, i < 90 → (nI (360 + i) - 360).toNatClampNeg = i ∧ ¬ (nI (360 + i) - 360) < 0 := by decide +kernel
set_option maxRecDepth 100000 in
set_option maxHeartbeats 1000000 in
theorem k_sineWave (E : En) (sn : SN) (hs : sn.2 = sinTab) : CtrC E sn yX10_sineWave cX10_sineWave 2 (some (.array .int)) 1 1 450 [] [] (fun sz => some (.ref ((fun z => z + 0) sz))) (fun sz => [(sz + 0, .inl (E.2.2.1 12, 450, .inl wvT))]) := by
  refine CtrC.openA (a1 := fun z => z + 0) (by decide) (Nat.le_of_ble_eq_true rfl) (fun sz g h hr => ?_)
  have h : Smw cX10_sineWave RX10 2 (rmC 1 1 450) E sn sz false g := h
  have hr : RetA cX10_sineWave 1 450 (sz + 0) _ g := hr
  show g [] 0 0 0 [] []
  refine w_sipush (v := 450) (pc := 0) h dX10_sineWave_0 (by decide) ?_
  refine w_newi (N := 450) (pc := 3) h dX10_sineWave_3 (by decide) (by decide) (by decide) ⟨(Nat.le_of_ble_eq_true rfl), (Nat.le_of_ble_eq_true rfl)⟩ (Or.inl rfl) rfl ?_
  refine w_astore_n (pc := 5) h dX10_sineWave_5 (by decide) ?_
  refine w_iconst (v := 0) (pc := 6) h dX10_sineWave_6 (by decide) ?_
  refine w_istore_n (pc := 7) h dX10_sineWave_7 (by decide) ?_
  have loop70 : ∀ (m i : Nat), i ≤ 90 → 91 ≤ i + m → g [(sz + 0, .inl (E.2.2.1 12, 450, .inl (wv2 i)))] 1 450 70 [(0, .ref (sz + 0)), (1, .int (nI (360 + i)))] [] := by
    intro m
    induction m with
    | zero =>
      intro i h1 h2
      omega
    | succ m ih =>
      intro i hi him
      have ei := nI_tI (i := 360 + i) (by omega)
      refine w_iload_n (pc := 70) h dX10_sineWave_70 rfl ?_
      refine w_sipush (v := 450) (pc := 71) h dX10_sineWave_71 (by decide) ?_
      refine w_icmp_ge (pc := 74) h 93 dX10_sineWave_74 (by decide) (fun c7 => ?_) (fun c7 => ?_)
      · have hge : i = 90 := by rw [Int32.le_iff_toInt_le, ei] at c7; have h9 : (450 : Int32).toInt = 450 := (by decide); omega
        subst hge
        refine w_aload_n (pc := 93) h dX10_sineWave_93 rfl ?_
        refine w_arr (k := 0) h wvT rfl rfl wv_all rfl ?_
        exact hr _ _ _ dX10_sineWave_94 rfl
      · have hlt : i < 90 := by rw [Int32.le_iff_toInt_le, ei] at c7; have h9 : (450 : Int32).toInt = 450 := (by decide); omega
        obtain ⟨y1, y2⟩ := wv_iy i hlt
        refine w_aload_n (pc := 77) h dX10_sineWave_77 rfl ?_
        refine w_iload_n (pc := 78) h dX10_sineWave_78 rfl ?_
        refine w_aload_n (pc := 79) h dX10_sineWave_79 rfl ?_
        refine w_iload_n (pc := 80) h dX10_sineWave_80 rfl ?_
        refine w_sipush (v := 360) (pc := 81) h dX10_sineWave_81 (by decide) ?_
        refine w_isub (pc := 84) h dX10_sineWave_84 ?_
        refine w_iald (k := 0) (pc := 85) h dX10_sineWave_85 rfl rfl (by rintro (q | q); exact y2 q; rw [y1] at q; omega) ?_
        refine w_iast (k := 0) (ws2 := [(sz + 0, .inl (E.2.2.1 12, 450, .inl (wv2 (i + 1))))]) (pc := 86) h dX10_sineWave_86 rfl rfl (vinI (by omega) (by omega)) (by rw [nI_tn (by omega), y1]; rfl) ?_
        refine w_iinc (v := 1) (pc := 87) h dX10_sineWave_87 rfl (by decide) (by decide) ?_
        refine w_goto (pc := 90) h 70 dX10_sineWave_90 (by decide) ?_
        rw [← nI_succ (360 + i)]
        exact w_at h [(0, .ref (sz + 0)), (1, .int (nI (360 + (i + 1))))] ⟨rfl, rfl, trivial⟩ (ih (i + 1) (by omega) (by omega))
  have loop8 : ∀ (m i : Nat), i ≤ 91 → 92 ≤ i + m → g [(sz + 0, .inl (E.2.2.1 12, 450, .inl (wv1 i)))] 1 450 8 [(0, .ref (sz + 0)), (1, .int (nI i))] [] := by
    intro m
    induction m with
    | zero =>
      intro i h1 h2
      omega
    | succ m ih =>
      intro i hi him
      have ei := nI_tI (i := i) (by omega)
      refine w_iload_n (pc := 8) h dX10_sineWave_8 rfl ?_
      refine w_bipush (v := 90) (pc := 9) h dX10_sineWave_9 (by decide) ?_
      refine w_icmp_gt (pc := 11) h 66 dX10_sineWave_11 (by decide) (fun c7 => ?_) (fun c7 => ?_)
      · have hge : i = 91 := by rw [Int32.lt_iff_toInt_lt, ei] at c7; have h9 : (90 : Int32).toInt = 90 := (by decide); omega
        subst hge
        refine w_sipush (v := 360) (pc := 66) h dX10_sineWave_66 (by decide) ?_
        refine w_istore_n (pc := 69) h dX10_sineWave_69 (by decide) ?_
        exact w_at h [(0, .ref (sz + 0)), (1, .int (nI (360 + 0)))] ⟨rfl, rfl, trivial⟩ (loop70 91 0 (by omega) (by omega))
      · have hlt : i < 91 := by rw [Int32.lt_iff_toInt_lt, ei] at c7; have h9 : (90 : Int32).toInt = 90 := (by decide); omega
        obtain ⟨x1, x2, x3, y1, y2, y3⟩ := wv_ix i hlt
        have tn := nI_tn (i := i) (by omega)
        refine w_aload_n (pc := 14) h dX10_sineWave_14 rfl ?_
        refine w_iload_n (pc := 15) h dX10_sineWave_15 rfl ?_
        refine w_gets (pc := 16) h dX10_sineWave_16 ?_
        refine w_iload_n (pc := 19) h dX10_sineWave_19 rfl ?_
        refine w_tald (pc := 20) h dX10_sineWave_20 (vinI (by omega) (by omega)) ?_
        refine w_iast (k := 0) (ws2 := [(sz + 0, .inl (E.2.2.1 12, 450, .inl (upd (wv1 i) i (sinTab i))))]) (pc := 21) h dX10_sineWave_21 rfl rfl (vinI (by omega) (by omega)) (by rw [tn, hs]; rfl) ?_
        refine w_aload_n (pc := 22) h dX10_sineWave_22 rfl ?_
        refine w_sipush (v := 180) (pc := 23) h dX10_sineWave_23 (by decide) ?_
        refine w_iload_n (pc := 26) h dX10_sineWave_26 rfl ?_
        refine w_isub (pc := 27) h dX10_sineWave_27 ?_
        refine w_gets (pc := 28) h dX10_sineWave_28 ?_
        refine w_iload_n (pc := 31) h dX10_sineWave_31 rfl ?_
        refine w_tald (pc := 32) h dX10_sineWave_32 (vinI (by omega) (by omega)) ?_
        refine w_iast (k := 0) (ws2 := [(sz + 0, .inl (E.2.2.1 12, 450, .inl (upd (upd (wv1 i) i (sinTab i)) (180 - i) (sinTab i))))]) (pc := 33) h dX10_sineWave_33 rfl rfl (by rintro (q | q); exact y1 q; rw [x1] at q; omega) (by rw [tn, x1, hs]; rfl) ?_
        refine w_aload_n (pc := 34) h dX10_sineWave_34 rfl ?_
        refine w_sipush (v := 180) (pc := 35) h dX10_sineWave_35 (by decide) ?_
        refine w_iload_n (pc := 38) h dX10_sineWave_38 rfl ?_
        refine w_iadd (pc := 39) h dX10_sineWave_39 ?_
        refine w_gets (pc := 40) h dX10_sineWave_40 ?_
        refine w_iload_n (pc := 43) h dX10_sineWave_43 rfl ?_
        refine w_tald (pc := 44) h dX10_sineWave_44 (vinI (by omega) (by omega)) ?_
        refine w_ineg (pc := 45) h dX10_sineWave_45 ?_
        refine w_iast (k := 0) (ws2 := [(sz + 0, .inl (E.2.2.1 12, 450, .inl (upd (upd (upd (wv1 i) i (sinTab i)) (180 - i) (sinTab i)) (180 + i) (-(sinTab i)))))]) (pc := 46) h dX10_sineWave_46 rfl rfl (by rintro (q | q); exact y2 q; rw [x2] at q; omega) (by rw [tn, x2, hs]; rfl) ?_
        refine w_aload_n (pc := 47) h dX10_sineWave_47 rfl ?_
        refine w_sipush (v := 360) (pc := 48) h dX10_sineWave_48 (by decide) ?_
        refine w_iload_n (pc := 51) h dX10_sineWave_51 rfl ?_
        refine w_isub (pc := 52) h dX10_sineWave_52 ?_
        refine w_gets (pc := 53) h dX10_sineWave_53 ?_
        refine w_iload_n (pc := 56) h dX10_sineWave_56 rfl ?_
        refine w_tald (pc := 57) h dX10_sineWave_57 (vinI (by omega) (by omega)) ?_
        refine w_ineg (pc := 58) h dX10_sineWave_58 ?_
        refine w_iast (k := 0) (ws2 := [(sz + 0, .inl (E.2.2.1 12, 450, .inl (wv1 (i + 1))))]) (pc := 59) h dX10_sineWave_59 rfl rfl (by rintro (q | q); exact y3 q; rw [x3] at q; omega) (by rw [tn, x3, hs]; rfl) ?_
        refine w_iinc (v := 1) (pc := 60) h dX10_sineWave_60 rfl (by decide) (by decide) ?_
        refine w_goto (pc := 63) h 8 dX10_sineWave_63 (by decide) ?_
        rw [← nI_succ i]
        exact w_at h [(0, .ref (sz + 0)), (1, .int (nI (i + 1)))] ⟨rfl, rfl, trivial⟩ (ih (i + 1) (by omega) (by omega))
  exact w_at h [(0, .ref (sz + 0)), (1, .int (nI 0))] ⟨rfl, rfl, trivial⟩ (loop8 92 0 (by omega) (by omega))
