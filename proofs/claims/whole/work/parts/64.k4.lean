/-! fill, take, the flights, the grass, the wave -/
theorem w_at {cc : ByteArray} {own : String} {nL : Nat} {R : Room} {E : En} {sn : SN} {sz : Nat} {mi : Bool} {g : WT} {ws : va_W} {n1 n2 : Nat} {lv : LV} {st : List Value} (h : Smw cc own nL R E sn sz mi g) {pc : Nat} (lv' : LV) (hs : lvs lv lv') (kk : g ws n1 n2 pc lv' st) : g ws n1 n2 pc lv st := w_to h lv' (lvs_mem hs) kk
theorem w_arr {cc : ByteArray} {own : String} {nL : Nat} {R : Room} {E : En} {sn : SN} {sz : Nat} {mi : Bool} {g : WT} {ws : va_W} {n1 n2 : Nat} {lv : LV} {st : List Value} (h : Smw cc own nL R E sn sz mi g) {pc k a n : Nat} {cA : ClassId} {f : Nat → Int32} (f2 : Nat → Int32) {ws2 : va_W} (k0 : k = k) (he : ws[k]? = some (a, .inl (cA, n, .inl f))) (hf : ∀ j, j < n → f j = f2 j) (hw2 : ws.set k (a, .inl (cA, n, .inl f2)) = ws2) (kk : g ws2 n1 n2 pc lv st) : g ws n1 n2 pc lv st := by
  obtain ⟨p, l, e, s, m, args, below, meth, c, A, Z, ⟨hx, hb, hml, hown, hts, hK, hN, hO, hX, hA, hz, hi0⟩, hg⟩ := h
  have kk := (hg _ _ _ _ _ _).mp kk
  refine (hg _ _ _ _ _ _).mpr (fun H locs ls hP hD hS hv => ?_)
  subst hw2
  refine kk H locs ls (hP.set hD he ?_ (fun _ _ => rfl)) (hD.set he) hS hv
  have h1 : H[a]? = some (vp_cell cA (n, .inl f)) := hP k _ he
  show H[a]? = some (vp_cell cA (n, .inl f2))
  rw [h1, vp_cell_i, vp_cell_i]
  unfold arrV
  refine congrArg (fun q => some ({ cls := cA, slots := q, vm := .none } : Cell)) ?_
  refine congrArg Array.ofFn (funext fun j => ?_)
  dsimp only
  rw [hf j.val j.isLt]
def fillV (n : Nat) (v : Int32) (f : Nat → Int32) (j : Nat) : Int32 := if j < n then v else f j
theorem fillV_step (i : Nat) (v : Int32) (f : Nat → Int32) : upd (fillV i v f) i v = fillV (i + 1) v f := by
  funext j
  by_cases e : j = i
  · subst e
    simp [upd, fillV]
  · by_cases h : j < i
    · simp [upd, fillV, e, h, Nat.lt_succ_of_lt h]
    · simp [upd, fillV, e, h, show ¬ j < i + 1 by omega]
set_option maxRecDepth 100000 in
set_option maxHeartbeats 1000000 in
theorem k_fill (E : En) (sn : SN) (a n : Nat) (f : Nat → Int32) (v : Int32) (hn : n ≤ 3000) : CtrC E sn yJ7_fill_53178 cJ7_fill_53178 4 none 1 0 0 [.ref a, .int v] [(a, .inl (E.2.2.1 12, n, .inl f))] (fun _ => none) (fun _ => [(a, .inl (E.2.2.1 12, n, .inl (fillV n v f)))]) := by
  refine CtrC.openV (by decide +kernel) (Nat.le_of_ble_eq_true rfl) (fun sz g h hr => ?_)
  have h : Smw cJ7_fill_53178 RJ7 4 (rmC 1 0 0) E sn sz false g := h
  have hr : RetC cJ7_fill_53178 0 0 _ g := hr
  show g [(a, .inl (E.2.2.1 12, n, .inl f))] 0 0 0 [(0, .ref a), (1, .int v)] []
  refine w_iconst (v := 0) (pc := 0) h dJ7_fill_53178_0 (by decide) ?_
  refine w_istore_n (pc := 1) h dJ7_fill_53178_1 (by decide) ?_
  refine w_aload_n (pc := 2) h dJ7_fill_53178_2 rfl ?_
  refine w_alen (k := 0) (v := nI n) (pc := 3) h dJ7_fill_53178_3 rfl rfl rfl ?_
  refine w_istore_n (pc := 4) h dJ7_fill_53178_4 (by decide) ?_
  have loop5 : ∀ (m i : Nat), i ≤ n → n + 1 ≤ i + m → g [(a, .inl (E.2.2.1 12, n, .inl (fillV i v f)))] 0 0 5 [(0, .ref a), (1, .int v), (2, .int (nI i)), (3, .int (nI n))] [] := by
    intro m
    induction m with
    | zero =>
      intro i h1 h2
      omega
    | succ m ih =>
      intro i hi him
      have ei := nI_tI (i := i) (by omega)
      refine w_iload_n (pc := 5) h dJ7_fill_53178_5 rfl ?_
      refine w_iload_n (pc := 6) h dJ7_fill_53178_6 rfl ?_
      refine w_icmp_ge (pc := 7) h 20 dJ7_fill_53178_7 (by decide) (fun c7 => ?_) (fun c7 => ?_)
      · have hge : i = n := by rw [Int32.le_iff_toInt_le, ei, nI_tI (by omega)] at c7; omega
        exact hr _ _ _ dJ7_fill_53178_20 (by rw [hge])
      · have hlt : i < n := by rw [Int32.le_iff_toInt_le, ei, nI_tI (by omega)] at c7; omega
        refine w_aload_n (pc := 10) h dJ7_fill_53178_10 rfl ?_
        refine w_iload_n (pc := 11) h dJ7_fill_53178_11 rfl ?_
        refine w_iload_n (pc := 12) h dJ7_fill_53178_12 rfl ?_
        refine w_iast (k := 0) (ws2 := [(a, .inl (E.2.2.1 12, n, .inl (fillV (i + 1) v f)))]) (pc := 13) h dJ7_fill_53178_13 rfl rfl (vinI hlt (by omega)) (by rw [nI_tn (by omega), fillV_step]; rfl) ?_
        refine w_iinc (v := 1) (pc := 14) h dJ7_fill_53178_14 rfl (by decide) (by decide) ?_
        refine w_goto (pc := 17) h 5 dJ7_fill_53178_17 (by decide) ?_
        rw [← nI_succ i]
        exact w_at h [(0, .ref a), (1, .int v), (2, .int (nI (i + 1))), (3, .int (nI n))] ⟨rfl, rfl, rfl, rfl, trivial⟩ (ih (i + 1) (by omega) (by omega))
  have h0 := loop5 (n + 1) 0 (by omega) (by omega)
  have e0 : fillV 0 v f = f := by funext j; simp [fillV]
  rw [e0] at h0
  exact w_at h [(0, .ref a), (1, .int v), (2, .int (nI 0)), (3, .int (nI n))] ⟨rfl, rfl, rfl, rfl, trivial⟩ h0
set_option maxRecDepth 100000 in
set_option maxHeartbeats 1000000 in
theorem k_take (E : En) (sn : SN) (a : Nat) (u0 u1 u2 u3 u4 u5 v0 v1 v2 v3 v4 v5 : Int32)  : CtrC E sn yX0_take cX0_take 7 none 1 0 0 [.ref a, .int v0, .int v1, .int v2, .int v3, .int v4, .int v5] [(a, .inr (0, [.int u0, .int u1, .int u2, .int u3, .int u4, .int u5]))] (fun _ => none) (fun sz => [(a, .inr (0, [.int v0, .int v1, .int v2, .int v3, .int v4, .int v5]))]) := by
  refine CtrC.openV (by decide) (Nat.le_of_ble_eq_true rfl) (fun sz g h hr => ?_)
  have h : Smw cX0_take RX0 7 (rmC 1 0 0) E sn sz false g := h
  have hr : RetC cX0_take 0 0 _ g := hr
  show g [(a, .inr (0, [.int u0, .int u1, .int u2, .int u3, .int u4, .int u5]))] 0 0 0 [(0, .ref a), (1, .int v0), (2, .int v1), (3, .int v2), (4, .int v3), (5, .int v4), (6, .int v5)] []
  refine w_aload_n (pc := 0) h dX0_take_0 rfl ?_
  refine w_iload_n (pc := 1) h dX0_take_1 rfl ?_
  refine w_put (ci := 0) (C := RX0) (T := TX0) (N := 6) (ty := .int) (k := 0) (pc := 2) h dX0_take_2 rfl tinX0 tyX0_ok nmX0 0 (by decide) wf_X0_15 rfl (by decide +kernel) rfl rfl rfl rfl (Nat.le_of_ble_eq_true rfl) rfl ?_
  refine w_aload_n (pc := 5) h dX0_take_5 rfl ?_
  refine w_iload_n (pc := 6) h dX0_take_6 rfl ?_
  refine w_put (ci := 0) (C := RX0) (T := TX0) (N := 6) (ty := .int) (k := 0) (pc := 7) h dX0_take_7 rfl tinX0 tyX0_ok nmX0 1 (by decide) wf_X0_18 rfl (by decide +kernel) rfl rfl rfl rfl (Nat.le_of_ble_eq_true rfl) rfl ?_
  refine w_aload_n (pc := 10) h dX0_take_10 rfl ?_
  refine w_iload_n (pc := 11) h dX0_take_11 rfl ?_
  refine w_put (ci := 0) (C := RX0) (T := TX0) (N := 6) (ty := .int) (k := 0) (pc := 12) h dX0_take_12 rfl tinX0 tyX0_ok nmX0 2 (by decide) wf_X0_21 rfl (by decide +kernel) rfl rfl rfl rfl (Nat.le_of_ble_eq_true rfl) rfl ?_
  refine w_aload_n (pc := 15) h dX0_take_15 rfl ?_
  refine w_iload (pc := 16) h dX0_take_16 rfl ?_
  refine w_put (ci := 0) (C := RX0) (T := TX0) (N := 6) (ty := .int) (k := 0) (pc := 18) h dX0_take_18 rfl tinX0 tyX0_ok nmX0 3 (by decide) wf_X0_24 rfl (by decide +kernel) rfl rfl rfl rfl (Nat.le_of_ble_eq_true rfl) rfl ?_
  refine w_aload_n (pc := 21) h dX0_take_21 rfl ?_
  refine w_iload (pc := 22) h dX0_take_22 rfl ?_
  refine w_put (ci := 0) (C := RX0) (T := TX0) (N := 6) (ty := .int) (k := 0) (pc := 24) h dX0_take_24 rfl tinX0 tyX0_ok nmX0 4 (by decide) wf_X0_27 rfl (by decide +kernel) rfl rfl rfl rfl (Nat.le_of_ble_eq_true rfl) rfl ?_
  refine w_aload_n (pc := 27) h dX0_take_27 rfl ?_
  refine w_iload (pc := 28) h dX0_take_28 rfl ?_
  refine w_put (ci := 0) (C := RX0) (T := TX0) (N := 6) (ty := .int) (k := 0) (pc := 30) h dX0_take_30 rfl tinX0 tyX0_ok nmX0 5 (by decide) wf_X0_9 rfl (by decide +kernel) rfl rfl rfl rfl (Nat.le_of_ble_eq_true rfl) rfl ?_
  exact hr _ _ _ dX0_take_33 rfl
set_option maxRecDepth 100000 in
set_option maxHeartbeats 1000000 in
theorem k_X1_initL (E : En) (sn : SN) (a b : Nat)  : CtrC E sn yX1_init cX1_init 3 none 1 1 3208 [.ref a, .ref b, .int 401] [(a, .inr (1, [.int 0, .int 0, .int 0, .int 0, .int 0, .int 0, .int 0, .int 0, .int 0, .int 0, .int 0, .null, .null]))] (fun _ => none) (fun sz => [(a, .inr (1, [.int 0, .int 0, .int 0, .int 0, .int 0, .int 0, .int 0, .int 0, .int 0, .int 0, .int (-4), .ref b, .ref (sz + 0)])), (sz + 0, .inl (E.2.2.1 12, 3208, .inl (fun _ => 0)))]) := by
  refine CtrC.openV (by decide) (Nat.le_of_ble_eq_true rfl) (fun sz g h hr => ?_)
  have h : Smw cX1_init RX1 3 (rmC 1 1 3208) E sn sz true g := h
  have hr : RetC cX1_init 1 3208 _ g := hr
  show g [(a, .inr (1, [.int 0, .int 0, .int 0, .int 0, .int 0, .int 0, .int 0, .int 0, .int 0, .int 0, .int 0, .null, .null]))] 0 0 0 [(0, .ref a), (1, .ref b), (2, .int 401)] []
  refine w_aload_n (pc := 0) h dX1_init_0 rfl ?_
  refine w_oi (pc := 1) h dX1_init_1 wo_X1 (Nat.le_of_ble_eq_true rfl) (Nat.le_of_ble_eq_true rfl) (Nat.le_of_ble_eq_true rfl) ?_
  refine w_aload_n (pc := 4) h dX1_init_4 rfl ?_
  refine w_iconst (v := 0) (pc := 5) h dX1_init_5 (by decide) ?_
  refine w_put (ci := 1) (C := RX1) (T := TX1) (N := 13) (ty := .int) (k := 0) (pc := 6) h dX1_init_6 rfl tinX1 tyX1_ok nmX1 8 (by decide) wf_X1_9 rfl (by decide +kernel) rfl rfl rfl rfl (Nat.le_of_ble_eq_true rfl) rfl ?_
  refine w_aload_n (pc := 9) h dX1_init_9 rfl ?_
  refine w_iconst (v := 0) (pc := 10) h dX1_init_10 (by decide) ?_
  refine w_put (ci := 1) (C := RX1) (T := TX1) (N := 13) (ty := .int) (k := 0) (pc := 11) h dX1_init_11 rfl tinX1 tyX1_ok nmX1 9 (by decide) wf_X1_15 rfl (by decide +kernel) rfl rfl rfl rfl (Nat.le_of_ble_eq_true rfl) rfl ?_
  refine w_aload_n (pc := 14) h dX1_init_14 rfl ?_
  refine w_bipush (v := -4) (pc := 15) h dX1_init_15 (by decide) ?_
  refine w_put (ci := 1) (C := RX1) (T := TX1) (N := 13) (ty := .int) (k := 0) (pc := 17) h dX1_init_17 rfl tinX1 tyX1_ok nmX1 10 (by decide) wf_X1_18 rfl (by decide +kernel) rfl rfl rfl rfl (Nat.le_of_ble_eq_true rfl) rfl ?_
  refine w_aload_n (pc := 20) h dX1_init_20 rfl ?_
  refine w_aload_n (pc := 21) h dX1_init_21 rfl ?_
  refine w_putF (ci := 1) (C := RX1) (T := TX1) (N := 13) (ty := (.array .int)) (k := 0) (pc := 22) h dX1_init_22 rfl tinX1 tyX1_ok nmX1 11 (by decide) wf_X1_21 rfl rfl rfl (by decide +kernel) rfl rfl rfl rfl (Nat.le_of_ble_eq_true rfl) rfl ?_
  refine w_aload_n (pc := 25) h dX1_init_25 rfl ?_
  refine w_iload_n (pc := 26) h dX1_init_26 rfl ?_
  refine w_bipush (v := 8) (pc := 27) h dX1_init_27 (by decide) ?_
  refine w_imul (pc := 29) h dX1_init_29 ?_
  refine w_newi (N := 3208) (pc := 30) h dX1_init_30 (by decide) (by decide) (by decide) ⟨(Nat.le_of_ble_eq_true rfl), (Nat.le_of_ble_eq_true rfl)⟩ (Or.inl rfl) rfl ?_
  refine w_putF (ci := 1) (C := RX1) (T := TX1) (N := 13) (ty := (.array .int)) (k := 0) (pc := 32) h dX1_init_32 rfl tinX1 tyX1_ok nmX1 12 (by decide) wf_X1_25 rfl rfl rfl (by decide +kernel) rfl rfl rfl rfl (Nat.le_of_ble_eq_true rfl) rfl ?_
  exact hr _ _ _ dX1_init_35 rfl
set_option maxRecDepth 100000 in
set_option maxHeartbeats 1000000 in
theorem k_X1_initS (E : En) (sn : SN) (a b : Nat)  : CtrC E sn yX1_init cX1_init 3 none 1 1 0 [.ref a, .ref b, .int 0] [(a, .inr (1, [.int 0, .int 0, .int 0, .int 0, .int 0, .int 0, .int 0, .int 0, .int 0, .int 0, .int 0, .null, .null]))] (fun _ => none) (fun sz => [(a, .inr (1, [.int 0, .int 0, .int 0, .int 0, .int 0, .int 0, .int 0, .int 0, .int 0, .int 0, .int (-4), .ref b, .ref (sz + 0)])), (sz + 0, .inl (E.2.2.1 12, 0, .inl (fun _ => 0)))]) := by
  refine CtrC.openV (by decide) (Nat.le_of_ble_eq_true rfl) (fun sz g h hr => ?_)
  have h : Smw cX1_init RX1 3 (rmC 1 1 0) E sn sz true g := h
  have hr : RetC cX1_init 1 0 _ g := hr
  show g [(a, .inr (1, [.int 0, .int 0, .int 0, .int 0, .int 0, .int 0, .int 0, .int 0, .int 0, .int 0, .int 0, .null, .null]))] 0 0 0 [(0, .ref a), (1, .ref b), (2, .int 0)] []
  refine w_aload_n (pc := 0) h dX1_init_0 rfl ?_
  refine w_oi (pc := 1) h dX1_init_1 wo_X1 (Nat.le_of_ble_eq_true rfl) (Nat.le_of_ble_eq_true rfl) (Nat.le_of_ble_eq_true rfl) ?_
  refine w_aload_n (pc := 4) h dX1_init_4 rfl ?_
  refine w_iconst (v := 0) (pc := 5) h dX1_init_5 (by decide) ?_
  refine w_put (ci := 1) (C := RX1) (T := TX1) (N := 13) (ty := .int) (k := 0) (pc := 6) h dX1_init_6 rfl tinX1 tyX1_ok nmX1 8 (by decide) wf_X1_9 rfl (by decide +kernel) rfl rfl rfl rfl (Nat.le_of_ble_eq_true rfl) rfl ?_
  refine w_aload_n (pc := 9) h dX1_init_9 rfl ?_
  refine w_iconst (v := 0) (pc := 10) h dX1_init_10 (by decide) ?_
  refine w_put (ci := 1) (C := RX1) (T := TX1) (N := 13) (ty := .int) (k := 0) (pc := 11) h dX1_init_11 rfl tinX1 tyX1_ok nmX1 9 (by decide) wf_X1_15 rfl (by decide +kernel) rfl rfl rfl rfl (Nat.le_of_ble_eq_true rfl) rfl ?_
  refine w_aload_n (pc := 14) h dX1_init_14 rfl ?_
  refine w_bipush (v := -4) (pc := 15) h dX1_init_15 (by decide) ?_
  refine w_put (ci := 1) (C := RX1) (T := TX1) (N := 13) (ty := .int) (k := 0) (pc := 17) h dX1_init_17 rfl tinX1 tyX1_ok nmX1 10 (by decide) wf_X1_18 rfl (by decide +kernel) rfl rfl rfl rfl (Nat.le_of_ble_eq_true rfl) rfl ?_
  refine w_aload_n (pc := 20) h dX1_init_20 rfl ?_
  refine w_aload_n (pc := 21) h dX1_init_21 rfl ?_
  refine w_putF (ci := 1) (C := RX1) (T := TX1) (N := 13) (ty := (.array .int)) (k := 0) (pc := 22) h dX1_init_22 rfl tinX1 tyX1_ok nmX1 11 (by decide) wf_X1_21 rfl rfl rfl (by decide +kernel) rfl rfl rfl rfl (Nat.le_of_ble_eq_true rfl) rfl ?_
  refine w_aload_n (pc := 25) h dX1_init_25 rfl ?_
  refine w_iload_n (pc := 26) h dX1_init_26 rfl ?_
  refine w_bipush (v := 8) (pc := 27) h dX1_init_27 (by decide) ?_
  refine w_imul (pc := 29) h dX1_init_29 ?_
  refine w_newi (N := 0) (pc := 30) h dX1_init_30 (by decide) (by decide) (by decide) ⟨(Nat.le_of_ble_eq_true rfl), (Nat.le_of_ble_eq_true rfl)⟩ (Or.inl rfl) rfl ?_
  refine w_putF (ci := 1) (C := RX1) (T := TX1) (N := 13) (ty := (.array .int)) (k := 0) (pc := 32) h dX1_init_32 rfl tinX1 tyX1_ok nmX1 12 (by decide) wf_X1_25 rfl rfl rfl (by decide +kernel) rfl rfl rfl rfl (Nat.le_of_ble_eq_true rfl) rfl ?_
  exact hr _ _ _ dX1_init_35 rfl
