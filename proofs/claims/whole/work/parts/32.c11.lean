/-! take, at, ticks, hit, chosen, keep, match, style of both -/
abbrev styP (l a st sp : Int32) : Prop := (0 ≤ l.toInt ∧ l.toInt ≤ 90) ∧ (0 ≤ a.toInt ∧ a.toInt ≤ 359) ∧ (30 ≤ st.toInt ∧ st.toInt ≤ 250) ∧ (100 ≤ sp.toInt ∧ sp.toInt ≤ 1000)
abbrev thrF (I : Mem) (s l a st sp w : Int32) : Prop := isS s (I 0 2) ∧ styP l a st sp ∧ (w.toInt = -1 ∨ isS w (I 0 4))
abbrev thrR (I : Mem) (s l a st sp w : Int32) : Prop := isS s (I 151 1) ∧ styP l a st sp ∧ (-1 ≤ w.toInt ∧ w.toInt < (I 151 10).toInt)
def takeM (I : Mem) (k : Nat) (s l a st sp w : Int32) : Mem := upm (upm (upm (upm (upm (upm I k 0 s) k 1 l) k 2 a) k 3 st) k 4 sp) k 5 w
theorem takeM_ne (I : Mem) {k x : Nat} (s l a st sp w : Int32) (h : x ≠ k) : takeM I k s l a st sp w x = I x := by
  unfold takeM
  rw [upm_ne _ _ _ h, upm_ne _ _ _ h, upm_ne _ _ _ h, upm_ne _ _ _ h, upm_ne _ _ _ h, upm_ne _ _ _ h]
def F_at (I : Mem) (t w : Int32) : Int32 := if ¬ I 15 9 = 0 ∧ (0 ≤ t.toInt ∧ t.toInt ≤ (I 15 8).toInt) ∧ (0 ≤ w.toInt ∧ w.toInt ≤ 7) then I 16 (8 * t.toNatClampNeg + w.toNatClampNeg) else -100001
def R_at (I : Mem) (t w : Int32) : Int32 := if ¬ I 151 25 = 0 ∧ (0 ≤ t.toInt ∧ t.toInt ≤ (I 151 23).toInt) ∧ (0 ≤ w.toInt ∧ w.toInt ≤ 7) then I 168 (8 * t.toNatClampNeg + w.toNatClampNeg) else -100001
def F_chosen (I : Mem) (w : Int32) : Int32 := if ¬ I 0 11 = 0 ∧ (0 ≤ w.toInt ∧ w.toInt ≤ 3) then I 20 w.toNatClampNeg else -1
def R_chosen (I : Mem) (w : Int32) : Int32 := if ¬ I 151 28 = 0 ∧ (0 ≤ w.toInt ∧ w.toInt ≤ 3) then I 169 w.toNatClampNeg else -1
def F_keep (I : Mem) (wh s l a st sp w : Int32) : Int32 × Mem := if (0 ≤ wh.toInt ∧ wh.toInt ≤ 1) ∧ thrF I s l a st sp w then (1, upm (takeM I (22 + wh.toNatClampNeg) s l a st sp w) 24 wh.toNatClampNeg 1) else (-1, I)
def F_match (I : Mem) (i w : Int32) : Int32 × Mem := if (0 ≤ i.toInt ∧ i.toInt ≤ 4) ∧ (w.toInt = -2 ∨ w.toInt = -1 ∨ isS w (I 0 4)) then (I 26 i.toNatClampNeg, upm I 26 i.toNatClampNeg w) else (-11, I)
def R_match (I : Mem) (i w : Int32) : Int32 × Mem := if (0 ≤ i.toInt ∧ i.toInt ≤ 4) ∧ (-2 ≤ w.toInt ∧ w.toInt < (I 151 10).toInt) then (I 172 i.toNatClampNeg, upm I 172 i.toNatClampNeg w) else (-11, I)
def F_style (I : Mem) (l a st sp : Int32) : Int32 × Mem := if styP l a st sp then (1, takeM I 27 0 l a st sp (-1)) else (-1, I)
def R_style (I : Mem) (l a st sp : Int32) : Int32 × Mem := if styP l a st sp then (1, upm (upm (upm (upm I 151 32 l) 151 33 a) 151 34 st) 151 35 sp) else (-1, I)
theorem m8v {x y : Int32} (h : 0 ≤ x.toInt ∧ x.toInt ≤ 400) (hy : 0 ≤ y.toInt ∧ y.toInt ≤ 7) : (8 * x + y).toInt = 8 * x.toInt + y.toInt ∧ (8 * x + y).toNatClampNeg = 8 * x.toNatClampNeg + y.toNatClampNeg := by
  have hn := m8n (x := x) (i := y.toNatClampNeg) h.1 h.2 (by rw [tn]; omega)
  rw [nI_ofx hy.1] at hn
  refine ⟨?_, hn.2⟩
  rw [hn.1, tnI y hy.1]
theorem m8w {x y : Int32} (h : 0 ≤ x.toInt ∧ x.toInt ≤ 400) (hy : 0 ≤ y.toInt ∧ y.toInt ≤ 7) : (x * 8 + y).toInt = 8 * x.toInt + y.toInt ∧ (x * 8 + y).toNatClampNeg = 8 * x.toNatClampNeg + y.toNatClampNeg := by
  have hn := m8y (x := x) (y := y) (m := y.toNatClampNeg) h (tnI y hy.1).symm (by rw [tn]; omega)
  refine ⟨?_, hn.2⟩
  rw [hn.1, tnI y hy.1]
set_option maxRecDepth 100000 in
set_option maxHeartbeats 4000000 in
theorem c_X0_take (E : En) (I : Mem) (k : Nat) (s : Int32) (l : Int32) (a : Int32) (st : Int32) (sp : Int32) (w : Int32) (hk : k < 184) (hkd : kd k = 0) : Ctr E yX0_take cX0_take 7 none 1 [.ref (E.1 k), .int s, .int l, .int a, .int st, .int sp, .int w] I (qV (fun I1 : Mem => I1 = takeM I k s l a st sp w)) := by
  refine Ctr.openV (by decide) (Nat.le_of_ble_eq_true rfl) (fun g h hr => ?_)
  have h : Sem cX0_take RX0 7 (rmL 1) E g := h
  show g I 0 [(0, .ref (E.1 k)), (1, .int s), (2, .int l), (3, .int a), (4, .int st), (5, .int sp), (6, .int w)] []
  refine r_aload_n (pc := 0) h dX0_take_0 rfl ?_
  refine r_iload_n (pc := 1) h dX0_take_1 rfl ?_
  refine pf_X0_15 (pc := 2) h dX0_take_2 hk hkd ?_
  refine r_aload_n (pc := 5) h dX0_take_5 rfl ?_
  refine r_iload_n (pc := 6) h dX0_take_6 rfl ?_
  refine pf_X0_18 (pc := 7) h dX0_take_7 hk hkd ?_
  refine r_aload_n (pc := 10) h dX0_take_10 rfl ?_
  refine r_iload_n (pc := 11) h dX0_take_11 rfl ?_
  refine pf_X0_21 (pc := 12) h dX0_take_12 hk hkd ?_
  refine r_aload_n (pc := 15) h dX0_take_15 rfl ?_
  refine r_iload (pc := 16) h dX0_take_16 rfl ?_
  refine pf_X0_24 (pc := 18) h dX0_take_18 hk hkd ?_
  refine r_aload_n (pc := 21) h dX0_take_21 rfl ?_
  refine r_iload (pc := 22) h dX0_take_22 rfl ?_
  refine pf_X0_27 (pc := 24) h dX0_take_24 hk hkd ?_
  refine r_aload_n (pc := 27) h dX0_take_27 rfl ?_
  refine r_iload (pc := 28) h dX0_take_28 rfl ?_
  refine pf_X0_9 (pc := 30) h dX0_take_30 hk hkd ?_
  exact hr _ _ _ dX0_take_33 (rfl)
set_option maxRecDepth 100000 in
set_option maxHeartbeats 4000000 in
theorem c_X10_ticks (E : En) (I : Mem)   : Ctr E yX10_ticks cX10_ticks 1 (some .int) 1 [.ref (E.1 0)] I (qI (fun (r : Int32) (I1 : Mem) => r = I 15 8 ∧ I = I1)) := by
  refine Ctr.openI (by decide) (Nat.le_of_ble_eq_true rfl) (fun g h hr => ?_)
  have h : Sem cX10_ticks RX10 1 (rmL 1) E g := h
  show g I 0 [(0, .ref (E.1 0))] []
  refine r_aload_n (pc := 0) h dX10_ticks_0 rfl ?_
  refine gf_X10_53 (pc := 1) h dX10_ticks_1 ?_
  refine gf_X10_204 (pc := 4) h dX10_ticks_4 (by decide) (by decide) ?_
  exact hr _ _ _ _ dX10_ticks_7 (rfl) (⟨rfl, rfl⟩)
set_option maxRecDepth 100000 in
set_option maxHeartbeats 4000000 in
theorem c_X10_hit (E : En) (I : Mem)   : Ctr E yX10_hit cX10_hit 1 (some .int) 1 [.ref (E.1 0)] I (qI (fun (r : Int32) (I1 : Mem) => r = I 15 10 ∧ I = I1)) := by
  refine Ctr.openI (by decide) (Nat.le_of_ble_eq_true rfl) (fun g h hr => ?_)
  have h : Sem cX10_hit RX10 1 (rmL 1) E g := h
  show g I 0 [(0, .ref (E.1 0))] []
  refine r_aload_n (pc := 0) h dX10_hit_0 rfl ?_
  refine gf_X10_53 (pc := 1) h dX10_hit_1 ?_
  refine gf_X10_207 (pc := 4) h dX10_hit_4 (by decide) (by decide) ?_
  exact hr _ _ _ _ dX10_hit_7 (rfl) (⟨rfl, rfl⟩)
set_option maxRecDepth 100000 in
set_option maxHeartbeats 4000000 in
theorem c_X11_ticks (E : En) (I : Mem)   : Ctr E yX11_ticks cX11_ticks 1 (some .int) 1 [.ref (E.1 151)] I (qI (fun (r : Int32) (I1 : Mem) => r = I 151 23 ∧ I = I1)) := by
  refine Ctr.openI (by decide) (Nat.le_of_ble_eq_true rfl) (fun g h hr => ?_)
  have h : Sem cX11_ticks RX11 1 (rmL 1) E g := h
  show g I 0 [(0, .ref (E.1 151))] []
  refine r_aload_n (pc := 0) h dX11_ticks_0 rfl ?_
  refine gf_X11_243 (pc := 1) h dX11_ticks_1 ?_
  exact hr _ _ _ _ dX11_ticks_4 (rfl) (⟨rfl, rfl⟩)
set_option maxRecDepth 100000 in
set_option maxHeartbeats 4000000 in
theorem c_X11_hit (E : En) (I : Mem)   : Ctr E yX11_hit cX11_hit 1 (some .int) 1 [.ref (E.1 151)] I (qI (fun (r : Int32) (I1 : Mem) => r = I 151 24 ∧ I = I1)) := by
  refine Ctr.openI (by decide) (Nat.le_of_ble_eq_true rfl) (fun g h hr => ?_)
  have h : Sem cX11_hit RX11 1 (rmL 1) E g := h
  show g I 0 [(0, .ref (E.1 151))] []
  refine r_aload_n (pc := 0) h dX11_hit_0 rfl ?_
  refine gf_X11_63 (pc := 1) h dX11_hit_1 ?_
  exact hr _ _ _ _ dX11_hit_4 (rfl) (⟨rfl, rfl⟩)
set_option maxRecDepth 100000 in
set_option maxHeartbeats 4000000 in
theorem c_X10_wasInLatest (E : En) (I : Mem) (t : Int32)  : Ctr E yX10_wasInLatest cX10_wasInLatest 2 (some .boolean) 2 [.ref (E.1 0), .int t] I (qI (fun (r : Int32) (I1 : Mem) => r = b2i (¬ I 15 9 = 0 ∧ (0 ≤ t.toInt ∧ t.toInt ≤ (I 15 8).toInt)) ∧ I = I1)) := by
  refine Ctr.openI (by decide) (Nat.le_of_ble_eq_true rfl) (fun g h hr => ?_)
  have h : Sem cX10_wasInLatest RX10 2 (rmL 2) E g := h
  show g I 0 [(0, .ref (E.1 0)), (1, .int t)] []
  refine r_aload_n (pc := 0) h dX10_wasInLatest_0 rfl ?_
  refine gf_X10_53 (pc := 1) h dX10_wasInLatest_1 ?_
  refine gf_X10_363 (pc := 4) h dX10_wasInLatest_4 (by decide) (by decide) ?_
  refine r_if_eq (pc := 7) h 29 dX10_wasInLatest_7 (by decide) (fun c7 => ?_) (fun c7 => ?_)
  · refine r_iconst (v := 0) (pc := 29) h dX10_wasInLatest_29 (by decide) ?_
    exact hr _ _ _ _ dX10_wasInLatest_30 (by first | rfl | decide | exact b2i_nar) (⟨by first | (rw [eq1_b2i]; refine ⟨c7, ?_⟩; (try simp only [b2i_eq0] at *); (try simp only [Int32.reduceToInt, Int64.reduceToInt, Int32.toInt_toInt64] at *); omega) | (rw [eq0_b2i]; intro q; have q2 := q.2; first | exact q.1 c7 | ((try simp only [b2i_eq0] at *); (try simp only [Int32.reduceToInt, Int64.reduceToInt, Int32.toInt_toInt64] at *); omega)), rfl⟩)
  · refine r_iload_n (pc := 10) h dX10_wasInLatest_10 rfl ?_
    refine r_iconst (v := 0) (pc := 11) h dX10_wasInLatest_11 (by decide) ?_
    refine r_aload_n (pc := 12) h dX10_wasInLatest_12 rfl ?_
    refine gf_X10_53 (pc := 13) h dX10_wasInLatest_13 ?_
    refine gf_X10_204 (pc := 16) h dX10_wasInLatest_16 (by decide) (by decide) ?_
    refine r_callSI (pc := 19) h dX10_wasInLatest_19 wm_X10_118 ca_X10_within (c_X10_within E _ _ _ _) rfl rfl (Nat.le_of_ble_eq_true rfl) (by decide) (fun r I1 hq => ?_)
    obtain ⟨rfl, rfl⟩ := hq
    refine r_if_eq (pc := 22) h 29 dX10_wasInLatest_22 (by decide) (fun c22 => ?_) (fun c22 => ?_)
    · refine r_iconst (v := 0) (pc := 29) h dX10_wasInLatest_29 (by decide) ?_
      exact hr _ _ _ _ dX10_wasInLatest_30 (by first | rfl | decide | exact b2i_nar) (⟨by first | (rw [eq1_b2i]; refine ⟨c7, ?_⟩; (try simp only [b2i_eq0] at *); (try simp only [Int32.reduceToInt, Int64.reduceToInt, Int32.toInt_toInt64] at *); omega) | (rw [eq0_b2i]; intro q; have q2 := q.2; first | exact q.1 c7 | ((try simp only [b2i_eq0] at *); (try simp only [Int32.reduceToInt, Int64.reduceToInt, Int32.toInt_toInt64] at *); omega)), rfl⟩)
    · refine r_iconst (v := 1) (pc := 25) h dX10_wasInLatest_25 (by decide) ?_
      refine r_goto (pc := 26) h 30 dX10_wasInLatest_26 (by decide) ?_
      exact hr _ _ _ _ dX10_wasInLatest_30 (by first | rfl | decide | exact b2i_nar) (⟨by first | (rw [eq1_b2i]; refine ⟨c7, ?_⟩; (try simp only [b2i_eq0] at *); (try simp only [Int32.reduceToInt, Int64.reduceToInt, Int32.toInt_toInt64] at *); omega) | (rw [eq0_b2i]; intro q; have q2 := q.2; first | exact q.1 c7 | ((try simp only [b2i_eq0] at *); (try simp only [Int32.reduceToInt, Int64.reduceToInt, Int32.toInt_toInt64] at *); omega)), rfl⟩)
set_option maxRecDepth 100000 in
set_option maxHeartbeats 4000000 in
theorem c_X1_partAt (E : En) (I : Mem) (t : Int32) (w : Int32) (ht : 0 ≤ t.toInt ∧ t.toInt ≤ 400) (hw : 0 ≤ w.toInt ∧ w.toInt ≤ 7) : Ctr E yX1_partAt cX1_partAt 3 (some .int) 1 [.ref (E.1 15), .int t, .int w] I (qI (fun (r : Int32) (I1 : Mem) => r = I 16 (8 * t.toNatClampNeg + w.toNatClampNeg) ∧ I = I1)) := by
  refine Ctr.openI (by decide) (Nat.le_of_ble_eq_true rfl) (fun g h hr => ?_)
  have h : Sem cX1_partAt RX1 3 (rmL 1) E g := h
  show g I 0 [(0, .ref (E.1 15)), (1, .int t), (2, .int w)] []
  refine r_aload_n (pc := 0) h dX1_partAt_0 rfl ?_
  refine gf_X1_25 (pc := 1) h dX1_partAt_1 (by decide) (by decide) (show rf 15 12 = 16 by decide) ?_
  refine r_iload_n (pc := 4) h dX1_partAt_4 rfl ?_
  refine r_bipush (v := 8) (pc := 5) h dX1_partAt_5 (by decide) ?_
  refine r_imul (pc := 7) h dX1_partAt_7 ?_
  refine r_iload_n (pc := 8) h dX1_partAt_8 rfl ?_
  refine r_iadd (pc := 9) h dX1_partAt_9 ?_
  refine r_ialdL (j := 8 * t.toNatClampNeg + w.toNatClampNeg) (pc := 10) h dX1_partAt_10 (by decide) (by decide) ((m8w ht hw).2) (vin (n := 3208) (by rw [(m8w ht hw).1]; omega) (by rw [(m8w ht hw).1]; omega)) ?_
  exact hr _ _ _ _ dX1_partAt_11 (rfl) (⟨rfl, rfl⟩)
set_option maxRecDepth 100000 in
set_option maxHeartbeats 4000000 in
theorem c_X10_at (E : En) (I : Mem) (t : Int32) (w : Int32) (h4 : (I 15 8).toInt ≤ 400) : Ctr E yX10_at cX10_at 3 (some .int) 3 [.ref (E.1 0), .int t, .int w] I (qI (fun (r : Int32) (I1 : Mem) => r = F_at I t w ∧ I = I1)) := by
  refine Ctr.openI (by decide) (Nat.le_of_ble_eq_true rfl) (fun g h hr => ?_)
  have h : Sem cX10_at RX10 3 (rmL 3) E g := h
  show g I 0 [(0, .ref (E.1 0)), (1, .int t), (2, .int w)] []
  refine r_aload_n (pc := 0) h dX10_at_0 rfl ?_
  refine r_iload_n (pc := 1) h dX10_at_1 rfl ?_
  refine r_callVI (ci := 10) (pc := 2) h dX10_at_2 wm_X10_196 ca_X10_wasInLatest rfl (c_X10_wasInLatest E _ _) rfl rfl (Nat.le_of_ble_eq_true rfl) (by decide) (by decide) (by decide) (by decide) (fun r I1 hq => ?_)
  obtain ⟨rfl, rfl⟩ := hq
  refine r_if_eq (pc := 5) h 18 dX10_at_5 (by decide) (fun c5 => ?_) (fun c5 => ?_)
  · refine r_ldc (pc := 18) h dX10_at_18 wc_X10_199 ?_
    exact hr _ _ _ _ dX10_at_20 (rfl) (⟨by unfold F_at; rw [if_neg (by intro q; obtain ⟨q1, q2, q3⟩ := q; first | exact (b2i_eq0.mp c5) ⟨q1, q2⟩ | ((try simp only [b2i_eq0] at *); (try simp only [Int32.reduceToInt, Int64.reduceToInt, Int32.toInt_toInt64] at *); omega))], rfl⟩)
  · refine r_iload_n (pc := 8) h dX10_at_8 rfl ?_
    refine r_iconst (v := 0) (pc := 9) h dX10_at_9 (by decide) ?_
    refine r_bipush (v := 7) (pc := 10) h dX10_at_10 (by decide) ?_
    refine r_callSI (pc := 12) h dX10_at_12 wm_X10_118 ca_X10_within (c_X10_within E _ _ _ _) rfl rfl (Nat.le_of_ble_eq_true rfl) (by decide) (fun r I1 hq => ?_)
    obtain ⟨rfl, rfl⟩ := hq
    refine r_if_ne (pc := 15) h 21 dX10_at_15 (by decide) (fun c15 => ?_) (fun c15 => ?_)
    · have hv : ¬ I 15 9 = 0 ∧ (0 ≤ t.toInt ∧ t.toInt ≤ (I 15 8).toInt) := by
        simp only [b2i_eq0, Classical.not_not] at c5
        exact c5
      have hv2 : 0 ≤ w.toInt ∧ w.toInt ≤ 7 := by (try simp only [b2i_eq0] at *); (try simp only [Int32.reduceToInt, Int64.reduceToInt, Int32.toInt_toInt64] at *); omega
      refine r_aload_n (pc := 21) h dX10_at_21 rfl ?_
      refine gf_X10_53 (pc := 22) h dX10_at_22 ?_
      refine r_iload_n (pc := 25) h dX10_at_25 rfl ?_
      refine r_iload_n (pc := 26) h dX10_at_26 rfl ?_
      refine r_callVI (ci := 1) (pc := 27) h dX10_at_27 wm_X10_200 ca_X1_partAt rfl (c_X1_partAt E _ _ _ ⟨hv.2.1, by omega⟩ hv2) rfl rfl (Nat.le_of_ble_eq_true rfl) (by decide) (by decide) (by decide) (by decide) (fun r I1 hq => ?_)
      obtain ⟨rfl, rfl⟩ := hq
      exact hr _ _ _ _ dX10_at_30 (rfl) (⟨by unfold F_at; rw [if_pos ⟨hv.1, hv.2, hv2⟩], rfl⟩)
    · refine r_ldc (pc := 18) h dX10_at_18 wc_X10_199 ?_
      exact hr _ _ _ _ dX10_at_20 (rfl) (⟨by unfold F_at; rw [if_neg (by intro q; obtain ⟨q1, q2, q3⟩ := q; first | exact (b2i_eq0.mp c5) ⟨q1, q2⟩ | ((try simp only [b2i_eq0] at *); (try simp only [Int32.reduceToInt, Int64.reduceToInt, Int32.toInt_toInt64] at *); omega))], rfl⟩)
set_option maxRecDepth 100000 in
set_option maxHeartbeats 4000000 in
theorem c_X11_at (E : En) (I : Mem) (t : Int32) (w : Int32) (h4 : (I 151 23).toInt ≤ 400) : Ctr E yX11_at cX11_at 3 (some .int) 2 [.ref (E.1 151), .int t, .int w] I (qI (fun (r : Int32) (I1 : Mem) => r = R_at I t w ∧ I = I1)) := by
  refine Ctr.openI (by decide) (Nat.le_of_ble_eq_true rfl) (fun g h hr => ?_)
  have h : Sem cX11_at RX11 3 (rmL 2) E g := h
  show g I 0 [(0, .ref (E.1 151)), (1, .int t), (2, .int w)] []
  refine r_aload_n (pc := 0) h dX11_at_0 rfl ?_
  refine gf_X11_240 (pc := 1) h dX11_at_1 ?_
  refine r_if_eq (pc := 4) h 47 dX11_at_4 (by decide) (fun c4 => ?_) (fun c4 => ?_)
  · refine r_ldc (pc := 47) h dX11_at_47 wc_X11_248 ?_
    exact hr _ _ _ _ dX11_at_49 (rfl) (⟨by unfold R_at; first | (rw [if_pos ⟨by assumption, by (try simp only [b2i_eq0] at *); (try simp only [Int32.reduceToInt, Int64.reduceToInt, Int32.toInt_toInt64] at *); omega, by (try simp only [b2i_eq0] at *); (try simp only [Int32.reduceToInt, Int64.reduceToInt, Int32.toInt_toInt64] at *); omega⟩]; done) | rw [if_neg (by intro q; obtain ⟨q1, q2, q3⟩ := q; first | exact q1 c4 | ((try simp only [b2i_eq0] at *); (try simp only [Int32.reduceToInt, Int64.reduceToInt, Int32.toInt_toInt64] at *); omega))], rfl⟩)
  · refine r_iload_n (pc := 7) h dX11_at_7 rfl ?_
    refine r_i2l (pc := 8) h dX11_at_8 ?_
    refine r_lconst (v := 0) (pc := 9) h dX11_at_9 (by decide) ?_
    refine r_aload_n (pc := 10) h dX11_at_10 rfl ?_
    refine gf_X11_243 (pc := 11) h dX11_at_11 ?_
    refine r_i2l (pc := 14) h dX11_at_14 ?_
    refine r_callSI (pc := 15) h dX11_at_15 wm_X11_127 ca_X11_in (c_X11_in E _ _ _ _) rfl rfl (Nat.le_of_ble_eq_true rfl) (by decide) (fun r I1 hq => ?_)
    obtain ⟨rfl, rfl⟩ := hq
    refine r_if_eq (pc := 18) h 47 dX11_at_18 (by decide) (fun c18 => ?_) (fun c18 => ?_)
    · refine r_ldc (pc := 47) h dX11_at_47 wc_X11_248 ?_
      exact hr _ _ _ _ dX11_at_49 (rfl) (⟨by unfold R_at; first | (rw [if_pos ⟨by assumption, by (try simp only [b2i_eq0] at *); (try simp only [Int32.reduceToInt, Int64.reduceToInt, Int32.toInt_toInt64] at *); omega, by (try simp only [b2i_eq0] at *); (try simp only [Int32.reduceToInt, Int64.reduceToInt, Int32.toInt_toInt64] at *); omega⟩]; done) | rw [if_neg (by intro q; obtain ⟨q1, q2, q3⟩ := q; first | exact q1 c4 | ((try simp only [b2i_eq0] at *); (try simp only [Int32.reduceToInt, Int64.reduceToInt, Int32.toInt_toInt64] at *); omega))], rfl⟩)
    · refine r_iload_n (pc := 21) h dX11_at_21 rfl ?_
      refine r_i2l (pc := 22) h dX11_at_22 ?_
      refine r_lconst (v := 0) (pc := 23) h dX11_at_23 (by decide) ?_
      refine r_ldc2 (pc := 24) h dX11_at_24 wc_X11_246 ?_
      refine r_callSI (pc := 27) h dX11_at_27 wm_X11_127 ca_X11_in (c_X11_in E _ _ _ _) rfl rfl (Nat.le_of_ble_eq_true rfl) (by decide) (fun r I1 hq => ?_)
      obtain ⟨rfl, rfl⟩ := hq
      refine r_if_eq (pc := 30) h 47 dX11_at_30 (by decide) (fun c30 => ?_) (fun c30 => ?_)
      · refine r_ldc (pc := 47) h dX11_at_47 wc_X11_248 ?_
        exact hr _ _ _ _ dX11_at_49 (rfl) (⟨by unfold R_at; first | (rw [if_pos ⟨by assumption, by (try simp only [b2i_eq0] at *); (try simp only [Int32.reduceToInt, Int64.reduceToInt, Int32.toInt_toInt64] at *); omega, by (try simp only [b2i_eq0] at *); (try simp only [Int32.reduceToInt, Int64.reduceToInt, Int32.toInt_toInt64] at *); omega⟩]; done) | rw [if_neg (by intro q; obtain ⟨q1, q2, q3⟩ := q; first | exact q1 c4 | ((try simp only [b2i_eq0] at *); (try simp only [Int32.reduceToInt, Int64.reduceToInt, Int32.toInt_toInt64] at *); omega))], rfl⟩)
      · have hv : 0 ≤ t.toInt ∧ t.toInt ≤ (I 151 23).toInt := by (try simp only [b2i_eq0] at *); (try simp only [Int32.reduceToInt, Int64.reduceToInt, Int32.toInt_toInt64] at *); omega
        have hv2 : 0 ≤ w.toInt ∧ w.toInt ≤ 7 := by (try simp only [b2i_eq0] at *); (try simp only [Int32.reduceToInt, Int64.reduceToInt, Int32.toInt_toInt64] at *); omega
        have hv3 : 0 ≤ t.toInt ∧ t.toInt ≤ 400 := by omega
        refine r_aload_n (pc := 33) h dX11_at_33 rfl ?_
        refine gf_X11_66 (pc := 34) h dX11_at_34 ?_
        refine r_bipush (v := 8) (pc := 37) h dX11_at_37 (by decide) ?_
        refine r_iload_n (pc := 39) h dX11_at_39 rfl ?_
        refine r_imul (pc := 40) h dX11_at_40 ?_
        refine r_iload_n (pc := 41) h dX11_at_41 rfl ?_
        refine r_iadd (pc := 42) h dX11_at_42 ?_
        refine r_ialdL (j := 8 * t.toNatClampNeg + w.toNatClampNeg) (pc := 43) h dX11_at_43 (by decide) (by decide) ((m8v hv3 hv2).2) (vin (n := 3208) (by rw [(m8v hv3 hv2).1]; omega) (by rw [(m8v hv3 hv2).1]; omega)) ?_
        refine r_goto (pc := 44) h 49 dX11_at_44 (by decide) ?_
        exact hr _ _ _ _ dX11_at_49 (rfl) (⟨by unfold R_at; first | (rw [if_pos ⟨by assumption, by (try simp only [b2i_eq0] at *); (try simp only [Int32.reduceToInt, Int64.reduceToInt, Int32.toInt_toInt64] at *); omega, by (try simp only [b2i_eq0] at *); (try simp only [Int32.reduceToInt, Int64.reduceToInt, Int32.toInt_toInt64] at *); omega⟩]; done) | rw [if_neg (by intro q; obtain ⟨q1, q2, q3⟩ := q; first | exact q1 c4 | ((try simp only [b2i_eq0] at *); (try simp only [Int32.reduceToInt, Int64.reduceToInt, Int32.toInt_toInt64] at *); omega))], rfl⟩)
set_option maxRecDepth 100000 in
set_option maxHeartbeats 4000000 in
theorem c_X10_chosen (E : En) (I : Mem) (w : Int32)  : Ctr E yX10_chosen cX10_chosen 2 (some .int) 2 [.ref (E.1 0), .int w] I (qI (fun (r : Int32) (I1 : Mem) => r = F_chosen I w ∧ I = I1)) := by
  refine Ctr.openI (by decide) (Nat.le_of_ble_eq_true rfl) (fun g h hr => ?_)
  have h : Sem cX10_chosen RX10 2 (rmL 2) E g := h
  show g I 0 [(0, .ref (E.1 0)), (1, .int w)] []
  refine r_aload_n (pc := 0) h dX10_chosen_0 rfl ?_
  refine gf_X10_70 (pc := 1) h dX10_chosen_1 ?_
  refine r_if_eq (pc := 4) h 16 dX10_chosen_4 (by decide) (fun c4 => ?_) (fun c4 => ?_)
  · refine r_iconst (v := -1) (pc := 16) h dX10_chosen_16 (by decide) ?_
    exact hr _ _ _ _ dX10_chosen_17 (rfl) (⟨by unfold F_chosen; rw [if_neg (by intro q; obtain ⟨q1, q2⟩ := q; first | exact q1 c4 | ((try simp only [b2i_eq0] at *); (try simp only [Int32.reduceToInt, Int64.reduceToInt, Int32.toInt_toInt64] at *); omega))], rfl⟩)
  · refine r_iload_n (pc := 7) h dX10_chosen_7 rfl ?_
    refine r_iconst (v := 0) (pc := 8) h dX10_chosen_8 (by decide) ?_
    refine r_iconst (v := 3) (pc := 9) h dX10_chosen_9 (by decide) ?_
    refine r_callSI (pc := 10) h dX10_chosen_10 wm_X10_118 ca_X10_within (c_X10_within E _ _ _ _) rfl rfl (Nat.le_of_ble_eq_true rfl) (by decide) (fun r I1 hq => ?_)
    obtain ⟨rfl, rfl⟩ := hq
    refine r_if_ne (pc := 13) h 18 dX10_chosen_13 (by decide) (fun c13 => ?_) (fun c13 => ?_)
    · have hv2 : 0 ≤ w.toInt ∧ w.toInt ≤ 3 := by (try simp only [b2i_eq0] at *); (try simp only [Int32.reduceToInt, Int64.reduceToInt, Int32.toInt_toInt64] at *); omega
      refine r_aload_n (pc := 18) h dX10_chosen_18 rfl ?_
      refine gf_X10_67 (pc := 19) h dX10_chosen_19 ?_
      refine r_iload_n (pc := 22) h dX10_chosen_22 rfl ?_
      refine r_iald (pc := 23) h dX10_chosen_23 (by decide) (by decide) (vin (n := 4) (by omega) (by omega)) ?_
      exact hr _ _ _ _ dX10_chosen_24 (rfl) (⟨by unfold F_chosen; rw [if_pos ⟨by assumption, hv2⟩], rfl⟩)
    · refine r_iconst (v := -1) (pc := 16) h dX10_chosen_16 (by decide) ?_
      exact hr _ _ _ _ dX10_chosen_17 (rfl) (⟨by unfold F_chosen; rw [if_neg (by intro q; obtain ⟨q1, q2⟩ := q; first | exact q1 c4 | ((try simp only [b2i_eq0] at *); (try simp only [Int32.reduceToInt, Int64.reduceToInt, Int32.toInt_toInt64] at *); omega))], rfl⟩)
set_option maxRecDepth 100000 in
set_option maxHeartbeats 4000000 in
theorem c_X11_chosen (E : En) (I : Mem) (w : Int32)  : Ctr E yX11_chosen cX11_chosen 2 (some .int) 2 [.ref (E.1 151), .int w] I (qI (fun (r : Int32) (I1 : Mem) => r = R_chosen I w ∧ I = I1)) := by
  refine Ctr.openI (by decide) (Nat.le_of_ble_eq_true rfl) (fun g h hr => ?_)
  have h : Sem cX11_chosen RX11 2 (rmL 2) E g := h
  show g I 0 [(0, .ref (E.1 151)), (1, .int w)] []
  refine r_aload_n (pc := 0) h dX11_chosen_0 rfl ?_
  refine gf_X11_252 (pc := 1) h dX11_chosen_1 ?_
  refine r_if_eq (pc := 4) h 28 dX11_chosen_4 (by decide) (fun c4 => ?_) (fun c4 => ?_)
  · refine r_iconst (v := -1) (pc := 28) h dX11_chosen_28 (by decide) ?_
    exact hr _ _ _ _ dX11_chosen_29 (rfl) (⟨by unfold R_chosen; first | (rw [if_pos ⟨by assumption, by (try simp only [b2i_eq0] at *); (try simp only [Int32.reduceToInt, Int64.reduceToInt, Int32.toInt_toInt64] at *); omega⟩]; done) | rw [if_neg (by intro q; obtain ⟨q1, q2⟩ := q; first | exact q1 c4 | ((try simp only [b2i_eq0] at *); (try simp only [Int32.reduceToInt, Int64.reduceToInt, Int32.toInt_toInt64] at *); omega))], rfl⟩)
  · refine r_iload_n (pc := 7) h dX11_chosen_7 rfl ?_
    refine r_i2l (pc := 8) h dX11_chosen_8 ?_
    refine r_lconst (v := 0) (pc := 9) h dX11_chosen_9 (by decide) ?_
    refine r_ldc2 (pc := 10) h dX11_chosen_10 wc_X11_157 ?_
    refine r_callSI (pc := 13) h dX11_chosen_13 wm_X11_127 ca_X11_in (c_X11_in E _ _ _ _) rfl rfl (Nat.le_of_ble_eq_true rfl) (by decide) (fun r I1 hq => ?_)
    obtain ⟨rfl, rfl⟩ := hq
    refine r_if_eq (pc := 16) h 28 dX11_chosen_16 (by decide) (fun c16 => ?_) (fun c16 => ?_)
    · refine r_iconst (v := -1) (pc := 28) h dX11_chosen_28 (by decide) ?_
      exact hr _ _ _ _ dX11_chosen_29 (rfl) (⟨by unfold R_chosen; first | (rw [if_pos ⟨by assumption, by (try simp only [b2i_eq0] at *); (try simp only [Int32.reduceToInt, Int64.reduceToInt, Int32.toInt_toInt64] at *); omega⟩]; done) | rw [if_neg (by intro q; obtain ⟨q1, q2⟩ := q; first | exact q1 c4 | ((try simp only [b2i_eq0] at *); (try simp only [Int32.reduceToInt, Int64.reduceToInt, Int32.toInt_toInt64] at *); omega))], rfl⟩)
    · have hv2 : 0 ≤ w.toInt ∧ w.toInt ≤ 3 := by (try simp only [b2i_eq0] at *); (try simp only [Int32.reduceToInt, Int64.reduceToInt, Int32.toInt_toInt64] at *); omega
      refine r_aload_n (pc := 19) h dX11_chosen_19 rfl ?_
      refine gf_X11_69 (pc := 20) h dX11_chosen_20 ?_
      refine r_iload_n (pc := 23) h dX11_chosen_23 rfl ?_
      refine r_iald (pc := 24) h dX11_chosen_24 (by decide) (by decide) (vin (n := 4) (by omega) (by omega)) ?_
      refine r_goto (pc := 25) h 29 dX11_chosen_25 (by decide) ?_
      exact hr _ _ _ _ dX11_chosen_29 (rfl) (⟨by unfold R_chosen; first | (rw [if_pos ⟨by assumption, by (try simp only [b2i_eq0] at *); (try simp only [Int32.reduceToInt, Int64.reduceToInt, Int32.toInt_toInt64] at *); omega⟩]; done) | rw [if_neg (by intro q; obtain ⟨q1, q2⟩ := q; first | exact q1 c4 | ((try simp only [b2i_eq0] at *); (try simp only [Int32.reduceToInt, Int64.reduceToInt, Int32.toInt_toInt64] at *); omega))], rfl⟩)
set_option maxRecDepth 100000 in
set_option maxHeartbeats 4000000 in
theorem c_X10_keep (E : En) (I : Mem) (wh : Int32) (s : Int32) (l : Int32) (a : Int32) (st : Int32) (sp : Int32) (w : Int32) (hc : 0 ≤ (I 0 2).toInt ∧ (I 0 2).toInt ≤ 9) (hcw : 0 ≤ (I 0 4).toInt ∧ (I 0 4).toInt ≤ 8) : Ctr E yX10_keep cX10_keep 8 (some .int) 5 [.ref (E.1 0), .int wh, .int s, .int l, .int a, .int st, .int sp, .int w] I (qI (fun (r : Int32) (I1 : Mem) => r = (F_keep I wh s l a st sp w).1 ∧ (F_keep I wh s l a st sp w).2 = I1)) := by
  refine Ctr.openI (by decide) (Nat.le_of_ble_eq_true rfl) (fun g h hr => ?_)
  have h : Sem cX10_keep RX10 8 (rmL 5) E g := h
  show g I 0 [(0, .ref (E.1 0)), (1, .int wh), (2, .int s), (3, .int l), (4, .int a), (5, .int st), (6, .int sp), (7, .int w)] []
  have ec : (I 0 2 - 1).toInt = (I 0 2).toInt - 1 := tI_sub1 (by omega)
  have ecw : (I 0 4 - 1).toInt = (I 0 4).toInt - 1 := tI_sub1 (by omega)
  refine r_iload_n (pc := 0) h dX10_keep_0 rfl ?_
  refine r_iconst (v := 0) (pc := 1) h dX10_keep_1 (by decide) ?_
  refine r_iconst (v := 1) (pc := 2) h dX10_keep_2 (by decide) ?_
  refine r_callSI (pc := 3) h dX10_keep_3 wm_X10_118 ca_X10_within (c_X10_within E _ _ _ _) rfl rfl (Nat.le_of_ble_eq_true rfl) (by decide) (fun r I1 hq => ?_)
  obtain ⟨rfl, rfl⟩ := hq
  refine r_if_eq (pc := 6) h 26 dX10_keep_6 (by decide) (fun c6 => ?_) (fun c6 => ?_)
  · refine r_iconst (v := -1) (pc := 26) h dX10_keep_26 (by decide) ?_
    exact hr _ _ _ _ dX10_keep_27 (rfl) (by unfold F_keep; rw [if_neg (by (try simp only [b2i_eq0] at *); (try simp only [Int32.reduceToInt, Int64.reduceToInt, Int32.toInt_toInt64] at *); omega)]; exact ⟨rfl, rfl⟩)
  · refine r_aload_n (pc := 9) h dX10_keep_9 rfl ?_
    refine r_iload_n (pc := 10) h dX10_keep_10 rfl ?_
    refine r_iload_n (pc := 11) h dX10_keep_11 rfl ?_
    refine r_iload (pc := 12) h dX10_keep_12 rfl ?_
    refine r_iload (pc := 14) h dX10_keep_14 rfl ?_
    refine r_iload (pc := 16) h dX10_keep_16 rfl ?_
    refine r_iload (pc := 18) h dX10_keep_18 rfl ?_
    refine r_callVI (ci := 10) (pc := 20) h dX10_keep_20 wm_X10_184 ca_X10_isThrow rfl (c_X10_isThrow E _ _ _ _ _ _ _) rfl rfl (Nat.le_of_ble_eq_true rfl) (by decide) (by decide) (by decide) (by decide) (fun r I1 hq => ?_)
    obtain ⟨rfl, rfl⟩ := hq
    refine r_if_ne (pc := 23) h 28 dX10_keep_23 (by decide) (fun c23 => ?_) (fun c23 => ?_)
    · have hwh : 0 ≤ wh.toInt ∧ wh.toInt ≤ 1 := by (try simp only [b2i_eq0] at *); (try simp only [Int32.reduceToInt, Int64.reduceToInt, Int32.toInt_toInt64] at *); omega
      have hn2 : wh.toNatClampNeg < 2 := by rw [tn]; omega
      have hth : thrF I s l a st sp w := by (try simp only [b2i_eq0] at *); (try simp only [Int32.reduceToInt, Int64.reduceToInt, Int32.toInt_toInt64] at *); omega
      refine r_aload_n (pc := 28) h dX10_keep_28 rfl ?_
      refine gf_X10_74 (pc := 29) h dX10_keep_29 ?_
      refine r_iload_n (pc := 32) h dX10_keep_32 rfl ?_
      refine r_aa21 (pc := 33) h dX10_keep_33 (vin (n := 2) (by omega) (by omega)) ?_
      refine r_iload_n (pc := 34) h dX10_keep_34 rfl ?_
      refine r_iload_n (pc := 35) h dX10_keep_35 rfl ?_
      refine r_iload (pc := 36) h dX10_keep_36 rfl ?_
      refine r_iload (pc := 38) h dX10_keep_38 rfl ?_
      refine r_iload (pc := 40) h dX10_keep_40 rfl ?_
      refine r_iload (pc := 42) h dX10_keep_42 rfl ?_
      refine r_callVV (ci := 0) (pc := 44) h dX10_keep_44 wm_X10_188 ca_X0_take rfl (c_X0_take E _ _ _ _ _ _ _ _ (by omega) (kdAi _ hn2)) rfl rfl (Nat.le_of_ble_eq_true rfl) (by decide) (by decide) (by omega) (kdAi _ hn2) (fun I1 hq => ?_)
      subst hq
      refine r_aload_n (pc := 47) h dX10_keep_47 rfl ?_
      refine gf_X10_78 (pc := 48) h dX10_keep_48 ?_
      refine r_iload_n (pc := 51) h dX10_keep_51 rfl ?_
      refine r_iconst (v := 1) (pc := 52) h dX10_keep_52 (by decide) ?_
      refine r_zast (pc := 53) h dX10_keep_53 (by decide) (by decide) (vin (n := 2) (by omega) (by omega)) (by decide) ?_
      refine r_iconst (v := 1) (pc := 54) h dX10_keep_54 (by decide) ?_
      exact hr _ _ _ _ dX10_keep_55 (rfl) (by unfold F_keep; rw [if_pos ⟨hwh, hth⟩]; exact ⟨rfl, rfl⟩)
    · refine r_iconst (v := -1) (pc := 26) h dX10_keep_26 (by decide) ?_
      exact hr _ _ _ _ dX10_keep_27 (rfl) (by unfold F_keep; rw [if_neg (by (try simp only [b2i_eq0] at *); (try simp only [Int32.reduceToInt, Int64.reduceToInt, Int32.toInt_toInt64] at *); omega)]; exact ⟨rfl, rfl⟩)
set_option maxRecDepth 100000 in
set_option maxHeartbeats 4000000 in
theorem c_X10_match (E : En) (I : Mem) (i : Int32) (w : Int32) (hc : 0 ≤ (I 0 2).toInt ∧ (I 0 2).toInt ≤ 9) (hcw : 0 ≤ (I 0 4).toInt ∧ (I 0 4).toInt ≤ 8) : Ctr E yX10_match cX10_match 4 (some .int) 4 [.ref (E.1 0), .int i, .int w] I (qI (fun (r : Int32) (I1 : Mem) => r = (F_match I i w).1 ∧ (F_match I i w).2 = I1)) := by
  refine Ctr.openI (by decide) (Nat.le_of_ble_eq_true rfl) (fun g h hr => ?_)
  have h : Sem cX10_match RX10 4 (rmL 4) E g := h
  show g I 0 [(0, .ref (E.1 0)), (1, .int i), (2, .int w)] []
  have ec : (I 0 2 - 1).toInt = (I 0 2).toInt - 1 := tI_sub1 (by omega)
  have ecw : (I 0 4 - 1).toInt = (I 0 4).toInt - 1 := tI_sub1 (by omega)
  refine r_iload_n (pc := 0) h dX10_match_0 rfl ?_
  refine r_iconst (v := 0) (pc := 1) h dX10_match_1 (by decide) ?_
  refine r_iconst (v := 4) (pc := 2) h dX10_match_2 (by decide) ?_
  refine r_callSI (pc := 3) h dX10_match_3 wm_X10_118 ca_X10_within (c_X10_within E _ _ _ _) rfl rfl (Nat.le_of_ble_eq_true rfl) (by decide) (fun r I1 hq => ?_)
  obtain ⟨rfl, rfl⟩ := hq
  refine r_if_eq (pc := 6) h 23 dX10_match_6 (by decide) (fun c6 => ?_) (fun c6 => ?_)
  · refine r_bipush (v := -11) (pc := 23) h dX10_match_23 (by decide) ?_
    exact hr _ _ _ _ dX10_match_25 (rfl) (by unfold F_match; rw [if_neg (by (try simp only [b2i_eq0] at *); (try simp only [Int32.reduceToInt, Int64.reduceToInt, Int32.toInt_toInt64, i32_eq] at *); omega)]; exact ⟨rfl, rfl⟩)
  · refine r_iload_n (pc := 9) h dX10_match_9 rfl ?_
    refine r_bipush (v := -2) (pc := 10) h dX10_match_10 (by decide) ?_
    refine r_icmp_eq (pc := 12) h 26 dX10_match_12 (by decide) (fun c12 => ?_) (fun c12 => ?_)
    · have hv : (0 ≤ i.toInt ∧ i.toInt ≤ 4) ∧ (w.toInt = -2 ∨ w.toInt = -1 ∨ isS w (I 0 4)) := by (try simp only [b2i_eq0] at *); (try simp only [Int32.reduceToInt, Int64.reduceToInt, Int32.toInt_toInt64, i32_eq] at *); omega
      refine r_aload_n (pc := 26) h dX10_match_26 rfl ?_
      refine gf_X10_85 (pc := 27) h dX10_match_27 ?_
      refine gf_X10_238 (pc := 30) h dX10_match_30 ?_
      refine r_iload_n (pc := 33) h dX10_match_33 rfl ?_
      refine r_iald (pc := 34) h dX10_match_34 (by decide) (by decide) (vin (n := 5) (by omega) (by omega)) ?_
      refine r_istore_n (pc := 35) h dX10_match_35 (by decide) ?_
      refine r_aload_n (pc := 36) h dX10_match_36 rfl ?_
      refine gf_X10_85 (pc := 37) h dX10_match_37 ?_
      refine gf_X10_238 (pc := 40) h dX10_match_40 ?_
      refine r_iload_n (pc := 43) h dX10_match_43 rfl ?_
      refine r_iload_n (pc := 44) h dX10_match_44 rfl ?_
      refine r_iast (pc := 45) h dX10_match_45 (by decide) (by decide) (vin (n := 5) (by omega) (by omega)) ?_
      refine r_iload_n (pc := 46) h dX10_match_46 rfl ?_
      exact hr _ _ _ _ dX10_match_47 (rfl) (by unfold F_match; rw [if_pos hv]; exact ⟨rfl, rfl⟩)
    · refine r_aload_n (pc := 15) h dX10_match_15 rfl ?_
      refine r_iload_n (pc := 16) h dX10_match_16 rfl ?_
      refine r_callVI (ci := 10) (pc := 17) h dX10_match_17 wm_X10_235 ca_X10_isWindOrNone rfl (c_X10_isWindOrNone E _ _) rfl rfl (Nat.le_of_ble_eq_true rfl) (by decide) (by decide) (by decide) (by decide) (fun r I1 hq => ?_)
      obtain ⟨rfl, rfl⟩ := hq
      refine r_if_ne (pc := 20) h 26 dX10_match_20 (by decide) (fun c20 => ?_) (fun c20 => ?_)
      · have hv : (0 ≤ i.toInt ∧ i.toInt ≤ 4) ∧ (w.toInt = -2 ∨ w.toInt = -1 ∨ isS w (I 0 4)) := by (try simp only [b2i_eq0] at *); (try simp only [Int32.reduceToInt, Int64.reduceToInt, Int32.toInt_toInt64, i32_eq] at *); omega
        refine r_aload_n (pc := 26) h dX10_match_26 rfl ?_
        refine gf_X10_85 (pc := 27) h dX10_match_27 ?_
        refine gf_X10_238 (pc := 30) h dX10_match_30 ?_
        refine r_iload_n (pc := 33) h dX10_match_33 rfl ?_
        refine r_iald (pc := 34) h dX10_match_34 (by decide) (by decide) (vin (n := 5) (by omega) (by omega)) ?_
        refine r_istore_n (pc := 35) h dX10_match_35 (by decide) ?_
        refine r_aload_n (pc := 36) h dX10_match_36 rfl ?_
        refine gf_X10_85 (pc := 37) h dX10_match_37 ?_
        refine gf_X10_238 (pc := 40) h dX10_match_40 ?_
        refine r_iload_n (pc := 43) h dX10_match_43 rfl ?_
        refine r_iload_n (pc := 44) h dX10_match_44 rfl ?_
        refine r_iast (pc := 45) h dX10_match_45 (by decide) (by decide) (vin (n := 5) (by omega) (by omega)) ?_
        refine r_iload_n (pc := 46) h dX10_match_46 rfl ?_
        exact hr _ _ _ _ dX10_match_47 (rfl) (by unfold F_match; rw [if_pos hv]; exact ⟨rfl, rfl⟩)
      · refine r_bipush (v := -11) (pc := 23) h dX10_match_23 (by decide) ?_
        exact hr _ _ _ _ dX10_match_25 (rfl) (by unfold F_match; rw [if_neg (by (try simp only [b2i_eq0] at *); (try simp only [Int32.reduceToInt, Int64.reduceToInt, Int32.toInt_toInt64, i32_eq] at *); omega)]; exact ⟨rfl, rfl⟩)
set_option maxRecDepth 100000 in
set_option maxHeartbeats 4000000 in
theorem c_X11_match (E : En) (I : Mem) (i : Int32) (w : Int32) (hc : 0 ≤ (I 151 10).toInt ∧ (I 151 10).toInt ≤ 8) : Ctr E yX11_match cX11_match 4 (some .int) 2 [.ref (E.1 151), .int i, .int w] I (qI (fun (r : Int32) (I1 : Mem) => r = (R_match I i w).1 ∧ (R_match I i w).2 = I1)) := by
  refine Ctr.openI (by decide) (Nat.le_of_ble_eq_true rfl) (fun g h hr => ?_)
  have h : Sem cX11_match RX11 4 (rmL 2) E g := h
  show g I 0 [(0, .ref (E.1 151)), (1, .int i), (2, .int w)] []
  have ec : (I 151 10 - 1).toInt = (I 151 10).toInt - 1 := tI_sub1 (by omega)
  refine r_iload_n (pc := 0) h dX11_match_0 rfl ?_
  refine r_i2l (pc := 1) h dX11_match_1 ?_
  refine r_lconst (v := 0) (pc := 2) h dX11_match_2 (by decide) ?_
  refine r_ldc2 (pc := 3) h dX11_match_3 wc_X11_258 ?_
  refine r_callSI (pc := 6) h dX11_match_6 wm_X11_127 ca_X11_in (c_X11_in E _ _ _ _) rfl rfl (Nat.le_of_ble_eq_true rfl) (by decide) (fun r I1 hq => ?_)
  obtain ⟨rfl, rfl⟩ := hq
  refine r_if_eq (pc := 9) h 30 dX11_match_9 (by decide) (fun c9 => ?_) (fun c9 => ?_)
  · refine r_bipush (v := -11) (pc := 30) h dX11_match_30 (by decide) ?_
    exact hr _ _ _ _ dX11_match_32 (rfl) (by unfold R_match; rw [if_neg (by (try simp only [b2i_eq0] at *); (try simp only [Int32.reduceToInt, Int64.reduceToInt, Int32.toInt_toInt64] at *); omega)]; exact ⟨rfl, rfl⟩)
  · refine r_iload_n (pc := 12) h dX11_match_12 rfl ?_
    refine r_i2l (pc := 13) h dX11_match_13 ?_
    refine r_ldc2 (pc := 14) h dX11_match_14 wc_X11_260 ?_
    refine r_aload_n (pc := 17) h dX11_match_17 rfl ?_
    refine gf_X11_165 (pc := 18) h dX11_match_18 ?_
    refine r_iconst (v := 1) (pc := 21) h dX11_match_21 (by decide) ?_
    refine r_isub (pc := 22) h dX11_match_22 ?_
    refine r_i2l (pc := 23) h dX11_match_23 ?_
    refine r_callSI (pc := 24) h dX11_match_24 wm_X11_127 ca_X11_in (c_X11_in E _ _ _ _) rfl rfl (Nat.le_of_ble_eq_true rfl) (by decide) (fun r I1 hq => ?_)
    obtain ⟨rfl, rfl⟩ := hq
    refine r_if_ne (pc := 27) h 33 dX11_match_27 (by decide) (fun c27 => ?_) (fun c27 => ?_)
    · have hv : (0 ≤ i.toInt ∧ i.toInt ≤ 4) ∧ (-2 ≤ w.toInt ∧ w.toInt < (I 151 10).toInt) := by (try simp only [b2i_eq0] at *); (try simp only [Int32.reduceToInt, Int64.reduceToInt, Int32.toInt_toInt64] at *); omega
      refine r_aload_n (pc := 33) h dX11_match_33 rfl ?_
      refine gf_X11_78 (pc := 34) h dX11_match_34 ?_
      refine r_iload_n (pc := 37) h dX11_match_37 rfl ?_
      refine r_iald (pc := 38) h dX11_match_38 (by decide) (by decide) (vin (n := 5) (by omega) (by omega)) ?_
      refine r_istore_n (pc := 39) h dX11_match_39 (by decide) ?_
      refine r_aload_n (pc := 40) h dX11_match_40 rfl ?_
      refine gf_X11_78 (pc := 41) h dX11_match_41 ?_
      refine r_iload_n (pc := 44) h dX11_match_44 rfl ?_
      refine r_iload_n (pc := 45) h dX11_match_45 rfl ?_
      refine r_iast (pc := 46) h dX11_match_46 (by decide) (by decide) (vin (n := 5) (by omega) (by omega)) ?_
      refine r_iload_n (pc := 47) h dX11_match_47 rfl ?_
      exact hr _ _ _ _ dX11_match_48 (rfl) (by unfold R_match; rw [if_pos hv]; exact ⟨rfl, rfl⟩)
    · refine r_bipush (v := -11) (pc := 30) h dX11_match_30 (by decide) ?_
      exact hr _ _ _ _ dX11_match_32 (rfl) (by unfold R_match; rw [if_neg (by (try simp only [b2i_eq0] at *); (try simp only [Int32.reduceToInt, Int64.reduceToInt, Int32.toInt_toInt64] at *); omega)]; exact ⟨rfl, rfl⟩)
set_option maxRecDepth 100000 in
set_option maxHeartbeats 4000000 in
theorem c_X10_style (E : En) (I : Mem) (l : Int32) (a : Int32) (st : Int32) (sp : Int32)  : Ctr E yX10_style cX10_style 5 (some .int) 4 [.ref (E.1 0), .int l, .int a, .int st, .int sp] I (qI (fun (r : Int32) (I1 : Mem) => r = (F_style I l a st sp).1 ∧ (F_style I l a st sp).2 = I1)) := by
  refine Ctr.openI (by decide) (Nat.le_of_ble_eq_true rfl) (fun g h hr => ?_)
  have h : Sem cX10_style RX10 5 (rmL 4) E g := h
  show g I 0 [(0, .ref (E.1 0)), (1, .int l), (2, .int a), (3, .int st), (4, .int sp)] []
  refine r_iload_n (pc := 0) h dX10_style_0 rfl ?_
  refine r_iload_n (pc := 1) h dX10_style_1 rfl ?_
  refine r_iload_n (pc := 2) h dX10_style_2 rfl ?_
  refine r_iload (pc := 3) h dX10_style_3 rfl ?_
  refine r_callSI (pc := 5) h dX10_style_5 wm_X10_241 ca_X10_isStyle (c_X10_isStyle E _ _ _ _ _) rfl rfl (Nat.le_of_ble_eq_true rfl) (by decide) (fun r I1 hq => ?_)
  obtain ⟨rfl, rfl⟩ := hq
  refine r_if_ne (pc := 8) h 13 dX10_style_8 (by decide) (fun c8 => ?_) (fun c8 => ?_)
  · refine r_aload_n (pc := 13) h dX10_style_13 rfl ?_
    refine gf_X10_85 (pc := 14) h dX10_style_14 ?_
    refine gf_X10_245 (pc := 17) h dX10_style_17 ?_
    refine r_iconst (v := 0) (pc := 20) h dX10_style_20 (by decide) ?_
    refine r_iload_n (pc := 21) h dX10_style_21 rfl ?_
    refine r_iload_n (pc := 22) h dX10_style_22 rfl ?_
    refine r_iload_n (pc := 23) h dX10_style_23 rfl ?_
    refine r_iload (pc := 24) h dX10_style_24 rfl ?_
    refine r_iconst (v := -1) (pc := 26) h dX10_style_26 (by decide) ?_
    refine r_callVV (ci := 0) (pc := 27) h dX10_style_27 wm_X10_188 ca_X0_take rfl (c_X0_take E _ _ _ _ _ _ _ _ (by decide) (by decide)) rfl rfl (Nat.le_of_ble_eq_true rfl) (by decide) (by decide) (by decide) (by decide) (fun I1 hq => ?_)
    subst hq
    refine r_iconst (v := 1) (pc := 30) h dX10_style_30 (by decide) ?_
    exact hr _ _ _ _ dX10_style_31 (rfl) (by unfold F_style; rw [if_pos (by (try simp only [b2i_eq0] at *); (try simp only [Int32.reduceToInt, Int64.reduceToInt, Int32.toInt_toInt64] at *); omega)]; exact ⟨rfl, rfl⟩)
  · refine r_iconst (v := -1) (pc := 11) h dX10_style_11 (by decide) ?_
    exact hr _ _ _ _ dX10_style_12 (rfl) (by unfold F_style; rw [if_neg (by (try simp only [b2i_eq0] at *); (try simp only [Int32.reduceToInt, Int64.reduceToInt, Int32.toInt_toInt64] at *); omega)]; exact ⟨rfl, rfl⟩)
set_option maxRecDepth 100000 in
set_option maxHeartbeats 4000000 in
theorem c_X11_style (E : En) (I : Mem) (l : Int32) (a : Int32) (st : Int32) (sp : Int32)  : Ctr E yX11_style cX11_style 5 (some .int) 2 [.ref (E.1 151), .int l, .int a, .int st, .int sp] I (qI (fun (r : Int32) (I1 : Mem) => r = (R_style I l a st sp).1 ∧ (R_style I l a st sp).2 = I1)) := by
  refine Ctr.openI (by decide) (Nat.le_of_ble_eq_true rfl) (fun g h hr => ?_)
  have h : Sem cX11_style RX11 5 (rmL 2) E g := h
  show g I 0 [(0, .ref (E.1 151)), (1, .int l), (2, .int a), (3, .int st), (4, .int sp)] []
  refine r_iload_n (pc := 0) h dX11_style_0 rfl ?_
  refine r_i2l (pc := 1) h dX11_style_1 ?_
  refine r_lconst (v := 0) (pc := 2) h dX11_style_2 (by decide) ?_
  refine r_ldc2 (pc := 3) h dX11_style_3 wc_X11_223 ?_
  refine r_callSI (pc := 6) h dX11_style_6 wm_X11_127 ca_X11_in (c_X11_in E _ _ _ _) rfl rfl (Nat.le_of_ble_eq_true rfl) (by decide) (fun r I1 hq => ?_)
  obtain ⟨rfl, rfl⟩ := hq
  refine r_if_eq (pc := 9) h 53 dX11_style_9 (by decide) (fun c9 => ?_) (fun c9 => ?_)
  · refine r_iconst (v := -1) (pc := 53) h dX11_style_53 (by decide) ?_
    exact hr _ _ _ _ dX11_style_54 (rfl) (by unfold R_style; rw [if_neg (by (try simp only [b2i_eq0] at *); (try simp only [Int32.reduceToInt, Int64.reduceToInt, Int32.toInt_toInt64] at *); omega)]; exact ⟨rfl, rfl⟩)
  · refine r_iload_n (pc := 12) h dX11_style_12 rfl ?_
    refine r_i2l (pc := 13) h dX11_style_13 ?_
    refine r_lconst (v := 0) (pc := 14) h dX11_style_14 (by decide) ?_
    refine r_ldc2 (pc := 15) h dX11_style_15 wc_X11_131 ?_
    refine r_callSI (pc := 18) h dX11_style_18 wm_X11_127 ca_X11_in (c_X11_in E _ _ _ _) rfl rfl (Nat.le_of_ble_eq_true rfl) (by decide) (fun r I1 hq => ?_)
    obtain ⟨rfl, rfl⟩ := hq
    refine r_if_eq (pc := 21) h 53 dX11_style_21 (by decide) (fun c21 => ?_) (fun c21 => ?_)
    · refine r_iconst (v := -1) (pc := 53) h dX11_style_53 (by decide) ?_
      exact hr _ _ _ _ dX11_style_54 (rfl) (by unfold R_style; rw [if_neg (by (try simp only [b2i_eq0] at *); (try simp only [Int32.reduceToInt, Int64.reduceToInt, Int32.toInt_toInt64] at *); omega)]; exact ⟨rfl, rfl⟩)
    · refine r_iload_n (pc := 24) h dX11_style_24 rfl ?_
      refine r_i2l (pc := 25) h dX11_style_25 ?_
      refine r_ldc2 (pc := 26) h dX11_style_26 wc_X11_225 ?_
      refine r_ldc2 (pc := 29) h dX11_style_29 wc_X11_210 ?_
      refine r_callSI (pc := 32) h dX11_style_32 wm_X11_127 ca_X11_in (c_X11_in E _ _ _ _) rfl rfl (Nat.le_of_ble_eq_true rfl) (by decide) (fun r I1 hq => ?_)
      obtain ⟨rfl, rfl⟩ := hq
      refine r_if_eq (pc := 35) h 53 dX11_style_35 (by decide) (fun c35 => ?_) (fun c35 => ?_)
      · refine r_iconst (v := -1) (pc := 53) h dX11_style_53 (by decide) ?_
        exact hr _ _ _ _ dX11_style_54 (rfl) (by unfold R_style; rw [if_neg (by (try simp only [b2i_eq0] at *); (try simp only [Int32.reduceToInt, Int64.reduceToInt, Int32.toInt_toInt64] at *); omega)]; exact ⟨rfl, rfl⟩)
      · refine r_iload (pc := 38) h dX11_style_38 rfl ?_
        refine r_i2l (pc := 40) h dX11_style_40 ?_
        refine r_ldc2 (pc := 41) h dX11_style_41 wc_X11_136 ?_
        refine r_ldc2 (pc := 44) h dX11_style_44 wc_X11_227 ?_
        refine r_callSI (pc := 47) h dX11_style_47 wm_X11_127 ca_X11_in (c_X11_in E _ _ _ _) rfl rfl (Nat.le_of_ble_eq_true rfl) (by decide) (fun r I1 hq => ?_)
        obtain ⟨rfl, rfl⟩ := hq
        refine r_if_ne (pc := 50) h 55 dX11_style_50 (by decide) (fun c50 => ?_) (fun c50 => ?_)
        · refine r_aload_n (pc := 55) h dX11_style_55 rfl ?_
          refine r_iload_n (pc := 56) h dX11_style_56 rfl ?_
          refine pf_X11_81 (pc := 57) h dX11_style_57 ?_
          refine r_aload_n (pc := 60) h dX11_style_60 rfl ?_
          refine r_iload_n (pc := 61) h dX11_style_61 rfl ?_
          refine pf_X11_262 (pc := 62) h dX11_style_62 ?_
          refine r_aload_n (pc := 65) h dX11_style_65 rfl ?_
          refine r_iload_n (pc := 66) h dX11_style_66 rfl ?_
          refine pf_X11_84 (pc := 67) h dX11_style_67 ?_
          refine r_aload_n (pc := 70) h dX11_style_70 rfl ?_
          refine r_iload (pc := 71) h dX11_style_71 rfl ?_
          refine pf_X11_87 (pc := 73) h dX11_style_73 ?_
          refine r_iconst (v := 1) (pc := 76) h dX11_style_76 (by decide) ?_
          exact hr _ _ _ _ dX11_style_77 (rfl) (by unfold R_style; rw [if_pos (by (try simp only [b2i_eq0] at *); (try simp only [Int32.reduceToInt, Int64.reduceToInt, Int32.toInt_toInt64] at *); omega)]; exact ⟨rfl, rfl⟩)
        · refine r_iconst (v := -1) (pc := 53) h dX11_style_53 (by decide) ?_
          exact hr _ _ _ _ dX11_style_54 (rfl) (by unfold R_style; rw [if_neg (by (try simp only [b2i_eq0] at *); (try simp only [Int32.reduceToInt, Int64.reduceToInt, Int32.toInt_toInt64] at *); omega)]; exact ⟨rfl, rfl⟩)
