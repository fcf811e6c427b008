/-! THE CLASS's flight: endOf -/
theorem pst5 (pr : Vec) (t : Int32) (v : Vec) : pst pr t v 5 = heldI (v 5 - pr 3) 20 250 := rfl
theorem pst6 (pr : Vec) (t : Int32) (v : Vec) : pst pr t v 6 = heldI (v 6 - pr 2) 0 1000 := rfl
theorem vSeq_rg {pr v0 : Vec} (h5 : 0 ≤ (v0 5).toInt ∧ (v0 5).toInt ≤ 250) (h6 : 0 ≤ (v0 6).toInt ∧ (v0 6).toInt ≤ 1000) : ∀ i, (0 ≤ (vSeq pr v0 i 5).toInt ∧ (vSeq pr v0 i 5).toInt ≤ 250) ∧ (0 ≤ (vSeq pr v0 i 6).toInt ∧ (vSeq pr v0 i 6).toInt ≤ 1000)
  | 0 => ⟨h5, h6⟩
  | i + 1 => by
    show (0 ≤ (pst pr (nI (i + 1)) (vSeq pr v0 i) 5).toInt ∧ (pst pr (nI (i + 1)) (vSeq pr v0 i) 5).toInt ≤ 250) ∧ (0 ≤ (pst pr (nI (i + 1)) (vSeq pr v0 i) 6).toInt ∧ (pst pr (nI (i + 1)) (vSeq pr v0 i) 6).toInt ≤ 1000)
    rw [pst5, pst6]
    have a := heldI_bd (v := vSeq pr v0 i 5 - pr 3) (lo := 20) (hi := 250) (by decide)
    have c := heldI_bd (v := vSeq pr v0 i 6 - pr 2) (lo := 0) (hi := 1000) (by decide)
    have e20 : (20 : Int32).toInt = 20 := by decide
    have e250 : (250 : Int32).toInt = 250 := by decide
    have e1000 : (1000 : Int32).toInt = 1000 := by decide
    rw [e20, e250] at a
    rw [z32, e1000] at c
    omega
/-- the wind's id of an aim -/
def wiF (I : Mem) (am : Nat) : Nat := if I am 5 = -1 then 4 else 59 + 3 * (I am 5).toNatClampNeg
abbrev AimOk (I : Mem) (am : Nat) : Prop := (0 ≤ (I am 0).toInt ∧ (I am 0).toInt < 9) ∧ (0 ≤ (I am 1).toInt ∧ (I am 1).toInt ≤ 90) ∧ (30 ≤ (I am 3).toInt ∧ (I am 3).toInt ≤ 250) ∧ (100 ≤ (I am 4).toInt ∧ (I am 4).toInt ≤ 1000) ∧ (I am 5 = -1 ∨ (0 ≤ (I am 5).toInt ∧ (I am 5).toInt < 8))
abbrev StOk (I : Mem) (n : Nat) : Prop := (0 ≤ (I (41 + 2 * n) 2).toInt ∧ (I (41 + 2 * n) 2).toInt ≤ 20) ∧ (0 ≤ (I (41 + 2 * n) 3).toInt ∧ (I (41 + 2 * n) 3).toInt ≤ 10) ∧ 0 ≤ (I (41 + 2 * n) 4).toInt
theorem wiF_ok {I : Mem} {am : Nat} (h : I am 5 = -1 ∨ (0 ≤ (I am 5).toInt ∧ (I am 5).toInt < 8)) : isWi (wiF I am) := by
  unfold wiF
  split
  · exact isWi4
  · rename_i q
    rcases h with h | h
    · exact absurd h q
    · exact isWiN _ (by rw [tn]; omega)
def FlF (I J : Mem) (kx : Nat) (pr v0 : Vec) (i : Nat) : Prop := (∀ a, a ≠ kx → a ≠ 16 → J a = I a) ∧ (kx = 17 → J 16 = I 16) ∧ (∀ j, j < 8 → J kx j = vSeq pr v0 i j) ∧ J kx 8 = nI i ∧ (kx = 15 → ∀ m, m ≤ i → ∀ j, j < 8 → J 16 (8 * m + j) = vSeq pr v0 m j)
def eF (I : Mem) (pr v0 : Vec) (m : Nat) : Int32 := endV (vSeq pr v0 m) (nI m) (trF I) (I 7 1).toNatClampNeg (I 7 2)
theorem prF_rows {I J : Mem} {kx n wi : Nat} (bd : Int32) (hkk : kx = 15 ∨ kx = 17) (hwb : wi = 4 ∨ 59 ≤ wi) (h : ∀ a, a ≠ kx → a ≠ 16 → J a = I a) : prF J n bd wi = prF I n bd wi := by
  unfold prF
  rw [h (41 + 2 * n) (by omega) (by omega), h (41 + 2 * n + 1) (by omega) (by omega), h (wi + 1) (by omega) (by omega), h (wi + 2) (by omega) (by omega)]
theorem trF_rows {I J : Mem} {kx : Nat} (hkk : kx = 15 ∨ kx = 17) (h : ∀ a, a ≠ kx → a ≠ 16 → J a = I a) : ∀ t, t < 6 → ∀ j, trF J j t = trF I j t := by
  intro t ht j
  unfold trF
  rw [h (9 + t) (by omega) (by omega)]
theorem fst1_congr {p q : Nat → Bool} : ∀ (m i : Nat), (∀ k, i ≤ k → k < i + m → p k = q k) → fst1 p m i = fst1 q m i
  | 0, i, _ => rfl
  | m + 1, i, h => by
    unfold fst1
    rw [h i (by omega) (by omega), fst1_congr m (i + 1) (fun k a c => h k (by omega) (by omega))]
theorem hitN_T {v : Vec} {T T' : Nat → Nat → Int32} {n : Nat} (h : ∀ t, t < n → ∀ j, T j t = T' j t) : hitN v T n = hitN v T' n := by
  unfold hitN
  refine fst1_congr n 0 (fun k _ hk => ?_)
  unfold treeP
  rw [h k (by omega) 0, h k (by omega) 1, h k (by omega) 2, h k (by omega) 3]
theorem endV_T {v : Vec} {t : Int32} {T T' : Nat → Nat → Int32} {n : Nat} {r : Int32} (h : ∀ t, t < n → ∀ j, T j t = T' j t) : endV v t T n r = endV v t T' n r := by
  unfold endV
  rw [hitN_T h]
theorem hitV_T {v : Vec} {T T' : Nat → Nat → Int32} {n : Nat} (h : ∀ t, t < n → ∀ j, T j t = T' j t) : hitV v T n = hitV v T' n := by
  unfold hitV
  rw [hitN_T h]
set_option maxRecDepth 100000 in
set_option maxHeartbeats 4000000 in
theorem c_X10_endOf (E : En) (I : Mem) (kx am : Nat) (bd : Int32) (hkk : kx = 15 ∨ kx = 17) (ha : am < 184) (hka : kd am = 0) (hao : AimOk I am) (hso : StOk I (I am 0).toNatClampNeg) (hc : 0 ≤ (I 7 1).toInt ∧ (I 7 1).toInt ≤ 6) (hT : I 1 = wvT) (ht : ∀ p, p < 4 → 0 ≤ (I (wiF I am + 2) p).toInt ∧ (I (wiF I am + 2) p).toInt ≤ 359) : Ctr E yX10_endOf cX10_endOf 7 (some .int) 3 [.ref (E.1 0), .ref (E.1 kx), .ref (E.1 am), .int bd] I (qI (fun (r : Int32) (I1 : Mem) => ∃ N, 1 ≤ N ∧ N ≤ 400 ∧ (∀ q, 1 ≤ q → q < N → eF I (prF I (I am 0).toNatClampNeg bd (wiF I am)) (v0of (I am 1) (I am 2) (I am 3) (I am 4)) q = 0) ∧ ¬ eF I (prF I (I am 0).toNatClampNeg bd (wiF I am)) (v0of (I am 1) (I am 2) (I am 3) (I am 4)) N = 0 ∧ r = eF I (prF I (I am 0).toNatClampNeg bd (wiF I am)) (v0of (I am 1) (I am 2) (I am 3) (I am 4)) N ∧ FlF I I1 kx (prF I (I am 0).toNatClampNeg bd (wiF I am)) (v0of (I am 1) (I am 2) (I am 3) (I am 4)) N ∧ I1 kx 9 = eF I (prF I (I am 0).toNatClampNeg bd (wiF I am)) (v0of (I am 1) (I am 2) (I am 3) (I am 4)) N ∧ I1 kx 10 = hitV (vSeq (prF I (I am 0).toNatClampNeg bd (wiF I am)) (v0of (I am 1) (I am 2) (I am 3) (I am 4)) N) (trF I) (I 7 1).toNatClampNeg)) := by
  refine Ctr.openI (by decide) (Nat.le_of_ble_eq_true rfl) (fun g h hr => ?_)
  have h : Sem cX10_endOf RX10 7 (rmL 3) E g := h
  show g I 0 [(0, .ref (E.1 0)), (1, .ref (E.1 kx)), (2, .ref (E.1 am)), (3, .int bd)] []
  have hk : kx < 184 := by omega
  have hkd : kd kx = 1 := by rcases hkk with rfl | rfl <;> decide
  have hwo := wiF_ok hao.2.2.2.2
  have hwb := hwo.2.1
  have hn9 : (I am 0).toNatClampNeg < 9 := by rw [tn]; omega
  have hv5 : 0 ≤ (v0of (I am 1) (I am 2) (I am 3) (I am 4) 5).toInt ∧ (v0of (I am 1) (I am 2) (I am 3) (I am 4) 5).toInt ≤ 250 := by show 0 ≤ (I am 3).toInt ∧ (I am 3).toInt ≤ 250; omega
  have hv6 : 0 ≤ (v0of (I am 1) (I am 2) (I am 3) (I am 4) 6).toInt ∧ (v0of (I am 1) (I am 2) (I am 3) (I am 4) 6).toInt ≤ 1000 := by show 0 ≤ (I am 4).toInt ∧ (I am 4).toInt ≤ 1000; omega
  refine r_aload_n (pc := 0) h dX10_endOf_0 rfl ?_
  refine gf_X10_19 (pc := 1) h dX10_endOf_1 ?_
  refine r_aload_n (pc := 4) h dX10_endOf_4 rfl ?_
  refine gf_X10_222 (pc := 5) h dX10_endOf_5 ha hka ?_
  refine r_aa2 (pc := 8) h dX10_endOf_8 (vin (n := 9) (by omega) (by omega)) ?_
  refine r_astore (pc := 9) h dX10_endOf_9 (by decide) ?_
  refine r_aload_n (pc := 11) h dX10_endOf_11 rfl ?_
  refine gf_X10_369 (pc := 12) h dX10_endOf_12 ha hka ?_
  refine r_iconst (v := -1) (pc := 15) h dX10_endOf_15 (by decide) ?_
  refine r_icmp_ne (pc := 16) h 26 dX10_endOf_16 (by decide) (fun c16 => ?_) (fun c16 => ?_)
  · refine r_aload_n (pc := 26) h dX10_endOf_26 rfl ?_
    refine gf_X10_29 (pc := 27) h dX10_endOf_27 ?_
    refine r_aload_n (pc := 30) h dX10_endOf_30 rfl ?_
    refine gf_X10_369 (pc := 31) h dX10_endOf_31 ha hka ?_
    refine r_aa3 (pc := 34) h dX10_endOf_34 (vin (n := 8) (by rcases hao.2.2.2.2 with q | q; exact absurd q c16; omega) (by rcases hao.2.2.2.2 with q | q; exact absurd q c16; omega)) ?_
    refine r_astore (pc := 35) h dX10_endOf_35 (by decide) ?_
    refine r_at h [(0, .ref (E.1 0)), (1, .ref (E.1 kx)), (2, .ref (E.1 am)), (3, .int bd), (4, .ref (E.1 (41 + 2 * (I am 0).toNatClampNeg))), (5, .ref (E.1 (wiF I am)))] ⟨rfl, rfl, rfl, rfl, rfl, by unfold wiF; first | (rw [if_pos c16]; rfl) | (rw [if_neg c16]; rfl), trivial⟩ ?_
    refine r_aload_n (pc := 37) h dX10_endOf_37 rfl ?_
    refine r_aload_n (pc := 38) h dX10_endOf_38 rfl ?_
    refine r_callVV (ci := 1) (pc := 39) h dX10_endOf_39 wm_X10_372 ca_X1_begin rfl (c_X1_begin E _ _ _ hkk ha hka) rfl rfl (Nat.le_of_ble_eq_true rfl) (by decide) (by decide) hk hkd (fun B_ hq => ?_)
    obtain ⟨b1, b2, b3⟩ := hq
    refine r_iconst (v := 1) (pc := 42) h dX10_endOf_42 (by decide) ?_
    refine r_istore (pc := 43) h dX10_endOf_43 (by decide) ?_
    have loop45 : ∀ (m i : Nat) (J : Mem), i < 400 → 400 ≤ i + m → FlF I J kx (prF I (I am 0).toNatClampNeg bd (wiF I am)) (v0of (I am 1) (I am 2) (I am 3) (I am 4)) i → J kx 9 = 0 → J kx 10 = -4 → (∀ q, 1 ≤ q → q ≤ i → eF I (prF I (I am 0).toNatClampNeg bd (wiF I am)) (v0of (I am 1) (I am 2) (I am 3) (I am 4)) q = 0) → g J 45 [(0, .ref (E.1 0)), (1, .ref (E.1 kx)), (2, .ref (E.1 am)), (3, .int bd), (4, .ref (E.1 (41 + 2 * (I am 0).toNatClampNeg))), (5, .ref (E.1 (wiF I am))), (6, .int (nI (i + 1)))] [] := by
      intro m
      induction m with
      | zero =>
        intro i J h1 h2
        omega
      | succ m ih =>
        intro i J hi him hF hJ9 hJ10 hE
        obtain ⟨f1, f2, f3, f4, f5⟩ := id hF
        have ei := nI_tI (i := i + 1) (by omega)
        have hrg := vSeq_rg (pr := prF I (I am 0).toNatClampNeg bd (wiF I am)) (v0 := v0of (I am 1) (I am 2) (I am 3) (I am 4)) hv5 hv6 i
        have hT2 : J 1 = wvT := by rw [f1 1 (by omega) (by omega), hT]
        have hl2 : 0 ≤ (J kx 7).toInt ∧ (J kx 7).toInt ≤ 90 := by rw [f3 7 (by decide)]; exact vSeq_lean (v0 := v0of (I am 1) (I am 2) (I am 3) (I am 4)) hao.2.1 i
        have hs2 : (J kx 6).toInt ≤ 1000 ∧ 0 ≤ (J kx 6).toInt := by rw [f3 6 (by decide)]; exact ⟨hrg.2.2, hrg.2.1⟩
        have hd2 : (J kx 5).toInt ≤ 250 ∧ 0 ≤ (J kx 5).toInt := by rw [f3 5 (by decide)]; exact ⟨hrg.1.2, hrg.1.1⟩
        have ht2 : ∀ p, p < 4 → 0 ≤ (J (wiF I am + 2) p).toInt ∧ (J (wiF I am + 2) p).toInt ≤ 359 := by rw [f1 (wiF I am + 2) (by omega) (by omega)]; exact ht
        have hso2 : StOk J (I am 0).toNatClampNeg := by unfold StOk; rw [f1 (41 + 2 * (I am 0).toNatClampNeg) (by omega) (by omega)]; exact hso
        refine r_iload (pc := 45) h dX10_endOf_45 rfl ?_
        refine r_sipush (v := 400) (pc := 47) h dX10_endOf_47 (by decide) ?_
        refine r_icmp_gt (pc := 50) h 87 dX10_endOf_50 (by decide) (fun c50 => ?_) (fun c50 => ?_)
        · exfalso
          have e400 : (400 : Int32).toInt = 400 := by decide
          first
          | (rw [Int32.lt_iff_toInt_lt, ei] at c50; omega)
          | exact c57 hJ9
        · refine r_aload_n (pc := 53) h dX10_endOf_53 rfl ?_
          refine gf_X10_363 (pc := 54) h dX10_endOf_54 hk hkd ?_
          refine r_if_ne (pc := 57) h 87 dX10_endOf_57 (by decide) (fun c57 => ?_) (fun c57 => ?_)
          · exfalso
            have e400 : (400 : Int32).toInt = 400 := by decide
            first
            | (rw [Int32.lt_iff_toInt_lt, ei] at c50; omega)
            | exact c57 hJ9
          · refine r_aload_n (pc := 60) h dX10_endOf_60 rfl ?_
            refine r_aload (pc := 61) h dX10_endOf_61 rfl ?_
            refine r_iload_n (pc := 63) h dX10_endOf_63 rfl ?_
            refine r_aload (pc := 64) h dX10_endOf_64 rfl ?_
            refine r_callVV (ci := 1) (pc := 66) h dX10_endOf_66 wm_X10_376 ca_X1_step rfl (c_X1_step E _ _ _ _ _ hkk hn9 hwo hl2 ht2) rfl rfl (Nat.le_of_ble_eq_true rfl) (by decide) (by decide) hk hkd (fun I1 hq => ?_)
            subst hq
            refine r_nmG (fun L_ hL => ?_)
            obtain ⟨sA, sB, s8, s9, s10⟩ := F_step_is J kx (I am 0).toNatClampNeg bd (wiF I am) hkk hn9 hwo hT2 hl2 hs2 hd2 ht2 hso2.1 hso2.2.1 hso2.2.2
            rw [← hL] at sA sB s8 s9 s10
            have l8 : L_ kx 8 = nI (i + 1) := by rw [s8, f4, nI_succ]
            have lv : ∀ j, j < 8 → L_ kx j = vSeq (prF I (I am 0).toNatClampNeg bd (wiF I am)) (v0of (I am 1) (I am 2) (I am 3) (I am 4)) (i + 1) j := fun j hj => by
              rw [sA j hj, prF_rows bd hkk hwb f1, f4, ← nI_succ]
              exact pst_congr f3 j hj
            have l7 : L_ 7 = I 7 := by rw [sB 7 (by omega), f1 7 (by omega) (by omega)]
            have ltr : ∀ t, t < (I 7 1).toNatClampNeg → ∀ j, trF L_ j t = trF I j t := fun t ht2 j => by
              have hC6 : (I 7 1).toNatClampNeg ≤ 6 := by rw [tn]; omega
              have := trF_rows (I := I) (J := J) hkk f1 t (by omega) j
              rw [← this]
              unfold trF
              rw [sB (9 + t) (by omega)]
            have eF_ : endV (L_ kx) (nI (i + 1)) (trF L_) (I 7 1).toNatClampNeg (I 7 2) = eF I (prF I (I am 0).toNatClampNeg bd (wiF I am)) (v0of (I am 1) (I am 2) (I am 3) (I am 4)) (i + 1) := by
              unfold eF
              rw [endV_T ltr]
              exact endV_congr lv
            refine r_aload_n (pc := 69) h dX10_endOf_69 rfl ?_
            refine r_aload_n (pc := 70) h dX10_endOf_70 rfl ?_
            refine gf_X10_44 (pc := 71) h dX10_endOf_71 ?_
            refine r_callVV (ci := 1) (pc := 74) h dX10_endOf_74 wm_X10_380 ca_X1_endIn rfl (c_X1_endIn E _ _ hkk (by rw [l7]; exact hc) (by rw [s10]; exact hJ10) (by rw [s9]; exact hJ9) (by rw [l8, ei]; omega)) rfl rfl (Nat.le_of_ble_eq_true rfl) (by decide) (by decide) hk hkd (fun K_ hq => ?_)
            obtain ⟨k1, k2, k9, k10⟩ := hq
            refine r_aload_n (pc := 77) h dX10_endOf_77 rfl ?_
            refine r_callVV (ci := 1) (pc := 78) h dX10_endOf_78 wm_X10_384 ca_X1_note rfl (c_X1_note E _ _ hkk (by rw [k2 8 (by decide) (by decide), l8, ei]; omega)) rfl rfl (Nat.le_of_ble_eq_true rfl) (by decide) (by decide) hk hkd (fun U_ hq => ?_)
            obtain ⟨u1, u2, u3⟩ := hq
            have u2 : kx = 17 → U_ 16 = K_ 16 := fun q => by rw [u2 q]
            refine r_iinc (v := 1) (pc := 81) h dX10_endOf_81 rfl (by decide) (by decide) ?_
            refine r_goto (pc := 84) h 45 dX10_endOf_84 (by decide) ?_
            rw [← nI_succ]
            have hU9 : U_ kx 9 = eF I (prF I (I am 0).toNatClampNeg bd (wiF I am)) (v0of (I am 1) (I am 2) (I am 3) (I am 4)) (i + 1) := by rw [u1 kx (by omega), k9, l7, l8, eF_]
            have hU10 : U_ kx 10 = hitV (vSeq (prF I (I am 0).toNatClampNeg bd (wiF I am)) (v0of (I am 1) (I am 2) (I am 3) (I am 4)) (i + 1)) (trF I) (I 7 1).toNatClampNeg := by rw [u1 kx (by omega), k10, l7]; exact (hitV_congr lv).trans (hitV_T ltr)
            have hFU : FlF I U_ kx (prF I (I am 0).toNatClampNeg bd (wiF I am)) (v0of (I am 1) (I am 2) (I am 3) (I am 4)) (i + 1) := by
              refine ⟨fun a a1 a2 => by rw [u1 a a2, k1 a a1, sB a a1, f1 a a1 a2], fun q => by rw [u2 q, k1 16 (by omega), sB 16 (by omega), f2 q], fun j hj => by rw [u1 kx (by omega), k2 j (by omega) (by omega)]; exact lv j hj, by rw [u1 kx (by omega), k2 8 (by decide) (by decide), l8], fun q m2 hm2 j hj => ?_⟩
              rw [u3 q]
              subst q
              rw [k2 8 (by decide) (by decide), l8, nI_tn (by omega)]
              by_cases e : m2 = i + 1
              · rw [e, rowQ_in _ _ _ _ hj, k2 j (by omega) (by omega)]
                exact lv j hj
              · rw [rowQ_out _ _ _ (by omega), k1 16 (by decide), sB 16 (by decide)]
                exact f5 rfl m2 (by omega) j hj
            refine r_at h [(0, .ref (E.1 0)), (1, .ref (E.1 kx)), (2, .ref (E.1 am)), (3, .int bd), (4, .ref (E.1 (41 + 2 * (I am 0).toNatClampNeg))), (5, .ref (E.1 (wiF I am))), (6, .int (nI (i + 1 + 1)))] ⟨rfl, rfl, rfl, rfl, rfl, rfl, rfl, trivial⟩ ?_
            by_cases he : eF I (prF I (I am 0).toNatClampNeg bd (wiF I am)) (v0of (I am 1) (I am 2) (I am 3) (I am 4)) (i + 1) = 0
            · have hn4 : i + 1 < 400 := by
                rcases Nat.lt_or_ge (i + 1) 400 with q | q
                · exact q
                · have e4 : i + 1 = 400 := by omega
                  rw [e4] at he
                  exact absurd he (end400 _ _ _ _)
              have hno : hitV (vSeq (prF I (I am 0).toNatClampNeg bd (wiF I am)) (v0of (I am 1) (I am 2) (I am 3) (I am 4)) (i + 1)) (trF I) (I 7 1).toNatClampNeg = -4 := by
                unfold hitV
                rw [if_neg (fun q => by
                  have e3 : eF I (prF I (I am 0).toNatClampNeg bd (wiF I am)) (v0of (I am 1) (I am 2) (I am 3) (I am 4)) (i + 1) = 3 := by
                    unfold eF endV
                    rw [if_pos q]
                  rw [e3] at he
                  exact absurd he (by decide))]
              exact ih (i + 1) U_ hn4 (by omega) hFU (by rw [hU9]; exact he) (by rw [hU10]; exact hno) (fun q q1 q2 => by
                by_cases e : q = i + 1
                · rw [e]; exact he
                · exact hE q q1 (by omega))
            · have fin : g U_ 87 [(0, .ref (E.1 0)), (1, .ref (E.1 kx)), (2, .ref (E.1 am)), (3, .int bd), (4, .ref (E.1 (41 + 2 * (I am 0).toNatClampNeg))), (5, .ref (E.1 (wiF I am))), (6, .int (nI (i + 1 + 1)))] [] := by
                refine r_aload_n (pc := 87) h dX10_endOf_87 rfl ?_
                refine gf_X10_363 (pc := 88) h dX10_endOf_88 hk hkd ?_
                exact hr _ _ _ _ dX10_endOf_91 rfl ⟨i + 1, by omega, by omega, fun q q1 q2 => hE q q1 (by omega), he, hU9, hFU, hU9, hU10⟩
              refine r_iload (pc := 45) h dX10_endOf_45 rfl ?_
              refine r_sipush (v := 400) (pc := 47) h dX10_endOf_47 (by decide) ?_
              refine r_icmp_gt (pc := 50) h 87 dX10_endOf_50 (by decide) (fun _ => fin) (fun _ => ?_)
              refine r_aload_n (pc := 53) h dX10_endOf_53 rfl ?_
              refine gf_X10_363 (pc := 54) h dX10_endOf_54 hk hkd ?_
              exact r_if_ne (pc := 57) h 87 dX10_endOf_57 (by decide) (fun _ => fin) (fun c => absurd (hU9.symm.trans c) he)
    refine r_at h [(0, .ref (E.1 0)), (1, .ref (E.1 kx)), (2, .ref (E.1 am)), (3, .int bd), (4, .ref (E.1 (41 + 2 * (I am 0).toNatClampNeg))), (5, .ref (E.1 (wiF I am))), (6, .int (nI (0 + 1)))] ⟨rfl, rfl, rfl, rfl, rfl, rfl, rfl, trivial⟩ (loop45 400 0 B_ (by omega) (by omega) ?_ ?_ ?_ (fun q q1 q2 => by omega))
    · refine ⟨fun a a1 a2 => by rw [b1 a a2, fB_ne I a1], fun q => by rw [b2 q, fB_ne I (by omega)], fun j hj => by rw [b1 kx (by omega)]; exact (fB_v I kx am).1 j hj, by rw [b1 kx (by omega), (fB_v I kx am).2.1]; exact nI_0.symm, fun q m2 hm2 j hj => ?_⟩
      have e0 : m2 = 0 := by omega
      rw [e0, Nat.mul_zero, Nat.zero_add, b3 q j hj]
      exact (fB_v I 15 am).1 j hj
    · rw [b1 kx (by omega), (fB_v I kx am).2.2.1]
    · rw [b1 kx (by omega), (fB_v I kx am).2.2.2]
  · refine r_aload_n (pc := 19) h dX10_endOf_19 rfl ?_
    refine gf_X10_37 (pc := 20) h dX10_endOf_20 ?_
    refine r_goto (pc := 23) h 35 dX10_endOf_23 (by decide) ?_
    refine r_astore (pc := 35) h dX10_endOf_35 (by decide) ?_
    refine r_at h [(0, .ref (E.1 0)), (1, .ref (E.1 kx)), (2, .ref (E.1 am)), (3, .int bd), (4, .ref (E.1 (41 + 2 * (I am 0).toNatClampNeg))), (5, .ref (E.1 (wiF I am)))] ⟨rfl, rfl, rfl, rfl, rfl, by unfold wiF; first | (rw [if_pos c16]; rfl) | (rw [if_neg c16]; rfl), trivial⟩ ?_
    refine r_aload_n (pc := 37) h dX10_endOf_37 rfl ?_
    refine r_aload_n (pc := 38) h dX10_endOf_38 rfl ?_
    refine r_callVV (ci := 1) (pc := 39) h dX10_endOf_39 wm_X10_372 ca_X1_begin rfl (c_X1_begin E _ _ _ hkk ha hka) rfl rfl (Nat.le_of_ble_eq_true rfl) (by decide) (by decide) hk hkd (fun B_ hq => ?_)
    obtain ⟨b1, b2, b3⟩ := hq
    refine r_iconst (v := 1) (pc := 42) h dX10_endOf_42 (by decide) ?_
    refine r_istore (pc := 43) h dX10_endOf_43 (by decide) ?_
    have loop45 : ∀ (m i : Nat) (J : Mem), i < 400 → 400 ≤ i + m → FlF I J kx (prF I (I am 0).toNatClampNeg bd (wiF I am)) (v0of (I am 1) (I am 2) (I am 3) (I am 4)) i → J kx 9 = 0 → J kx 10 = -4 → (∀ q, 1 ≤ q → q ≤ i → eF I (prF I (I am 0).toNatClampNeg bd (wiF I am)) (v0of (I am 1) (I am 2) (I am 3) (I am 4)) q = 0) → g J 45 [(0, .ref (E.1 0)), (1, .ref (E.1 kx)), (2, .ref (E.1 am)), (3, .int bd), (4, .ref (E.1 (41 + 2 * (I am 0).toNatClampNeg))), (5, .ref (E.1 (wiF I am))), (6, .int (nI (i + 1)))] [] := by
      intro m
      induction m with
      | zero =>
        intro i J h1 h2
        omega
      | succ m ih =>
        intro i J hi him hF hJ9 hJ10 hE
        obtain ⟨f1, f2, f3, f4, f5⟩ := id hF
        have ei := nI_tI (i := i + 1) (by omega)
        have hrg := vSeq_rg (pr := prF I (I am 0).toNatClampNeg bd (wiF I am)) (v0 := v0of (I am 1) (I am 2) (I am 3) (I am 4)) hv5 hv6 i
        have hT2 : J 1 = wvT := by rw [f1 1 (by omega) (by omega), hT]
        have hl2 : 0 ≤ (J kx 7).toInt ∧ (J kx 7).toInt ≤ 90 := by rw [f3 7 (by decide)]; exact vSeq_lean (v0 := v0of (I am 1) (I am 2) (I am 3) (I am 4)) hao.2.1 i
        have hs2 : (J kx 6).toInt ≤ 1000 ∧ 0 ≤ (J kx 6).toInt := by rw [f3 6 (by decide)]; exact ⟨hrg.2.2, hrg.2.1⟩
        have hd2 : (J kx 5).toInt ≤ 250 ∧ 0 ≤ (J kx 5).toInt := by rw [f3 5 (by decide)]; exact ⟨hrg.1.2, hrg.1.1⟩
        have ht2 : ∀ p, p < 4 → 0 ≤ (J (wiF I am + 2) p).toInt ∧ (J (wiF I am + 2) p).toInt ≤ 359 := by rw [f1 (wiF I am + 2) (by omega) (by omega)]; exact ht
        have hso2 : StOk J (I am 0).toNatClampNeg := by unfold StOk; rw [f1 (41 + 2 * (I am 0).toNatClampNeg) (by omega) (by omega)]; exact hso
        refine r_iload (pc := 45) h dX10_endOf_45 rfl ?_
        refine r_sipush (v := 400) (pc := 47) h dX10_endOf_47 (by decide) ?_
        refine r_icmp_gt (pc := 50) h 87 dX10_endOf_50 (by decide) (fun c50 => ?_) (fun c50 => ?_)
        · exfalso
          have e400 : (400 : Int32).toInt = 400 := by decide
          first
          | (rw [Int32.lt_iff_toInt_lt, ei] at c50; omega)
          | exact c57 hJ9
        · refine r_aload_n (pc := 53) h dX10_endOf_53 rfl ?_
          refine gf_X10_363 (pc := 54) h dX10_endOf_54 hk hkd ?_
          refine r_if_ne (pc := 57) h 87 dX10_endOf_57 (by decide) (fun c57 => ?_) (fun c57 => ?_)
          · exfalso
            have e400 : (400 : Int32).toInt = 400 := by decide
            first
            | (rw [Int32.lt_iff_toInt_lt, ei] at c50; omega)
            | exact c57 hJ9
          · refine r_aload_n (pc := 60) h dX10_endOf_60 rfl ?_
            refine r_aload (pc := 61) h dX10_endOf_61 rfl ?_
            refine r_iload_n (pc := 63) h dX10_endOf_63 rfl ?_
            refine r_aload (pc := 64) h dX10_endOf_64 rfl ?_
            refine r_callVV (ci := 1) (pc := 66) h dX10_endOf_66 wm_X10_376 ca_X1_step rfl (c_X1_step E _ _ _ _ _ hkk hn9 hwo hl2 ht2) rfl rfl (Nat.le_of_ble_eq_true rfl) (by decide) (by decide) hk hkd (fun I1 hq => ?_)
            subst hq
            refine r_nmG (fun L_ hL => ?_)
            obtain ⟨sA, sB, s8, s9, s10⟩ := F_step_is J kx (I am 0).toNatClampNeg bd (wiF I am) hkk hn9 hwo hT2 hl2 hs2 hd2 ht2 hso2.1 hso2.2.1 hso2.2.2
            rw [← hL] at sA sB s8 s9 s10
            have l8 : L_ kx 8 = nI (i + 1) := by rw [s8, f4, nI_succ]
            have lv : ∀ j, j < 8 → L_ kx j = vSeq (prF I (I am 0).toNatClampNeg bd (wiF I am)) (v0of (I am 1) (I am 2) (I am 3) (I am 4)) (i + 1) j := fun j hj => by
              rw [sA j hj, prF_rows bd hkk hwb f1, f4, ← nI_succ]
              exact pst_congr f3 j hj
            have l7 : L_ 7 = I 7 := by rw [sB 7 (by omega), f1 7 (by omega) (by omega)]
            have ltr : ∀ t, t < (I 7 1).toNatClampNeg → ∀ j, trF L_ j t = trF I j t := fun t ht2 j => by
              have hC6 : (I 7 1).toNatClampNeg ≤ 6 := by rw [tn]; omega
              have := trF_rows (I := I) (J := J) hkk f1 t (by omega) j
              rw [← this]
              unfold trF
              rw [sB (9 + t) (by omega)]
            have eF_ : endV (L_ kx) (nI (i + 1)) (trF L_) (I 7 1).toNatClampNeg (I 7 2) = eF I (prF I (I am 0).toNatClampNeg bd (wiF I am)) (v0of (I am 1) (I am 2) (I am 3) (I am 4)) (i + 1) := by
              unfold eF
              rw [endV_T ltr]
              exact endV_congr lv
            refine r_aload_n (pc := 69) h dX10_endOf_69 rfl ?_
            refine r_aload_n (pc := 70) h dX10_endOf_70 rfl ?_
            refine gf_X10_44 (pc := 71) h dX10_endOf_71 ?_
            refine r_callVV (ci := 1) (pc := 74) h dX10_endOf_74 wm_X10_380 ca_X1_endIn rfl (c_X1_endIn E _ _ hkk (by rw [l7]; exact hc) (by rw [s10]; exact hJ10) (by rw [s9]; exact hJ9) (by rw [l8, ei]; omega)) rfl rfl (Nat.le_of_ble_eq_true rfl) (by decide) (by decide) hk hkd (fun K_ hq => ?_)
            obtain ⟨k1, k2, k9, k10⟩ := hq
            refine r_aload_n (pc := 77) h dX10_endOf_77 rfl ?_
            refine r_callVV (ci := 1) (pc := 78) h dX10_endOf_78 wm_X10_384 ca_X1_note rfl (c_X1_note E _ _ hkk (by rw [k2 8 (by decide) (by decide), l8, ei]; omega)) rfl rfl (Nat.le_of_ble_eq_true rfl) (by decide) (by decide) hk hkd (fun U_ hq => ?_)
            obtain ⟨u1, u2, u3⟩ := hq
            have u2 : kx = 17 → U_ 16 = K_ 16 := fun q => by rw [u2 q]
            refine r_iinc (v := 1) (pc := 81) h dX10_endOf_81 rfl (by decide) (by decide) ?_
            refine r_goto (pc := 84) h 45 dX10_endOf_84 (by decide) ?_
            rw [← nI_succ]
            have hU9 : U_ kx 9 = eF I (prF I (I am 0).toNatClampNeg bd (wiF I am)) (v0of (I am 1) (I am 2) (I am 3) (I am 4)) (i + 1) := by rw [u1 kx (by omega), k9, l7, l8, eF_]
            have hU10 : U_ kx 10 = hitV (vSeq (prF I (I am 0).toNatClampNeg bd (wiF I am)) (v0of (I am 1) (I am 2) (I am 3) (I am 4)) (i + 1)) (trF I) (I 7 1).toNatClampNeg := by rw [u1 kx (by omega), k10, l7]; exact (hitV_congr lv).trans (hitV_T ltr)
            have hFU : FlF I U_ kx (prF I (I am 0).toNatClampNeg bd (wiF I am)) (v0of (I am 1) (I am 2) (I am 3) (I am 4)) (i + 1) := by
              refine ⟨fun a a1 a2 => by rw [u1 a a2, k1 a a1, sB a a1, f1 a a1 a2], fun q => by rw [u2 q, k1 16 (by omega), sB 16 (by omega), f2 q], fun j hj => by rw [u1 kx (by omega), k2 j (by omega) (by omega)]; exact lv j hj, by rw [u1 kx (by omega), k2 8 (by decide) (by decide), l8], fun q m2 hm2 j hj => ?_⟩
              rw [u3 q]
              subst q
              rw [k2 8 (by decide) (by decide), l8, nI_tn (by omega)]
              by_cases e : m2 = i + 1
              · rw [e, rowQ_in _ _ _ _ hj, k2 j (by omega) (by omega)]
                exact lv j hj
              · rw [rowQ_out _ _ _ (by omega), k1 16 (by decide), sB 16 (by decide)]
                exact f5 rfl m2 (by omega) j hj
            refine r_at h [(0, .ref (E.1 0)), (1, .ref (E.1 kx)), (2, .ref (E.1 am)), (3, .int bd), (4, .ref (E.1 (41 + 2 * (I am 0).toNatClampNeg))), (5, .ref (E.1 (wiF I am))), (6, .int (nI (i + 1 + 1)))] ⟨rfl, rfl, rfl, rfl, rfl, rfl, rfl, trivial⟩ ?_
            by_cases he : eF I (prF I (I am 0).toNatClampNeg bd (wiF I am)) (v0of (I am 1) (I am 2) (I am 3) (I am 4)) (i + 1) = 0
            · have hn4 : i + 1 < 400 := by
                rcases Nat.lt_or_ge (i + 1) 400 with q | q
                · exact q
                · have e4 : i + 1 = 400 := by omega
                  rw [e4] at he
                  exact absurd he (end400 _ _ _ _)
              have hno : hitV (vSeq (prF I (I am 0).toNatClampNeg bd (wiF I am)) (v0of (I am 1) (I am 2) (I am 3) (I am 4)) (i + 1)) (trF I) (I 7 1).toNatClampNeg = -4 := by
                unfold hitV
                rw [if_neg (fun q => by
                  have e3 : eF I (prF I (I am 0).toNatClampNeg bd (wiF I am)) (v0of (I am 1) (I am 2) (I am 3) (I am 4)) (i + 1) = 3 := by
                    unfold eF endV
                    rw [if_pos q]
                  rw [e3] at he
                  exact absurd he (by decide))]
              exact ih (i + 1) U_ hn4 (by omega) hFU (by rw [hU9]; exact he) (by rw [hU10]; exact hno) (fun q q1 q2 => by
                by_cases e : q = i + 1
                · rw [e]; exact he
                · exact hE q q1 (by omega))
            · have fin : g U_ 87 [(0, .ref (E.1 0)), (1, .ref (E.1 kx)), (2, .ref (E.1 am)), (3, .int bd), (4, .ref (E.1 (41 + 2 * (I am 0).toNatClampNeg))), (5, .ref (E.1 (wiF I am))), (6, .int (nI (i + 1 + 1)))] [] := by
                refine r_aload_n (pc := 87) h dX10_endOf_87 rfl ?_
                refine gf_X10_363 (pc := 88) h dX10_endOf_88 hk hkd ?_
                exact hr _ _ _ _ dX10_endOf_91 rfl ⟨i + 1, by omega, by omega, fun q q1 q2 => hE q q1 (by omega), he, hU9, hFU, hU9, hU10⟩
              refine r_iload (pc := 45) h dX10_endOf_45 rfl ?_
              refine r_sipush (v := 400) (pc := 47) h dX10_endOf_47 (by decide) ?_
              refine r_icmp_gt (pc := 50) h 87 dX10_endOf_50 (by decide) (fun _ => fin) (fun _ => ?_)
              refine r_aload_n (pc := 53) h dX10_endOf_53 rfl ?_
              refine gf_X10_363 (pc := 54) h dX10_endOf_54 hk hkd ?_
              exact r_if_ne (pc := 57) h 87 dX10_endOf_57 (by decide) (fun _ => fin) (fun c => absurd (hU9.symm.trans c) he)
    refine r_at h [(0, .ref (E.1 0)), (1, .ref (E.1 kx)), (2, .ref (E.1 am)), (3, .int bd), (4, .ref (E.1 (41 + 2 * (I am 0).toNatClampNeg))), (5, .ref (E.1 (wiF I am))), (6, .int (nI (0 + 1)))] ⟨rfl, rfl, rfl, rfl, rfl, rfl, rfl, trivial⟩ (loop45 400 0 B_ (by omega) (by omega) ?_ ?_ ?_ (fun q q1 q2 => by omega))
    · refine ⟨fun a a1 a2 => by rw [b1 a a2, fB_ne I a1], fun q => by rw [b2 q, fB_ne I (by omega)], fun j hj => by rw [b1 kx (by omega)]; exact (fB_v I kx am).1 j hj, by rw [b1 kx (by omega), (fB_v I kx am).2.1]; exact nI_0.symm, fun q m2 hm2 j hj => ?_⟩
      have e0 : m2 = 0 := by omega
      rw [e0, Nat.mul_zero, Nat.zero_add, b3 q j hj]
      exact (fB_v I 15 am).1 j hj
    · rw [b1 kx (by omega), (fB_v I kx am).2.2.1]
    · rw [b1 kx (by omega), (fB_v I kx am).2.2.2]
