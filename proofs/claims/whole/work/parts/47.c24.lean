/-! the match of the class -/
abbrev frM (I J : Mem) : Prop := (∀ a, a ≠ 25 → a ≠ 34 → a ≠ 35 → J a = I a) ∧ (∀ j, j ≠ 5 → J 25 j = I 25 j)
theorem frM_tr {I J K : Mem} (h : frM I J) (h2 : frM J K) : frM I K := ⟨fun a a1 a2 a3 => (h2.1 a a1 a2 a3).trans (h.1 a a1 a2 a3), fun j j1 => (h2.2 j j1).trans (h.2 j j1)⟩
theorem mtF_fr {I J : Mem} (h : J 26 = I 26) : mtF J = mtF I := by
  funext i
  unfold mtF
  rw [h]
def TP (I I1 : Mem) (L : Nat) (z : Ms) : Prop := (I1 25 5).toInt = z.1 ∧ (-1 ≤ z.1 ∧ z.1 ≤ 250) ∧ (∀ j, j < 5 → mtF I j = true → I1 35 j = z.2 (cntP (mtF I) j)) ∧ frM I I1 ∧ (∀ j, j < L → I1 34 j = I 34 j)
theorem TP_tr {I J K : Mem} {L L2 : Nat} {z : Ms} (h : frM I J) (h3 : ∀ j, j < L → J 34 j = I 34 j) (hL : L ≤ L2) (h2 : TP J K L2 z) : TP I K L z := by
  obtain ⟨a, b, c, d, e⟩ := h2
  rw [mtF_fr (h.1 26 (by decide) (by decide) (by decide))] at c
  exact ⟨a, b, c, frM_tr h d, fun j hj => (e j (by omega)).trans (h3 j hj)⟩
theorem e05 : (5 : Int32).toNatClampNeg = 5 := by decide
def FB (I I1 : Mem) (z : Ms) : Prop := (I1 25 5).toInt = z.1 ∧ (∀ j, j < 5 → mtF I j = true → I1 35 j = z.2 (cntP (mtF I) j)) ∧ frM I I1
abbrev frP (I J : Mem) (i : Nat) : Prop := (∀ a, a ≠ 17 → a ≠ 27 → a ≠ 29 + i → J a = I a) ∧ (∀ j, j ≠ 0 → j ≠ 5 → J 27 j = I 27 j)
abbrev frQ (I J : Mem) : Prop := (∀ a, a ≠ 17 → a ≠ 27 → ¬ (29 ≤ a ∧ a ≤ 33) → J a = I a) ∧ (∀ j, j ≠ 0 → j ≠ 5 → J 27 j = I 27 j)
theorem frQ_FF {I J : Mem} (h : frQ I J) (hc : 0 ≤ (I 7 1).toInt ∧ (I 7 1).toInt ≤ 6) : FF J = FF I := FF_congr (fun a ha => h.1 a (by omega) (by omega) (by omega)) hc
theorem frQ_ok {I J : Mem} (h : frQ I J) (hF : FlOkF I) : FlOkF J := FlOkF_of (fun a ha => h.1 a (by omega) (by omega) (by omega)) hF
theorem frQ_w {I J : Mem} (h : frQ I J) (hF : FwOk I) : FwOk J := FwOk_of (fun a ha => h.1 a (by omega) (by omega) (by omega)) hF
theorem frQ_man {I J : Mem} (h : frQ I J) (hm : manOk I) : manOk J := by
  unfold manOk
  rw [h.2 1 (by decide) (by decide), h.2 3 (by decide) (by decide), h.2 4 (by decide) (by decide)]
  exact hm
theorem frQ_pt {I J : Mem} (h : frQ I J) (hc : 0 ≤ (I 7 1).toInt ∧ (I 7 1).toInt ≤ 6) (s w : Int32) : ptF J s w = ptF I s w := by
  unfold ptF
  rw [frQ_FF h hc, h.2 1 (by decide) (by decide), h.2 2 (by decide) (by decide), h.2 3 (by decide) (by decide), h.2 4 (by decide) (by decide), h.1 (41 + 2 * s.toNatClampNeg) (by omega) (by omega) (by omega)]
theorem frP_Q {I J : Mem} {i : Nat} (hi : i < 5) (h : frP I J i) : frQ I J := ⟨fun a a1 a2 a3 => h.1 a a1 a2 (by omega), h.2⟩
abbrev mtOk (I : Mem) : Prop := ∀ i, i < 5 → mtF I i = true → (I 26 i = -1 ∨ (0 ≤ (I 26 i).toInt ∧ (I 26 i).toInt < 8))
abbrev frMM (I J : Mem) : Prop := (∀ a, a ≠ 17 → a ≠ 25 → a ≠ 27 → ¬ (29 ≤ a ∧ a ≤ 35) → J a = I a) ∧ (∀ j, j ≠ 0 → j ≠ 5 → J 27 j = I 27 j) ∧ (∀ j, j ≠ 5 → J 25 j = I 25 j)
abbrev zMF (I : Mem) : Ms := mV (QF I) (cntP (mtF I) 5) 0 (fun _ => 0) (bagN (bgF I) (I 0 2).toNatClampNeg) 0 (-1, fun c_ => I 35 (atx (mtF I) c_))
def PMF (I I1 : Mem) : Prop := (I1 25 5).toInt = (zMF I).1 ∧ (∀ j, j < 5 → mtF I j = true → I1 35 j = (zMF I).2 (cntP (mtF I) j)) ∧ frMM I I1
def F_best (I : Mem) : Int32 := if nI (cntP (mtF I) 5) = 0 then -2 else if nI (cntP (bgF I) (I 0 2).toNatClampNeg) < nI (cntP (mtF I) 5) then -4 else Int32.ofInt (zMF I).1
def F_order (I : Mem) (i : Int32) : Int32 := if (0 ≤ i.toInt ∧ i.toInt ≤ 4) ∧ ¬ I 26 i.toNatClampNeg = -2 then (if nI (cntP (bgF I) (I 0 2).toNatClampNeg) < nI (cntP (mtF I) 5) then -4 else (zMF I).2 (cntP (mtF I) i.toNatClampNeg)) else -1
theorem frMM_id (I : Mem) : frMM I I := ⟨fun _ _ _ _ _ => rfl, fun _ _ _ => rfl, fun _ _ => rfl⟩
set_option maxRecDepth 100000 in
set_option maxHeartbeats 1000000 in
theorem c_try5 (E : En) (I : Mem) (iv : Int32) (fv : Int32) (pv : Int32) (Q : Nat → Nat → Int) (fr : Nat) (row be : Nat → Int32) (hiv : iv = nI 5) (hfv : fv = nI fr) (hf5 : fr < 512) (hp : 0 ≤ pv.toInt ∧ pv.toInt ≤ 250) (hQ : ∀ c s, 0 ≤ Q c s ∧ Q c s ≤ 50) (hT : ∀ j, j < 5 → mtF I j = true → ∀ s, s < 9 → fr.testBit s = true → (I (29 + j) s).toInt = Q (cntP (mtF I) j) s) (htr : ∀ j, j < 5 → mtF I j = true → I 34 j = row (cntP (mtF I) j)) (hbe : ∀ j, j < 5 → mtF I j = true → I 35 j = be (cntP (mtF I) j)) (hmo : -1 ≤ (I 25 5).toInt ∧ (I 25 5).toInt ≤ 250) : Ctr E yX3_tryThrow cX3_tryThrow 5 none 1 [.ref (E.1 25), .int iv, .int fv, .int pv] I (qV (fun I1 : Mem => TP I I1 5 (mV Q (cntP (mtF I) 5 - cntP (mtF I) 5) (cntP (mtF I) 5) row fr pv.toInt ((I 25 5).toInt, be)))) := by
  refine Ctr.openV (by decide) (Nat.le_of_ble_eq_true rfl) (fun g h hr => ?_)
  have h : Sem cX3_tryThrow RX3 5 (rmL 1) E g := h
  show g I 0 [(0, .ref (E.1 25)), (1, .int iv), (2, .int fv), (3, .int pv)] []
  subst hiv
  subst hfv
  have esum : (pv + (5 - nI 5) * 50).toInt = pv.toInt + 0 := by
    have e_ : ((5 - nI 5) * 50 : Int32).toInt = 0 := by decide
    rw [tI_add (by rw [e_]; omega) (by rw [e_]; omega), e_]
  have hu5 := cnt_up5 (mtF I) (i := 5) (by decide)
  refine r_iload_n (pc := 0) h dX3_tryThrow_0 rfl ?_
  refine r_iconst (v := 5) (pc := 1) h dX3_tryThrow_1 (by decide) ?_
  refine r_iload_n (pc := 2) h dX3_tryThrow_2 rfl ?_
  refine r_isub (pc := 3) h dX3_tryThrow_3 ?_
  refine r_bipush (v := 50) (pc := 4) h dX3_tryThrow_4 (by decide) ?_
  refine r_imul (pc := 6) h dX3_tryThrow_6 ?_
  refine r_iadd (pc := 7) h dX3_tryThrow_7 ?_
  refine r_aload_n (pc := 8) h dX3_tryThrow_8 rfl ?_
  refine gf_X3_43 (pc := 9) h dX3_tryThrow_9 ?_
  refine r_icmp_gt (pc := 12) h 16 dX3_tryThrow_12 (by decide) (fun c12 => ?_) (fun c12 => ?_)
  · refine r_iload_n (pc := 16) h dX3_tryThrow_16 rfl ?_
    refine r_iconst (v := 5) (pc := 17) h dX3_tryThrow_17 (by decide) ?_
    refine r_icmp_lt (pc := 18) h 41 dX3_tryThrow_18 (by decide) (fun c18 => ?_) (fun c18 => ?_)
    · exfalso
      exact absurd c18 (by decide)
    · refine r_aload_n (pc := 21) h dX3_tryThrow_21 rfl ?_
      refine r_iload_n (pc := 22) h dX3_tryThrow_22 rfl ?_
      refine pf_X3_43 (pc := 23) h dX3_tryThrow_23 ?_
      refine r_aload_n (pc := 26) h dX3_tryThrow_26 rfl ?_
      refine gf_X3_27 (pc := 27) h dX3_tryThrow_27 ?_
      refine r_iconst (v := 0) (pc := 30) h dX3_tryThrow_30 (by decide) ?_
      refine r_aload_n (pc := 31) h dX3_tryThrow_31 rfl ?_
      refine gf_X3_30 (pc := 32) h dX3_tryThrow_32 ?_
      refine r_iconst (v := 0) (pc := 35) h dX3_tryThrow_35 (by decide) ?_
      refine r_iconst (v := 5) (pc := 36) h dX3_tryThrow_36 (by decide) ?_
      refine r_copy (pc := 37) h dX3_tryThrow_37 wm_X3_cp (by decide) (by decide) (by decide) (by decide) (by decide) (by decide) (by decide) (by decide) (by decide) (by decide) (by decide) ?_
      exact hr _ _ _ dX3_tryThrow_40 (by rw [show cntP (mtF I) 5 - cntP (mtF I) 5 = 0 by omega, mV_0, if_pos (by rw [Int32.lt_iff_toInt_lt, esum] at c12; show (I 25 5).toInt < _; omega)]; exact ⟨by rw [cpM_ne _ (by decide), upm_eq], ⟨by show -1 ≤ pv.toInt; omega, by show pv.toInt ≤ 250; omega⟩, fun j hj_ hm_ => by rw [cpM, if_pos ⟨rfl, by rw [e00]; omega, by rw [e00, e05]; omega⟩, upm_ne _ _ _ (by decide), e00, Nat.sub_zero, Nat.zero_add]; exact htr j hj_ hm_, ⟨fun a a1 a2 a3 => by rw [cpM_ne _ a3, upm_ne _ _ _ a1], fun j hj_ => by rw [cpM_ne _ (by decide), upm_at, if_neg (fun q_ => hj_ q_.2)]⟩, fun j hj_ => by rw [cpM_ne _ (by decide), upm_ne _ _ _ (by decide)]⟩)
  · exact hr _ _ _ dX3_tryThrow_15 (by rw [mV_prune hQ _ _ _ _ _ _ (by rw [Int32.lt_iff_toInt_lt, esum] at c12; show _ ≤ (I 25 5).toInt; omega)]; exact ⟨rfl, hmo, hbe, ⟨fun _ _ _ _ => rfl, fun _ _ => rfl⟩, fun _ _ => rfl⟩)
set_option maxRecDepth 100000 in
set_option maxHeartbeats 1000000 in
theorem c_try4 (E : En) (I : Mem) (iv : Int32) (fv : Int32) (pv : Int32) (Q : Nat → Nat → Int) (fr : Nat) (row be : Nat → Int32) (hiv : iv = nI 4) (hfv : fv = nI fr) (hf5 : fr < 512) (hp : 0 ≤ pv.toInt ∧ pv.toInt ≤ 200) (hQ : ∀ c s, 0 ≤ Q c s ∧ Q c s ≤ 50) (hT : ∀ j, j < 5 → mtF I j = true → ∀ s, s < 9 → fr.testBit s = true → (I (29 + j) s).toInt = Q (cntP (mtF I) j) s) (htr : ∀ j, j < 4 → mtF I j = true → I 34 j = row (cntP (mtF I) j)) (hbe : ∀ j, j < 5 → mtF I j = true → I 35 j = be (cntP (mtF I) j)) (hmo : -1 ≤ (I 25 5).toInt ∧ (I 25 5).toInt ≤ 250) : Ctr E yX3_tryThrow cX3_tryThrow 5 none 2 [.ref (E.1 25), .int iv, .int fv, .int pv] I (qV (fun I1 : Mem => TP I I1 4 (mV Q (cntP (mtF I) 5 - cntP (mtF I) 4) (cntP (mtF I) 4) row fr pv.toInt ((I 25 5).toInt, be)))) := by
  refine Ctr.openV (by decide) (Nat.le_of_ble_eq_true rfl) (fun g h hr => ?_)
  have h : Sem cX3_tryThrow RX3 5 (rmL 2) E g := h
  show g I 0 [(0, .ref (E.1 25)), (1, .int iv), (2, .int fv), (3, .int pv)] []
  subst hiv
  subst hfv
  have esum : (pv + (5 - nI 4) * 50).toInt = pv.toInt + 50 := by
    have e_ : ((5 - nI 4) * 50 : Int32).toInt = 50 := by decide
    rw [tI_add (by rw [e_]; omega) (by rw [e_]; omega), e_]
  have hu5 := cnt_up5 (mtF I) (i := 4) (by decide)
  refine r_iload_n (pc := 0) h dX3_tryThrow_0 rfl ?_
  refine r_iconst (v := 5) (pc := 1) h dX3_tryThrow_1 (by decide) ?_
  refine r_iload_n (pc := 2) h dX3_tryThrow_2 rfl ?_
  refine r_isub (pc := 3) h dX3_tryThrow_3 ?_
  refine r_bipush (v := 50) (pc := 4) h dX3_tryThrow_4 (by decide) ?_
  refine r_imul (pc := 6) h dX3_tryThrow_6 ?_
  refine r_iadd (pc := 7) h dX3_tryThrow_7 ?_
  refine r_aload_n (pc := 8) h dX3_tryThrow_8 rfl ?_
  refine gf_X3_43 (pc := 9) h dX3_tryThrow_9 ?_
  refine r_icmp_gt (pc := 12) h 16 dX3_tryThrow_12 (by decide) (fun c12 => ?_) (fun c12 => ?_)
  · refine r_iload_n (pc := 16) h dX3_tryThrow_16 rfl ?_
    refine r_iconst (v := 5) (pc := 17) h dX3_tryThrow_17 (by decide) ?_
    refine r_icmp_lt (pc := 18) h 41 dX3_tryThrow_18 (by decide) (fun c18 => ?_) (fun c18 => ?_)
    · refine r_aload_n (pc := 41) h dX3_tryThrow_41 rfl ?_
      refine gf_X3_11 (pc := 42) h dX3_tryThrow_42 ?_
      refine r_iload_n (pc := 45) h dX3_tryThrow_45 rfl ?_
      refine r_ialdL (j := 4) (pc := 46) h dX3_tryThrow_46 (by decide) (by decide) (by decide) (vin (n := 5) (by decide) (by decide)) ?_
      refine r_bipush (v := -2) (pc := 47) h dX3_tryThrow_47 (by decide) ?_
      refine r_icmp_ne (pc := 49) h 62 dX3_tryThrow_49 (by decide) (fun c49 => ?_) (fun c49 => ?_)
      · have hm_ : mtF I 4 = true := decide_eq_true c49
        have ec_ : cntP (mtF I) (4 + 1) = cntP (mtF I) 4 + 1 := if_pos hm_
        have hlt5 := cnt_lt (p := mtF I) (j := 5) (k := 4) hm_ (by decide)
        refine r_iconst (v := 0) (pc := 62) h dX3_tryThrow_62 (by decide) ?_
        refine r_istore (pc := 63) h dX3_tryThrow_63 (by decide) ?_
        have loop65 : ∀ (m k : Nat) (J_ : Mem), k ≤ 9 → 10 ≤ k + m → TP I J_ 4 (foldS (mStep Q (cntP (mtF I) 5 - cntP (mtF I) 4 - 1) (cntP (mtF I) 4) row fr pv.toInt) k ((I 25 5).toInt, be)) → g J_ 65 [(0, .ref (E.1 25)), (1, .int (nI 4)), (2, .int (nI fr)), (3, .int pv), (4, .int (nI k))] [] := by
          intro m
          induction m with
          | zero =>
            intro k J_ h1 h2
            omega
          | succ m ih =>
            intro k J_ hk hkm hTP
            obtain ⟨hz1, hz2, hz3, hz4, hz5⟩ := id hTP
            have ek := nI_tI (i := k) (by omega)
            refine r_iload (pc := 65) h dX3_tryThrow_65 rfl ?_
            refine r_bipush (v := 9) (pc := 67) h dX3_tryThrow_67 (by decide) ?_
            refine r_icmp_ge (pc := 69) h 122 dX3_tryThrow_69 (by decide) (fun c69 => ?_) (fun c69 => ?_)
            · have hge : k = 9 := by rw [Int32.le_iff_toInt_le, ek, e9i] at c69; omega
              exact hr _ _ _ dX3_tryThrow_122 (by rw [show cntP (mtF I) 5 - cntP (mtF I) 4 = (cntP (mtF I) 5 - cntP (mtF I) 4 - 1) + 1 by omega, mV_s, ← hge]; exact hTP)
            · have hk9 : k < 9 := by rw [Int32.le_iff_toInt_le, ek, e9i] at c69; omega
              refine r_iload_n (pc := 72) h dX3_tryThrow_72 rfl ?_
              refine r_iload (pc := 73) h dX3_tryThrow_73 rfl ?_
              refine r_ishr (pc := 75) h dX3_tryThrow_75 ?_
              refine r_iconst (v := 1) (pc := 76) h dX3_tryThrow_76 (by decide) ?_
              refine r_iand (pc := 77) h dX3_tryThrow_77 ?_
              refine r_iconst (v := 1) (pc := 78) h dX3_tryThrow_78 (by decide) ?_
              refine r_icmp_ne (pc := 79) h 116 dX3_tryThrow_79 (by decide) (fun c79 => ?_) (fun c79 => ?_)
              · refine r_iinc (v := 1) (pc := 116) h dX3_tryThrow_116 rfl (by decide) (by decide) ?_
                refine r_goto (pc := 119) h 65 dX3_tryThrow_119 (by decide) ?_
                rw [← nI_succ k]
                first
                | (have e9_ : (foldS (mStep Q (cntP (mtF I) 5 - cntP (mtF I) 4 - 1) (cntP (mtF I) 4) row fr pv.toInt) (k + 1) ((I 25 5).toInt, be)) = mV Q (cntP (mtF I) 5 - cntP (mtF I) 4 - 1) ((cntP (mtF I) 4) + 1) (updR row (cntP (mtF I) 4) k) (fr - 2 ^ k) (pv.toInt + Q (cntP (mtF I) 4) k) (foldS (mStep Q (cntP (mtF I) 5 - cntP (mtF I) 4 - 1) (cntP (mtF I) 4) row fr pv.toInt) k ((I 25 5).toInt, be)) := by
                     rw [foldS_s]
                     exact if_pos hbit
                   exact r_at h [(0, .ref (E.1 25)), (1, .int (nI 4)), (2, .int (nI fr)), (3, .int pv), (4, .int (nI (k + 1)))] ⟨rfl, rfl, rfl, rfl, rfl, trivial⟩ (ih (k + 1) _ (by omega) (by omega) (by rw [e9_]; exact hres)))
                | (have e9_ : (foldS (mStep Q (cntP (mtF I) 5 - cntP (mtF I) 4 - 1) (cntP (mtF I) 4) row fr pv.toInt) (k + 1) ((I 25 5).toInt, be)) = (foldS (mStep Q (cntP (mtF I) 5 - cntP (mtF I) 4 - 1) (cntP (mtF I) 4) row fr pv.toInt) k ((I 25 5).toInt, be)) := by
                     rw [foldS_s]
                     exact if_neg (fun q_ => c79 ((bitQ_all fr hf5 k hk9).mpr q_))
                   exact r_at h [(0, .ref (E.1 25)), (1, .int (nI 4)), (2, .int (nI fr)), (3, .int pv), (4, .int (nI (k + 1)))] ⟨rfl, rfl, rfl, rfl, rfl, trivial⟩ (ih (k + 1) _ (by omega) (by omega) (by rw [e9_]; exact hTP)))
              · have hbit : fr.testBit k = true := (bitQ_all fr hf5 k hk9).mp c79
                have hcl := clrB fr hf5 k hk9 hbit
                refine r_aload_n (pc := 82) h dX3_tryThrow_82 rfl ?_
                refine gf_X3_27 (pc := 83) h dX3_tryThrow_83 ?_
                refine r_iload_n (pc := 86) h dX3_tryThrow_86 rfl ?_
                refine r_iload (pc := 87) h dX3_tryThrow_87 rfl ?_
                refine r_iastL (j := 4) (pc := 89) h dX3_tryThrow_89 (by decide) (by decide) (by decide) (vin (n := 5) (by decide) (by decide)) ?_
                refine r_nmG (fun K_ hK => ?_)
                have hK1 : ∀ a, a ≠ 34 → K_ a = J_ a := fun a ha_ => by rw [hK, upm_ne _ _ _ ha_]
                have hK34 : ∀ j, j ≠ 4 → K_ 34 j = J_ 34 j := fun j hj_ => by rw [hK, upm_at, if_neg (fun q_ => hj_ q_.2)]
                have hKL : K_ 34 4 = nI k := by rw [hK, upm_eq]
                have hfrK : frM I K_ := ⟨fun a a1 a2 a3 => (hK1 a a2).trans (hz4.1 a a1 a2 a3), fun j hj_ => by rw [hK1 25 (by decide)]; exact hz4.2 j hj_⟩
                have hmK : mtF K_ = mtF I := mtF_fr (hfrK.1 26 (by decide) (by decide) (by decide))
                have hKm : (K_ 25 5).toInt = (foldS (mStep Q (cntP (mtF I) 5 - cntP (mtF I) 4 - 1) (cntP (mtF I) 4) row fr pv.toInt) k ((I 25 5).toInt, be)).1 := by rw [hK1 25 (by decide)]; exact hz1
                refine r_aload_n (pc := 90) h dX3_tryThrow_90 rfl ?_
                refine r_iload_n (pc := 91) h dX3_tryThrow_91 rfl ?_
                refine r_iconst (v := 1) (pc := 92) h dX3_tryThrow_92 (by decide) ?_
                refine r_iadd (pc := 93) h dX3_tryThrow_93 ?_
                refine r_iload_n (pc := 94) h dX3_tryThrow_94 rfl ?_
                refine r_iconst (v := 1) (pc := 95) h dX3_tryThrow_95 (by decide) ?_
                refine r_iload (pc := 96) h dX3_tryThrow_96 rfl ?_
                refine r_ishl (pc := 98) h dX3_tryThrow_98 ?_
                refine r_iconst (v := -1) (pc := 99) h dX3_tryThrow_99 (by decide) ?_
                refine r_ixor (pc := 100) h dX3_tryThrow_100 ?_
                refine r_iand (pc := 101) h dX3_tryThrow_101 ?_
                refine r_iload_n (pc := 102) h dX3_tryThrow_102 rfl ?_
                refine r_aload_n (pc := 103) h dX3_tryThrow_103 rfl ?_
                refine gf_X3_24 (pc := 104) h dX3_tryThrow_104 ?_
                refine r_iload_n (pc := 107) h dX3_tryThrow_107 rfl ?_
                refine r_aa28 (pc := 108) h dX3_tryThrow_108 (vin (n := 5) (by decide) (by decide)) ?_
                rw [show (nI 4).toNatClampNeg = 4 by decide]
                refine r_iload (pc := 109) h dX3_tryThrow_109 rfl ?_
                refine r_ialdL (j := k) (pc := 111) h dX3_tryThrow_111 (by decide) (by decide) (nI_tn (by omega)) (vinI (n := 9) (by omega) (by omega)) ?_
                have hval : (K_ (29 + 4) k).toInt = Q (cntP (mtF I) 4) k := by rw [hfrK.1 (29 + 4) (by decide) (by decide) (by decide)]; exact hT 4 (by decide) hm_ k hk9 hbit
                have hq0_ := hQ (cntP (mtF I) 4) k
                have hpt : (pv + K_ (29 + 4) k).toInt = pv.toInt + Q (cntP (mtF I) 4) k := by rw [tI_add (by rw [hval]; omega) (by rw [hval]; omega), hval]
                refine r_iadd (pc := 112) h dX3_tryThrow_112 ?_
                refine r_callVV (ci := 3) (pc := 113) h dX3_tryThrow_113 wm_X3_47 ca_X3_tryThrow rfl (c_try5 E _ _ _ _ Q (fr - 2 ^ k) (updR row (cntP (mtF I) 4) k) (foldS (mStep Q (cntP (mtF I) 5 - cntP (mtF I) 4 - 1) (cntP (mtF I) 4) row fr pv.toInt) k ((I 25 5).toInt, be)).2 (by decide) hcl.1 (Nat.lt_of_le_of_lt (Nat.sub_le _ _) hf5) (by rw [hpt]; omega) hQ (by rw [hmK]; intro j hj_ hmj_ s hs_ hb_; rw [hfrK.1 (29 + j) (by omega) (by omega) (by omega)]; rw [clr_bit fr hf5 k hk9 hbit s hs_, Bool.and_eq_true] at hb_; exact hT j hj_ hmj_ s hs_ hb_.1) (by rw [hmK]; intro j hj_ hmj_; by_cases e_ : j = 4; (rw [e_, hKL, updR_eq]); (have hlj_ := cnt_lt (p := mtF I) (j := 4) hmj_ (by omega); rw [hK34 j e_, hz5 j (by omega), updR_ne _ _ (by omega)]; exact htr j (by omega) hmj_)) (by rw [hmK, hK1 35 (by decide)]; exact hz3) (by rw [hKm]; exact hz2)) rfl rfl (Nat.le_of_ble_eq_true rfl) (by decide) (by decide) (by decide) (by decide) (fun L_ hq => ?_)
                have hres : TP I L_ 4 (mV Q (cntP (mtF I) 5 - cntP (mtF I) 4 - 1) ((cntP (mtF I) 4) + 1) (updR row (cntP (mtF I) 4) k) (fr - 2 ^ k) (pv.toInt + Q (cntP (mtF I) 4) k) (foldS (mStep Q (cntP (mtF I) 5 - cntP (mtF I) 4 - 1) (cntP (mtF I) 4) row fr pv.toInt) k ((I 25 5).toInt, be))) := by
                  rw [hmK, hpt, hKm, show cntP (mtF I) 5 - cntP (mtF I) 5 = cntP (mtF I) 5 - cntP (mtF I) 4 - 1 by omega] at hq
                  rw [show cntP (mtF I) 4 + 1 = cntP (mtF I) 5 from ec_.symm]
                  exact TP_tr hfrK (fun j hj_ => by rw [hK34 j (by omega)]; exact hz5 j hj_) (by decide) hq
                refine r_iinc (v := 1) (pc := 116) h dX3_tryThrow_116 rfl (by decide) (by decide) ?_
                refine r_goto (pc := 119) h 65 dX3_tryThrow_119 (by decide) ?_
                rw [← nI_succ k]
                first
                | (have e9_ : (foldS (mStep Q (cntP (mtF I) 5 - cntP (mtF I) 4 - 1) (cntP (mtF I) 4) row fr pv.toInt) (k + 1) ((I 25 5).toInt, be)) = mV Q (cntP (mtF I) 5 - cntP (mtF I) 4 - 1) ((cntP (mtF I) 4) + 1) (updR row (cntP (mtF I) 4) k) (fr - 2 ^ k) (pv.toInt + Q (cntP (mtF I) 4) k) (foldS (mStep Q (cntP (mtF I) 5 - cntP (mtF I) 4 - 1) (cntP (mtF I) 4) row fr pv.toInt) k ((I 25 5).toInt, be)) := by
                     rw [foldS_s]
                     exact if_pos hbit
                   exact r_at h [(0, .ref (E.1 25)), (1, .int (nI 4)), (2, .int (nI fr)), (3, .int pv), (4, .int (nI (k + 1)))] ⟨rfl, rfl, rfl, rfl, rfl, trivial⟩ (ih (k + 1) _ (by omega) (by omega) (by rw [e9_]; exact hres)))
                | (have e9_ : (foldS (mStep Q (cntP (mtF I) 5 - cntP (mtF I) 4 - 1) (cntP (mtF I) 4) row fr pv.toInt) (k + 1) ((I 25 5).toInt, be)) = (foldS (mStep Q (cntP (mtF I) 5 - cntP (mtF I) 4 - 1) (cntP (mtF I) 4) row fr pv.toInt) k ((I 25 5).toInt, be)) := by
                     rw [foldS_s]
                     exact if_neg (fun q_ => c79 ((bitQ_all fr hf5 k hk9).mpr q_))
                   exact r_at h [(0, .ref (E.1 25)), (1, .int (nI 4)), (2, .int (nI fr)), (3, .int pv), (4, .int (nI (k + 1)))] ⟨rfl, rfl, rfl, rfl, rfl, trivial⟩ (ih (k + 1) _ (by omega) (by omega) (by rw [e9_]; exact hTP)))
        exact r_at h [(0, .ref (E.1 25)), (1, .int (nI 4)), (2, .int (nI fr)), (3, .int pv), (4, .int (nI 0))] ⟨rfl, rfl, rfl, rfl, rfl, trivial⟩ (loop65 10 0 I (by omega) (by omega) ⟨rfl, hmo, hbe, ⟨fun _ _ _ _ => rfl, fun _ _ => rfl⟩, fun _ _ => rfl⟩)
      · have hm_ : mtF I 4 = false := decide_eq_false (fun q_ => q_ c49)
        have ec_ : cntP (mtF I) (4 + 1) = cntP (mtF I) 4 := if_neg (by rw [hm_]; decide)
        refine r_aload_n (pc := 52) h dX3_tryThrow_52 rfl ?_
        refine r_iload_n (pc := 53) h dX3_tryThrow_53 rfl ?_
        refine r_iconst (v := 1) (pc := 54) h dX3_tryThrow_54 (by decide) ?_
        refine r_iadd (pc := 55) h dX3_tryThrow_55 ?_
        refine r_iload_n (pc := 56) h dX3_tryThrow_56 rfl ?_
        refine r_iload_n (pc := 57) h dX3_tryThrow_57 rfl ?_
        refine r_callVV (ci := 3) (pc := 58) h dX3_tryThrow_58 wm_X3_47 ca_X3_tryThrow rfl (c_try5 E _ _ _ _ Q fr row be (by decide) rfl hf5 (by omega) hQ hT (by intro j hj_ hmj_; by_cases e_ : j = 4; (rw [e_, hm_] at hmj_; exact absurd hmj_ (by decide)); exact htr j (by omega) hmj_) hbe hmo) rfl rfl (Nat.le_of_ble_eq_true rfl) (by decide) (by decide) (by decide) (by decide) (fun L_ hq => ?_)
        rw [show cntP (mtF I) 5 = cntP (mtF I) 4 from ec_] at hq
        exact hr _ _ _ dX3_tryThrow_61 (TP_tr (J := I) (L := 4) (L2 := 5) ⟨fun _ _ _ _ => rfl, fun _ _ => rfl⟩ (fun _ _ => rfl) (by decide) (by rw [show cntP (mtF I) 5 = cntP (mtF I) 4 from ec_]; exact hq))
    · exact absurd (by decide) c18
  · exact hr _ _ _ dX3_tryThrow_15 (by rw [mV_prune hQ _ _ _ _ _ _ (by rw [Int32.lt_iff_toInt_lt, esum] at c12; show _ ≤ (I 25 5).toInt; omega)]; exact ⟨rfl, hmo, hbe, ⟨fun _ _ _ _ => rfl, fun _ _ => rfl⟩, fun _ _ => rfl⟩)
set_option maxRecDepth 100000 in
set_option maxHeartbeats 1000000 in
theorem c_try3 (E : En) (I : Mem) (iv : Int32) (fv : Int32) (pv : Int32) (Q : Nat → Nat → Int) (fr : Nat) (row be : Nat → Int32) (hiv : iv = nI 3) (hfv : fv = nI fr) (hf5 : fr < 512) (hp : 0 ≤ pv.toInt ∧ pv.toInt ≤ 150) (hQ : ∀ c s, 0 ≤ Q c s ∧ Q c s ≤ 50) (hT : ∀ j, j < 5 → mtF I j = true → ∀ s, s < 9 → fr.testBit s = true → (I (29 + j) s).toInt = Q (cntP (mtF I) j) s) (htr : ∀ j, j < 3 → mtF I j = true → I 34 j = row (cntP (mtF I) j)) (hbe : ∀ j, j < 5 → mtF I j = true → I 35 j = be (cntP (mtF I) j)) (hmo : -1 ≤ (I 25 5).toInt ∧ (I 25 5).toInt ≤ 250) : Ctr E yX3_tryThrow cX3_tryThrow 5 none 3 [.ref (E.1 25), .int iv, .int fv, .int pv] I (qV (fun I1 : Mem => TP I I1 3 (mV Q (cntP (mtF I) 5 - cntP (mtF I) 3) (cntP (mtF I) 3) row fr pv.toInt ((I 25 5).toInt, be)))) := by
  refine Ctr.openV (by decide) (Nat.le_of_ble_eq_true rfl) (fun g h hr => ?_)
  have h : Sem cX3_tryThrow RX3 5 (rmL 3) E g := h
  show g I 0 [(0, .ref (E.1 25)), (1, .int iv), (2, .int fv), (3, .int pv)] []
  subst hiv
  subst hfv
  have esum : (pv + (5 - nI 3) * 50).toInt = pv.toInt + 100 := by
    have e_ : ((5 - nI 3) * 50 : Int32).toInt = 100 := by decide
    rw [tI_add (by rw [e_]; omega) (by rw [e_]; omega), e_]
  have hu5 := cnt_up5 (mtF I) (i := 3) (by decide)
  refine r_iload_n (pc := 0) h dX3_tryThrow_0 rfl ?_
  refine r_iconst (v := 5) (pc := 1) h dX3_tryThrow_1 (by decide) ?_
  refine r_iload_n (pc := 2) h dX3_tryThrow_2 rfl ?_
  refine r_isub (pc := 3) h dX3_tryThrow_3 ?_
  refine r_bipush (v := 50) (pc := 4) h dX3_tryThrow_4 (by decide) ?_
  refine r_imul (pc := 6) h dX3_tryThrow_6 ?_
  refine r_iadd (pc := 7) h dX3_tryThrow_7 ?_
  refine r_aload_n (pc := 8) h dX3_tryThrow_8 rfl ?_
  refine gf_X3_43 (pc := 9) h dX3_tryThrow_9 ?_
  refine r_icmp_gt (pc := 12) h 16 dX3_tryThrow_12 (by decide) (fun c12 => ?_) (fun c12 => ?_)
  · refine r_iload_n (pc := 16) h dX3_tryThrow_16 rfl ?_
    refine r_iconst (v := 5) (pc := 17) h dX3_tryThrow_17 (by decide) ?_
    refine r_icmp_lt (pc := 18) h 41 dX3_tryThrow_18 (by decide) (fun c18 => ?_) (fun c18 => ?_)
    · refine r_aload_n (pc := 41) h dX3_tryThrow_41 rfl ?_
      refine gf_X3_11 (pc := 42) h dX3_tryThrow_42 ?_
      refine r_iload_n (pc := 45) h dX3_tryThrow_45 rfl ?_
      refine r_ialdL (j := 3) (pc := 46) h dX3_tryThrow_46 (by decide) (by decide) (by decide) (vin (n := 5) (by decide) (by decide)) ?_
      refine r_bipush (v := -2) (pc := 47) h dX3_tryThrow_47 (by decide) ?_
      refine r_icmp_ne (pc := 49) h 62 dX3_tryThrow_49 (by decide) (fun c49 => ?_) (fun c49 => ?_)
      · have hm_ : mtF I 3 = true := decide_eq_true c49
        have ec_ : cntP (mtF I) (3 + 1) = cntP (mtF I) 3 + 1 := if_pos hm_
        have hlt5 := cnt_lt (p := mtF I) (j := 5) (k := 3) hm_ (by decide)
        refine r_iconst (v := 0) (pc := 62) h dX3_tryThrow_62 (by decide) ?_
        refine r_istore (pc := 63) h dX3_tryThrow_63 (by decide) ?_
        have loop65 : ∀ (m k : Nat) (J_ : Mem), k ≤ 9 → 10 ≤ k + m → TP I J_ 3 (foldS (mStep Q (cntP (mtF I) 5 - cntP (mtF I) 3 - 1) (cntP (mtF I) 3) row fr pv.toInt) k ((I 25 5).toInt, be)) → g J_ 65 [(0, .ref (E.1 25)), (1, .int (nI 3)), (2, .int (nI fr)), (3, .int pv), (4, .int (nI k))] [] := by
          intro m
          induction m with
          | zero =>
            intro k J_ h1 h2
            omega
          | succ m ih =>
            intro k J_ hk hkm hTP
            obtain ⟨hz1, hz2, hz3, hz4, hz5⟩ := id hTP
            have ek := nI_tI (i := k) (by omega)
            refine r_iload (pc := 65) h dX3_tryThrow_65 rfl ?_
            refine r_bipush (v := 9) (pc := 67) h dX3_tryThrow_67 (by decide) ?_
            refine r_icmp_ge (pc := 69) h 122 dX3_tryThrow_69 (by decide) (fun c69 => ?_) (fun c69 => ?_)
            · have hge : k = 9 := by rw [Int32.le_iff_toInt_le, ek, e9i] at c69; omega
              exact hr _ _ _ dX3_tryThrow_122 (by rw [show cntP (mtF I) 5 - cntP (mtF I) 3 = (cntP (mtF I) 5 - cntP (mtF I) 3 - 1) + 1 by omega, mV_s, ← hge]; exact hTP)
            · have hk9 : k < 9 := by rw [Int32.le_iff_toInt_le, ek, e9i] at c69; omega
              refine r_iload_n (pc := 72) h dX3_tryThrow_72 rfl ?_
              refine r_iload (pc := 73) h dX3_tryThrow_73 rfl ?_
              refine r_ishr (pc := 75) h dX3_tryThrow_75 ?_
              refine r_iconst (v := 1) (pc := 76) h dX3_tryThrow_76 (by decide) ?_
              refine r_iand (pc := 77) h dX3_tryThrow_77 ?_
              refine r_iconst (v := 1) (pc := 78) h dX3_tryThrow_78 (by decide) ?_
              refine r_icmp_ne (pc := 79) h 116 dX3_tryThrow_79 (by decide) (fun c79 => ?_) (fun c79 => ?_)
              · refine r_iinc (v := 1) (pc := 116) h dX3_tryThrow_116 rfl (by decide) (by decide) ?_
                refine r_goto (pc := 119) h 65 dX3_tryThrow_119 (by decide) ?_
                rw [← nI_succ k]
                first
                | (have e9_ : (foldS (mStep Q (cntP (mtF I) 5 - cntP (mtF I) 3 - 1) (cntP (mtF I) 3) row fr pv.toInt) (k + 1) ((I 25 5).toInt, be)) = mV Q (cntP (mtF I) 5 - cntP (mtF I) 3 - 1) ((cntP (mtF I) 3) + 1) (updR row (cntP (mtF I) 3) k) (fr - 2 ^ k) (pv.toInt + Q (cntP (mtF I) 3) k) (foldS (mStep Q (cntP (mtF I) 5 - cntP (mtF I) 3 - 1) (cntP (mtF I) 3) row fr pv.toInt) k ((I 25 5).toInt, be)) := by
                     rw [foldS_s]
                     exact if_pos hbit
                   exact r_at h [(0, .ref (E.1 25)), (1, .int (nI 3)), (2, .int (nI fr)), (3, .int pv), (4, .int (nI (k + 1)))] ⟨rfl, rfl, rfl, rfl, rfl, trivial⟩ (ih (k + 1) _ (by omega) (by omega) (by rw [e9_]; exact hres)))
                | (have e9_ : (foldS (mStep Q (cntP (mtF I) 5 - cntP (mtF I) 3 - 1) (cntP (mtF I) 3) row fr pv.toInt) (k + 1) ((I 25 5).toInt, be)) = (foldS (mStep Q (cntP (mtF I) 5 - cntP (mtF I) 3 - 1) (cntP (mtF I) 3) row fr pv.toInt) k ((I 25 5).toInt, be)) := by
                     rw [foldS_s]
                     exact if_neg (fun q_ => c79 ((bitQ_all fr hf5 k hk9).mpr q_))
                   exact r_at h [(0, .ref (E.1 25)), (1, .int (nI 3)), (2, .int (nI fr)), (3, .int pv), (4, .int (nI (k + 1)))] ⟨rfl, rfl, rfl, rfl, rfl, trivial⟩ (ih (k + 1) _ (by omega) (by omega) (by rw [e9_]; exact hTP)))
              · have hbit : fr.testBit k = true := (bitQ_all fr hf5 k hk9).mp c79
                have hcl := clrB fr hf5 k hk9 hbit
                refine r_aload_n (pc := 82) h dX3_tryThrow_82 rfl ?_
                refine gf_X3_27 (pc := 83) h dX3_tryThrow_83 ?_
                refine r_iload_n (pc := 86) h dX3_tryThrow_86 rfl ?_
                refine r_iload (pc := 87) h dX3_tryThrow_87 rfl ?_
                refine r_iastL (j := 3) (pc := 89) h dX3_tryThrow_89 (by decide) (by decide) (by decide) (vin (n := 5) (by decide) (by decide)) ?_
                refine r_nmG (fun K_ hK => ?_)
                have hK1 : ∀ a, a ≠ 34 → K_ a = J_ a := fun a ha_ => by rw [hK, upm_ne _ _ _ ha_]
                have hK34 : ∀ j, j ≠ 3 → K_ 34 j = J_ 34 j := fun j hj_ => by rw [hK, upm_at, if_neg (fun q_ => hj_ q_.2)]
                have hKL : K_ 34 3 = nI k := by rw [hK, upm_eq]
                have hfrK : frM I K_ := ⟨fun a a1 a2 a3 => (hK1 a a2).trans (hz4.1 a a1 a2 a3), fun j hj_ => by rw [hK1 25 (by decide)]; exact hz4.2 j hj_⟩
                have hmK : mtF K_ = mtF I := mtF_fr (hfrK.1 26 (by decide) (by decide) (by decide))
                have hKm : (K_ 25 5).toInt = (foldS (mStep Q (cntP (mtF I) 5 - cntP (mtF I) 3 - 1) (cntP (mtF I) 3) row fr pv.toInt) k ((I 25 5).toInt, be)).1 := by rw [hK1 25 (by decide)]; exact hz1
                refine r_aload_n (pc := 90) h dX3_tryThrow_90 rfl ?_
                refine r_iload_n (pc := 91) h dX3_tryThrow_91 rfl ?_
                refine r_iconst (v := 1) (pc := 92) h dX3_tryThrow_92 (by decide) ?_
                refine r_iadd (pc := 93) h dX3_tryThrow_93 ?_
                refine r_iload_n (pc := 94) h dX3_tryThrow_94 rfl ?_
                refine r_iconst (v := 1) (pc := 95) h dX3_tryThrow_95 (by decide) ?_
                refine r_iload (pc := 96) h dX3_tryThrow_96 rfl ?_
                refine r_ishl (pc := 98) h dX3_tryThrow_98 ?_
                refine r_iconst (v := -1) (pc := 99) h dX3_tryThrow_99 (by decide) ?_
                refine r_ixor (pc := 100) h dX3_tryThrow_100 ?_
                refine r_iand (pc := 101) h dX3_tryThrow_101 ?_
                refine r_iload_n (pc := 102) h dX3_tryThrow_102 rfl ?_
                refine r_aload_n (pc := 103) h dX3_tryThrow_103 rfl ?_
                refine gf_X3_24 (pc := 104) h dX3_tryThrow_104 ?_
                refine r_iload_n (pc := 107) h dX3_tryThrow_107 rfl ?_
                refine r_aa28 (pc := 108) h dX3_tryThrow_108 (vin (n := 5) (by decide) (by decide)) ?_
                rw [show (nI 3).toNatClampNeg = 3 by decide]
                refine r_iload (pc := 109) h dX3_tryThrow_109 rfl ?_
                refine r_ialdL (j := k) (pc := 111) h dX3_tryThrow_111 (by decide) (by decide) (nI_tn (by omega)) (vinI (n := 9) (by omega) (by omega)) ?_
                have hval : (K_ (29 + 3) k).toInt = Q (cntP (mtF I) 3) k := by rw [hfrK.1 (29 + 3) (by decide) (by decide) (by decide)]; exact hT 3 (by decide) hm_ k hk9 hbit
                have hq0_ := hQ (cntP (mtF I) 3) k
                have hpt : (pv + K_ (29 + 3) k).toInt = pv.toInt + Q (cntP (mtF I) 3) k := by rw [tI_add (by rw [hval]; omega) (by rw [hval]; omega), hval]
                refine r_iadd (pc := 112) h dX3_tryThrow_112 ?_
                refine r_callVV (ci := 3) (pc := 113) h dX3_tryThrow_113 wm_X3_47 ca_X3_tryThrow rfl (c_try4 E _ _ _ _ Q (fr - 2 ^ k) (updR row (cntP (mtF I) 3) k) (foldS (mStep Q (cntP (mtF I) 5 - cntP (mtF I) 3 - 1) (cntP (mtF I) 3) row fr pv.toInt) k ((I 25 5).toInt, be)).2 (by decide) hcl.1 (Nat.lt_of_le_of_lt (Nat.sub_le _ _) hf5) (by rw [hpt]; omega) hQ (by rw [hmK]; intro j hj_ hmj_ s hs_ hb_; rw [hfrK.1 (29 + j) (by omega) (by omega) (by omega)]; rw [clr_bit fr hf5 k hk9 hbit s hs_, Bool.and_eq_true] at hb_; exact hT j hj_ hmj_ s hs_ hb_.1) (by rw [hmK]; intro j hj_ hmj_; by_cases e_ : j = 3; (rw [e_, hKL, updR_eq]); (have hlj_ := cnt_lt (p := mtF I) (j := 3) hmj_ (by omega); rw [hK34 j e_, hz5 j (by omega), updR_ne _ _ (by omega)]; exact htr j (by omega) hmj_)) (by rw [hmK, hK1 35 (by decide)]; exact hz3) (by rw [hKm]; exact hz2)) rfl rfl (Nat.le_of_ble_eq_true rfl) (by decide) (by decide) (by decide) (by decide) (fun L_ hq => ?_)
                have hres : TP I L_ 3 (mV Q (cntP (mtF I) 5 - cntP (mtF I) 3 - 1) ((cntP (mtF I) 3) + 1) (updR row (cntP (mtF I) 3) k) (fr - 2 ^ k) (pv.toInt + Q (cntP (mtF I) 3) k) (foldS (mStep Q (cntP (mtF I) 5 - cntP (mtF I) 3 - 1) (cntP (mtF I) 3) row fr pv.toInt) k ((I 25 5).toInt, be))) := by
                  rw [hmK, show cntP (mtF I) 4 = (cntP (mtF I) 3) + 1 from ec_, hpt, hKm, show cntP (mtF I) 5 - ((cntP (mtF I) 3) + 1) = cntP (mtF I) 5 - cntP (mtF I) 3 - 1 by omega] at hq
                  exact TP_tr hfrK (fun j hj_ => by rw [hK34 j (by omega)]; exact hz5 j hj_) (by decide) hq
                refine r_iinc (v := 1) (pc := 116) h dX3_tryThrow_116 rfl (by decide) (by decide) ?_
                refine r_goto (pc := 119) h 65 dX3_tryThrow_119 (by decide) ?_
                rw [← nI_succ k]
                first
                | (have e9_ : (foldS (mStep Q (cntP (mtF I) 5 - cntP (mtF I) 3 - 1) (cntP (mtF I) 3) row fr pv.toInt) (k + 1) ((I 25 5).toInt, be)) = mV Q (cntP (mtF I) 5 - cntP (mtF I) 3 - 1) ((cntP (mtF I) 3) + 1) (updR row (cntP (mtF I) 3) k) (fr - 2 ^ k) (pv.toInt + Q (cntP (mtF I) 3) k) (foldS (mStep Q (cntP (mtF I) 5 - cntP (mtF I) 3 - 1) (cntP (mtF I) 3) row fr pv.toInt) k ((I 25 5).toInt, be)) := by
                     rw [foldS_s]
                     exact if_pos hbit
                   exact r_at h [(0, .ref (E.1 25)), (1, .int (nI 3)), (2, .int (nI fr)), (3, .int pv), (4, .int (nI (k + 1)))] ⟨rfl, rfl, rfl, rfl, rfl, trivial⟩ (ih (k + 1) _ (by omega) (by omega) (by rw [e9_]; exact hres)))
                | (have e9_ : (foldS (mStep Q (cntP (mtF I) 5 - cntP (mtF I) 3 - 1) (cntP (mtF I) 3) row fr pv.toInt) (k + 1) ((I 25 5).toInt, be)) = (foldS (mStep Q (cntP (mtF I) 5 - cntP (mtF I) 3 - 1) (cntP (mtF I) 3) row fr pv.toInt) k ((I 25 5).toInt, be)) := by
                     rw [foldS_s]
                     exact if_neg (fun q_ => c79 ((bitQ_all fr hf5 k hk9).mpr q_))
                   exact r_at h [(0, .ref (E.1 25)), (1, .int (nI 3)), (2, .int (nI fr)), (3, .int pv), (4, .int (nI (k + 1)))] ⟨rfl, rfl, rfl, rfl, rfl, trivial⟩ (ih (k + 1) _ (by omega) (by omega) (by rw [e9_]; exact hTP)))
        exact r_at h [(0, .ref (E.1 25)), (1, .int (nI 3)), (2, .int (nI fr)), (3, .int pv), (4, .int (nI 0))] ⟨rfl, rfl, rfl, rfl, rfl, trivial⟩ (loop65 10 0 I (by omega) (by omega) ⟨rfl, hmo, hbe, ⟨fun _ _ _ _ => rfl, fun _ _ => rfl⟩, fun _ _ => rfl⟩)
      · have hm_ : mtF I 3 = false := decide_eq_false (fun q_ => q_ c49)
        have ec_ : cntP (mtF I) (3 + 1) = cntP (mtF I) 3 := if_neg (by rw [hm_]; decide)
        refine r_aload_n (pc := 52) h dX3_tryThrow_52 rfl ?_
        refine r_iload_n (pc := 53) h dX3_tryThrow_53 rfl ?_
        refine r_iconst (v := 1) (pc := 54) h dX3_tryThrow_54 (by decide) ?_
        refine r_iadd (pc := 55) h dX3_tryThrow_55 ?_
        refine r_iload_n (pc := 56) h dX3_tryThrow_56 rfl ?_
        refine r_iload_n (pc := 57) h dX3_tryThrow_57 rfl ?_
        refine r_callVV (ci := 3) (pc := 58) h dX3_tryThrow_58 wm_X3_47 ca_X3_tryThrow rfl (c_try4 E _ _ _ _ Q fr row be (by decide) rfl hf5 (by omega) hQ hT (by intro j hj_ hmj_; by_cases e_ : j = 3; (rw [e_, hm_] at hmj_; exact absurd hmj_ (by decide)); exact htr j (by omega) hmj_) hbe hmo) rfl rfl (Nat.le_of_ble_eq_true rfl) (by decide) (by decide) (by decide) (by decide) (fun L_ hq => ?_)
        rw [show cntP (mtF I) 4 = cntP (mtF I) 3 from ec_] at hq
        exact hr _ _ _ dX3_tryThrow_61 (TP_tr (J := I) (L := 3) (L2 := 4) ⟨fun _ _ _ _ => rfl, fun _ _ => rfl⟩ (fun _ _ => rfl) (by decide) hq)
    · exact absurd (by decide) c18
  · exact hr _ _ _ dX3_tryThrow_15 (by rw [mV_prune hQ _ _ _ _ _ _ (by rw [Int32.lt_iff_toInt_lt, esum] at c12; show _ ≤ (I 25 5).toInt; omega)]; exact ⟨rfl, hmo, hbe, ⟨fun _ _ _ _ => rfl, fun _ _ => rfl⟩, fun _ _ => rfl⟩)
set_option maxRecDepth 100000 in
set_option maxHeartbeats 1000000 in
theorem c_try2 (E : En) (I : Mem) (iv : Int32) (fv : Int32) (pv : Int32) (Q : Nat → Nat → Int) (fr : Nat) (row be : Nat → Int32) (hiv : iv = nI 2) (hfv : fv = nI fr) (hf5 : fr < 512) (hp : 0 ≤ pv.toInt ∧ pv.toInt ≤ 100) (hQ : ∀ c s, 0 ≤ Q c s ∧ Q c s ≤ 50) (hT : ∀ j, j < 5 → mtF I j = true → ∀ s, s < 9 → fr.testBit s = true → (I (29 + j) s).toInt = Q (cntP (mtF I) j) s) (htr : ∀ j, j < 2 → mtF I j = true → I 34 j = row (cntP (mtF I) j)) (hbe : ∀ j, j < 5 → mtF I j = true → I 35 j = be (cntP (mtF I) j)) (hmo : -1 ≤ (I 25 5).toInt ∧ (I 25 5).toInt ≤ 250) : Ctr E yX3_tryThrow cX3_tryThrow 5 none 4 [.ref (E.1 25), .int iv, .int fv, .int pv] I (qV (fun I1 : Mem => TP I I1 2 (mV Q (cntP (mtF I) 5 - cntP (mtF I) 2) (cntP (mtF I) 2) row fr pv.toInt ((I 25 5).toInt, be)))) := by
  refine Ctr.openV (by decide) (Nat.le_of_ble_eq_true rfl) (fun g h hr => ?_)
  have h : Sem cX3_tryThrow RX3 5 (rmL 4) E g := h
  show g I 0 [(0, .ref (E.1 25)), (1, .int iv), (2, .int fv), (3, .int pv)] []
  subst hiv
  subst hfv
  have esum : (pv + (5 - nI 2) * 50).toInt = pv.toInt + 150 := by
    have e_ : ((5 - nI 2) * 50 : Int32).toInt = 150 := by decide
    rw [tI_add (by rw [e_]; omega) (by rw [e_]; omega), e_]
  have hu5 := cnt_up5 (mtF I) (i := 2) (by decide)
  refine r_iload_n (pc := 0) h dX3_tryThrow_0 rfl ?_
  refine r_iconst (v := 5) (pc := 1) h dX3_tryThrow_1 (by decide) ?_
  refine r_iload_n (pc := 2) h dX3_tryThrow_2 rfl ?_
  refine r_isub (pc := 3) h dX3_tryThrow_3 ?_
  refine r_bipush (v := 50) (pc := 4) h dX3_tryThrow_4 (by decide) ?_
  refine r_imul (pc := 6) h dX3_tryThrow_6 ?_
  refine r_iadd (pc := 7) h dX3_tryThrow_7 ?_
  refine r_aload_n (pc := 8) h dX3_tryThrow_8 rfl ?_
  refine gf_X3_43 (pc := 9) h dX3_tryThrow_9 ?_
  refine r_icmp_gt (pc := 12) h 16 dX3_tryThrow_12 (by decide) (fun c12 => ?_) (fun c12 => ?_)
  · refine r_iload_n (pc := 16) h dX3_tryThrow_16 rfl ?_
    refine r_iconst (v := 5) (pc := 17) h dX3_tryThrow_17 (by decide) ?_
    refine r_icmp_lt (pc := 18) h 41 dX3_tryThrow_18 (by decide) (fun c18 => ?_) (fun c18 => ?_)
    · refine r_aload_n (pc := 41) h dX3_tryThrow_41 rfl ?_
      refine gf_X3_11 (pc := 42) h dX3_tryThrow_42 ?_
      refine r_iload_n (pc := 45) h dX3_tryThrow_45 rfl ?_
      refine r_ialdL (j := 2) (pc := 46) h dX3_tryThrow_46 (by decide) (by decide) (by decide) (vin (n := 5) (by decide) (by decide)) ?_
      refine r_bipush (v := -2) (pc := 47) h dX3_tryThrow_47 (by decide) ?_
      refine r_icmp_ne (pc := 49) h 62 dX3_tryThrow_49 (by decide) (fun c49 => ?_) (fun c49 => ?_)
      · have hm_ : mtF I 2 = true := decide_eq_true c49
        have ec_ : cntP (mtF I) (2 + 1) = cntP (mtF I) 2 + 1 := if_pos hm_
        have hlt5 := cnt_lt (p := mtF I) (j := 5) (k := 2) hm_ (by decide)
        refine r_iconst (v := 0) (pc := 62) h dX3_tryThrow_62 (by decide) ?_
        refine r_istore (pc := 63) h dX3_tryThrow_63 (by decide) ?_
        have loop65 : ∀ (m k : Nat) (J_ : Mem), k ≤ 9 → 10 ≤ k + m → TP I J_ 2 (foldS (mStep Q (cntP (mtF I) 5 - cntP (mtF I) 2 - 1) (cntP (mtF I) 2) row fr pv.toInt) k ((I 25 5).toInt, be)) → g J_ 65 [(0, .ref (E.1 25)), (1, .int (nI 2)), (2, .int (nI fr)), (3, .int pv), (4, .int (nI k))] [] := by
          intro m
          induction m with
          | zero =>
            intro k J_ h1 h2
            omega
          | succ m ih =>
            intro k J_ hk hkm hTP
            obtain ⟨hz1, hz2, hz3, hz4, hz5⟩ := id hTP
            have ek := nI_tI (i := k) (by omega)
            refine r_iload (pc := 65) h dX3_tryThrow_65 rfl ?_
            refine r_bipush (v := 9) (pc := 67) h dX3_tryThrow_67 (by decide) ?_
            refine r_icmp_ge (pc := 69) h 122 dX3_tryThrow_69 (by decide) (fun c69 => ?_) (fun c69 => ?_)
            · have hge : k = 9 := by rw [Int32.le_iff_toInt_le, ek, e9i] at c69; omega
              exact hr _ _ _ dX3_tryThrow_122 (by rw [show cntP (mtF I) 5 - cntP (mtF I) 2 = (cntP (mtF I) 5 - cntP (mtF I) 2 - 1) + 1 by omega, mV_s, ← hge]; exact hTP)
            · have hk9 : k < 9 := by rw [Int32.le_iff_toInt_le, ek, e9i] at c69; omega
              refine r_iload_n (pc := 72) h dX3_tryThrow_72 rfl ?_
              refine r_iload (pc := 73) h dX3_tryThrow_73 rfl ?_
              refine r_ishr (pc := 75) h dX3_tryThrow_75 ?_
              refine r_iconst (v := 1) (pc := 76) h dX3_tryThrow_76 (by decide) ?_
              refine r_iand (pc := 77) h dX3_tryThrow_77 ?_
              refine r_iconst (v := 1) (pc := 78) h dX3_tryThrow_78 (by decide) ?_
              refine r_icmp_ne (pc := 79) h 116 dX3_tryThrow_79 (by decide) (fun c79 => ?_) (fun c79 => ?_)
              · refine r_iinc (v := 1) (pc := 116) h dX3_tryThrow_116 rfl (by decide) (by decide) ?_
                refine r_goto (pc := 119) h 65 dX3_tryThrow_119 (by decide) ?_
                rw [← nI_succ k]
                first
                | (have e9_ : (foldS (mStep Q (cntP (mtF I) 5 - cntP (mtF I) 2 - 1) (cntP (mtF I) 2) row fr pv.toInt) (k + 1) ((I 25 5).toInt, be)) = mV Q (cntP (mtF I) 5 - cntP (mtF I) 2 - 1) ((cntP (mtF I) 2) + 1) (updR row (cntP (mtF I) 2) k) (fr - 2 ^ k) (pv.toInt + Q (cntP (mtF I) 2) k) (foldS (mStep Q (cntP (mtF I) 5 - cntP (mtF I) 2 - 1) (cntP (mtF I) 2) row fr pv.toInt) k ((I 25 5).toInt, be)) := by
                     rw [foldS_s]
                     exact if_pos hbit
                   exact r_at h [(0, .ref (E.1 25)), (1, .int (nI 2)), (2, .int (nI fr)), (3, .int pv), (4, .int (nI (k + 1)))] ⟨rfl, rfl, rfl, rfl, rfl, trivial⟩ (ih (k + 1) _ (by omega) (by omega) (by rw [e9_]; exact hres)))
                | (have e9_ : (foldS (mStep Q (cntP (mtF I) 5 - cntP (mtF I) 2 - 1) (cntP (mtF I) 2) row fr pv.toInt) (k + 1) ((I 25 5).toInt, be)) = (foldS (mStep Q (cntP (mtF I) 5 - cntP (mtF I) 2 - 1) (cntP (mtF I) 2) row fr pv.toInt) k ((I 25 5).toInt, be)) := by
                     rw [foldS_s]
                     exact if_neg (fun q_ => c79 ((bitQ_all fr hf5 k hk9).mpr q_))
                   exact r_at h [(0, .ref (E.1 25)), (1, .int (nI 2)), (2, .int (nI fr)), (3, .int pv), (4, .int (nI (k + 1)))] ⟨rfl, rfl, rfl, rfl, rfl, trivial⟩ (ih (k + 1) _ (by omega) (by omega) (by rw [e9_]; exact hTP)))
              · have hbit : fr.testBit k = true := (bitQ_all fr hf5 k hk9).mp c79
                have hcl := clrB fr hf5 k hk9 hbit
                refine r_aload_n (pc := 82) h dX3_tryThrow_82 rfl ?_
                refine gf_X3_27 (pc := 83) h dX3_tryThrow_83 ?_
                refine r_iload_n (pc := 86) h dX3_tryThrow_86 rfl ?_
                refine r_iload (pc := 87) h dX3_tryThrow_87 rfl ?_
                refine r_iastL (j := 2) (pc := 89) h dX3_tryThrow_89 (by decide) (by decide) (by decide) (vin (n := 5) (by decide) (by decide)) ?_
                refine r_nmG (fun K_ hK => ?_)
                have hK1 : ∀ a, a ≠ 34 → K_ a = J_ a := fun a ha_ => by rw [hK, upm_ne _ _ _ ha_]
                have hK34 : ∀ j, j ≠ 2 → K_ 34 j = J_ 34 j := fun j hj_ => by rw [hK, upm_at, if_neg (fun q_ => hj_ q_.2)]
                have hKL : K_ 34 2 = nI k := by rw [hK, upm_eq]
                have hfrK : frM I K_ := ⟨fun a a1 a2 a3 => (hK1 a a2).trans (hz4.1 a a1 a2 a3), fun j hj_ => by rw [hK1 25 (by decide)]; exact hz4.2 j hj_⟩
                have hmK : mtF K_ = mtF I := mtF_fr (hfrK.1 26 (by decide) (by decide) (by decide))
                have hKm : (K_ 25 5).toInt = (foldS (mStep Q (cntP (mtF I) 5 - cntP (mtF I) 2 - 1) (cntP (mtF I) 2) row fr pv.toInt) k ((I 25 5).toInt, be)).1 := by rw [hK1 25 (by decide)]; exact hz1
                refine r_aload_n (pc := 90) h dX3_tryThrow_90 rfl ?_
                refine r_iload_n (pc := 91) h dX3_tryThrow_91 rfl ?_
                refine r_iconst (v := 1) (pc := 92) h dX3_tryThrow_92 (by decide) ?_
                refine r_iadd (pc := 93) h dX3_tryThrow_93 ?_
                refine r_iload_n (pc := 94) h dX3_tryThrow_94 rfl ?_
                refine r_iconst (v := 1) (pc := 95) h dX3_tryThrow_95 (by decide) ?_
                refine r_iload (pc := 96) h dX3_tryThrow_96 rfl ?_
                refine r_ishl (pc := 98) h dX3_tryThrow_98 ?_
                refine r_iconst (v := -1) (pc := 99) h dX3_tryThrow_99 (by decide) ?_
                refine r_ixor (pc := 100) h dX3_tryThrow_100 ?_
                refine r_iand (pc := 101) h dX3_tryThrow_101 ?_
                refine r_iload_n (pc := 102) h dX3_tryThrow_102 rfl ?_
                refine r_aload_n (pc := 103) h dX3_tryThrow_103 rfl ?_
                refine gf_X3_24 (pc := 104) h dX3_tryThrow_104 ?_
                refine r_iload_n (pc := 107) h dX3_tryThrow_107 rfl ?_
                refine r_aa28 (pc := 108) h dX3_tryThrow_108 (vin (n := 5) (by decide) (by decide)) ?_
                rw [show (nI 2).toNatClampNeg = 2 by decide]
                refine r_iload (pc := 109) h dX3_tryThrow_109 rfl ?_
                refine r_ialdL (j := k) (pc := 111) h dX3_tryThrow_111 (by decide) (by decide) (nI_tn (by omega)) (vinI (n := 9) (by omega) (by omega)) ?_
                have hval : (K_ (29 + 2) k).toInt = Q (cntP (mtF I) 2) k := by rw [hfrK.1 (29 + 2) (by decide) (by decide) (by decide)]; exact hT 2 (by decide) hm_ k hk9 hbit
                have hq0_ := hQ (cntP (mtF I) 2) k
                have hpt : (pv + K_ (29 + 2) k).toInt = pv.toInt + Q (cntP (mtF I) 2) k := by rw [tI_add (by rw [hval]; omega) (by rw [hval]; omega), hval]
                refine r_iadd (pc := 112) h dX3_tryThrow_112 ?_
                refine r_callVV (ci := 3) (pc := 113) h dX3_tryThrow_113 wm_X3_47 ca_X3_tryThrow rfl (c_try3 E _ _ _ _ Q (fr - 2 ^ k) (updR row (cntP (mtF I) 2) k) (foldS (mStep Q (cntP (mtF I) 5 - cntP (mtF I) 2 - 1) (cntP (mtF I) 2) row fr pv.toInt) k ((I 25 5).toInt, be)).2 (by decide) hcl.1 (Nat.lt_of_le_of_lt (Nat.sub_le _ _) hf5) (by rw [hpt]; omega) hQ (by rw [hmK]; intro j hj_ hmj_ s hs_ hb_; rw [hfrK.1 (29 + j) (by omega) (by omega) (by omega)]; rw [clr_bit fr hf5 k hk9 hbit s hs_, Bool.and_eq_true] at hb_; exact hT j hj_ hmj_ s hs_ hb_.1) (by rw [hmK]; intro j hj_ hmj_; by_cases e_ : j = 2; (rw [e_, hKL, updR_eq]); (have hlj_ := cnt_lt (p := mtF I) (j := 2) hmj_ (by omega); rw [hK34 j e_, hz5 j (by omega), updR_ne _ _ (by omega)]; exact htr j (by omega) hmj_)) (by rw [hmK, hK1 35 (by decide)]; exact hz3) (by rw [hKm]; exact hz2)) rfl rfl (Nat.le_of_ble_eq_true rfl) (by decide) (by decide) (by decide) (by decide) (fun L_ hq => ?_)
                have hres : TP I L_ 2 (mV Q (cntP (mtF I) 5 - cntP (mtF I) 2 - 1) ((cntP (mtF I) 2) + 1) (updR row (cntP (mtF I) 2) k) (fr - 2 ^ k) (pv.toInt + Q (cntP (mtF I) 2) k) (foldS (mStep Q (cntP (mtF I) 5 - cntP (mtF I) 2 - 1) (cntP (mtF I) 2) row fr pv.toInt) k ((I 25 5).toInt, be))) := by
                  rw [hmK, show cntP (mtF I) 3 = (cntP (mtF I) 2) + 1 from ec_, hpt, hKm, show cntP (mtF I) 5 - ((cntP (mtF I) 2) + 1) = cntP (mtF I) 5 - cntP (mtF I) 2 - 1 by omega] at hq
                  exact TP_tr hfrK (fun j hj_ => by rw [hK34 j (by omega)]; exact hz5 j hj_) (by decide) hq
                refine r_iinc (v := 1) (pc := 116) h dX3_tryThrow_116 rfl (by decide) (by decide) ?_
                refine r_goto (pc := 119) h 65 dX3_tryThrow_119 (by decide) ?_
                rw [← nI_succ k]
                first
                | (have e9_ : (foldS (mStep Q (cntP (mtF I) 5 - cntP (mtF I) 2 - 1) (cntP (mtF I) 2) row fr pv.toInt) (k + 1) ((I 25 5).toInt, be)) = mV Q (cntP (mtF I) 5 - cntP (mtF I) 2 - 1) ((cntP (mtF I) 2) + 1) (updR row (cntP (mtF I) 2) k) (fr - 2 ^ k) (pv.toInt + Q (cntP (mtF I) 2) k) (foldS (mStep Q (cntP (mtF I) 5 - cntP (mtF I) 2 - 1) (cntP (mtF I) 2) row fr pv.toInt) k ((I 25 5).toInt, be)) := by
                     rw [foldS_s]
                     exact if_pos hbit
                   exact r_at h [(0, .ref (E.1 25)), (1, .int (nI 2)), (2, .int (nI fr)), (3, .int pv), (4, .int (nI (k + 1)))] ⟨rfl, rfl, rfl, rfl, rfl, trivial⟩ (ih (k + 1) _ (by omega) (by omega) (by rw [e9_]; exact hres)))
                | (have e9_ : (foldS (mStep Q (cntP (mtF I) 5 - cntP (mtF I) 2 - 1) (cntP (mtF I) 2) row fr pv.toInt) (k + 1) ((I 25 5).toInt, be)) = (foldS (mStep Q (cntP (mtF I) 5 - cntP (mtF I) 2 - 1) (cntP (mtF I) 2) row fr pv.toInt) k ((I 25 5).toInt, be)) := by
                     rw [foldS_s]
                     exact if_neg (fun q_ => c79 ((bitQ_all fr hf5 k hk9).mpr q_))
                   exact r_at h [(0, .ref (E.1 25)), (1, .int (nI 2)), (2, .int (nI fr)), (3, .int pv), (4, .int (nI (k + 1)))] ⟨rfl, rfl, rfl, rfl, rfl, trivial⟩ (ih (k + 1) _ (by omega) (by omega) (by rw [e9_]; exact hTP)))
        exact r_at h [(0, .ref (E.1 25)), (1, .int (nI 2)), (2, .int (nI fr)), (3, .int pv), (4, .int (nI 0))] ⟨rfl, rfl, rfl, rfl, rfl, trivial⟩ (loop65 10 0 I (by omega) (by omega) ⟨rfl, hmo, hbe, ⟨fun _ _ _ _ => rfl, fun _ _ => rfl⟩, fun _ _ => rfl⟩)
      · have hm_ : mtF I 2 = false := decide_eq_false (fun q_ => q_ c49)
        have ec_ : cntP (mtF I) (2 + 1) = cntP (mtF I) 2 := if_neg (by rw [hm_]; decide)
        refine r_aload_n (pc := 52) h dX3_tryThrow_52 rfl ?_
        refine r_iload_n (pc := 53) h dX3_tryThrow_53 rfl ?_
        refine r_iconst (v := 1) (pc := 54) h dX3_tryThrow_54 (by decide) ?_
        refine r_iadd (pc := 55) h dX3_tryThrow_55 ?_
        refine r_iload_n (pc := 56) h dX3_tryThrow_56 rfl ?_
        refine r_iload_n (pc := 57) h dX3_tryThrow_57 rfl ?_
        refine r_callVV (ci := 3) (pc := 58) h dX3_tryThrow_58 wm_X3_47 ca_X3_tryThrow rfl (c_try3 E _ _ _ _ Q fr row be (by decide) rfl hf5 (by omega) hQ hT (by intro j hj_ hmj_; by_cases e_ : j = 2; (rw [e_, hm_] at hmj_; exact absurd hmj_ (by decide)); exact htr j (by omega) hmj_) hbe hmo) rfl rfl (Nat.le_of_ble_eq_true rfl) (by decide) (by decide) (by decide) (by decide) (fun L_ hq => ?_)
        rw [show cntP (mtF I) 3 = cntP (mtF I) 2 from ec_] at hq
        exact hr _ _ _ dX3_tryThrow_61 (TP_tr (J := I) (L := 2) (L2 := 3) ⟨fun _ _ _ _ => rfl, fun _ _ => rfl⟩ (fun _ _ => rfl) (by decide) hq)
    · exact absurd (by decide) c18
  · exact hr _ _ _ dX3_tryThrow_15 (by rw [mV_prune hQ _ _ _ _ _ _ (by rw [Int32.lt_iff_toInt_lt, esum] at c12; show _ ≤ (I 25 5).toInt; omega)]; exact ⟨rfl, hmo, hbe, ⟨fun _ _ _ _ => rfl, fun _ _ => rfl⟩, fun _ _ => rfl⟩)
set_option maxRecDepth 100000 in
set_option maxHeartbeats 1000000 in
theorem c_try1 (E : En) (I : Mem) (iv : Int32) (fv : Int32) (pv : Int32) (Q : Nat → Nat → Int) (fr : Nat) (row be : Nat → Int32) (hiv : iv = nI 1) (hfv : fv = nI fr) (hf5 : fr < 512) (hp : 0 ≤ pv.toInt ∧ pv.toInt ≤ 50) (hQ : ∀ c s, 0 ≤ Q c s ∧ Q c s ≤ 50) (hT : ∀ j, j < 5 → mtF I j = true → ∀ s, s < 9 → fr.testBit s = true → (I (29 + j) s).toInt = Q (cntP (mtF I) j) s) (htr : ∀ j, j < 1 → mtF I j = true → I 34 j = row (cntP (mtF I) j)) (hbe : ∀ j, j < 5 → mtF I j = true → I 35 j = be (cntP (mtF I) j)) (hmo : -1 ≤ (I 25 5).toInt ∧ (I 25 5).toInt ≤ 250) : Ctr E yX3_tryThrow cX3_tryThrow 5 none 5 [.ref (E.1 25), .int iv, .int fv, .int pv] I (qV (fun I1 : Mem => TP I I1 1 (mV Q (cntP (mtF I) 5 - cntP (mtF I) 1) (cntP (mtF I) 1) row fr pv.toInt ((I 25 5).toInt, be)))) := by
  refine Ctr.openV (by decide) (Nat.le_of_ble_eq_true rfl) (fun g h hr => ?_)
  have h : Sem cX3_tryThrow RX3 5 (rmL 5) E g := h
  show g I 0 [(0, .ref (E.1 25)), (1, .int iv), (2, .int fv), (3, .int pv)] []
  subst hiv
  subst hfv
  have esum : (pv + (5 - nI 1) * 50).toInt = pv.toInt + 200 := by
    have e_ : ((5 - nI 1) * 50 : Int32).toInt = 200 := by decide
    rw [tI_add (by rw [e_]; omega) (by rw [e_]; omega), e_]
  have hu5 := cnt_up5 (mtF I) (i := 1) (by decide)
  refine r_iload_n (pc := 0) h dX3_tryThrow_0 rfl ?_
  refine r_iconst (v := 5) (pc := 1) h dX3_tryThrow_1 (by decide) ?_
  refine r_iload_n (pc := 2) h dX3_tryThrow_2 rfl ?_
  refine r_isub (pc := 3) h dX3_tryThrow_3 ?_
  refine r_bipush (v := 50) (pc := 4) h dX3_tryThrow_4 (by decide) ?_
  refine r_imul (pc := 6) h dX3_tryThrow_6 ?_
  refine r_iadd (pc := 7) h dX3_tryThrow_7 ?_
  refine r_aload_n (pc := 8) h dX3_tryThrow_8 rfl ?_
  refine gf_X3_43 (pc := 9) h dX3_tryThrow_9 ?_
  refine r_icmp_gt (pc := 12) h 16 dX3_tryThrow_12 (by decide) (fun c12 => ?_) (fun c12 => ?_)
  · refine r_iload_n (pc := 16) h dX3_tryThrow_16 rfl ?_
    refine r_iconst (v := 5) (pc := 17) h dX3_tryThrow_17 (by decide) ?_
    refine r_icmp_lt (pc := 18) h 41 dX3_tryThrow_18 (by decide) (fun c18 => ?_) (fun c18 => ?_)
    · refine r_aload_n (pc := 41) h dX3_tryThrow_41 rfl ?_
      refine gf_X3_11 (pc := 42) h dX3_tryThrow_42 ?_
      refine r_iload_n (pc := 45) h dX3_tryThrow_45 rfl ?_
      refine r_ialdL (j := 1) (pc := 46) h dX3_tryThrow_46 (by decide) (by decide) (by decide) (vin (n := 5) (by decide) (by decide)) ?_
      refine r_bipush (v := -2) (pc := 47) h dX3_tryThrow_47 (by decide) ?_
      refine r_icmp_ne (pc := 49) h 62 dX3_tryThrow_49 (by decide) (fun c49 => ?_) (fun c49 => ?_)
      · have hm_ : mtF I 1 = true := decide_eq_true c49
        have ec_ : cntP (mtF I) (1 + 1) = cntP (mtF I) 1 + 1 := if_pos hm_
        have hlt5 := cnt_lt (p := mtF I) (j := 5) (k := 1) hm_ (by decide)
        refine r_iconst (v := 0) (pc := 62) h dX3_tryThrow_62 (by decide) ?_
        refine r_istore (pc := 63) h dX3_tryThrow_63 (by decide) ?_
        have loop65 : ∀ (m k : Nat) (J_ : Mem), k ≤ 9 → 10 ≤ k + m → TP I J_ 1 (foldS (mStep Q (cntP (mtF I) 5 - cntP (mtF I) 1 - 1) (cntP (mtF I) 1) row fr pv.toInt) k ((I 25 5).toInt, be)) → g J_ 65 [(0, .ref (E.1 25)), (1, .int (nI 1)), (2, .int (nI fr)), (3, .int pv), (4, .int (nI k))] [] := by
          intro m
          induction m with
          | zero =>
            intro k J_ h1 h2
            omega
          | succ m ih =>
            intro k J_ hk hkm hTP
            obtain ⟨hz1, hz2, hz3, hz4, hz5⟩ := id hTP
            have ek := nI_tI (i := k) (by omega)
            refine r_iload (pc := 65) h dX3_tryThrow_65 rfl ?_
            refine r_bipush (v := 9) (pc := 67) h dX3_tryThrow_67 (by decide) ?_
            refine r_icmp_ge (pc := 69) h 122 dX3_tryThrow_69 (by decide) (fun c69 => ?_) (fun c69 => ?_)
            · have hge : k = 9 := by rw [Int32.le_iff_toInt_le, ek, e9i] at c69; omega
              exact hr _ _ _ dX3_tryThrow_122 (by rw [show cntP (mtF I) 5 - cntP (mtF I) 1 = (cntP (mtF I) 5 - cntP (mtF I) 1 - 1) + 1 by omega, mV_s, ← hge]; exact hTP)
            · have hk9 : k < 9 := by rw [Int32.le_iff_toInt_le, ek, e9i] at c69; omega
              refine r_iload_n (pc := 72) h dX3_tryThrow_72 rfl ?_
              refine r_iload (pc := 73) h dX3_tryThrow_73 rfl ?_
              refine r_ishr (pc := 75) h dX3_tryThrow_75 ?_
              refine r_iconst (v := 1) (pc := 76) h dX3_tryThrow_76 (by decide) ?_
              refine r_iand (pc := 77) h dX3_tryThrow_77 ?_
              refine r_iconst (v := 1) (pc := 78) h dX3_tryThrow_78 (by decide) ?_
              refine r_icmp_ne (pc := 79) h 116 dX3_tryThrow_79 (by decide) (fun c79 => ?_) (fun c79 => ?_)
              · refine r_iinc (v := 1) (pc := 116) h dX3_tryThrow_116 rfl (by decide) (by decide) ?_
                refine r_goto (pc := 119) h 65 dX3_tryThrow_119 (by decide) ?_
                rw [← nI_succ k]
                first
                | (have e9_ : (foldS (mStep Q (cntP (mtF I) 5 - cntP (mtF I) 1 - 1) (cntP (mtF I) 1) row fr pv.toInt) (k + 1) ((I 25 5).toInt, be)) = mV Q (cntP (mtF I) 5 - cntP (mtF I) 1 - 1) ((cntP (mtF I) 1) + 1) (updR row (cntP (mtF I) 1) k) (fr - 2 ^ k) (pv.toInt + Q (cntP (mtF I) 1) k) (foldS (mStep Q (cntP (mtF I) 5 - cntP (mtF I) 1 - 1) (cntP (mtF I) 1) row fr pv.toInt) k ((I 25 5).toInt, be)) := by
                     rw [foldS_s]
                     exact if_pos hbit
                   exact r_at h [(0, .ref (E.1 25)), (1, .int (nI 1)), (2, .int (nI fr)), (3, .int pv), (4, .int (nI (k + 1)))] ⟨rfl, rfl, rfl, rfl, rfl, trivial⟩ (ih (k + 1) _ (by omega) (by omega) (by rw [e9_]; exact hres)))
                | (have e9_ : (foldS (mStep Q (cntP (mtF I) 5 - cntP (mtF I) 1 - 1) (cntP (mtF I) 1) row fr pv.toInt) (k + 1) ((I 25 5).toInt, be)) = (foldS (mStep Q (cntP (mtF I) 5 - cntP (mtF I) 1 - 1) (cntP (mtF I) 1) row fr pv.toInt) k ((I 25 5).toInt, be)) := by
                     rw [foldS_s]
                     exact if_neg (fun q_ => c79 ((bitQ_all fr hf5 k hk9).mpr q_))
                   exact r_at h [(0, .ref (E.1 25)), (1, .int (nI 1)), (2, .int (nI fr)), (3, .int pv), (4, .int (nI (k + 1)))] ⟨rfl, rfl, rfl, rfl, rfl, trivial⟩ (ih (k + 1) _ (by omega) (by omega) (by rw [e9_]; exact hTP)))
              · have hbit : fr.testBit k = true := (bitQ_all fr hf5 k hk9).mp c79
                have hcl := clrB fr hf5 k hk9 hbit
                refine r_aload_n (pc := 82) h dX3_tryThrow_82 rfl ?_
                refine gf_X3_27 (pc := 83) h dX3_tryThrow_83 ?_
                refine r_iload_n (pc := 86) h dX3_tryThrow_86 rfl ?_
                refine r_iload (pc := 87) h dX3_tryThrow_87 rfl ?_
                refine r_iastL (j := 1) (pc := 89) h dX3_tryThrow_89 (by decide) (by decide) (by decide) (vin (n := 5) (by decide) (by decide)) ?_
                refine r_nmG (fun K_ hK => ?_)
                have hK1 : ∀ a, a ≠ 34 → K_ a = J_ a := fun a ha_ => by rw [hK, upm_ne _ _ _ ha_]
                have hK34 : ∀ j, j ≠ 1 → K_ 34 j = J_ 34 j := fun j hj_ => by rw [hK, upm_at, if_neg (fun q_ => hj_ q_.2)]
                have hKL : K_ 34 1 = nI k := by rw [hK, upm_eq]
                have hfrK : frM I K_ := ⟨fun a a1 a2 a3 => (hK1 a a2).trans (hz4.1 a a1 a2 a3), fun j hj_ => by rw [hK1 25 (by decide)]; exact hz4.2 j hj_⟩
                have hmK : mtF K_ = mtF I := mtF_fr (hfrK.1 26 (by decide) (by decide) (by decide))
                have hKm : (K_ 25 5).toInt = (foldS (mStep Q (cntP (mtF I) 5 - cntP (mtF I) 1 - 1) (cntP (mtF I) 1) row fr pv.toInt) k ((I 25 5).toInt, be)).1 := by rw [hK1 25 (by decide)]; exact hz1
                refine r_aload_n (pc := 90) h dX3_tryThrow_90 rfl ?_
                refine r_iload_n (pc := 91) h dX3_tryThrow_91 rfl ?_
                refine r_iconst (v := 1) (pc := 92) h dX3_tryThrow_92 (by decide) ?_
                refine r_iadd (pc := 93) h dX3_tryThrow_93 ?_
                refine r_iload_n (pc := 94) h dX3_tryThrow_94 rfl ?_
                refine r_iconst (v := 1) (pc := 95) h dX3_tryThrow_95 (by decide) ?_
                refine r_iload (pc := 96) h dX3_tryThrow_96 rfl ?_
                refine r_ishl (pc := 98) h dX3_tryThrow_98 ?_
                refine r_iconst (v := -1) (pc := 99) h dX3_tryThrow_99 (by decide) ?_
                refine r_ixor (pc := 100) h dX3_tryThrow_100 ?_
                refine r_iand (pc := 101) h dX3_tryThrow_101 ?_
                refine r_iload_n (pc := 102) h dX3_tryThrow_102 rfl ?_
                refine r_aload_n (pc := 103) h dX3_tryThrow_103 rfl ?_
                refine gf_X3_24 (pc := 104) h dX3_tryThrow_104 ?_
                refine r_iload_n (pc := 107) h dX3_tryThrow_107 rfl ?_
                refine r_aa28 (pc := 108) h dX3_tryThrow_108 (vin (n := 5) (by decide) (by decide)) ?_
                rw [show (nI 1).toNatClampNeg = 1 by decide]
                refine r_iload (pc := 109) h dX3_tryThrow_109 rfl ?_
                refine r_ialdL (j := k) (pc := 111) h dX3_tryThrow_111 (by decide) (by decide) (nI_tn (by omega)) (vinI (n := 9) (by omega) (by omega)) ?_
                have hval : (K_ (29 + 1) k).toInt = Q (cntP (mtF I) 1) k := by rw [hfrK.1 (29 + 1) (by decide) (by decide) (by decide)]; exact hT 1 (by decide) hm_ k hk9 hbit
                have hq0_ := hQ (cntP (mtF I) 1) k
                have hpt : (pv + K_ (29 + 1) k).toInt = pv.toInt + Q (cntP (mtF I) 1) k := by rw [tI_add (by rw [hval]; omega) (by rw [hval]; omega), hval]
                refine r_iadd (pc := 112) h dX3_tryThrow_112 ?_
                refine r_callVV (ci := 3) (pc := 113) h dX3_tryThrow_113 wm_X3_47 ca_X3_tryThrow rfl (c_try2 E _ _ _ _ Q (fr - 2 ^ k) (updR row (cntP (mtF I) 1) k) (foldS (mStep Q (cntP (mtF I) 5 - cntP (mtF I) 1 - 1) (cntP (mtF I) 1) row fr pv.toInt) k ((I 25 5).toInt, be)).2 (by decide) hcl.1 (Nat.lt_of_le_of_lt (Nat.sub_le _ _) hf5) (by rw [hpt]; omega) hQ (by rw [hmK]; intro j hj_ hmj_ s hs_ hb_; rw [hfrK.1 (29 + j) (by omega) (by omega) (by omega)]; rw [clr_bit fr hf5 k hk9 hbit s hs_, Bool.and_eq_true] at hb_; exact hT j hj_ hmj_ s hs_ hb_.1) (by rw [hmK]; intro j hj_ hmj_; by_cases e_ : j = 1; (rw [e_, hKL, updR_eq]); (have hlj_ := cnt_lt (p := mtF I) (j := 1) hmj_ (by omega); rw [hK34 j e_, hz5 j (by omega), updR_ne _ _ (by omega)]; exact htr j (by omega) hmj_)) (by rw [hmK, hK1 35 (by decide)]; exact hz3) (by rw [hKm]; exact hz2)) rfl rfl (Nat.le_of_ble_eq_true rfl) (by decide) (by decide) (by decide) (by decide) (fun L_ hq => ?_)
                have hres : TP I L_ 1 (mV Q (cntP (mtF I) 5 - cntP (mtF I) 1 - 1) ((cntP (mtF I) 1) + 1) (updR row (cntP (mtF I) 1) k) (fr - 2 ^ k) (pv.toInt + Q (cntP (mtF I) 1) k) (foldS (mStep Q (cntP (mtF I) 5 - cntP (mtF I) 1 - 1) (cntP (mtF I) 1) row fr pv.toInt) k ((I 25 5).toInt, be))) := by
                  rw [hmK, show cntP (mtF I) 2 = (cntP (mtF I) 1) + 1 from ec_, hpt, hKm, show cntP (mtF I) 5 - ((cntP (mtF I) 1) + 1) = cntP (mtF I) 5 - cntP (mtF I) 1 - 1 by omega] at hq
                  exact TP_tr hfrK (fun j hj_ => by rw [hK34 j (by omega)]; exact hz5 j hj_) (by decide) hq
                refine r_iinc (v := 1) (pc := 116) h dX3_tryThrow_116 rfl (by decide) (by decide) ?_
                refine r_goto (pc := 119) h 65 dX3_tryThrow_119 (by decide) ?_
                rw [← nI_succ k]
                first
                | (have e9_ : (foldS (mStep Q (cntP (mtF I) 5 - cntP (mtF I) 1 - 1) (cntP (mtF I) 1) row fr pv.toInt) (k + 1) ((I 25 5).toInt, be)) = mV Q (cntP (mtF I) 5 - cntP (mtF I) 1 - 1) ((cntP (mtF I) 1) + 1) (updR row (cntP (mtF I) 1) k) (fr - 2 ^ k) (pv.toInt + Q (cntP (mtF I) 1) k) (foldS (mStep Q (cntP (mtF I) 5 - cntP (mtF I) 1 - 1) (cntP (mtF I) 1) row fr pv.toInt) k ((I 25 5).toInt, be)) := by
                     rw [foldS_s]
                     exact if_pos hbit
                   exact r_at h [(0, .ref (E.1 25)), (1, .int (nI 1)), (2, .int (nI fr)), (3, .int pv), (4, .int (nI (k + 1)))] ⟨rfl, rfl, rfl, rfl, rfl, trivial⟩ (ih (k + 1) _ (by omega) (by omega) (by rw [e9_]; exact hres)))
                | (have e9_ : (foldS (mStep Q (cntP (mtF I) 5 - cntP (mtF I) 1 - 1) (cntP (mtF I) 1) row fr pv.toInt) (k + 1) ((I 25 5).toInt, be)) = (foldS (mStep Q (cntP (mtF I) 5 - cntP (mtF I) 1 - 1) (cntP (mtF I) 1) row fr pv.toInt) k ((I 25 5).toInt, be)) := by
                     rw [foldS_s]
                     exact if_neg (fun q_ => c79 ((bitQ_all fr hf5 k hk9).mpr q_))
                   exact r_at h [(0, .ref (E.1 25)), (1, .int (nI 1)), (2, .int (nI fr)), (3, .int pv), (4, .int (nI (k + 1)))] ⟨rfl, rfl, rfl, rfl, rfl, trivial⟩ (ih (k + 1) _ (by omega) (by omega) (by rw [e9_]; exact hTP)))
        exact r_at h [(0, .ref (E.1 25)), (1, .int (nI 1)), (2, .int (nI fr)), (3, .int pv), (4, .int (nI 0))] ⟨rfl, rfl, rfl, rfl, rfl, trivial⟩ (loop65 10 0 I (by omega) (by omega) ⟨rfl, hmo, hbe, ⟨fun _ _ _ _ => rfl, fun _ _ => rfl⟩, fun _ _ => rfl⟩)
      · have hm_ : mtF I 1 = false := decide_eq_false (fun q_ => q_ c49)
        have ec_ : cntP (mtF I) (1 + 1) = cntP (mtF I) 1 := if_neg (by rw [hm_]; decide)
        refine r_aload_n (pc := 52) h dX3_tryThrow_52 rfl ?_
        refine r_iload_n (pc := 53) h dX3_tryThrow_53 rfl ?_
        refine r_iconst (v := 1) (pc := 54) h dX3_tryThrow_54 (by decide) ?_
        refine r_iadd (pc := 55) h dX3_tryThrow_55 ?_
        refine r_iload_n (pc := 56) h dX3_tryThrow_56 rfl ?_
        refine r_iload_n (pc := 57) h dX3_tryThrow_57 rfl ?_
        refine r_callVV (ci := 3) (pc := 58) h dX3_tryThrow_58 wm_X3_47 ca_X3_tryThrow rfl (c_try2 E _ _ _ _ Q fr row be (by decide) rfl hf5 (by omega) hQ hT (by intro j hj_ hmj_; by_cases e_ : j = 1; (rw [e_, hm_] at hmj_; exact absurd hmj_ (by decide)); exact htr j (by omega) hmj_) hbe hmo) rfl rfl (Nat.le_of_ble_eq_true rfl) (by decide) (by decide) (by decide) (by decide) (fun L_ hq => ?_)
        rw [show cntP (mtF I) 2 = cntP (mtF I) 1 from ec_] at hq
        exact hr _ _ _ dX3_tryThrow_61 (TP_tr (J := I) (L := 1) (L2 := 2) ⟨fun _ _ _ _ => rfl, fun _ _ => rfl⟩ (fun _ _ => rfl) (by decide) hq)
    · exact absurd (by decide) c18
  · exact hr _ _ _ dX3_tryThrow_15 (by rw [mV_prune hQ _ _ _ _ _ _ (by rw [Int32.lt_iff_toInt_lt, esum] at c12; show _ ≤ (I 25 5).toInt; omega)]; exact ⟨rfl, hmo, hbe, ⟨fun _ _ _ _ => rfl, fun _ _ => rfl⟩, fun _ _ => rfl⟩)
set_option maxRecDepth 100000 in
set_option maxHeartbeats 1000000 in
theorem c_try0 (E : En) (I : Mem) (iv : Int32) (fv : Int32) (pv : Int32) (Q : Nat → Nat → Int) (fr : Nat) (row be : Nat → Int32) (hiv : iv = nI 0) (hfv : fv = nI fr) (hf5 : fr < 512) (hp : 0 ≤ pv.toInt ∧ pv.toInt ≤ 0) (hQ : ∀ c s, 0 ≤ Q c s ∧ Q c s ≤ 50) (hT : ∀ j, j < 5 → mtF I j = true → ∀ s, s < 9 → fr.testBit s = true → (I (29 + j) s).toInt = Q (cntP (mtF I) j) s) (htr : ∀ j, j < 0 → mtF I j = true → I 34 j = row (cntP (mtF I) j)) (hbe : ∀ j, j < 5 → mtF I j = true → I 35 j = be (cntP (mtF I) j)) (hmo : -1 ≤ (I 25 5).toInt ∧ (I 25 5).toInt ≤ 250) : Ctr E yX3_tryThrow cX3_tryThrow 5 none 6 [.ref (E.1 25), .int iv, .int fv, .int pv] I (qV (fun I1 : Mem => TP I I1 0 (mV Q (cntP (mtF I) 5 - cntP (mtF I) 0) (cntP (mtF I) 0) row fr pv.toInt ((I 25 5).toInt, be)))) := by
  refine Ctr.openV (by decide) (Nat.le_of_ble_eq_true rfl) (fun g h hr => ?_)
  have h : Sem cX3_tryThrow RX3 5 (rmL 6) E g := h
  show g I 0 [(0, .ref (E.1 25)), (1, .int iv), (2, .int fv), (3, .int pv)] []
  subst hiv
  subst hfv
  have esum : (pv + (5 - nI 0) * 50).toInt = pv.toInt + 250 := by
    have e_ : ((5 - nI 0) * 50 : Int32).toInt = 250 := by decide
    rw [tI_add (by rw [e_]; omega) (by rw [e_]; omega), e_]
  have hu5 := cnt_up5 (mtF I) (i := 0) (by decide)
  refine r_iload_n (pc := 0) h dX3_tryThrow_0 rfl ?_
  refine r_iconst (v := 5) (pc := 1) h dX3_tryThrow_1 (by decide) ?_
  refine r_iload_n (pc := 2) h dX3_tryThrow_2 rfl ?_
  refine r_isub (pc := 3) h dX3_tryThrow_3 ?_
  refine r_bipush (v := 50) (pc := 4) h dX3_tryThrow_4 (by decide) ?_
  refine r_imul (pc := 6) h dX3_tryThrow_6 ?_
  refine r_iadd (pc := 7) h dX3_tryThrow_7 ?_
  refine r_aload_n (pc := 8) h dX3_tryThrow_8 rfl ?_
  refine gf_X3_43 (pc := 9) h dX3_tryThrow_9 ?_
  refine r_icmp_gt (pc := 12) h 16 dX3_tryThrow_12 (by decide) (fun c12 => ?_) (fun c12 => ?_)
  · refine r_iload_n (pc := 16) h dX3_tryThrow_16 rfl ?_
    refine r_iconst (v := 5) (pc := 17) h dX3_tryThrow_17 (by decide) ?_
    refine r_icmp_lt (pc := 18) h 41 dX3_tryThrow_18 (by decide) (fun c18 => ?_) (fun c18 => ?_)
    · refine r_aload_n (pc := 41) h dX3_tryThrow_41 rfl ?_
      refine gf_X3_11 (pc := 42) h dX3_tryThrow_42 ?_
      refine r_iload_n (pc := 45) h dX3_tryThrow_45 rfl ?_
      refine r_ialdL (j := 0) (pc := 46) h dX3_tryThrow_46 (by decide) (by decide) (by decide) (vin (n := 5) (by decide) (by decide)) ?_
      refine r_bipush (v := -2) (pc := 47) h dX3_tryThrow_47 (by decide) ?_
      refine r_icmp_ne (pc := 49) h 62 dX3_tryThrow_49 (by decide) (fun c49 => ?_) (fun c49 => ?_)
      · have hm_ : mtF I 0 = true := decide_eq_true c49
        have ec_ : cntP (mtF I) (0 + 1) = cntP (mtF I) 0 + 1 := if_pos hm_
        have hlt5 := cnt_lt (p := mtF I) (j := 5) (k := 0) hm_ (by decide)
        refine r_iconst (v := 0) (pc := 62) h dX3_tryThrow_62 (by decide) ?_
        refine r_istore (pc := 63) h dX3_tryThrow_63 (by decide) ?_
        have loop65 : ∀ (m k : Nat) (J_ : Mem), k ≤ 9 → 10 ≤ k + m → TP I J_ 0 (foldS (mStep Q (cntP (mtF I) 5 - cntP (mtF I) 0 - 1) (cntP (mtF I) 0) row fr pv.toInt) k ((I 25 5).toInt, be)) → g J_ 65 [(0, .ref (E.1 25)), (1, .int (nI 0)), (2, .int (nI fr)), (3, .int pv), (4, .int (nI k))] [] := by
          intro m
          induction m with
          | zero =>
            intro k J_ h1 h2
            omega
          | succ m ih =>
            intro k J_ hk hkm hTP
            obtain ⟨hz1, hz2, hz3, hz4, hz5⟩ := id hTP
            have ek := nI_tI (i := k) (by omega)
            refine r_iload (pc := 65) h dX3_tryThrow_65 rfl ?_
            refine r_bipush (v := 9) (pc := 67) h dX3_tryThrow_67 (by decide) ?_
            refine r_icmp_ge (pc := 69) h 122 dX3_tryThrow_69 (by decide) (fun c69 => ?_) (fun c69 => ?_)
            · have hge : k = 9 := by rw [Int32.le_iff_toInt_le, ek, e9i] at c69; omega
              exact hr _ _ _ dX3_tryThrow_122 (by rw [show cntP (mtF I) 5 - cntP (mtF I) 0 = (cntP (mtF I) 5 - cntP (mtF I) 0 - 1) + 1 by omega, mV_s, ← hge]; exact hTP)
            · have hk9 : k < 9 := by rw [Int32.le_iff_toInt_le, ek, e9i] at c69; omega
              refine r_iload_n (pc := 72) h dX3_tryThrow_72 rfl ?_
              refine r_iload (pc := 73) h dX3_tryThrow_73 rfl ?_
              refine r_ishr (pc := 75) h dX3_tryThrow_75 ?_
              refine r_iconst (v := 1) (pc := 76) h dX3_tryThrow_76 (by decide) ?_
              refine r_iand (pc := 77) h dX3_tryThrow_77 ?_
              refine r_iconst (v := 1) (pc := 78) h dX3_tryThrow_78 (by decide) ?_
              refine r_icmp_ne (pc := 79) h 116 dX3_tryThrow_79 (by decide) (fun c79 => ?_) (fun c79 => ?_)
              · refine r_iinc (v := 1) (pc := 116) h dX3_tryThrow_116 rfl (by decide) (by decide) ?_
                refine r_goto (pc := 119) h 65 dX3_tryThrow_119 (by decide) ?_
                rw [← nI_succ k]
                first
                | (have e9_ : (foldS (mStep Q (cntP (mtF I) 5 - cntP (mtF I) 0 - 1) (cntP (mtF I) 0) row fr pv.toInt) (k + 1) ((I 25 5).toInt, be)) = mV Q (cntP (mtF I) 5 - cntP (mtF I) 0 - 1) ((cntP (mtF I) 0) + 1) (updR row (cntP (mtF I) 0) k) (fr - 2 ^ k) (pv.toInt + Q (cntP (mtF I) 0) k) (foldS (mStep Q (cntP (mtF I) 5 - cntP (mtF I) 0 - 1) (cntP (mtF I) 0) row fr pv.toInt) k ((I 25 5).toInt, be)) := by
                     rw [foldS_s]
                     exact if_pos hbit
                   exact r_at h [(0, .ref (E.1 25)), (1, .int (nI 0)), (2, .int (nI fr)), (3, .int pv), (4, .int (nI (k + 1)))] ⟨rfl, rfl, rfl, rfl, rfl, trivial⟩ (ih (k + 1) _ (by omega) (by omega) (by rw [e9_]; exact hres)))
                | (have e9_ : (foldS (mStep Q (cntP (mtF I) 5 - cntP (mtF I) 0 - 1) (cntP (mtF I) 0) row fr pv.toInt) (k + 1) ((I 25 5).toInt, be)) = (foldS (mStep Q (cntP (mtF I) 5 - cntP (mtF I) 0 - 1) (cntP (mtF I) 0) row fr pv.toInt) k ((I 25 5).toInt, be)) := by
                     rw [foldS_s]
                     exact if_neg (fun q_ => c79 ((bitQ_all fr hf5 k hk9).mpr q_))
                   exact r_at h [(0, .ref (E.1 25)), (1, .int (nI 0)), (2, .int (nI fr)), (3, .int pv), (4, .int (nI (k + 1)))] ⟨rfl, rfl, rfl, rfl, rfl, trivial⟩ (ih (k + 1) _ (by omega) (by omega) (by rw [e9_]; exact hTP)))
              · have hbit : fr.testBit k = true := (bitQ_all fr hf5 k hk9).mp c79
                have hcl := clrB fr hf5 k hk9 hbit
                refine r_aload_n (pc := 82) h dX3_tryThrow_82 rfl ?_
                refine gf_X3_27 (pc := 83) h dX3_tryThrow_83 ?_
                refine r_iload_n (pc := 86) h dX3_tryThrow_86 rfl ?_
                refine r_iload (pc := 87) h dX3_tryThrow_87 rfl ?_
                refine r_iastL (j := 0) (pc := 89) h dX3_tryThrow_89 (by decide) (by decide) (by decide) (vin (n := 5) (by decide) (by decide)) ?_
                refine r_nmG (fun K_ hK => ?_)
                have hK1 : ∀ a, a ≠ 34 → K_ a = J_ a := fun a ha_ => by rw [hK, upm_ne _ _ _ ha_]
                have hK34 : ∀ j, j ≠ 0 → K_ 34 j = J_ 34 j := fun j hj_ => by rw [hK, upm_at, if_neg (fun q_ => hj_ q_.2)]
                have hKL : K_ 34 0 = nI k := by rw [hK, upm_eq]
                have hfrK : frM I K_ := ⟨fun a a1 a2 a3 => (hK1 a a2).trans (hz4.1 a a1 a2 a3), fun j hj_ => by rw [hK1 25 (by decide)]; exact hz4.2 j hj_⟩
                have hmK : mtF K_ = mtF I := mtF_fr (hfrK.1 26 (by decide) (by decide) (by decide))
                have hKm : (K_ 25 5).toInt = (foldS (mStep Q (cntP (mtF I) 5 - cntP (mtF I) 0 - 1) (cntP (mtF I) 0) row fr pv.toInt) k ((I 25 5).toInt, be)).1 := by rw [hK1 25 (by decide)]; exact hz1
                refine r_aload_n (pc := 90) h dX3_tryThrow_90 rfl ?_
                refine r_iload_n (pc := 91) h dX3_tryThrow_91 rfl ?_
                refine r_iconst (v := 1) (pc := 92) h dX3_tryThrow_92 (by decide) ?_
                refine r_iadd (pc := 93) h dX3_tryThrow_93 ?_
                refine r_iload_n (pc := 94) h dX3_tryThrow_94 rfl ?_
                refine r_iconst (v := 1) (pc := 95) h dX3_tryThrow_95 (by decide) ?_
                refine r_iload (pc := 96) h dX3_tryThrow_96 rfl ?_
                refine r_ishl (pc := 98) h dX3_tryThrow_98 ?_
                refine r_iconst (v := -1) (pc := 99) h dX3_tryThrow_99 (by decide) ?_
                refine r_ixor (pc := 100) h dX3_tryThrow_100 ?_
                refine r_iand (pc := 101) h dX3_tryThrow_101 ?_
                refine r_iload_n (pc := 102) h dX3_tryThrow_102 rfl ?_
                refine r_aload_n (pc := 103) h dX3_tryThrow_103 rfl ?_
                refine gf_X3_24 (pc := 104) h dX3_tryThrow_104 ?_
                refine r_iload_n (pc := 107) h dX3_tryThrow_107 rfl ?_
                refine r_aa28 (pc := 108) h dX3_tryThrow_108 (vin (n := 5) (by decide) (by decide)) ?_
                rw [show (nI 0).toNatClampNeg = 0 by decide]
                refine r_iload (pc := 109) h dX3_tryThrow_109 rfl ?_
                refine r_ialdL (j := k) (pc := 111) h dX3_tryThrow_111 (by decide) (by decide) (nI_tn (by omega)) (vinI (n := 9) (by omega) (by omega)) ?_
                have hval : (K_ (29 + 0) k).toInt = Q (cntP (mtF I) 0) k := by rw [hfrK.1 (29 + 0) (by decide) (by decide) (by decide)]; exact hT 0 (by decide) hm_ k hk9 hbit
                have hq0_ := hQ (cntP (mtF I) 0) k
                have hpt : (pv + K_ (29 + 0) k).toInt = pv.toInt + Q (cntP (mtF I) 0) k := by rw [tI_add (by rw [hval]; omega) (by rw [hval]; omega), hval]
                refine r_iadd (pc := 112) h dX3_tryThrow_112 ?_
                refine r_callVV (ci := 3) (pc := 113) h dX3_tryThrow_113 wm_X3_47 ca_X3_tryThrow rfl (c_try1 E _ _ _ _ Q (fr - 2 ^ k) (updR row (cntP (mtF I) 0) k) (foldS (mStep Q (cntP (mtF I) 5 - cntP (mtF I) 0 - 1) (cntP (mtF I) 0) row fr pv.toInt) k ((I 25 5).toInt, be)).2 (by decide) hcl.1 (Nat.lt_of_le_of_lt (Nat.sub_le _ _) hf5) (by rw [hpt]; omega) hQ (by rw [hmK]; intro j hj_ hmj_ s hs_ hb_; rw [hfrK.1 (29 + j) (by omega) (by omega) (by omega)]; rw [clr_bit fr hf5 k hk9 hbit s hs_, Bool.and_eq_true] at hb_; exact hT j hj_ hmj_ s hs_ hb_.1) (by rw [hmK]; intro j hj_ hmj_; by_cases e_ : j = 0; (rw [e_, hKL, updR_eq]); (have hlj_ := cnt_lt (p := mtF I) (j := 0) hmj_ (by omega); rw [hK34 j e_, hz5 j (by omega), updR_ne _ _ (by omega)]; exact htr j (by omega) hmj_)) (by rw [hmK, hK1 35 (by decide)]; exact hz3) (by rw [hKm]; exact hz2)) rfl rfl (Nat.le_of_ble_eq_true rfl) (by decide) (by decide) (by decide) (by decide) (fun L_ hq => ?_)
                have hres : TP I L_ 0 (mV Q (cntP (mtF I) 5 - cntP (mtF I) 0 - 1) ((cntP (mtF I) 0) + 1) (updR row (cntP (mtF I) 0) k) (fr - 2 ^ k) (pv.toInt + Q (cntP (mtF I) 0) k) (foldS (mStep Q (cntP (mtF I) 5 - cntP (mtF I) 0 - 1) (cntP (mtF I) 0) row fr pv.toInt) k ((I 25 5).toInt, be))) := by
                  rw [hmK, show cntP (mtF I) 1 = (cntP (mtF I) 0) + 1 from ec_, hpt, hKm, show cntP (mtF I) 5 - ((cntP (mtF I) 0) + 1) = cntP (mtF I) 5 - cntP (mtF I) 0 - 1 by omega] at hq
                  exact TP_tr hfrK (fun j hj_ => by rw [hK34 j (by omega)]; exact hz5 j hj_) (by decide) hq
                refine r_iinc (v := 1) (pc := 116) h dX3_tryThrow_116 rfl (by decide) (by decide) ?_
                refine r_goto (pc := 119) h 65 dX3_tryThrow_119 (by decide) ?_
                rw [← nI_succ k]
                first
                | (have e9_ : (foldS (mStep Q (cntP (mtF I) 5 - cntP (mtF I) 0 - 1) (cntP (mtF I) 0) row fr pv.toInt) (k + 1) ((I 25 5).toInt, be)) = mV Q (cntP (mtF I) 5 - cntP (mtF I) 0 - 1) ((cntP (mtF I) 0) + 1) (updR row (cntP (mtF I) 0) k) (fr - 2 ^ k) (pv.toInt + Q (cntP (mtF I) 0) k) (foldS (mStep Q (cntP (mtF I) 5 - cntP (mtF I) 0 - 1) (cntP (mtF I) 0) row fr pv.toInt) k ((I 25 5).toInt, be)) := by
                     rw [foldS_s]
                     exact if_pos hbit
                   exact r_at h [(0, .ref (E.1 25)), (1, .int (nI 0)), (2, .int (nI fr)), (3, .int pv), (4, .int (nI (k + 1)))] ⟨rfl, rfl, rfl, rfl, rfl, trivial⟩ (ih (k + 1) _ (by omega) (by omega) (by rw [e9_]; exact hres)))
                | (have e9_ : (foldS (mStep Q (cntP (mtF I) 5 - cntP (mtF I) 0 - 1) (cntP (mtF I) 0) row fr pv.toInt) (k + 1) ((I 25 5).toInt, be)) = (foldS (mStep Q (cntP (mtF I) 5 - cntP (mtF I) 0 - 1) (cntP (mtF I) 0) row fr pv.toInt) k ((I 25 5).toInt, be)) := by
                     rw [foldS_s]
                     exact if_neg (fun q_ => c79 ((bitQ_all fr hf5 k hk9).mpr q_))
                   exact r_at h [(0, .ref (E.1 25)), (1, .int (nI 0)), (2, .int (nI fr)), (3, .int pv), (4, .int (nI (k + 1)))] ⟨rfl, rfl, rfl, rfl, rfl, trivial⟩ (ih (k + 1) _ (by omega) (by omega) (by rw [e9_]; exact hTP)))
        exact r_at h [(0, .ref (E.1 25)), (1, .int (nI 0)), (2, .int (nI fr)), (3, .int pv), (4, .int (nI 0))] ⟨rfl, rfl, rfl, rfl, rfl, trivial⟩ (loop65 10 0 I (by omega) (by omega) ⟨rfl, hmo, hbe, ⟨fun _ _ _ _ => rfl, fun _ _ => rfl⟩, fun _ _ => rfl⟩)
      · have hm_ : mtF I 0 = false := decide_eq_false (fun q_ => q_ c49)
        have ec_ : cntP (mtF I) (0 + 1) = cntP (mtF I) 0 := if_neg (by rw [hm_]; decide)
        refine r_aload_n (pc := 52) h dX3_tryThrow_52 rfl ?_
        refine r_iload_n (pc := 53) h dX3_tryThrow_53 rfl ?_
        refine r_iconst (v := 1) (pc := 54) h dX3_tryThrow_54 (by decide) ?_
        refine r_iadd (pc := 55) h dX3_tryThrow_55 ?_
        refine r_iload_n (pc := 56) h dX3_tryThrow_56 rfl ?_
        refine r_iload_n (pc := 57) h dX3_tryThrow_57 rfl ?_
        refine r_callVV (ci := 3) (pc := 58) h dX3_tryThrow_58 wm_X3_47 ca_X3_tryThrow rfl (c_try1 E _ _ _ _ Q fr row be (by decide) rfl hf5 (by omega) hQ hT (by intro j hj_ hmj_; by_cases e_ : j = 0; (rw [e_, hm_] at hmj_; exact absurd hmj_ (by decide)); exact htr j (by omega) hmj_) hbe hmo) rfl rfl (Nat.le_of_ble_eq_true rfl) (by decide) (by decide) (by decide) (by decide) (fun L_ hq => ?_)
        rw [show cntP (mtF I) 1 = cntP (mtF I) 0 from ec_] at hq
        exact hr _ _ _ dX3_tryThrow_61 (TP_tr (J := I) (L := 0) (L2 := 1) ⟨fun _ _ _ _ => rfl, fun _ _ => rfl⟩ (fun _ _ => rfl) (by decide) hq)
    · exact absurd (by decide) c18
  · exact hr _ _ _ dX3_tryThrow_15 (by rw [mV_prune hQ _ _ _ _ _ _ (by rw [Int32.lt_iff_toInt_lt, esum] at c12; show _ ≤ (I 25 5).toInt; omega)]; exact ⟨rfl, hmo, hbe, ⟨fun _ _ _ _ => rfl, fun _ _ => rfl⟩, fun _ _ => rfl⟩)
set_option maxRecDepth 100000 in
set_option maxHeartbeats 1000000 in
theorem c_X3_findBest (E : En) (I : Mem) (fv : Int32) (Q : Nat → Nat → Int) (fr : Nat) (hfv : fv = nI fr) (hf5 : fr < 512) (hQ : ∀ c s, 0 ≤ Q c s ∧ Q c s ≤ 50) (hT : ∀ j, j < 5 → mtF I j = true → ∀ s, s < 9 → fr.testBit s = true → (I (29 + j) s).toInt = Q (cntP (mtF I) j) s) : Ctr E yX3_findBest cX3_findBest 2 none 7 [.ref (E.1 25), .int fv] I (qV (fun I1 : Mem => FB I I1 (mV Q (cntP (mtF I) 5) 0 (fun _ => 0) fr 0 (-1, (fun c_ => I 35 (atx (mtF I) c_)))))) := by
  refine Ctr.openV (by decide) (Nat.le_of_ble_eq_true rfl) (fun g h hr => ?_)
  have h : Sem cX3_findBest RX3 2 (rmL 7) E g := h
  show g I 0 [(0, .ref (E.1 25)), (1, .int fv)] []
  have hm1 : mtF (upm I 25 5 (-1)) = mtF I := mtF_fr (upm_ne _ _ _ (by decide))
  refine r_aload_n (pc := 0) h dX3_findBest_0 rfl ?_
  refine r_iconst (v := -1) (pc := 1) h dX3_findBest_1 (by decide) ?_
  refine pf_X3_43 (pc := 2) h dX3_findBest_2 ?_
  refine r_aload_n (pc := 5) h dX3_findBest_5 rfl ?_
  refine r_iconst (v := 0) (pc := 6) h dX3_findBest_6 (by decide) ?_
  refine r_iload_n (pc := 7) h dX3_findBest_7 rfl ?_
  refine r_iconst (v := 0) (pc := 8) h dX3_findBest_8 (by decide) ?_
  refine r_callVV (ci := 3) (pc := 9) h dX3_findBest_9 wm_X3_47 ca_X3_tryThrow rfl (c_try0 E _ _ _ _ Q fr (fun _ => 0) (fun c_ => I 35 (atx (mtF I) c_)) (by decide) hfv hf5 (by decide) hQ (by rw [hm1]; intro j hj_ hmj_ s hs_ hb_; rw [upm_ne _ _ _ (by omega)]; exact hT j hj_ hmj_ s hs_ hb_) (fun j hj_ => absurd hj_ (by omega)) (by rw [hm1]; intro j hj_ hmj_; rw [upm_ne _ _ _ (by decide), atx_is hmj_ hj_]) (by rw [upm_eq]; decide)) rfl rfl (Nat.le_of_ble_eq_true rfl) (by decide) (by decide) (by decide) (by decide) (fun K_ hq => ?_)
  rw [hm1, upm_eq, show cntP (mtF I) 0 = 0 from rfl, Nat.sub_zero, z32, i32_m1] at hq
  obtain ⟨hq1, -, hq2, hq3, -⟩ := hq
  rw [hm1] at hq2
  exact hr _ _ _ dX3_findBest_12 (⟨hq1, hq2, fun a a1 a2 a3 => by rw [hq3.1 a a1 a2 a3, upm_ne _ _ _ a1], fun j hj_ => by rw [hq3.2 j hj_, upm_at, if_neg (fun q_ => hj_ q_.2)]⟩)
set_option maxRecDepth 100000 in
set_option maxHeartbeats 1000000 in
theorem c_X10_fillPoints (E : En) (I : Mem) (iv : Int32) (fv : Int32) (i fr : Nat) (hi : i < 5) (hiv : iv = nI i) (hfv : fv = nI fr) (hf5 : fr < 512) (hc : 0 ≤ (I 0 2).toInt ∧ (I 0 2).toInt ≤ 9) (hw : I 26 i = -1 ∨ (0 ≤ (I 26 i).toInt ∧ (I 26 i).toInt < 8)) (hm : manOk I) (hF : FlOkF I) (hW : FwOk I) : Ctr E yX10_fillPoints cX10_fillPoints 4 none 5 [.ref (E.1 0), .int iv, .int fv] I (qV (fun I1 : Mem => frP I I1 i ∧ ∀ s, s < (I 0 2).toNatClampNeg → fr.testBit s = true → I1 (29 + i) s = ptF I (nI s) (I 26 i))) := by
  refine Ctr.openV (by decide) (Nat.le_of_ble_eq_true rfl) (fun g h hr => ?_)
  have h : Sem cX10_fillPoints RX10 4 (rmL 5) E g := h
  show g I 0 [(0, .ref (E.1 0)), (1, .int iv), (2, .int fv)] []
  subst hiv
  subst hfv
  have ei := nI_tI (i := i) (by omega)
  have en := nI_tn (i := i) (by omega)
  refine r_iconst (v := 0) (pc := 0) h dX10_fillPoints_0 (by decide) ?_
  refine r_istore_n (pc := 1) h dX10_fillPoints_1 (by decide) ?_
  have loop2 : ∀ (m k : Nat) (J_ : Mem), k ≤ (I 0 2).toNatClampNeg → (I 0 2).toNatClampNeg + 1 ≤ k + m → frP I J_ i → (∀ s, s < k → fr.testBit s = true → J_ (29 + i) s = ptF I (nI s) (I 26 i)) → g J_ 2 [(0, .ref (E.1 0)), (1, .int (nI i)), (2, .int (nI fr)), (3, .int (nI k))] [] := by
    intro m
    induction m with
    | zero =>
      intro k J_ h1 h2
      omega
    | succ m ih =>
      intro k J_ hk hkm hfr hst
      have hC : ((I 0 2).toNatClampNeg : Int) = (I 0 2).toInt := tnI _ hc.1
      have ek := nI_tI (i := k) (by omega)
      have hJ0 : J_ 0 = I 0 := hfr.1 0 (by decide) (by decide) (by omega)
      refine r_iload_n (pc := 2) h dX10_fillPoints_2 rfl ?_
      refine r_aload_n (pc := 3) h dX10_fillPoints_3 rfl ?_
      refine gf_X10_23 (pc := 4) h dX10_fillPoints_4 ?_
      rw [hJ0]
      refine r_icmp_ge (pc := 7) h 50 dX10_fillPoints_7 (by decide) (fun c7 => ?_) (fun c7 => ?_)
      · have hge : k = (I 0 2).toNatClampNeg := by rw [Int32.le_iff_toInt_le, ek] at c7; omega
        exact hr _ _ _ dX10_fillPoints_50 (⟨hfr, by rw [← hge]; exact hst⟩)
      · have hlt : k < (I 0 2).toNatClampNeg := by rw [Int32.le_iff_toInt_le, ek] at c7; omega
        refine r_iload_n (pc := 10) h dX10_fillPoints_10 rfl ?_
        refine r_iload_n (pc := 11) h dX10_fillPoints_11 rfl ?_
        refine r_ishr (pc := 12) h dX10_fillPoints_12 ?_
        refine r_iconst (v := 1) (pc := 13) h dX10_fillPoints_13 (by decide) ?_
        refine r_iand (pc := 14) h dX10_fillPoints_14 ?_
        refine r_iconst (v := 1) (pc := 15) h dX10_fillPoints_15 (by decide) ?_
        refine r_icmp_ne (pc := 16) h 44 dX10_fillPoints_16 (by decide) (fun c16 => ?_) (fun c16 => ?_)
        · refine r_iinc (v := 1) (pc := 44) h dX10_fillPoints_44 rfl (by decide) (by decide) ?_
          refine r_goto (pc := 47) h 2 dX10_fillPoints_47 (by decide) ?_
          rw [← nI_succ k]
          first
          | (refine r_at h [(0, .ref (E.1 0)), (1, .int (nI i)), (2, .int (nI fr)), (3, .int (nI (k + 1)))] ⟨rfl, rfl, rfl, rfl, trivial⟩ (ih (k + 1) _ (by omega) (by omega) hfr2 ?_)
             intro s hs_ hb_
             by_cases e_ : s = k
             · rw [e_, upm_eq]
             · rw [upm_at, if_neg (fun q_ => e_ q_.2), hp2.1 (29 + i) (by omega) (by omega)]
               exact hst s (by omega) hb_)
          | (refine r_at h [(0, .ref (E.1 0)), (1, .int (nI i)), (2, .int (nI fr)), (3, .int (nI (k + 1)))] ⟨rfl, rfl, rfl, rfl, trivial⟩ (ih (k + 1) _ (by omega) (by omega) hfr ?_)
             intro s hs_ hb_
             by_cases e_ : s = k
             · rw [e_] at hb_
               exact absurd ((bitQ_all fr hf5 k (by omega)).mpr hb_) c16
             · exact hst s (by omega) hb_)
        · refine r_aload_n (pc := 19) h dX10_fillPoints_19 rfl ?_
          refine gf_X10_85 (pc := 20) h dX10_fillPoints_20 ?_
          refine gf_X10_420 (pc := 23) h dX10_fillPoints_23 ?_
          refine r_iload_n (pc := 26) h dX10_fillPoints_26 rfl ?_
          refine r_aa28 (pc := 27) h dX10_fillPoints_27 (vinI (n := 5) (by omega) (by omega)) ?_
          rw [en]
          refine r_iload_n (pc := 28) h dX10_fillPoints_28 rfl ?_
          refine r_aload_n (pc := 29) h dX10_fillPoints_29 rfl ?_
          refine r_iload_n (pc := 30) h dX10_fillPoints_30 rfl ?_
          refine r_aload_n (pc := 31) h dX10_fillPoints_31 rfl ?_
          refine gf_X10_85 (pc := 32) h dX10_fillPoints_32 ?_
          refine gf_X10_238 (pc := 35) h dX10_fillPoints_35 ?_
          refine r_iload_n (pc := 38) h dX10_fillPoints_38 rfl ?_
          refine r_ialdL (j := i) (pc := 39) h dX10_fillPoints_39 (by decide) (by decide) (en) (vinI (n := 5) (by omega) (by omega)) ?_
          rw [hfr.1 26 (by decide) (by decide) (by omega)]
          refine r_callVI (ci := 10) (pc := 40) h dX10_fillPoints_40 wm_X10_248 ca_X10_pointsOf rfl (c_X10_pointsOf E _ _ _ ⟨by rw [ek]; omega, by rw [ek]; omega⟩ hw (frQ_man (frP_Q hi hfr) hm) (frQ_ok (frP_Q hi hfr) hF) (frQ_w (frP_Q hi hfr) hW)) rfl rfl (Nat.le_of_ble_eq_true rfl) (by decide) (by decide) (by decide) (by decide) (fun v_ K_ hq => ?_)
          obtain ⟨hp1, hp2⟩ := hq
          rw [frQ_pt (frP_Q hi hfr) hF.2.1] at hp1
          subst hp1
          have hfr2 : frP I (upm K_ (29 + i) k (ptF I (nI k) (I 26 i))) i := ⟨fun a a1 a2 a3 => by rw [upm_ne _ _ _ a3, hp2.1 a a1 a2]; exact hfr.1 a a1 a2 a3, fun j j0 j5 => by rw [upm_ne _ _ _ (by omega), hp2.2 j j0 j5]; exact hfr.2 j j0 j5⟩
          refine r_iastL (j := k) (pc := 43) h dX10_fillPoints_43 (by omega) (kdPt _ hi) (nI_tn (by omega)) (by rw [lnPt _ hi]; exact vinI (n := 9) (by omega) (by omega)) ?_
          refine r_iinc (v := 1) (pc := 44) h dX10_fillPoints_44 rfl (by decide) (by decide) ?_
          refine r_goto (pc := 47) h 2 dX10_fillPoints_47 (by decide) ?_
          rw [← nI_succ k]
          first
          | (refine r_at h [(0, .ref (E.1 0)), (1, .int (nI i)), (2, .int (nI fr)), (3, .int (nI (k + 1)))] ⟨rfl, rfl, rfl, rfl, trivial⟩ (ih (k + 1) _ (by omega) (by omega) hfr2 ?_)
             intro s hs_ hb_
             by_cases e_ : s = k
             · rw [e_, upm_eq]
             · rw [upm_at, if_neg (fun q_ => e_ q_.2), hp2.1 (29 + i) (by omega) (by omega)]
               exact hst s (by omega) hb_)
          | (refine r_at h [(0, .ref (E.1 0)), (1, .int (nI i)), (2, .int (nI fr)), (3, .int (nI (k + 1)))] ⟨rfl, rfl, rfl, rfl, trivial⟩ (ih (k + 1) _ (by omega) (by omega) hfr ?_)
             intro s hs_ hb_
             by_cases e_ : s = k
             · rw [e_] at hb_
               exact absurd ((bitQ_all fr hf5 k (by omega)).mpr hb_) c16
             · exact hst s (by omega) hb_)
  exact r_at h [(0, .ref (E.1 0)), (1, .int (nI i)), (2, .int (nI fr)), (3, .int (nI 0))] ⟨rfl, rfl, rfl, rfl, trivial⟩ (loop2 ((I 0 2).toNatClampNeg + 1) 0 I (by omega) (by omega) ⟨fun _ _ _ _ => rfl, fun _ _ _ => rfl⟩ (fun s hs_ => absurd hs_ (by omega)))
set_option maxRecDepth 100000 in
set_option maxHeartbeats 1000000 in
theorem c_X10_playMatch (E : En) (I : Mem)  (hc : 0 ≤ (I 0 2).toInt ∧ (I 0 2).toInt ≤ 9) (hmt : mtOk I) (hm : manOk I) (hF : FlOkF I) (hW : FwOk I) : Ctr E yX10_playMatch cX10_playMatch 3 none 8 [.ref (E.1 0)] I (qV (fun I1 : Mem => PMF I I1)) := by
  refine Ctr.openV (by decide) (Nat.le_of_ble_eq_true rfl) (fun g h hr => ?_)
  have h : Sem cX10_playMatch RX10 3 (rmL 8) E g := h
  show g I 0 [(0, .ref (E.1 0))] []
  have hN9 : (I 0 2).toNatClampNeg ≤ 9 := by rw [tn]; omega
  have hb5 := bag512 (bgF I) hN9
  refine r_aload_n (pc := 0) h dX10_playMatch_0 rfl ?_
  refine r_callVI (ci := 10) (pc := 1) h dX10_playMatch_1 wm_X10_214 ca_X10_bagBits rfl (c_X10_bagBits E _ hc) rfl rfl (Nat.le_of_ble_eq_true rfl) (by decide) (by decide) (by decide) (by decide) (fun r I1 hq => ?_)
  obtain ⟨rfl, rfl⟩ := hq
  refine r_istore_n (pc := 4) h dX10_playMatch_4 (by decide) ?_
  refine r_iconst (v := 0) (pc := 5) h dX10_playMatch_5 (by decide) ?_
  refine r_istore_n (pc := 6) h dX10_playMatch_6 (by decide) ?_
  have loop7 : ∀ (m k : Nat) (J_ : Mem), k ≤ 5 → 6 ≤ k + m → frQ I J_ → (∀ i, i < k → mtF I i = true → ∀ s, s < (I 0 2).toNatClampNeg → (bagN (bgF I) (I 0 2).toNatClampNeg).testBit s = true → J_ (29 + i) s = ptF I (nI s) (I 26 i)) → g J_ 7 [(0, .ref (E.1 0)), (1, .int (nI (bagN (bgF I) (I 0 2).toNatClampNeg))), (2, .int (nI k))] [] := by
    intro m
    induction m with
    | zero =>
      intro k J_ h1 h2
      omega
    | succ m ih =>
      intro k J_ hk hkm hfr hst
      have ek := nI_tI (i := k) (by omega)
      have hJ26 : J_ 26 = I 26 := hfr.1 26 (by decide) (by decide) (by decide)
      have hJ0 : J_ 0 = I 0 := hfr.1 0 (by decide) (by decide) (by decide)
      refine r_iload_n (pc := 7) h dX10_playMatch_7 rfl ?_
      refine r_iconst (v := 5) (pc := 8) h dX10_playMatch_8 (by decide) ?_
      refine r_icmp_ge (pc := 9) h 38 dX10_playMatch_9 (by decide) (fun c9 => ?_) (fun c9 => ?_)
      · have hge : k = 5 := by rw [Int32.le_iff_toInt_le, ek, e5i] at c9; omega
        rw [hge] at hst
        have hmJ : mtF J_ = mtF I := mtF_fr hJ26
        have hTJ : ∀ j, j < 5 → mtF J_ j = true → ∀ s, s < 9 → (bagN (bgF I) (I 0 2).toNatClampNeg).testBit s = true → (J_ (29 + j) s).toInt = QF I (cntP (mtF J_) j) s := by
          rw [hmJ]
          intro j hj_ hmj_ s hs_ hb_
          have hsN : s < (I 0 2).toNatClampNeg := by
            rcases Nat.lt_or_ge s (I 0 2).toNatClampNeg with q_ | q_
            · exact q_
            · rw [bag_high (bgF I) hN9 q_ hs_] at hb_
              exact absurd hb_ (by decide)
          rw [hst j hj_ hmj_ s hsN hb_]
          show _ = (ptF I (nI s) (I 26 (atx (mtF I) (cntP (mtF I) j)))).toInt
          rw [atx_is hmj_ hj_]
        refine r_aload_n (pc := 38) h dX10_playMatch_38 rfl ?_
        refine gf_X10_85 (pc := 39) h dX10_playMatch_39 ?_
        refine r_iload_n (pc := 42) h dX10_playMatch_42 rfl ?_
        refine r_callVV (ci := 3) (pc := 43) h dX10_playMatch_43 wm_X10_417 ca_X3_findBest rfl (c_X3_findBest E _ _ (QF I) (bagN (bgF I) (I 0 2).toNatClampNeg) rfl hb5 (QF_bd I) hTJ) rfl rfl (Nat.le_of_ble_eq_true rfl) (by decide) (by decide) (by decide) (by decide) (fun K_ hq => ?_)
        rw [hmJ, hfr.1 35 (by decide) (by decide) (by decide)] at hq
        obtain ⟨hq1, hq2, hq3⟩ := hq
        rw [hmJ] at hq2
        exact hr _ _ _ dX10_playMatch_46 (⟨hq1, hq2, fun a a1 a2 a3 a4 => by rw [hq3.1 a a2 (by omega) (by omega)]; exact hfr.1 a a1 a3 (by omega), fun j j0 j5 => by rw [hq3.1 27 (by decide) (by decide) (by decide)]; exact hfr.2 j j0 j5, fun j j5 => by rw [hq3.2 j j5, hfr.1 25 (by decide) (by decide) (by decide)]⟩)
      · have hlt : k < 5 := by rw [Int32.le_iff_toInt_le, ek, e5i] at c9; omega
        refine r_aload_n (pc := 12) h dX10_playMatch_12 rfl ?_
        refine gf_X10_85 (pc := 13) h dX10_playMatch_13 ?_
        refine gf_X10_238 (pc := 16) h dX10_playMatch_16 ?_
        refine r_iload_n (pc := 19) h dX10_playMatch_19 rfl ?_
        refine r_ialdL (j := k) (pc := 20) h dX10_playMatch_20 (by decide) (by decide) (nI_tn (by omega)) (vinI (n := 5) (by omega) (by omega)) ?_
        rw [hJ26]
        refine r_bipush (v := -2) (pc := 21) h dX10_playMatch_21 (by decide) ?_
        refine r_icmp_eq (pc := 23) h 32 dX10_playMatch_23 (by decide) (fun c23 => ?_) (fun c23 => ?_)
        · refine r_iinc (v := 1) (pc := 32) h dX10_playMatch_32 rfl (by decide) (by decide) ?_
          refine r_goto (pc := 35) h 7 dX10_playMatch_35 (by decide) ?_
          rw [← nI_succ k]
          first
          | (refine r_at h [(0, .ref (E.1 0)), (1, .int (nI (bagN (bgF I) (I 0 2).toNatClampNeg))), (2, .int (nI (k + 1)))] ⟨rfl, rfl, rfl, trivial⟩ (ih (k + 1) K_ (by omega) (by omega) hfr2 ?_)
             intro i hi_ hm_ s hs_ hb_
             by_cases e_ : i = k
             · rw [e_, hp3 s hs_ hb_]
             · rw [hp1.1 (29 + i) (by omega) (by omega) (by omega)]
               exact hst i (by omega) hm_ s hs_ hb_)
          | (refine r_at h [(0, .ref (E.1 0)), (1, .int (nI (bagN (bgF I) (I 0 2).toNatClampNeg))), (2, .int (nI (k + 1)))] ⟨rfl, rfl, rfl, trivial⟩ (ih (k + 1) _ (by omega) (by omega) hfr ?_)
             intro i hi_ hm_ s hs_ hb_
             by_cases e_ : i = k
             · rw [e_] at hm_
               exact absurd c23 (of_decide_eq_true hm_)
             · exact hst i (by omega) hm_ s hs_ hb_)
        · refine r_aload_n (pc := 26) h dX10_playMatch_26 rfl ?_
          refine r_iload_n (pc := 27) h dX10_playMatch_27 rfl ?_
          refine r_iload_n (pc := 28) h dX10_playMatch_28 rfl ?_
          refine r_callVV (ci := 10) (pc := 29) h dX10_playMatch_29 wm_X10_414 ca_X10_fillPoints rfl (c_X10_fillPoints E _ _ _ k (bagN (bgF I) (I 0 2).toNatClampNeg) hlt rfl rfl hb5 (by rw [hJ0]; exact hc) (by rw [hJ26]; exact hmt k hlt (decide_eq_true c23)) (frQ_man hfr hm) (frQ_ok hfr hF) (frQ_w hfr hW)) rfl rfl (Nat.le_of_ble_eq_true rfl) (by decide) (by decide) (by decide) (by decide) (fun K_ hq => ?_)
          obtain ⟨hp1, hp2⟩ := hq
          have hfr2 : frQ I K_ := ⟨fun a a1 a2 a3 => (hp1.1 a a1 a2 (by omega)).trans (hfr.1 a a1 a2 a3), fun j j0 j5 => (hp1.2 j j0 j5).trans (hfr.2 j j0 j5)⟩
          have hp3 : ∀ s, s < (I 0 2).toNatClampNeg → (bagN (bgF I) (I 0 2).toNatClampNeg).testBit s = true → K_ (29 + k) s = ptF I (nI s) (I 26 k) := fun s hs_ hb_ => by
            rw [hp2 s (by rw [hJ0]; exact hs_) hb_, frQ_pt hfr hF.2.1, hJ26]
          refine r_iinc (v := 1) (pc := 32) h dX10_playMatch_32 rfl (by decide) (by decide) ?_
          refine r_goto (pc := 35) h 7 dX10_playMatch_35 (by decide) ?_
          rw [← nI_succ k]
          first
          | (refine r_at h [(0, .ref (E.1 0)), (1, .int (nI (bagN (bgF I) (I 0 2).toNatClampNeg))), (2, .int (nI (k + 1)))] ⟨rfl, rfl, rfl, trivial⟩ (ih (k + 1) K_ (by omega) (by omega) hfr2 ?_)
             intro i hi_ hm_ s hs_ hb_
             by_cases e_ : i = k
             · rw [e_, hp3 s hs_ hb_]
             · rw [hp1.1 (29 + i) (by omega) (by omega) (by omega)]
               exact hst i (by omega) hm_ s hs_ hb_)
          | (refine r_at h [(0, .ref (E.1 0)), (1, .int (nI (bagN (bgF I) (I 0 2).toNatClampNeg))), (2, .int (nI (k + 1)))] ⟨rfl, rfl, rfl, trivial⟩ (ih (k + 1) _ (by omega) (by omega) hfr ?_)
             intro i hi_ hm_ s hs_ hb_
             by_cases e_ : i = k
             · rw [e_] at hm_
               exact absurd c23 (of_decide_eq_true hm_)
             · exact hst i (by omega) hm_ s hs_ hb_)
  exact r_at h [(0, .ref (E.1 0)), (1, .int (nI (bagN (bgF I) (I 0 2).toNatClampNeg))), (2, .int (nI 0))] ⟨rfl, rfl, rfl, trivial⟩ (loop7 6 0 I (by omega) (by omega) ⟨fun _ _ _ _ => rfl, fun _ _ _ => rfl⟩ (fun i hi_ => absurd hi_ (by omega)))
set_option maxRecDepth 100000 in
set_option maxHeartbeats 1000000 in
theorem c_X10_best (E : En) (I : Mem)  (hc : 0 ≤ (I 0 2).toInt ∧ (I 0 2).toInt ≤ 9) (hmt : mtOk I) (hm : manOk I) (hF : FlOkF I) (hW : FwOk I) : Ctr E yX10_best cX10_best 2 (some .int) 9 [.ref (E.1 0)] I (qI (fun (r : Int32) (I1 : Mem) => r = F_best I ∧ frMM I I1)) := by
  refine Ctr.openI (by decide) (Nat.le_of_ble_eq_true rfl) (fun g h hr => ?_)
  have h : Sem cX10_best RX10 2 (rmL 9) E g := h
  show g I 0 [(0, .ref (E.1 0))] []
  refine r_aload_n (pc := 0) h dX10_best_0 rfl ?_
  refine gf_X10_85 (pc := 1) h dX10_best_1 ?_
  refine r_callVI (ci := 3) (pc := 4) h dX10_best_4 wm_X10_251 ca_X3_throwCount rfl (c_X3_throwCount E _) rfl rfl (Nat.le_of_ble_eq_true rfl) (by decide) (by decide) (by decide) (by decide) (fun r I1 hq => ?_)
  obtain ⟨rfl, rfl⟩ := hq
  refine r_istore_n (pc := 7) h dX10_best_7 (by decide) ?_
  refine r_iload_n (pc := 8) h dX10_best_8 rfl ?_
  refine r_if_ne (pc := 9) h 15 dX10_best_9 (by decide) (fun c9 => ?_) (fun c9 => ?_)
  · refine r_iload_n (pc := 15) h dX10_best_15 rfl ?_
    refine r_aload_n (pc := 16) h dX10_best_16 rfl ?_
    refine r_callVI (ci := 10) (pc := 17) h dX10_best_17 wm_X10_214 ca_X10_bagBits rfl (c_X10_bagBits E _ hc) rfl rfl (Nat.le_of_ble_eq_true rfl) (by decide) (by decide) (by decide) (by decide) (fun r I1 hq => ?_)
    obtain ⟨rfl, rfl⟩ := hq
    refine r_callSI (pc := 20) h dX10_best_20 wm_X10_254 ca_J6_bitCount_0f7a4 (c_J6_bitCount_0f7a4 E _ _) rfl rfl (Nat.le_of_ble_eq_true rfl) (by decide) (fun r I1 hq => ?_)
    obtain ⟨rfl, rfl⟩ := hq
    rw [bc_bag (bgF I) (by rw [tn]; omega)]
    refine r_icmp_le (pc := 23) h 29 dX10_best_23 (by decide) (fun c23 => ?_) (fun c23 => ?_)
    · refine r_aload_n (pc := 29) h dX10_best_29 rfl ?_
      refine r_callVV (ci := 10) (pc := 30) h dX10_best_30 wm_X10_259 ca_X10_playMatch rfl (c_X10_playMatch E _ hc hmt hm hF hW) rfl rfl (Nat.le_of_ble_eq_true rfl) (by decide) (by decide) (by decide) (by decide) (fun K_ hq => ?_)
      obtain ⟨hq1, hq2, hq3⟩ := hq
      refine r_aload_n (pc := 33) h dX10_best_33 rfl ?_
      refine gf_X10_85 (pc := 34) h dX10_best_34 ?_
      refine gf_X10_262 (pc := 37) h dX10_best_37 ?_
      exact hr _ _ _ _ dX10_best_40 (rfl) (⟨by unfold F_best; rw [if_neg c9, if_neg (Int32.not_lt.mpr c23), ← hq1, Int32.ofInt_toInt], hq3⟩)
    · refine r_bipush (v := -4) (pc := 26) h dX10_best_26 (by decide) ?_
      exact hr _ _ _ _ dX10_best_28 (rfl) (⟨by unfold F_best; rw [if_neg c9, if_pos (Int32.not_le.mp c23)], frMM_id I⟩)
  · refine r_bipush (v := -2) (pc := 12) h dX10_best_12 (by decide) ?_
    exact hr _ _ _ _ dX10_best_14 (rfl) (⟨by unfold F_best; rw [if_pos c9], frMM_id I⟩)
set_option maxRecDepth 100000 in
set_option maxHeartbeats 1000000 in
theorem c_X10_order (E : En) (I : Mem) (i : Int32) (hc : 0 ≤ (I 0 2).toInt ∧ (I 0 2).toInt ≤ 9) (hmt : mtOk I) (hm : manOk I) (hF : FlOkF I) (hW : FwOk I) : Ctr E yX10_order cX10_order 2 (some .int) 9 [.ref (E.1 0), .int i] I (qI (fun (r : Int32) (I1 : Mem) => r = F_order I i ∧ frMM I I1)) := by
  refine Ctr.openI (by decide) (Nat.le_of_ble_eq_true rfl) (fun g h hr => ?_)
  have h : Sem cX10_order RX10 2 (rmL 9) E g := h
  show g I 0 [(0, .ref (E.1 0)), (1, .int i)] []
  refine r_iload_n (pc := 0) h dX10_order_0 rfl ?_
  refine r_iconst (v := 0) (pc := 1) h dX10_order_1 (by decide) ?_
  refine r_iconst (v := 4) (pc := 2) h dX10_order_2 (by decide) ?_
  refine r_callSI (pc := 3) h dX10_order_3 wm_X10_118 ca_X10_within (c_X10_within E _ _ _ _) rfl rfl (Nat.le_of_ble_eq_true rfl) (by decide) (fun r I1 hq => ?_)
  obtain ⟨rfl, rfl⟩ := hq
  refine r_if_eq (pc := 6) h 23 dX10_order_6 (by decide) (fun c6 => ?_) (fun c6 => ?_)
  · refine r_iconst (v := -1) (pc := 23) h dX10_order_23 (by decide) ?_
    exact hr _ _ _ _ dX10_order_24 (rfl) (⟨by unfold F_order; rw [if_neg (fun q_ => by first | exact q_.2 c20 | exact (b2i_eq0.mp c6) q_.1)], frMM_id I⟩)
  · have hi4 : 0 ≤ i.toInt ∧ i.toInt ≤ 4 := b2i_ne c6
    refine r_aload_n (pc := 9) h dX10_order_9 rfl ?_
    refine gf_X10_85 (pc := 10) h dX10_order_10 ?_
    refine gf_X10_238 (pc := 13) h dX10_order_13 ?_
    refine r_iload_n (pc := 16) h dX10_order_16 rfl ?_
    refine r_iald (pc := 17) h dX10_order_17 (by decide) (by decide) (vin (n := 5) (by omega) (by omega)) ?_
    refine r_bipush (v := -2) (pc := 18) h dX10_order_18 (by decide) ?_
    refine r_icmp_ne (pc := 20) h 25 dX10_order_20 (by decide) (fun c20 => ?_) (fun c20 => ?_)
    · have hv : (0 ≤ i.toInt ∧ i.toInt ≤ 4) ∧ ¬ I 26 i.toNatClampNeg = -2 := ⟨hi4, c20⟩
      refine r_aload_n (pc := 25) h dX10_order_25 rfl ?_
      refine gf_X10_85 (pc := 26) h dX10_order_26 ?_
      refine r_callVI (ci := 3) (pc := 29) h dX10_order_29 wm_X10_251 ca_X3_throwCount rfl (c_X3_throwCount E _) rfl rfl (Nat.le_of_ble_eq_true rfl) (by decide) (by decide) (by decide) (by decide) (fun r I1 hq => ?_)
      obtain ⟨rfl, rfl⟩ := hq
      refine r_aload_n (pc := 32) h dX10_order_32 rfl ?_
      refine r_callVI (ci := 10) (pc := 33) h dX10_order_33 wm_X10_214 ca_X10_bagBits rfl (c_X10_bagBits E _ hc) rfl rfl (Nat.le_of_ble_eq_true rfl) (by decide) (by decide) (by decide) (by decide) (fun r I1 hq => ?_)
      obtain ⟨rfl, rfl⟩ := hq
      refine r_callSI (pc := 36) h dX10_order_36 wm_X10_254 ca_J6_bitCount_0f7a4 (c_J6_bitCount_0f7a4 E _ _) rfl rfl (Nat.le_of_ble_eq_true rfl) (by decide) (fun r I1 hq => ?_)
      obtain ⟨rfl, rfl⟩ := hq
      rw [bc_bag (bgF I) (by rw [tn]; omega)]
      refine r_icmp_le (pc := 39) h 45 dX10_order_39 (by decide) (fun c39 => ?_) (fun c39 => ?_)
      · refine r_aload_n (pc := 45) h dX10_order_45 rfl ?_
        refine r_callVV (ci := 10) (pc := 46) h dX10_order_46 wm_X10_259 ca_X10_playMatch rfl (c_X10_playMatch E _ hc hmt hm hF hW) rfl rfl (Nat.le_of_ble_eq_true rfl) (by decide) (by decide) (by decide) (by decide) (fun K_ hq => ?_)
        obtain ⟨hq1, hq2, hq3⟩ := hq
        refine r_aload_n (pc := 49) h dX10_order_49 rfl ?_
        refine gf_X10_85 (pc := 50) h dX10_order_50 ?_
        refine gf_X10_265 (pc := 53) h dX10_order_53 ?_
        refine r_iload_n (pc := 56) h dX10_order_56 rfl ?_
        refine r_iald (pc := 57) h dX10_order_57 (by decide) (by decide) (vin (n := 5) (by omega) (by omega)) ?_
        exact hr _ _ _ _ dX10_order_58 (rfl) (⟨by unfold F_order; rw [if_pos hv, if_neg (Int32.not_lt.mpr c39)]; exact hq2 _ (by rw [tn]; omega) (decide_eq_true c20), hq3⟩)
      · refine r_bipush (v := -4) (pc := 42) h dX10_order_42 (by decide) ?_
        exact hr _ _ _ _ dX10_order_44 (rfl) (⟨by unfold F_order; rw [if_pos hv, if_pos (Int32.not_le.mp c39)], frMM_id I⟩)
    · refine r_iconst (v := -1) (pc := 23) h dX10_order_23 (by decide) ?_
      exact hr _ _ _ _ dX10_order_24 (rfl) (⟨by unfold F_order; rw [if_neg (fun q_ => by first | exact q_.2 c20 | exact (b2i_eq0.mp c6) q_.1)], frMM_id I⟩)
