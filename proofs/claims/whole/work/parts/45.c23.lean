/-! choose of both -/
theorem chS_ag {n s l a st : Int32} {z y : Sg} (h1 : z.1 = y.1) (h2 : ∀ q, q < 4 → z.2 q = y.2 q) : (chS n s l a st z).1 = (chS n s l a st y).1 ∧ ∀ q, q < 4 → (chS n s l a st z).2 q = (chS n s l a st y).2 q := by
  unfold chS
  rw [h1]
  split
  · exact ⟨rfl, fun _ _ => rfl⟩
  · exact ⟨h1, h2⟩
theorem chK_ag {f : Nat → Int32} {s : Int32} {z y : Sg} (h1 : z.1 = y.1) (h2 : ∀ q, q < 4 → z.2 q = y.2 q) : ∀ k, (chK f s k z).1 = (chK f s k y).1 ∧ ∀ q, q < 4 → (chK f s k z).2 q = (chK f s k y).2 q
  | 0 => ⟨h1, h2⟩
  | k + 1 => by
    have ih := chK_ag (f := f) (s := s) h1 h2 k
    exact chS_ag ih.1 ih.2
abbrev mayF (I : Mem) (so : Int32) : Nat → Bool := fun i => decide (bitQ so i) && bgF I i
abbrev mayR (I : Mem) (so : Int32) : Nat → Bool := fun i => decide (bitQ so i) && bgR I i
abbrev zCF (I : Mem) (so wb : Int32) (i : Nat) : Sg := chA (mayF I so) (fun i => bkF I wb (nI i)) i (-1, I 20)
abbrev zCR (I : Mem) (so wb : Int32) (i : Nat) : Sg := chA (mayR I so) (fun i => bkR I wb (nI i)) i (-1, I 169)
def ChF (I : Mem) (so wb r : Int32) (I1 : Mem) : Prop := (¬ (setP so (I 0 2) ∧ setP wb (I 0 4)) ∧ r = -1 ∧ I1 = I) ∨ ((setP so (I 0 2) ∧ setP wb (I 0 4)) ∧ so &&& nI (bagN (bgF I) (I 0 2).toNatClampNeg) = 0 ∧ r = -2 ∧ I1 = I) ∨ ((setP so (I 0 2) ∧ setP wb (I 0 4)) ∧ (¬ so &&& nI (bagN (bgF I) (I 0 2).toNatClampNeg) = 0) ∧ r = (zCF I so wb (I 0 2).toNatClampNeg).1 ∧ (∀ q, q < 4 → I1 20 q = (zCF I so wb (I 0 2).toNatClampNeg).2 q) ∧ I1 0 11 = 1 ∧ (∀ a, a ≠ 0 → a ≠ 17 → a ≠ 19 → a ≠ 20 → I1 a = I a) ∧ (∀ j, j ≠ 11 → I1 0 j = I 0 j))
abbrev frC (I J : Mem) : Prop := (∀ a, a ≠ 167 → a ≠ 151 → a ≠ 169 → J a = I a) ∧ (∀ j, j ≠ 20 → j ≠ 21 → j ≠ 28 → J 151 j = I 151 j)
abbrev hasC (I J : Mem) (z : Sg) : Prop := (∀ q, q < 4 → J 169 q = z.2 q) ∧ (z.1 = -1 → J 151 28 = I 151 28) ∧ (¬ z.1 = -1 → J 151 28 = 1)
def ChR (I : Mem) (so wb r : Int32) (I1 : Mem) : Prop := (¬ (setP so (I 151 1) ∧ setP wb (I 151 10)) ∧ r = -1 ∧ I1 = I) ∨ ((setP so (I 151 1) ∧ setP wb (I 151 10)) ∧ r = (if 0 ≤ (zCR I so wb (I 151 1).toNatClampNeg).1 then (zCR I so wb (I 151 1).toNatClampNeg).1 else -2) ∧ hasC I I1 (zCR I so wb (I 151 1).toNatClampNeg) ∧ frC I I1)
theorem frC_RR {I J : Mem} (h : frC I J) : RR J = RR I := RR_congr (fun a ha => h.1 a (by omega) (by omega) (by omega)) (h.2 13 (by decide) (by decide) (by decide)) (h.2 18 (by decide) (by decide) (by decide))
theorem frC_ok {I J : Mem} (h : frC I J) (hF : FlOkR I) : FlOkR J := by
  refine ⟨?_, ?_, ?_⟩
  · rw [h.1 162 (by decide) (by decide) (by decide)]
    exact hF.1
  · rw [h.2 13 (by decide) (by decide) (by decide)]
    exact hF.2.1
  · rw [h.1 152 (by decide) (by decide) (by decide)]
    exact hF.2.2
def remR (I : Mem) (s l a st : Int32) : Mem := upm (upm (upm (upm (upm I 169 0 s) 169 1 l) 169 2 a) 169 3 st) 151 28 1
theorem remR_ne (I : Mem) (s l a st : Int32) {k : Nat} (h1 : k ≠ 169) (h2 : k ≠ 151) : remR I s l a st k = I k := by
  unfold remR
  rw [upm_ne _ _ _ h2, upm_ne _ _ _ h1, upm_ne _ _ _ h1, upm_ne _ _ _ h1, upm_ne _ _ _ h1]
theorem remR_151 (I : Mem) (s l a st : Int32) {j : Nat} (h : j ≠ 28) : remR I s l a st 151 j = I 151 j := by
  unfold remR
  rw [upm_at, if_neg (fun q => h q.2), upm_ne _ _ _ (by decide), upm_ne _ _ _ (by decide), upm_ne _ _ _ (by decide), upm_ne _ _ _ (by decide)]
theorem remR_28 (I : Mem) (s l a st : Int32) : remR I s l a st 151 28 = 1 := by
  unfold remR
  rw [upm_eq]
theorem remR_at (I : Mem) (s l a st : Int32) {j : Nat} (h : j < 4) : remR I s l a st 169 j = ch4 s l a st j := by
  unfold remR ch4
  rcases (show j = 0 ∨ j = 1 ∨ j = 2 ∨ j = 3 by omega) with e | e | e | e <;> subst e <;> rfl
theorem nI_nm1 {n : Nat} (h : n < 1000000) : ¬ nI n = -1 := fun q => by
  have e := nI_tI h
  rw [q, i32_m1] at e
  omega
theorem lnK_bd (k : Nat) : 0 ≤ (lnK k).toInt ∧ (lnK k).toInt ≤ 90 := leanT_bd _
set_option maxRecDepth 100000 in
set_option maxHeartbeats 1000000 in
theorem c_X10_choose (E : En) (I : Mem) (so : Int32) (wb : Int32) (hc : 0 ≤ (I 0 2).toInt ∧ (I 0 2).toInt ≤ 9) (hcw : 0 ≤ (I 0 4).toInt ∧ (I 0 4).toInt ≤ 8) (hF : FlOkF I) : Ctr E yX10_choose cX10_choose 6 (some .int) 7 [.ref (E.1 0), .int so, .int wb] I (qI (fun (r : Int32) (I1 : Mem) => ChF I so wb r I1)) := by
  refine Ctr.openI (by decide) (Nat.le_of_ble_eq_true rfl) (fun g h hr => ?_)
  have h : Sem cX10_choose RX10 6 (rmL 7) E g := h
  show g I 0 [(0, .ref (E.1 0)), (1, .int so), (2, .int wb)] []
  refine r_iload_n (pc := 0) h dX10_choose_0 rfl ?_
  refine r_aload_n (pc := 1) h dX10_choose_1 rfl ?_
  refine gf_X10_23 (pc := 2) h dX10_choose_2 ?_
  refine r_callSI (pc := 5) h dX10_choose_5 wm_X10_210 ca_X10_isSetOf (c_X10_isSetOf E _ _ _ hc) rfl rfl (Nat.le_of_ble_eq_true rfl) (by decide) (fun r I1 hq => ?_)
  obtain ⟨rfl, rfl⟩ := hq
  refine r_if_eq (pc := 8) h 22 dX10_choose_8 (by decide) (fun c8 => ?_) (fun c8 => ?_)
  · refine r_iconst (v := -1) (pc := 22) h dX10_choose_22 (by decide) ?_
    exact hr _ _ _ _ dX10_choose_23 (rfl) (Or.inl ⟨fun q => by first | exact (b2i_eq0.mp c19) q.2 | exact (b2i_eq0.mp c8) q.1, rfl, rfl⟩)
  · refine r_iload_n (pc := 11) h dX10_choose_11 rfl ?_
    refine r_aload_n (pc := 12) h dX10_choose_12 rfl ?_
    refine gf_X10_33 (pc := 13) h dX10_choose_13 ?_
    refine r_callSI (pc := 16) h dX10_choose_16 wm_X10_210 ca_X10_isSetOf (c_X10_isSetOf E _ _ _ ⟨hcw.1, by omega⟩) rfl rfl (Nat.le_of_ble_eq_true rfl) (by decide) (fun r I1 hq => ?_)
    obtain ⟨rfl, rfl⟩ := hq
    refine r_if_ne (pc := 19) h 24 dX10_choose_19 (by decide) (fun c19 => ?_) (fun c19 => ?_)
    · have hset : setP so (I 0 2) ∧ setP wb (I 0 4) := ⟨b2i_ne c8, b2i_ne c19⟩
      have hN9 : (I 0 2).toNatClampNeg ≤ 9 := by rw [tn]; omega
      have hso : 0 ≤ so.toInt ∧ so.toInt < 512 := ⟨Int.le_of_lt hset.1.1, by have h1_ := hset.1.2; have h2_ := pow512 hN9; omega⟩
      refine r_iload_n (pc := 24) h dX10_choose_24 rfl ?_
      refine r_aload_n (pc := 25) h dX10_choose_25 rfl ?_
      refine r_callVI (ci := 10) (pc := 26) h dX10_choose_26 wm_X10_214 ca_X10_bagBits rfl (c_X10_bagBits E _ hc) rfl rfl (Nat.le_of_ble_eq_true rfl) (by decide) (by decide) (by decide) (by decide) (fun r I1 hq => ?_)
      obtain ⟨rfl, rfl⟩ := hq
      refine r_iand (pc := 29) h dX10_choose_29 ?_
      refine r_istore_n (pc := 30) h dX10_choose_30 (by decide) ?_
      refine r_iload_n (pc := 31) h dX10_choose_31 rfl ?_
      refine r_if_ne (pc := 32) h 38 dX10_choose_32 (by decide) (fun c32 => ?_) (fun c32 => ?_)
      · refine r_iconst (v := -1) (pc := 38) h dX10_choose_38 (by decide) ?_
        refine r_istore (pc := 39) h dX10_choose_39 (by decide) ?_
        refine r_iconst (v := 0) (pc := 41) h dX10_choose_41 (by decide) ?_
        refine r_istore (pc := 42) h dX10_choose_42 (by decide) ?_
        have loop44 : ∀ (m i : Nat) (J_ : Mem), i ≤ (I 0 2).toNatClampNeg → (I 0 2).toNatClampNeg + 1 ≤ i + m → fr20 I J_ → (∀ q, q < 4 → J_ 20 q = (zCF I so wb i).2 q) → g J_ 44 [(0, .ref (E.1 0)), (2, .int wb), (3, .int (so &&& nI (bagN (bgF I) (I 0 2).toNatClampNeg))), (4, .int (zCF I so wb i).1), (5, .int (nI i))] [] := by
          intro m
          induction m with
          | zero =>
            intro i J_ h1 h2
            omega
          | succ m ih =>
            intro i J_ hi him hfr hst
            have hC : ((I 0 2).toNatClampNeg : Int) = (I 0 2).toInt := tnI _ hc.1
            have ei := nI_tI (i := i) (by omega)
            have hJ0 : J_ 0 = I 0 := hfr 0 (by decide) (by decide) (by decide)
            refine r_iload (pc := 44) h dX10_choose_44 rfl ?_
            refine r_aload_n (pc := 46) h dX10_choose_46 rfl ?_
            refine gf_X10_23 (pc := 47) h dX10_choose_47 ?_
            rw [hJ0]
            refine r_icmp_ge (pc := 50) h 80 dX10_choose_50 (by decide) (fun c50 => ?_) (fun c50 => ?_)
            · have hge : i = (I 0 2).toNatClampNeg := by rw [Int32.le_iff_toInt_le, ei] at c50; omega
              refine r_aload_n (pc := 80) h dX10_choose_80 rfl ?_
              refine r_iconst (v := 1) (pc := 81) h dX10_choose_81 (by decide) ?_
              refine pf_X10_70 (pc := 82) h dX10_choose_82 (by decide) (by decide) ?_
              refine r_iload (pc := 85) h dX10_choose_85 rfl ?_
              exact hr _ _ _ _ dX10_choose_87 (rfl) (Or.inr (Or.inr ⟨hset, c32, by rw [hge], fun q hq_ => by rw [upm_ne _ _ _ (by decide), ← hge]; exact hst q hq_, upm_eq _ _ _ _, fun a a0 a1 a2 a3 => by rw [upm_ne _ _ _ a0]; exact hfr a a1 a2 a3, fun j hj_ => by rw [upm_at, if_neg (fun q => hj_ q.2), hJ0]⟩))
            · have hlt : i < (I 0 2).toNatClampNeg := by rw [Int32.le_iff_toInt_le, ei] at c50; omega
              refine r_iload_n (pc := 53) h dX10_choose_53 rfl ?_
              refine r_iload (pc := 54) h dX10_choose_54 rfl ?_
              refine r_ishr (pc := 56) h dX10_choose_56 ?_
              refine r_iconst (v := 1) (pc := 57) h dX10_choose_57 (by decide) ?_
              refine r_iand (pc := 58) h dX10_choose_58 ?_
              refine r_iconst (v := 1) (pc := 59) h dX10_choose_59 (by decide) ?_
              refine r_icmp_ne (pc := 60) h 74 dX10_choose_60 (by decide) (fun c60 => ?_) (fun c60 => ?_)
              · refine r_iinc (v := 1) (pc := 74) h dX10_choose_74 rfl (by decide) (by decide) ?_
                refine r_goto (pc := 77) h 44 dX10_choose_77 (by decide) ?_
                rw [← nI_succ i]
                first
                | (have hm_ : mayF I so i = true := (may_bit (p := bgF I) hso (by omega) hlt).mp c60
                   have e9_ : zCF I so wb (i + 1) = chK (bkF I wb (nI i)) (nI i) 48 (zCF I so wb i) := chA_t hm_
                   exact r_at h [(0, .ref (E.1 0)), (2, .int wb), (3, .int (so &&& nI (bagN (bgF I) (I 0 2).toNatClampNeg))), (4, .int (zCF I so wb (i + 1)).1), (5, .int (nI (i + 1)))] ⟨rfl, rfl, rfl, by rw [e9_, hr1]; rfl, rfl, trivial⟩ (ih (i + 1) _ (by omega) (by omega) hfr2 (fun q hq_ => by rw [e9_]; exact hr2 q hq_)))
                | (have hm_ : mayF I so i = false := by
                     cases hz_ : mayF I so i
                     · rfl
                     · exact absurd ((may_bit (p := bgF I) hso (by omega) hlt).mpr hz_) c60
                   have e9_ : zCF I so wb (i + 1) = zCF I so wb i := chA_f hm_
                   exact r_at h [(0, .ref (E.1 0)), (2, .int wb), (3, .int (so &&& nI (bagN (bgF I) (I 0 2).toNatClampNeg))), (4, .int (zCF I so wb (i + 1)).1), (5, .int (nI (i + 1)))] ⟨rfl, rfl, rfl, by rw [e9_]; rfl, rfl, trivial⟩ (ih (i + 1) _ (by omega) (by omega) hfr (fun q hq_ => by rw [e9_]; exact hst q hq_)))
              · refine r_aload_n (pc := 63) h dX10_choose_63 rfl ?_
                refine r_iload (pc := 64) h dX10_choose_64 rfl ?_
                refine r_iload_n (pc := 66) h dX10_choose_66 rfl ?_
                refine r_iload (pc := 67) h dX10_choose_67 rfl ?_
                refine r_callVI (ci := 10) (pc := 69) h dX10_choose_69 wm_X10_218 ca_X10_bestOfStick rfl (c_X10_bestOfStick E _ _ _ _ ⟨by rw [ei]; omega, by rw [ei]; omega⟩ (by rw [hJ0]; exact hcw) (by rw [hJ0]; exact hset.2) (fr20_ok hfr hF)) rfl rfl (Nat.le_of_ble_eq_true rfl) (by decide) (by decide) (by decide) (by decide) (fun b_ K_ hq => ?_)
                obtain ⟨hp1, hp2, hp3⟩ := hq
                have hbk_ : bkF J_ wb (nI i) = bkF I wb (nI i) := funext fun k => bkF_fr hfr hF.2.1 wb (nI i) k
                rw [hbk_] at hp1 hp2
                have hag := chK_ag (f := bkF I wb (nI i)) (s := nI i) (z := ((zCF I so wb i).1, J_ 20)) (y := zCF I so wb i) rfl hst 48
                have hr1 : (chK (bkF I wb (nI i)) (nI i) 48 (zCF I so wb i)).1 = b_ := by rw [hp1]; exact hag.1.symm
                have hr2 : ∀ q, q < 4 → K_ 20 q = (chK (bkF I wb (nI i)) (nI i) 48 (zCF I so wb i)).2 q := fun q hq_ => by rw [hp2 q hq_]; exact hag.2 q hq_
                have hfr2 : fr20 I K_ := fun a a1 a2 a3 => (hp3 a a1 a2 a3).trans (hfr a a1 a2 a3)
                refine r_istore (pc := 72) h dX10_choose_72 (by decide) ?_
                refine r_iinc (v := 1) (pc := 74) h dX10_choose_74 rfl (by decide) (by decide) ?_
                refine r_goto (pc := 77) h 44 dX10_choose_77 (by decide) ?_
                rw [← nI_succ i]
                first
                | (have hm_ : mayF I so i = true := (may_bit (p := bgF I) hso (by omega) hlt).mp c60
                   have e9_ : zCF I so wb (i + 1) = chK (bkF I wb (nI i)) (nI i) 48 (zCF I so wb i) := chA_t hm_
                   exact r_at h [(0, .ref (E.1 0)), (2, .int wb), (3, .int (so &&& nI (bagN (bgF I) (I 0 2).toNatClampNeg))), (4, .int (zCF I so wb (i + 1)).1), (5, .int (nI (i + 1)))] ⟨rfl, rfl, rfl, by rw [e9_, hr1]; rfl, rfl, trivial⟩ (ih (i + 1) _ (by omega) (by omega) hfr2 (fun q hq_ => by rw [e9_]; exact hr2 q hq_)))
                | (have hm_ : mayF I so i = false := by
                     cases hz_ : mayF I so i
                     · rfl
                     · exact absurd ((may_bit (p := bgF I) hso (by omega) hlt).mpr hz_) c60
                   have e9_ : zCF I so wb (i + 1) = zCF I so wb i := chA_f hm_
                   exact r_at h [(0, .ref (E.1 0)), (2, .int wb), (3, .int (so &&& nI (bagN (bgF I) (I 0 2).toNatClampNeg))), (4, .int (zCF I so wb (i + 1)).1), (5, .int (nI (i + 1)))] ⟨rfl, rfl, rfl, by rw [e9_]; rfl, rfl, trivial⟩ (ih (i + 1) _ (by omega) (by omega) hfr (fun q hq_ => by rw [e9_]; exact hst q hq_)))
        exact r_at h [(0, .ref (E.1 0)), (2, .int wb), (3, .int (so &&& nI (bagN (bgF I) (I 0 2).toNatClampNeg))), (4, .int (zCF I so wb 0).1), (5, .int (nI 0))] ⟨rfl, rfl, rfl, rfl, rfl, trivial⟩ (loop44 ((I 0 2).toNatClampNeg + 1) 0 I (by omega) (by omega) (fun _ _ _ _ => rfl) (fun _ _ => rfl))
      · refine r_bipush (v := -2) (pc := 35) h dX10_choose_35 (by decide) ?_
        exact hr _ _ _ _ dX10_choose_37 (rfl) (Or.inr (Or.inl ⟨hset, c32, rfl, rfl⟩))
    · refine r_iconst (v := -1) (pc := 22) h dX10_choose_22 (by decide) ?_
      exact hr _ _ _ _ dX10_choose_23 (rfl) (Or.inl ⟨fun q => by first | exact (b2i_eq0.mp c19) q.2 | exact (b2i_eq0.mp c8) q.1, rfl, rfl⟩)
set_option maxRecDepth 100000 in
set_option maxHeartbeats 1000000 in
theorem c_X11_choose (E : En) (I : Mem) (so : Int32) (wb : Int32) (hc : 0 ≤ (I 151 1).toInt ∧ (I 151 1).toInt ≤ 9) (hcw : 0 ≤ (I 151 10).toInt ∧ (I 151 10).toInt ≤ 8) (hF : FlOkR I) (h22 : I 151 22 = 0) : Ctr E yX11_choose cX11_choose 11 (some .int) 6 [.ref (E.1 151), .int so, .int wb] I (qI (fun (r : Int32) (I1 : Mem) => ChR I so wb r I1)) := by
  refine Ctr.openI (by decide) (Nat.le_of_ble_eq_true rfl) (fun g h hr => ?_)
  have h : Sem cX11_choose RX11 11 (rmL 6) E g := h
  show g I 0 [(0, .ref (E.1 151)), (1, .int so), (2, .int wb)] []
  have hs1 := shl_n (c := I 151 1) hc
  have hs2 := shl_n (c := I 151 10) ⟨hcw.1, by omega⟩
  have hp1_ := pow512 (c := (I 151 1).toNatClampNeg) (by rw [tn]; omega)
  have hp2_ := pow256 (c := (I 151 10).toNatClampNeg) (by rw [tn]; omega)
  have hq1_ : 1 ≤ 2 ^ (I 151 1).toNatClampNeg := Nat.one_le_two_pow
  have hq2_ : 1 ≤ 2 ^ (I 151 10).toNatClampNeg := Nat.one_le_two_pow
  have ht1 : ((1 : Int32) <<< (I 151 1 &&& 31) - 1).toInt = ((2 ^ (I 151 1).toNatClampNeg : Nat) : Int) - 1 := by rw [tI_sub1 (by rw [hs1]; omega), hs1]
  have ht2 : ((1 : Int32) <<< (I 151 10 &&& 31) - 1).toInt = ((2 ^ (I 151 10).toNatClampNeg : Nat) : Int) - 1 := by rw [tI_sub1 (by rw [hs2]; omega), hs2]
  have t52 : ∀ (J_ : Mem) (lv : LV) (i : Nat), i < 9 → J_ 160 = I 160 → lk lv 0 = some (.ref (E.1 151)) → lk lv 1 = some (.int so) → lk lv 4 = some (.int (nI i)) → g J_ 77 lv [.int (if mayR I so i = true then 1 else 0)] → g J_ 52 lv [] := by
    intro J_ lv i hi9 hJ h0 h1 h4 kk
    refine r_iload_n (pc := 52) h dX11_choose_52 h1 ?_
    refine r_iload (pc := 53) h dX11_choose_53 h4 ?_
    refine r_ishr (pc := 55) h dX11_choose_55 ?_
    refine r_iconst (v := 1) (pc := 56) h dX11_choose_56 (by decide) ?_
    refine r_iand (pc := 57) h dX11_choose_57 ?_
    refine r_iconst (v := 1) (pc := 58) h dX11_choose_58 (by decide) ?_
    refine r_icmp_ne (pc := 59) h 76 dX11_choose_59 (by decide) (fun c => ?_) (fun c => ?_)
    · refine r_iconst (v := 0) (pc := 76) h dX11_choose_76 (by decide) ?_
      rw [if_neg (by rw [Bool.and_eq_true, decide_eq_true_eq]; exact fun q => c q.1)] at kk
      exact kk
    · refine r_aload_n (pc := 62) h dX11_choose_62 h0 ?_
      refine gf_X11_34 (pc := 63) h dX11_choose_63 ?_
      refine r_iload (pc := 66) h dX11_choose_66 h4 ?_
      refine r_zaldL (j := i) (pc := 68) h dX11_choose_68 (by decide) (by decide) (nI_tn (by omega)) (vinI (n := 9) (by omega) (by omega)) ?_
      rw [hJ]
      refine r_if_ne (pc := 69) h 76 dX11_choose_69 (by decide) (fun c2 => ?_) (fun c2 => ?_)
      · refine r_iconst (v := 0) (pc := 76) h dX11_choose_76 (by decide) ?_
        rw [if_neg (by rw [Bool.and_eq_true, decide_eq_true_eq, decide_eq_true_eq]; exact fun q => c2 q.2)] at kk
        exact kk
      · refine r_iconst (v := 1) (pc := 72) h dX11_choose_72 (by decide) ?_
        refine r_goto (pc := 73) h 77 dX11_choose_73 (by decide) ?_
        rw [if_pos (by rw [Bool.and_eq_true, decide_eq_true_eq, decide_eq_true_eq]; exact ⟨c, c2⟩)] at kk
        exact kk
  refine r_iload_n (pc := 0) h dX11_choose_0 rfl ?_
  refine r_i2l (pc := 1) h dX11_choose_1 ?_
  refine r_lconst (v := 1) (pc := 2) h dX11_choose_2 (by decide) ?_
  refine r_iconst (v := 1) (pc := 3) h dX11_choose_3 (by decide) ?_
  refine r_aload_n (pc := 4) h dX11_choose_4 rfl ?_
  refine gf_X11_144 (pc := 5) h dX11_choose_5 ?_
  refine r_ishl (pc := 8) h dX11_choose_8 ?_
  refine r_iconst (v := 1) (pc := 9) h dX11_choose_9 (by decide) ?_
  refine r_isub (pc := 10) h dX11_choose_10 ?_
  refine r_i2l (pc := 11) h dX11_choose_11 ?_
  refine r_callSI (pc := 12) h dX11_choose_12 wm_X11_127 ca_X11_in (c_X11_in E _ _ _ _) rfl rfl (Nat.le_of_ble_eq_true rfl) (by decide) (fun r I1 hq => ?_)
  obtain ⟨rfl, rfl⟩ := hq
  refine r_if_eq (pc := 15) h 36 dX11_choose_15 (by decide) (fun c15 => ?_) (fun c15 => ?_)
  · refine r_iconst (v := -1) (pc := 36) h dX11_choose_36 (by decide) ?_
    exact hr _ _ _ _ dX11_choose_37 (rfl) (Or.inl ⟨fun q => by first | (refine (b2i_eq0.mp c33) ?_; rw [L1, Int32.toInt_toInt64, Int32.toInt_toInt64, ht2]; have h1_ := q.2.1; have h2_ := q.2.2; omega) | (refine (b2i_eq0.mp c15) ?_; rw [L1, Int32.toInt_toInt64, Int32.toInt_toInt64, ht1]; have h1_ := q.1.1; have h2_ := q.1.2; omega), rfl, rfl⟩)
  · refine r_iload_n (pc := 18) h dX11_choose_18 rfl ?_
    refine r_i2l (pc := 19) h dX11_choose_19 ?_
    refine r_lconst (v := 1) (pc := 20) h dX11_choose_20 (by decide) ?_
    refine r_iconst (v := 1) (pc := 21) h dX11_choose_21 (by decide) ?_
    refine r_aload_n (pc := 22) h dX11_choose_22 rfl ?_
    refine gf_X11_165 (pc := 23) h dX11_choose_23 ?_
    refine r_ishl (pc := 26) h dX11_choose_26 ?_
    refine r_iconst (v := 1) (pc := 27) h dX11_choose_27 (by decide) ?_
    refine r_isub (pc := 28) h dX11_choose_28 ?_
    refine r_i2l (pc := 29) h dX11_choose_29 ?_
    refine r_callSI (pc := 30) h dX11_choose_30 wm_X11_127 ca_X11_in (c_X11_in E _ _ _ _) rfl rfl (Nat.le_of_ble_eq_true rfl) (by decide) (fun r I1 hq => ?_)
    obtain ⟨rfl, rfl⟩ := hq
    refine r_if_ne (pc := 33) h 38 dX11_choose_33 (by decide) (fun c33 => ?_) (fun c33 => ?_)
    · have hset : setP so (I 151 1) ∧ setP wb (I 151 10) := by
        have h1_ := b2i_ne c15
        have h2_ := b2i_ne c33
        rw [L1, Int32.toInt_toInt64, Int32.toInt_toInt64, ht1] at h1_
        rw [L1, Int32.toInt_toInt64, Int32.toInt_toInt64, ht2] at h2_
        exact ⟨⟨by omega, by omega⟩, ⟨by omega, by omega⟩⟩
      refine r_iconst (v := -1) (pc := 38) h dX11_choose_38 (by decide) ?_
      refine r_istore_n (pc := 39) h dX11_choose_39 (by decide) ?_
      refine r_iconst (v := 0) (pc := 40) h dX11_choose_40 (by decide) ?_
      refine r_istore (pc := 41) h dX11_choose_41 (by decide) ?_
      have loop43 : ∀ (m i : Nat) (J_ : Mem), i ≤ (I 151 1).toNatClampNeg → (I 151 1).toNatClampNeg + 1 ≤ i + m → frC I J_ → hasC I J_ (zCR I so wb i) → g J_ 43 [(0, .ref (E.1 151)), (1, .int so), (2, .int wb), (3, .int (zCR I so wb i).1), (4, .int (nI i))] [] := by
        intro m
        induction m with
        | zero =>
          intro i J_ h1 h2
          omega
        | succ m ih =>
          intro i J_ hi him hfr hst
          have hC : ((I 151 1).toNatClampNeg : Int) = (I 151 1).toInt := tnI _ hc.1
          have ei := nI_tI (i := i) (by omega)
          have hJ1 : J_ 151 1 = I 151 1 := hfr.2 1 (by decide) (by decide) (by decide)
          refine r_iload (pc := 43) h dX11_choose_43 rfl ?_
          refine r_aload_n (pc := 45) h dX11_choose_45 rfl ?_
          refine gf_X11_144 (pc := 46) h dX11_choose_46 ?_
          rw [hJ1]
          refine r_icmp_ge (pc := 49) h 204 dX11_choose_49 (by decide) (fun c49 => ?_) (fun c49 => ?_)
          · have hge : i = (I 151 1).toNatClampNeg := by rw [Int32.le_iff_toInt_le, ei] at c49; omega
            subst hge
            refine r_iload_n (pc := 204) h dX11_choose_204 rfl ?_
            refine r_if_ge (pc := 205) h 213 dX11_choose_205 (by decide) (fun c205 => ?_) (fun c205 => ?_)
            · refine r_iload_n (pc := 213) h dX11_choose_213 rfl ?_
              exact hr _ _ _ _ dX11_choose_214 (rfl) (Or.inr ⟨hset, by first | rw [if_pos c205] | rw [if_neg c205], hst, hfr⟩)
            · refine r_bipush (v := -2) (pc := 208) h dX11_choose_208 (by decide) ?_
              refine r_goto (pc := 210) h 214 dX11_choose_210 (by decide) ?_
              exact hr _ _ _ _ dX11_choose_214 (rfl) (Or.inr ⟨hset, by first | rw [if_pos c205] | rw [if_neg c205], hst, hfr⟩)
          · have hlt : i < (I 151 1).toNatClampNeg := by rw [Int32.le_iff_toInt_le, ei] at c49; omega
            refine t52 _ _ i (by omega) (hfr.1 160 (by decide) (by decide) (by decide)) rfl rfl rfl ?_
            refine r_istore (pc := 77) h dX11_choose_77 (by decide) ?_
            by_cases hmay : mayR I so i = true
            case neg =>
              have hm2 : mayR I so i = false := by
                cases hz_ : mayR I so i
                · rfl
                · exact absurd hz_ hmay
              rw [if_neg hmay]
              refine r_iconst (v := 0) (pc := 79) h dX11_choose_79 (by decide) ?_
              refine r_istore (pc := 80) h dX11_choose_80 (by decide) ?_
              refine r_iload (pc := 82) h dX11_choose_82 rfl ?_
              refine r_bipush (v := 48) (pc := 84) h dX11_choose_84 (by decide) ?_
              refine r_icmp_ge (pc := 86) h 198 dX11_choose_86 (by decide) (fun c => absurd c (by decide)) (fun _ => ?_)
              refine r_iload (pc := 89) h dX11_choose_89 rfl ?_
              refine r_if_eq (pc := 91) h 198 dX11_choose_91 (by decide) (fun _ => ?_) (fun c => absurd rfl c)
              refine r_iinc (v := 1) (pc := 198) h dX11_choose_198 rfl (by decide) (by decide) ?_
              refine r_goto (pc := 201) h 43 dX11_choose_201 (by decide) ?_
              rw [← nI_succ i]
              have e9_ : zCR I so wb (i + 1) = zCR I so wb i := chA_f hm2
              exact r_at h [(0, .ref (E.1 151)), (1, .int so), (2, .int wb), (3, .int (zCR I so wb (i + 1)).1), (4, .int (nI (i + 1)))] ⟨rfl, rfl, rfl, by rw [e9_]; rfl, rfl, trivial⟩ (ih (i + 1) _ (by omega) (by omega) hfr (by rw [e9_]; exact hst))
            rw [if_pos hmay]
            refine r_iconst (v := 0) (pc := 79) h dX11_choose_79 (by decide) ?_
            refine r_istore (pc := 80) h dX11_choose_80 (by decide) ?_
            have loop82 : ∀ (m k : Nat) (J_ : Mem), k ≤ 48 → 49 ≤ k + m → frC I J_ → hasC I J_ (chK (bkR I wb (nI i)) (nI i) k (zCR I so wb i)) → g J_ 82 [(0, .ref (E.1 151)), (1, .int so), (2, .int wb), (3, .int (chK (bkR I wb (nI i)) (nI i) k (zCR I so wb i)).1), (4, .int (nI i)), (5, .int 1), (6, .int (nI k))] [] := by
              intro m
              induction m with
              | zero =>
                intro k J_ h1 h2
                omega
              | succ m ih2 =>
                intro k J_ hk hkm hfr hst
                have ek := nI_tI (i := k) (by omega)
                refine r_iload (pc := 82) h dX11_choose_82 rfl ?_
                refine r_bipush (v := 48) (pc := 84) h dX11_choose_84 (by decide) ?_
                refine r_icmp_ge (pc := 86) h 198 dX11_choose_86 (by decide) (fun c86 => ?_) (fun c86 => ?_)
                · have hk48 : k = 48 := by rw [Int32.le_iff_toInt_le, ek, e48] at c86; omega
                  subst hk48
                  refine r_iinc (v := 1) (pc := 198) h dX11_choose_198 rfl (by decide) (by decide) ?_
                  refine r_goto (pc := 201) h 43 dX11_choose_201 (by decide) ?_
                  rw [← nI_succ i]
                  have e9_ : zCR I so wb (i + 1) = chK (bkR I wb (nI i)) (nI i) 48 (zCR I so wb i) := chA_t hmay
                  exact r_at h [(0, .ref (E.1 151)), (1, .int so), (2, .int wb), (3, .int (zCR I so wb (i + 1)).1), (4, .int (nI (i + 1)))] ⟨rfl, rfl, rfl, by rw [e9_]; rfl, rfl, trivial⟩ (ih (i + 1) _ (by omega) (by omega) hfr (by rw [e9_]; exact hst))
                · refine r_iload (pc := 89) h dX11_choose_89 rfl ?_
                  refine r_if_eq (pc := 91) h 198 dX11_choose_91 (by decide) (fun c => absurd c (by decide)) (fun _ => ?_)
                  have hlt48 : k < 48 := by rw [Int32.le_iff_toInt_le, ek, e48] at c86; omega
                  refine r_bipush (v := 20) (pc := 94) h dX11_choose_94 (by decide) ?_
                  refine r_bipush (v := 25) (pc := 96) h dX11_choose_96 (by decide) ?_
                  refine r_iload (pc := 98) h dX11_choose_98 rfl ?_
                  refine r_bipush (v := 16) (pc := 100) h dX11_choose_100 (by decide) ?_
                  refine r_idiv (pc := 102) h dX11_choose_102 (by decide) ?_
                  refine r_imul (pc := 103) h dX11_choose_103 ?_
                  refine r_iadd (pc := 104) h dX11_choose_104 ?_
                  refine r_istore (pc := 105) h dX11_choose_105 (by decide) ?_
                  refine r_bipush (v := 45) (pc := 107) h dX11_choose_107 (by decide) ?_
                  refine r_iload (pc := 109) h dX11_choose_109 rfl ?_
                  refine r_iconst (v := 2) (pc := 111) h dX11_choose_111 (by decide) ?_
                  refine r_idiv (pc := 112) h dX11_choose_112 (by decide) ?_
                  refine r_bipush (v := 8) (pc := 113) h dX11_choose_113 (by decide) ?_
                  refine r_irem (pc := 115) h dX11_choose_115 (by decide) ?_
                  refine r_imul (pc := 116) h dX11_choose_116 ?_
                  refine r_istore (pc := 117) h dX11_choose_117 (by decide) ?_
                  refine r_bipush (v := 80) (pc := 119) h dX11_choose_119 (by decide) ?_
                  refine r_bipush (v := 80) (pc := 121) h dX11_choose_121 (by decide) ?_
                  refine r_iload (pc := 123) h dX11_choose_123 rfl ?_
                  refine r_iconst (v := 2) (pc := 125) h dX11_choose_125 (by decide) ?_
                  refine r_irem (pc := 126) h dX11_choose_126 (by decide) ?_
                  refine r_imul (pc := 127) h dX11_choose_127 ?_
                  refine r_iadd (pc := 128) h dX11_choose_128 ?_
                  refine r_istore (pc := 129) h dX11_choose_129 (by decide) ?_
                  rw [(kR_all k hlt48).1, (kR_all k hlt48).2.1, (kR_all k hlt48).2.2]
                  refine r_aload_n (pc := 131) h dX11_choose_131 rfl ?_
                  refine r_iload (pc := 132) h dX11_choose_132 rfl ?_
                  refine r_iload (pc := 134) h dX11_choose_134 rfl ?_
                  refine r_iload (pc := 136) h dX11_choose_136 rfl ?_
                  refine r_iload (pc := 138) h dX11_choose_138 rfl ?_
                  refine r_iload_n (pc := 140) h dX11_choose_140 rfl ?_
                  refine r_callVI (ci := 11) (pc := 141) h dX11_choose_141 wm_X11_249 ca_X11_backs rfl (c_X11_backs E _ _ _ _ _ _ ⟨by rw [ei]; omega, by rw [ei]; omega⟩ (lnK_bd k) (frC_ok hfr hF) (by rw [hfr.2 22 (by decide) (by decide) (by decide)]; exact h22)) rfl rfl (Nat.le_of_ble_eq_true rfl) (by decide) (by decide) (by decide) (by decide) (fun b_ B_ hq => ?_)
                  obtain ⟨hp1, hp2⟩ := hq
                  have hn_ : b_ = bkR I wb (nI i) k := by
                    rw [hp1]
                    unfold bkR
                    rw [frC_RR hfr, hfr.1 158 (by decide) (by decide) (by decide)]
                  subst hn_
                  have hfr2 : frC I B_ := ⟨fun a a1 a2 a3 => (hp2.1 a a1 a2).trans (hfr.1 a a1 a2 a3), fun j j1 j2 j3 => (hp2.2 j j1 j2).trans (hfr.2 j j1 j2 j3)⟩
                  have hst2 : hasC I B_ (chK (bkR I wb (nI i)) (nI i) k (zCR I so wb i)) := ⟨fun q hq_ => by rw [hp2.1 169 (by decide) (by decide)]; exact hst.1 q hq_, fun q => by rw [hp2.2 28 (by decide) (by decide)]; exact hst.2.1 q, fun q => by rw [hp2.2 28 (by decide) (by decide)]; exact hst.2.2 q⟩
                  refine r_istore (pc := 144) h dX11_choose_144 (by decide) ?_
                  refine r_iload (pc := 146) h dX11_choose_146 rfl ?_
                  refine r_iload_n (pc := 148) h dX11_choose_148 rfl ?_
                  refine r_icmp_le (pc := 149) h 192 dX11_choose_149 (by decide) (fun c149 => ?_) (fun c149 => ?_)
                  · refine r_iinc (v := 1) (pc := 192) h dX11_choose_192 rfl (by decide) (by decide) ?_
                    refine r_goto (pc := 195) h 82 dX11_choose_195 (by decide) ?_
                    rw [← nI_succ k]
                    first
                    | (have e9_ : (chK (bkR I wb (nI i)) (nI i) (k + 1) (zCR I so wb i)) = (bkR I wb (nI i) k, ch4 (nI i) (lnK k) (anK k) (stK k)) := by
                         rw [chK_s]
                         exact ch_t (Int32.not_le.mp c149)
                       exact r_at h [(0, .ref (E.1 151)), (1, .int so), (2, .int wb), (3, .int (chK (bkR I wb (nI i)) (nI i) (k + 1) (zCR I so wb i)).1), (4, .int (nI i)), (5, .int 1), (6, .int (nI (k + 1)))] ⟨rfl, rfl, rfl, by rw [e9_]; rfl, rfl, rfl, rfl, trivial⟩ (ih2 (k + 1) (remR B_ (nI i) (lnK k) (anK k) (stK k)) (by omega) (by omega) ⟨fun a a1 a2 a3 => by rw [remR_ne _ _ _ _ _ a3 a2]; exact hfr2.1 a a1 a2 a3, fun j j1 j2 j3 => by rw [remR_151 _ _ _ _ _ j3]; exact hfr2.2 j j1 j2 j3⟩ ⟨fun q hq_ => by rw [e9_, remR_at _ _ _ _ _ hq_], fun q => by rw [e9_] at q; exact absurd q (nI_nm1 (by have := cntP_le (bpV (fun w => RR I (nI i) (I 158 (nI i).toNatClampNeg) w (lnK k) (anK k) (stK k) 800) wb) 8; omega)), fun _ => remR_28 _ _ _ _ _⟩))
                    | (have e9_ : (chK (bkR I wb (nI i)) (nI i) (k + 1) (zCR I so wb i)) = (chK (bkR I wb (nI i)) (nI i) k (zCR I so wb i)) := by
                         rw [chK_s]
                         exact ch_f (Int32.not_lt.mpr c149)
                       exact r_at h [(0, .ref (E.1 151)), (1, .int so), (2, .int wb), (3, .int (chK (bkR I wb (nI i)) (nI i) (k + 1) (zCR I so wb i)).1), (4, .int (nI i)), (5, .int 1), (6, .int (nI (k + 1)))] ⟨rfl, rfl, rfl, by rw [e9_]; rfl, rfl, rfl, rfl, trivial⟩ (ih2 (k + 1) B_ (by omega) (by omega) hfr2 (by rw [e9_]; exact hst2)))
                  · refine r_iload (pc := 152) h dX11_choose_152 rfl ?_
                    refine r_istore_n (pc := 154) h dX11_choose_154 (by decide) ?_
                    refine r_aload_n (pc := 155) h dX11_choose_155 rfl ?_
                    refine gf_X11_69 (pc := 156) h dX11_choose_156 ?_
                    refine r_iconst (v := 0) (pc := 159) h dX11_choose_159 (by decide) ?_
                    refine r_iload (pc := 160) h dX11_choose_160 rfl ?_
                    refine r_iastL (j := 0) (pc := 162) h dX11_choose_162 (by decide) (by decide) (by decide) (vin (by decide) (by decide)) ?_
                    refine r_aload_n (pc := 163) h dX11_choose_163 rfl ?_
                    refine gf_X11_69 (pc := 164) h dX11_choose_164 ?_
                    refine r_iconst (v := 1) (pc := 167) h dX11_choose_167 (by decide) ?_
                    refine r_iload (pc := 168) h dX11_choose_168 rfl ?_
                    refine r_iastL (j := 1) (pc := 170) h dX11_choose_170 (by decide) (by decide) (by decide) (vin (by decide) (by decide)) ?_
                    refine r_aload_n (pc := 171) h dX11_choose_171 rfl ?_
                    refine gf_X11_69 (pc := 172) h dX11_choose_172 ?_
                    refine r_iconst (v := 2) (pc := 175) h dX11_choose_175 (by decide) ?_
                    refine r_iload (pc := 176) h dX11_choose_176 rfl ?_
                    refine r_iastL (j := 2) (pc := 178) h dX11_choose_178 (by decide) (by decide) (by decide) (vin (by decide) (by decide)) ?_
                    refine r_aload_n (pc := 179) h dX11_choose_179 rfl ?_
                    refine gf_X11_69 (pc := 180) h dX11_choose_180 ?_
                    refine r_iconst (v := 3) (pc := 183) h dX11_choose_183 (by decide) ?_
                    refine r_iload (pc := 184) h dX11_choose_184 rfl ?_
                    refine r_iastL (j := 3) (pc := 186) h dX11_choose_186 (by decide) (by decide) (by decide) (vin (by decide) (by decide)) ?_
                    refine r_aload_n (pc := 187) h dX11_choose_187 rfl ?_
                    refine r_iconst (v := 1) (pc := 188) h dX11_choose_188 (by decide) ?_
                    refine pf_X11_252 (pc := 189) h dX11_choose_189 (by decide) (by decide) ?_
                    refine r_iinc (v := 1) (pc := 192) h dX11_choose_192 rfl (by decide) (by decide) ?_
                    refine r_goto (pc := 195) h 82 dX11_choose_195 (by decide) ?_
                    rw [← nI_succ k]
                    first
                    | (have e9_ : (chK (bkR I wb (nI i)) (nI i) (k + 1) (zCR I so wb i)) = (bkR I wb (nI i) k, ch4 (nI i) (lnK k) (anK k) (stK k)) := by
                         rw [chK_s]
                         exact ch_t (Int32.not_le.mp c149)
                       exact r_at h [(0, .ref (E.1 151)), (1, .int so), (2, .int wb), (3, .int (chK (bkR I wb (nI i)) (nI i) (k + 1) (zCR I so wb i)).1), (4, .int (nI i)), (5, .int 1), (6, .int (nI (k + 1)))] ⟨rfl, rfl, rfl, by rw [e9_]; rfl, rfl, rfl, rfl, trivial⟩ (ih2 (k + 1) (remR B_ (nI i) (lnK k) (anK k) (stK k)) (by omega) (by omega) ⟨fun a a1 a2 a3 => by rw [remR_ne _ _ _ _ _ a3 a2]; exact hfr2.1 a a1 a2 a3, fun j j1 j2 j3 => by rw [remR_151 _ _ _ _ _ j3]; exact hfr2.2 j j1 j2 j3⟩ ⟨fun q hq_ => by rw [e9_, remR_at _ _ _ _ _ hq_], fun q => by rw [e9_] at q; exact absurd q (nI_nm1 (by have := cntP_le (bpV (fun w => RR I (nI i) (I 158 (nI i).toNatClampNeg) w (lnK k) (anK k) (stK k) 800) wb) 8; omega)), fun _ => remR_28 _ _ _ _ _⟩))
                    | (have e9_ : (chK (bkR I wb (nI i)) (nI i) (k + 1) (zCR I so wb i)) = (chK (bkR I wb (nI i)) (nI i) k (zCR I so wb i)) := by
                         rw [chK_s]
                         exact ch_f (Int32.not_lt.mpr c149)
                       exact r_at h [(0, .ref (E.1 151)), (1, .int so), (2, .int wb), (3, .int (chK (bkR I wb (nI i)) (nI i) (k + 1) (zCR I so wb i)).1), (4, .int (nI i)), (5, .int 1), (6, .int (nI (k + 1)))] ⟨rfl, rfl, rfl, by rw [e9_]; rfl, rfl, rfl, rfl, trivial⟩ (ih2 (k + 1) B_ (by omega) (by omega) hfr2 (by rw [e9_]; exact hst2)))
            exact r_at h [(0, .ref (E.1 151)), (1, .int so), (2, .int wb), (3, .int (chK (bkR I wb (nI i)) (nI i) 0 (zCR I so wb i)).1), (4, .int (nI i)), (5, .int 1), (6, .int (nI 0))] ⟨rfl, rfl, rfl, rfl, rfl, rfl, rfl, trivial⟩ (loop82 49 0 _ (by omega) (by omega) hfr hst)
      exact r_at h [(0, .ref (E.1 151)), (1, .int so), (2, .int wb), (3, .int (zCR I so wb 0).1), (4, .int (nI 0))] ⟨rfl, rfl, rfl, rfl, rfl, trivial⟩ (loop43 ((I 151 1).toNatClampNeg + 1) 0 I (by omega) (by omega) ⟨fun _ _ _ _ => rfl, fun _ _ _ _ => rfl⟩ ⟨fun _ _ => rfl, fun _ => rfl, fun q => absurd rfl q⟩)
    · refine r_iconst (v := -1) (pc := 36) h dX11_choose_36 (by decide) ?_
      exact hr _ _ _ _ dX11_choose_37 (rfl) (Or.inl ⟨fun q => by first | (refine (b2i_eq0.mp c33) ?_; rw [L1, Int32.toInt_toInt64, Int32.toInt_toInt64, ht2]; have h1_ := q.2.1; have h2_ := q.2.2; omega) | (refine (b2i_eq0.mp c15) ?_; rw [L1, Int32.toInt_toInt64, Int32.toInt_toInt64, ht1]; have h1_ := q.1.1; have h2_ := q.1.2; omega), rfl, rfl⟩)
