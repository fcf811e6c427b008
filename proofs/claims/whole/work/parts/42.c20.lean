/-! two, points of both -/
def twoS (gap d : Int32) : Nat → Nat → Int32
  | 0, _ => -4
  | m + 1, n => if gap ≤ absI (nI n + d) then nI n else twoS gap d m (n + 1)
theorem two_t {gap d : Int32} {m n : Nat} (h : gap ≤ absI (nI n + d)) : twoS gap d (m + 1) n = nI n := if_pos h
theorem two_f {gap d : Int32} {m n : Nat} (h : ¬ gap ≤ absI (nI n + d)) : twoS gap d (m + 1) n = twoS gap d m (n + 1) := if_neg h
def twoV (gap : Int32) (y z : FlR) : Int32 := if y.1 = 2 ∧ z.1 = 2 then twoS gap (nI z.2.1 - nI y.2.1) 200 1 else -4
abbrev kF (I : Mem) (am : Nat) : FlR := fA I am (I (41 + 2 * (I am 0).toNatClampNeg) 5)
abbrev kR (I : Mem) (o : Nat) : FlR := RR I (I 171 o) (I 158 (I 171 o).toNatClampNeg) (I 171 (o + 5)) (I 171 (o + 1)) (I 171 (o + 2)) (I 171 (o + 3)) (I 171 (o + 4))
def F_two (I : Mem) (gap : Int32) : Int32 := if 1 ≤ gap.toInt ∧ gap.toInt ≤ 100 then (if I 24 0 = 0 ∨ I 24 1 = 0 ∨ I 22 0 = I 23 0 then -2 else twoV gap (kF I 22) (kF I 23)) else -1
def R_two (I : Mem) (gap : Int32) : Int32 := if 1 ≤ gap.toInt ∧ gap.toInt ≤ 100 then (if I 170 0 = 0 ∨ I 170 1 = 0 ∨ I 171 0 = I 171 6 then -2 else twoV gap (kR I 0) (kR I 6)) else -1
/-- only the trial flight has changed -/
abbrev fr17 (I J : Mem) : Prop := ∀ a, a ≠ 17 → J a = I a
/-- only the flight of the reference has changed -/
abbrev frR (I J : Mem) : Prop := (∀ a, a ≠ 167 → a ≠ 151 → J a = I a) ∧ (∀ j, j ≠ 20 → j ≠ 21 → J 151 j = I 151 j)
theorem fr17_FF {I J : Mem} (h : fr17 I J) (hc : 0 ≤ (I 7 1).toInt ∧ (I 7 1).toInt ≤ 6) : FF J = FF I := FF_congr (fun a ha => h a (by omega)) hc
theorem fr17_ok {I J : Mem} (h : fr17 I J) (hF : FlOkF I) : FlOkF J := FlOkF_of (fun a ha => h a (by omega)) hF
theorem frR_RR {I J : Mem} (h : frR I J) : RR J = RR I := RR_congr (fun a ha => h.1 a (by omega) (by omega)) (h.2 13 (by decide) (by decide)) (h.2 18 (by decide) (by decide))
theorem frR_ok {I J : Mem} (h : frR I J) (hF : FlOkR I) : FlOkR J := by
  refine ⟨?_, ?_, ?_⟩
  · rw [h.1 162 (by decide) (by decide)]
    exact hF.1
  · rw [h.2 13 (by decide) (by decide)]
    exact hF.2.1
  · rw [h.1 152 (by decide) (by decide)]
    exact hF.2.2
theorem frR_tr {I J K : Mem} (h : frR I J) (h2 : frR J K) : frR I K := ⟨fun a a1 a2 => (h2.1 a a1 a2).trans (h.1 a a1 a2), fun j j1 j2 => (h2.2 j j1 j2).trans (h.2 j j1 j2)⟩
theorem fr17_tr {I J K : Mem} (h : fr17 I J) (h2 : fr17 J K) : fr17 I K := fun a a1 => (h2 a a1).trans (h a a1)
theorem e00 : (0 : Int32).toNatClampNeg = 0 := by decide
theorem e01 : (1 : Int32).toNatClampNeg = 1 := by decide
theorem e200 : (200 : Int32).toInt = 200 := by decide
theorem absI_ge {x gap : Int32} (hg : 1 ≤ gap.toInt ∧ gap.toInt ≤ 100) (hx : -1000 ≤ x.toInt ∧ x.toInt ≤ 1000) : gap ≤ absI x ↔ (gap ≤ x ∨ x ≤ -gap) := by
  have en : (-gap).toInt = -gap.toInt := tI_neg (by omega)
  rw [Int32.le_iff_toInt_le, Int32.le_iff_toInt_le, Int32.le_iff_toInt_le, en]
  unfold absI
  split
  · rename_i q
    rw [Int32.le_iff_toInt_le, z32] at q
    omega
  · rename_i q
    rw [Int32.le_iff_toInt_le, z32] at q
    rw [tI_neg (by omega)]
    omega
theorem betw {n : Nat} {x y : Int32} : nI n + x - y = nI n + (x - y) := by
  rw [Int32.sub_eq_add_neg, Int32.sub_eq_add_neg, Int32.add_assoc]
abbrev keptOk (I : Mem) (o : Nat) : Prop := (0 ≤ (I 171 o).toInt ∧ (I 171 o).toInt < 9) ∧ (I 171 (o + 5)).toInt < 8 ∧ (0 ≤ (I 171 (o + 1)).toInt ∧ (I 171 (o + 1)).toInt ≤ 90)
theorem tL_sub {x y : Int64} (h1 : -9223372036854775808 ≤ x.toInt - y.toInt) (h2 : x.toInt - y.toInt < 9223372036854775808) : (x - y).toInt = x.toInt - y.toInt := by
  rw [Int64.toInt_sub]
  exact Int.bmod_eq_of_le (by omega) (by omega)
theorem tL_div {x y : Int64} (hx : 0 ≤ x.toInt) (hy : 0 < y.toInt) : (x / y).toInt = x.toInt / y.toInt := by
  have h1 := Int64.toInt_lt x
  rw [Int64.toInt_div, Int.tdiv_eq_ediv_of_nonneg hx]
  have h3 := Int.ediv_le_self y.toInt hx
  have h4 := Int.ediv_nonneg hx (Int.le_of_lt hy)
  exact Int.bmod_eq_of_le (by omega) (by omega)
theorem lg_ge {x y : Int64} : 0 ≤ lg_cmp x y ↔ y.toInt ≤ x.toInt := by
  rw [← Int32.not_lt]
  exact lg_nlt
theorem L2 : (2 : Int64).toInt = 2 := by decide
theorem L1 : (1 : Int64).toInt = 1 := by decide
theorem L0 : (0 : Int64).toInt = 0 := by decide
theorem L50 : (50 : Int64).toInt = 50 := by decide
theorem sqI {a b : Int} (h : 0 ≤ a) (h2 : a ≤ b) : a * a ≤ b * b := Int.mul_le_mul h2 h2 h (by omega)
theorem half_bit : ∀ k, k < 20 → (nI (2 ^ (k + 1) / 2)) >>> ((1 : Int32) &&& 31) = nI (2 ^ k / 2) := by decide +kernel
theorem l2i_tI {x : Int64} (h1 : -2147483648 ≤ x.toInt) (h2 : x.toInt < 2147483648) : x.toInt32.toInt = x.toInt := by
  rw [Int64.toInt_toInt32]
  exact Int.bmod_eq_of_le (by omega) (by omega)
theorem e50 : (50 : Int32).toInt = 50 := by decide
theorem e40 : (40 : Int32).toInt = 40 := by decide
/-- the class's points -/
theorem ptsC {x y d : Int32} (hd : d.toInt = (isq (dsq x y) : Int)) : (if (0 : Int32) < 40 - d / 50 then 40 - d / 50 else 0) = ptsD x y := by
  have h1 := tI_lo d
  have h2 := tI_hi d
  have e1 : (d / 50).toInt = ((isq (dsq x y) / 50 : Nat) : Int) := by
    rw [tI_div (by rw [e50]; omega), e50, Int.tdiv_eq_ediv_of_nonneg (by omega), hd]
    omega
  have e2 : (40 - d / 50).toInt = 40 - ((isq (dsq x y) / 50 : Nat) : Int) := by rw [tI_sub (by rw [e40, e1]; omega) (by rw [e40, e1]; omega), e40, e1]
  unfold ptsD
  split
  · rename_i q9
    rw [Int32.lt_iff_toInt_lt, z32, e2] at q9
    rw [if_pos (by omega)]
    rw [i32_eq, e2, nI_tI (by omega)]
    omega
  · rename_i q9
    rw [Int32.lt_iff_toInt_lt, z32, e2] at q9
    split
    · rw [i32_eq, z32, nI_tI (by omega)]
      omega
    · rfl
/-- the reference's points -/
theorem ptsR {x y : Int32} {d : Int64} (h0 : 0 ≤ d.toInt ∧ d.toInt ≤ 100000) (h1 : d.toInt * d.toInt ≤ (dsq x y : Int)) (h2 : (dsq x y : Int) < (d.toInt + 1) * (d.toInt + 1) ∨ d.toInt = 100000) : (if 0 ≤ 40 - (d / 50).toInt32 then 40 - (d / 50).toInt32 else 0) = ptsD x y := by
  have e1 : (d / 50).toInt = d.toInt / 50 := by rw [tL_div h0.1 (by rw [L50]; omega), L50]
  have e3 : (d / 50).toInt32.toInt = d.toInt / 50 := by rw [l2i_tI (by rw [e1]; omega) (by rw [e1]; omega), e1]
  have e2 : (40 - (d / 50).toInt32).toInt = 40 - d.toInt / 50 := by rw [tI_sub (by rw [e40, e3]; omega) (by rw [e40, e3]; omega), e40, e3]
  obtain ⟨n, hn⟩ : ∃ n : Nat, d.toInt = n := ⟨d.toInt.toNat, by omega⟩
  have hq : isq (dsq x y) = n ∨ (n = 100000 ∧ 100000 ≤ isq (dsq x y)) := by
    rw [hn] at h1 h2
    have h1' : n * n ≤ dsq x y := by exact_mod_cast h1
    by_cases q : dsq x y < (n + 1) * (n + 1)
    · exact Or.inl (isq_eq h1' q)
    · right
      have hn1 : n = 100000 := by
        rcases h2 with h2 | h2
        · exfalso
          exact q (by exact_mod_cast h2)
        · omega
      refine ⟨hn1, ?_⟩
      have hg := fst1_ge (fun r => decide (dsq x y < (r + 1) * (r + 1))) (dsq x y + 1) 0
      rcases Nat.lt_or_ge (isq (dsq x y)) 100000 with z | z
      · exfalso
        have hh := fst1_hit (fun r => decide (dsq x y < (r + 1) * (r + 1))) (dsq x y + 1) 0 (by
          show isq (dsq x y) < _
          rw [hn1] at h1'
          omega)
        have hh2 := of_decide_eq_true hh
        have hh3 : dsq x y < (isq (dsq x y) + 1) * (isq (dsq x y) + 1) := hh2
        have : (isq (dsq x y) + 1) * (isq (dsq x y) + 1) ≤ 100000 * 100000 := Nat.mul_le_mul z z
        rw [hn1] at h1'
        omega
      · exact z
  unfold ptsD
  split
  · rename_i q9
    rw [Int32.le_iff_toInt_le, z32, e2] at q9
    rcases hq with hq | hq
    · rw [hq, if_pos (by omega), i32_eq, e2, nI_tI (by omega)]
      omega
    · exfalso
      omega
  · rename_i q9
    rw [Int32.le_iff_toInt_le, z32, e2] at q9
    rcases hq with hq | hq
    · rw [hq, if_neg (by omega)]
    · rw [if_neg (by omega)]
/-- the winds are in range -/
abbrev FwOk (I : Mem) : Prop := ∀ wi, isWi wi → ∀ p, p < 4 → 0 ≤ (I (wi + 1) p).toInt ∧ (I (wi + 1) p).toInt ≤ 60
abbrev RwOk (I : Mem) : Prop := ∀ p, p < 32 → 0 ≤ (I 161 p).toInt ∧ (I 161 p).toInt ≤ 60
theorem FwOk_of {I J : Mem} (h : ∀ a, a = 5 ∨ (41 ≤ a ∧ a < 83) → J a = I a) (hI : FwOk I) : FwOk J := by
  intro wi hw
  have hb := isWi_bd wi hw.1 hw.2.2.1
  rw [h (wi + 1) (by omega)]
  exact hI wi hw
theorem wiW_ok {w : Int32} (h : w = -1 ∨ (0 ≤ w.toInt ∧ w.toInt < 8)) : isWi (wiW w) := by
  unfold wiW
  split
  · exact isWi4
  · rename_i q
    rcases h with h | h
    · exact absurd h q
    · exact isWiN _ (by rw [tn]; omega)
theorem FF_bd {I : Mem} {s bd w l a st sp : Int32} (hw : w = -1 ∨ (0 ≤ w.toInt ∧ w.toInt < 8)) (hst : 30 ≤ st.toInt ∧ st.toInt ≤ 250) (hsp : 100 ≤ sp.toInt ∧ sp.toInt ≤ 1000) (hW : FwOk I) (hN : (FF I s bd w l a st sp).2.1 ≤ 400) : nearB (FF I s bd w l a st sp) :=
  flV_bd hst hsp (fun b hb => by rw [prF_sp I _ _ _ hb]; exact hW _ (wiW_ok hw) b hb) hN
theorem RR_bd {I : Mem} {s bd w l a st sp : Int32} (hw : w.toInt < 8) (hst : 30 ≤ st.toInt ∧ st.toInt ≤ 250) (hsp : 100 ≤ sp.toInt ∧ sp.toInt ≤ 1000) (hW : RwOk I) (hN : (RR I s bd w l a st sp).2.1 ≤ 400) : nearB (RR I s bd w l a st sp) :=
  flV_bd hst hsp (fun b hb => by
    rw [prM_sp I _ _ _ hb]
    split
    · rw [z32]
      omega
    · rename_i q
      rw [Int32.lt_iff_toInt_lt, z32] at q
      exact hW _ (by rw [tn]; omega)) hN
theorem L100k : (100000 : Int64).toInt = 100000 := by decide
/-- what points of the class may change -/
abbrev fr27 (I J : Mem) : Prop := (∀ a, a ≠ 17 → a ≠ 27 → J a = I a) ∧ (∀ j, j ≠ 0 → j ≠ 5 → J 27 j = I 27 j)
abbrev manOk (I : Mem) : Prop := (0 ≤ (I 27 1).toInt ∧ (I 27 1).toInt ≤ 90) ∧ (30 ≤ (I 27 3).toInt ∧ (I 27 3).toInt ≤ 250) ∧ (100 ≤ (I 27 4).toInt ∧ (I 27 4).toInt ≤ 1000)
abbrev manOkR (I : Mem) : Prop := (0 ≤ (I 151 32).toInt ∧ (I 151 32).toInt ≤ 90) ∧ (30 ≤ (I 151 34).toInt ∧ (I 151 34).toInt ≤ 250) ∧ (100 ≤ (I 151 35).toInt ∧ (I 151 35).toInt ≤ 1000)
abbrev ptF (I : Mem) (s w : Int32) : Int32 := ptsP (FF I s (I (41 + 2 * s.toNatClampNeg) 5) w (I 27 1) (I 27 2) (I 27 3) (I 27 4))
abbrev ptR (I : Mem) (s w : Int32) : Int32 := ptsP (RR I s (I 158 s.toNatClampNeg) w (I 151 32) (I 151 33) (I 151 34) (I 151 35))
set_option maxRecDepth 100000 in
set_option maxHeartbeats 1000000 in
theorem c_X10_two (E : En) (I : Mem) (gap : Int32) (hk0 : ¬ I 24 0 = 0 → AimOk I 22) (hk1 : ¬ I 24 1 = 0 → AimOk I 23) (hF : FlOkF I) : Ctr E yX10_two cX10_two 5 (some .int) 5 [.ref (E.1 0), .int gap] I (qI (fun (r : Int32) (I1 : Mem) => r = F_two I gap ∧ fr17 I I1)) := by
  refine Ctr.openI (by decide) (Nat.le_of_ble_eq_true rfl) (fun g h hr => ?_)
  have h : Sem cX10_two RX10 5 (rmL 5) E g := h
  show g I 0 [(0, .ref (E.1 0)), (1, .int gap)] []
  refine r_iload_n (pc := 0) h dX10_two_0 rfl ?_
  refine r_iconst (v := 1) (pc := 1) h dX10_two_1 (by decide) ?_
  refine r_bipush (v := 100) (pc := 2) h dX10_two_2 (by decide) ?_
  refine r_callSI (pc := 4) h dX10_two_4 wm_X10_118 ca_X10_within (c_X10_within E _ _ _ _) rfl rfl (Nat.le_of_ble_eq_true rfl) (by decide) (fun r I1 hq => ?_)
  obtain ⟨rfl, rfl⟩ := hq
  refine r_if_ne (pc := 7) h 12 dX10_two_7 (by decide) (fun c7 => ?_) (fun c7 => ?_)
  · have hg : 1 ≤ gap.toInt ∧ gap.toInt ≤ 100 := b2i_ne c7
    refine r_aload_n (pc := 12) h dX10_two_12 rfl ?_
    refine gf_X10_78 (pc := 13) h dX10_two_13 ?_
    refine r_iconst (v := 0) (pc := 16) h dX10_two_16 (by decide) ?_
    refine r_zald (pc := 17) h dX10_two_17 (by decide) (by decide) (vin (n := 2) (by decide) (by decide)) ?_
    refine r_if_eq (pc := 18) h 51 dX10_two_18 (by decide) (fun c18 => ?_) (fun c18 => ?_)
    · refine r_bipush (v := -2) (pc := 51) h dX10_two_51 (by decide) ?_
      exact hr _ _ _ _ dX10_two_53 (rfl) (⟨by unfold F_two; rw [if_pos hg, if_pos (by first | exact Or.inr (Or.inr c48) | exact Or.inr (Or.inl c27) | exact Or.inl c18)], fun _ _ => rfl⟩)
    · refine r_aload_n (pc := 21) h dX10_two_21 rfl ?_
      refine gf_X10_78 (pc := 22) h dX10_two_22 ?_
      refine r_iconst (v := 1) (pc := 25) h dX10_two_25 (by decide) ?_
      refine r_zald (pc := 26) h dX10_two_26 (by decide) (by decide) (vin (n := 2) (by decide) (by decide)) ?_
      refine r_if_eq (pc := 27) h 51 dX10_two_27 (by decide) (fun c27 => ?_) (fun c27 => ?_)
      · refine r_bipush (v := -2) (pc := 51) h dX10_two_51 (by decide) ?_
        exact hr _ _ _ _ dX10_two_53 (rfl) (⟨by unfold F_two; rw [if_pos hg, if_pos (by first | exact Or.inr (Or.inr c48) | exact Or.inr (Or.inl c27) | exact Or.inl c18)], fun _ _ => rfl⟩)
      · refine r_aload_n (pc := 30) h dX10_two_30 rfl ?_
        refine gf_X10_74 (pc := 31) h dX10_two_31 ?_
        refine r_iconst (v := 0) (pc := 34) h dX10_two_34 (by decide) ?_
        refine r_aa21 (pc := 35) h dX10_two_35 (vin (n := 2) (by decide) (by decide)) ?_
        refine gf_X10_222 (pc := 36) h dX10_two_36 (by decide) (by decide) ?_
        refine r_aload_n (pc := 39) h dX10_two_39 rfl ?_
        refine gf_X10_74 (pc := 40) h dX10_two_40 ?_
        refine r_iconst (v := 1) (pc := 43) h dX10_two_43 (by decide) ?_
        refine r_aa21 (pc := 44) h dX10_two_44 (vin (n := 2) (by decide) (by decide)) ?_
        refine gf_X10_222 (pc := 45) h dX10_two_45 (by decide) (by decide) ?_
        refine r_icmp_ne (pc := 48) h 54 dX10_two_48 (by decide) (fun c48 => ?_) (fun c48 => ?_)
        · have hnot : ¬ (I 24 0 = 0 ∨ I 24 1 = 0 ∨ I 22 0 = I 23 0) := fun q => q.elim c18 (fun q => q.elim c27 c48)
          refine r_aload_n (pc := 54) h dX10_two_54 rfl ?_
          refine r_aload_n (pc := 55) h dX10_two_55 rfl ?_
          refine gf_X10_74 (pc := 56) h dX10_two_56 ?_
          refine r_iconst (v := 0) (pc := 59) h dX10_two_59 (by decide) ?_
          refine r_aa21 (pc := 60) h dX10_two_60 (vin (n := 2) (by decide) (by decide)) ?_
          refine r_callVI (ci := 10) (pc := 61) h dX10_two_61 wm_X10_225 ca_X10_comesBack rfl (c_X10_comesBack E _ _ (by decide) (by decide) (hk0 c18) hF) rfl rfl (Nat.le_of_ble_eq_true rfl) (by decide) (by decide) (by decide) (by decide) (fun r A_ hq => ?_)
          obtain ⟨e0_, hq0, hr0⟩ := hq
          obtain ⟨ha2, han, ha8, -, -, hfr, -⟩ := end17 hq0
          subst hr0
          refine r_if_ne (pc := 64) h 70 dX10_two_64 (by decide) (fun c64 => ?_) (fun c64 => ?_)
          · refine r_aload_n (pc := 70) h dX10_two_70 rfl ?_
            refine gf_X10_57 (pc := 71) h dX10_two_71 ?_
            refine gf_X10_204 (pc := 74) h dX10_two_74 (by decide) (by decide) ?_
            refine r_istore_n (pc := 77) h dX10_two_77 (by decide) ?_
            refine r_aload_n (pc := 78) h dX10_two_78 rfl ?_
            refine r_aload_n (pc := 79) h dX10_two_79 rfl ?_
            refine gf_X10_74 (pc := 80) h dX10_two_80 ?_
            refine r_iconst (v := 1) (pc := 83) h dX10_two_83 (by decide) ?_
            refine r_aa21 (pc := 84) h dX10_two_84 (vin (n := 2) (by decide) (by decide)) ?_
            refine r_callVI (ci := 10) (pc := 85) h dX10_two_85 wm_X10_225 ca_X10_comesBack rfl (c_X10_comesBack E _ _ (by decide) (by decide) (by show AimOk A_ 23; unfold AimOk; rw [hfr 23 (by decide)]; exact hk1 c27) (fr17_ok hfr hF)) rfl rfl (Nat.le_of_ble_eq_true rfl) (by decide) (by decide) (by decide) (by decide) (fun r K_ hq => ?_)
            obtain ⟨e1_, hq1, hr1⟩ := hq
            obtain ⟨hb2, hbn, hb8, -, -, hfr1, -⟩ := end17 hq1
            subst hr1
            have hkf : fA A_ 23 (A_ (41 + 2 * (A_ 23 0).toNatClampNeg) 5) = kF I 23 := by
              unfold fA kF
              rw [fr17_FF hfr hF.2.1, hfr 23 (by decide), hfr (41 + 2 * (I 23 0).toNatClampNeg) (by omega)]
            have hb2 : e1_ = (fA A_ 23 (A_ (41 + 2 * (A_ 23 0).toNatClampNeg) 5)).1 := hb2
            have hb8 : K_ 17 8 = nI (fA A_ 23 (A_ (41 + 2 * (A_ 23 0).toNatClampNeg) 5)).2.1 := hb8
            rw [hkf] at hb2 hb8
            have hfr2 : fr17 I K_ := fr17_tr hfr hfr1
            refine r_if_ne (pc := 88) h 94 dX10_two_88 (by decide) (fun c88 => ?_) (fun c88 => ?_)
            · refine r_aload_n (pc := 94) h dX10_two_94 rfl ?_
              refine gf_X10_57 (pc := 95) h dX10_two_95 ?_
              refine gf_X10_204 (pc := 98) h dX10_two_98 (by decide) (by decide) ?_
              refine r_iload_n (pc := 101) h dX10_two_101 rfl ?_
              refine r_isub (pc := 102) h dX10_two_102 ?_
              refine r_istore_n (pc := 103) h dX10_two_103 (by decide) ?_
              obtain ⟨d_, hd_⟩ : ∃ z, z = nI (kF I 23).2.1 - nI (kF I 22).2.1 := ⟨_, rfl⟩
              have hgoal_ : F_two I gap = twoS gap d_ 200 1 := by
                unfold F_two twoV
                rw [if_pos hg, if_neg hnot, if_pos ⟨ha2.symm.trans (b2i_ne c64), hb2.symm.trans (b2i_ne c88)⟩, hd_]
              refine r_at h [(0, .ref (E.1 0)), (1, .int gap), (3, .int d_)] ⟨rfl, rfl, by rw [hd_, ← hb8, ← ha8]; rfl, trivial⟩ ?_
              refine r_iconst (v := 1) (pc := 104) h dX10_two_104 (by decide) ?_
              refine r_istore (pc := 105) h dX10_two_105 (by decide) ?_
              have loop107 : ∀ (m n_ : Nat), n_ + m = 201 → twoS gap d_ 200 1 = twoS gap d_ m n_ → g K_ 107 [(0, .ref (E.1 0)), (1, .int gap), (3, .int d_), (4, .int (nI n_))] [] := by
                intro m
                induction m with
                | zero =>
                  intro n_ hnm htw
                  have ei := nI_tI (i := n_) (by omega)
                  refine r_iload (pc := 107) h dX10_two_107 rfl ?_
                  refine r_sipush (v := 200) (pc := 109) h dX10_two_109 (by decide) ?_
                  refine r_icmp_gt (pc := 112) h 135 dX10_two_112 (by decide) (fun _ => ?_) (fun c => absurd (show (200 : Int32) < nI n_ by rw [Int32.lt_iff_toInt_lt, e200, ei]; omega) c)
                  refine r_bipush (v := -4) (pc := 135) h dX10_two_135 (by decide) ?_
                  exact hr _ _ _ _ dX10_two_137 rfl ⟨by rw [hgoal_, htw]; rfl, hfr2⟩
                | succ m ih =>
                  intro n_ hnm htw
                  have ei := nI_tI (i := n_) (by omega)
                  refine r_iload (pc := 107) h dX10_two_107 rfl ?_
                  refine r_sipush (v := 200) (pc := 109) h dX10_two_109 (by decide) ?_
                  refine r_icmp_gt (pc := 112) h 135 dX10_two_112 (by decide) (fun c112 => ?_) (fun c112 => ?_)
                  · exfalso
                    rw [Int32.lt_iff_toInt_lt, e200, ei] at c112
                    omega
                  · refine r_iload (pc := 115) h dX10_two_115 rfl ?_
                    refine r_iload_n (pc := 117) h dX10_two_117 rfl ?_
                    refine r_iadd (pc := 118) h dX10_two_118 ?_
                    refine r_callSI (pc := 119) h dX10_two_119 wm_X10_229 ca_J9_abs_0f7a4 (c_J9_abs_0f7a4 E _ _) rfl rfl (Nat.le_of_ble_eq_true rfl) (by decide) (fun r I1 hq => ?_)
                    obtain ⟨rfl, rfl⟩ := hq
                    refine r_iload_n (pc := 122) h dX10_two_122 rfl ?_
                    refine r_icmp_lt (pc := 123) h 129 dX10_two_123 (by decide) (fun c123 => ?_) (fun c123 => ?_)
                    · have hno_ : ¬ gap ≤ absI (nI n_ + d_) := by rw [Int32.lt_iff_toInt_lt] at c123; rw [Int32.le_iff_toInt_le]; have c9_ : (absI (nI n_ + d_)).toInt < gap.toInt := c123; omega
                      refine r_iinc (v := 1) (pc := 129) h dX10_two_129 rfl (by decide) (by decide) ?_
                      refine r_goto (pc := 132) h 107 dX10_two_132 (by decide) ?_
                      rw [← nI_succ n_]
                      exact r_at h [(0, .ref (E.1 0)), (1, .int gap), (3, .int d_), (4, .int (nI (n_ + 1)))] ⟨rfl, rfl, rfl, rfl, trivial⟩ (ih (n_ + 1) (by omega) (htw.trans (two_f hno_)))
                    · have hyes_ : gap ≤ absI (nI n_ + d_) := by rw [Int32.lt_iff_toInt_lt] at c123; rw [Int32.le_iff_toInt_le]; have c9_ : ¬ (absI (nI n_ + d_)).toInt < gap.toInt := c123; omega
                      refine r_iload (pc := 126) h dX10_two_126 rfl ?_
                      exact hr _ _ _ _ dX10_two_128 (rfl) (⟨by rw [hgoal_, htw]; exact (two_t hyes_).symm, hfr2⟩)
              exact r_at h [(0, .ref (E.1 0)), (1, .int gap), (3, .int d_), (4, .int (nI 1))] ⟨rfl, rfl, rfl, rfl, trivial⟩ (loop107 200 1 (by omega) rfl)
            · refine r_bipush (v := -4) (pc := 91) h dX10_two_91 (by decide) ?_
              exact hr _ _ _ _ dX10_two_93 (rfl) (⟨by unfold F_two twoV; rw [if_pos hg, if_neg hnot, if_neg (fun q => (b2i_eq0.mp c88) (hb2.trans q.2))], hfr2⟩)
          · refine r_bipush (v := -4) (pc := 67) h dX10_two_67 (by decide) ?_
            exact hr _ _ _ _ dX10_two_69 (rfl) (⟨by unfold F_two twoV; rw [if_pos hg, if_neg hnot, if_neg (fun q => (b2i_eq0.mp c64) (ha2.trans q.1))], hfr⟩)
        · refine r_bipush (v := -2) (pc := 51) h dX10_two_51 (by decide) ?_
          exact hr _ _ _ _ dX10_two_53 (rfl) (⟨by unfold F_two; rw [if_pos hg, if_pos (by first | exact Or.inr (Or.inr c48) | exact Or.inr (Or.inl c27) | exact Or.inl c18)], fun _ _ => rfl⟩)
  · refine r_iconst (v := -1) (pc := 10) h dX10_two_10 (by decide) ?_
    exact hr _ _ _ _ dX10_two_11 (rfl) (⟨by unfold F_two; rw [if_neg (show ¬ (1 ≤ gap.toInt ∧ gap.toInt ≤ 100) from b2i_eq0.mp c7)], fun _ _ => rfl⟩)
set_option maxRecDepth 100000 in
set_option maxHeartbeats 1000000 in
theorem c_X11_caught (E : En) (I : Mem) (wh : Int32) (hwh : 0 ≤ wh.toInt ∧ wh.toInt ≤ 1) (hko : keptOk I (6 * wh.toNatClampNeg)) (hF : FlOkR I) (h22 : I 151 22 = 0) : Ctr E yX11_caught cX11_caught 4 (some .int) 5 [.ref (E.1 151), .int wh] I (qI (fun (r : Int32) (I1 : Mem) => r = (if (kR I (6 * wh.toNatClampNeg)).1 = 2 then nI (kR I (6 * wh.toNatClampNeg)).2.1 else -4) ∧ (1 ≤ (kR I (6 * wh.toNatClampNeg)).2.1 ∧ (kR I (6 * wh.toNatClampNeg)).2.1 ≤ 400) ∧ frR I I1)) := by
  refine Ctr.openI (by decide) (Nat.le_of_ble_eq_true rfl) (fun g h hr => ?_)
  have h : Sem cX11_caught RX11 4 (rmL 5) E g := h
  show g I 0 [(0, .ref (E.1 151)), (1, .int wh)] []
  refine r_bipush (v := 6) (pc := 0) h dX11_caught_0 (by decide) ?_
  refine r_iload_n (pc := 2) h dX11_caught_2 rfl ?_
  refine r_imul (pc := 3) h dX11_caught_3 ?_
  refine r_istore_n (pc := 4) h dX11_caught_4 (by decide) ?_
  refine r_aload_n (pc := 5) h dX11_caught_5 rfl ?_
  refine r_aload_n (pc := 6) h dX11_caught_6 rfl ?_
  refine gf_X11_75 (pc := 7) h dX11_caught_7 ?_
  refine r_iload_n (pc := 10) h dX11_caught_10 rfl ?_
  refine r_ialdL (j := 6 * wh.toNatClampNeg) (pc := 11) h dX11_caught_11 (by decide) (by decide) ((m6x hwh).2) (vin (n := 12) (by rw [(m6x hwh).1]; omega) (by rw [(m6x hwh).1]; omega)) ?_
  refine r_aload_n (pc := 12) h dX11_caught_12 rfl ?_
  refine gf_X11_28 (pc := 13) h dX11_caught_13 ?_
  refine r_aload_n (pc := 16) h dX11_caught_16 rfl ?_
  refine gf_X11_75 (pc := 17) h dX11_caught_17 ?_
  refine r_iload_n (pc := 20) h dX11_caught_20 rfl ?_
  refine r_ialdL (j := 6 * wh.toNatClampNeg) (pc := 21) h dX11_caught_21 (by decide) (by decide) ((m6x hwh).2) (vin (n := 12) (by rw [(m6x hwh).1]; omega) (by rw [(m6x hwh).1]; omega)) ?_
  refine r_iald (pc := 22) h dX11_caught_22 (by decide) (by decide) (vin (n := 9) hko.1.1 (by have := hko.1.2; omega)) ?_
  refine r_aload_n (pc := 23) h dX11_caught_23 rfl ?_
  refine gf_X11_75 (pc := 24) h dX11_caught_24 ?_
  refine r_iload_n (pc := 27) h dX11_caught_27 rfl ?_
  refine r_iconst (v := 1) (pc := 28) h dX11_caught_28 (by decide) ?_
  refine r_iadd (pc := 29) h dX11_caught_29 ?_
  refine r_ialdL (j := 6 * wh.toNatClampNeg + 1) (pc := 30) h dX11_caught_30 (by decide) (by decide) ((m6v hwh (y := 1) (m := 1) (by decide) (by decide)).2) (vin (n := 12) (by rw [(m6v hwh (y := 1) (m := 1) (by decide) (by decide)).1]; omega) (by rw [(m6v hwh (y := 1) (m := 1) (by decide) (by decide)).1]; omega)) ?_
  refine r_aload_n (pc := 31) h dX11_caught_31 rfl ?_
  refine gf_X11_75 (pc := 32) h dX11_caught_32 ?_
  refine r_iload_n (pc := 35) h dX11_caught_35 rfl ?_
  refine r_iconst (v := 2) (pc := 36) h dX11_caught_36 (by decide) ?_
  refine r_iadd (pc := 37) h dX11_caught_37 ?_
  refine r_ialdL (j := 6 * wh.toNatClampNeg + 2) (pc := 38) h dX11_caught_38 (by decide) (by decide) ((m6v hwh (y := 2) (m := 2) (by decide) (by decide)).2) (vin (n := 12) (by rw [(m6v hwh (y := 2) (m := 2) (by decide) (by decide)).1]; omega) (by rw [(m6v hwh (y := 2) (m := 2) (by decide) (by decide)).1]; omega)) ?_
  refine r_aload_n (pc := 39) h dX11_caught_39 rfl ?_
  refine gf_X11_75 (pc := 40) h dX11_caught_40 ?_
  refine r_iload_n (pc := 43) h dX11_caught_43 rfl ?_
  refine r_iconst (v := 3) (pc := 44) h dX11_caught_44 (by decide) ?_
  refine r_iadd (pc := 45) h dX11_caught_45 ?_
  refine r_ialdL (j := 6 * wh.toNatClampNeg + 3) (pc := 46) h dX11_caught_46 (by decide) (by decide) ((m6v hwh (y := 3) (m := 3) (by decide) (by decide)).2) (vin (n := 12) (by rw [(m6v hwh (y := 3) (m := 3) (by decide) (by decide)).1]; omega) (by rw [(m6v hwh (y := 3) (m := 3) (by decide) (by decide)).1]; omega)) ?_
  refine r_aload_n (pc := 47) h dX11_caught_47 rfl ?_
  refine gf_X11_75 (pc := 48) h dX11_caught_48 ?_
  refine r_iload_n (pc := 51) h dX11_caught_51 rfl ?_
  refine r_iconst (v := 4) (pc := 52) h dX11_caught_52 (by decide) ?_
  refine r_iadd (pc := 53) h dX11_caught_53 ?_
  refine r_ialdL (j := 6 * wh.toNatClampNeg + 4) (pc := 54) h dX11_caught_54 (by decide) (by decide) ((m6v hwh (y := 4) (m := 4) (by decide) (by decide)).2) (vin (n := 12) (by rw [(m6v hwh (y := 4) (m := 4) (by decide) (by decide)).1]; omega) (by rw [(m6v hwh (y := 4) (m := 4) (by decide) (by decide)).1]; omega)) ?_
  refine r_aload_n (pc := 55) h dX11_caught_55 rfl ?_
  refine gf_X11_75 (pc := 56) h dX11_caught_56 ?_
  refine r_iload_n (pc := 59) h dX11_caught_59 rfl ?_
  refine r_iconst (v := 5) (pc := 60) h dX11_caught_60 (by decide) ?_
  refine r_iadd (pc := 61) h dX11_caught_61 ?_
  refine r_ialdL (j := 6 * wh.toNatClampNeg + 5) (pc := 62) h dX11_caught_62 (by decide) (by decide) ((m6v hwh (y := 5) (m := 5) (by decide) (by decide)).2) (vin (n := 12) (by rw [(m6v hwh (y := 5) (m := 5) (by decide) (by decide)).1]; omega) (by rw [(m6v hwh (y := 5) (m := 5) (by decide) (by decide)).1]; omega)) ?_
  refine r_callVI (ci := 11) (pc := 63) h dX11_caught_63 wm_X11_236 ca_X11_flies rfl (c_X11_flies E _ _ _ _ _ _ _ _ hko.1 hko.2.1 hko.2.2 hF.1 hF.2.1 hF.2.2) rfl rfl (Nat.le_of_ble_eq_true rfl) (by decide) (by decide) (by decide) (by decide) (fun r I1 hq => ?_)
  have hq : FliesPost I I1 (I 171 (6 * wh.toNatClampNeg)) (I 158 (I 171 (6 * wh.toNatClampNeg)).toNatClampNeg) (I 171 ((6 * wh.toNatClampNeg) + 1)) (I 171 ((6 * wh.toNatClampNeg) + 2)) (I 171 ((6 * wh.toNatClampNeg) + 3)) (I 171 ((6 * wh.toNatClampNeg) + 4)) (I 171 ((6 * wh.toNatClampNeg) + 5)) r := hq
  obtain ⟨hz1, hz2, hz3, -, -, hz4, hz5, hz6⟩ := flies0 hq h22
  refine r_istore_n (pc := 66) h dX11_caught_66 (by decide) ?_
  refine r_iload_n (pc := 67) h dX11_caught_67 rfl ?_
  refine r_iconst (v := 2) (pc := 68) h dX11_caught_68 (by decide) ?_
  refine r_icmp_ne (pc := 69) h 79 dX11_caught_69 (by decide) (fun c69 => ?_) (fun c69 => ?_)
  · refine r_bipush (v := -4) (pc := 79) h dX11_caught_79 (by decide) ?_
    exact hr _ _ _ _ dX11_caught_81 (rfl) (⟨by first | (rw [if_pos (hz1.symm.trans c69)]; exact hz3) | rw [if_neg (fun q => c69 (hz1.trans q))], hz6, hz4, hz5⟩)
  · refine r_aload_n (pc := 72) h dX11_caught_72 rfl ?_
    refine gf_X11_189 (pc := 73) h dX11_caught_73 ?_
    refine r_goto (pc := 76) h 81 dX11_caught_76 (by decide) ?_
    exact hr _ _ _ _ dX11_caught_81 (rfl) (⟨by first | (rw [if_pos (hz1.symm.trans c69)]; exact hz3) | rw [if_neg (fun q => c69 (hz1.trans q))], hz6, hz4, hz5⟩)
set_option maxRecDepth 100000 in
set_option maxHeartbeats 1000000 in
theorem c_X11_two (E : En) (I : Mem) (gap : Int32) (hk0 : ¬ I 170 0 = 0 → keptOk I 0) (hk1 : ¬ I 170 1 = 0 → keptOk I 6) (hF : FlOkR I) (h22 : I 151 22 = 0) : Ctr E yX11_two cX11_two 6 (some .int) 6 [.ref (E.1 151), .int gap] I (qI (fun (r : Int32) (I1 : Mem) => r = R_two I gap ∧ frR I I1)) := by
  refine Ctr.openI (by decide) (Nat.le_of_ble_eq_true rfl) (fun g h hr => ?_)
  have h : Sem cX11_two RX11 6 (rmL 6) E g := h
  show g I 0 [(0, .ref (E.1 151)), (1, .int gap)] []
  refine r_iload_n (pc := 0) h dX11_two_0 rfl ?_
  refine r_i2l (pc := 1) h dX11_two_1 ?_
  refine r_lconst (v := 1) (pc := 2) h dX11_two_2 (by decide) ?_
  refine r_ldc2 (pc := 3) h dX11_two_3 wc_X11_136 ?_
  refine r_callSI (pc := 6) h dX11_two_6 wm_X11_127 ca_X11_in (c_X11_in E _ _ _ _) rfl rfl (Nat.le_of_ble_eq_true rfl) (by decide) (fun r I1 hq => ?_)
  obtain ⟨rfl, rfl⟩ := hq
  refine r_if_ne (pc := 9) h 14 dX11_two_9 (by decide) (fun c9 => ?_) (fun c9 => ?_)
  · have hg : 1 ≤ gap.toInt ∧ gap.toInt ≤ 100 := by have h9_ := b2i_ne c9; simpa only [Int32.toInt_toInt64, Int64.reduceToInt] using h9_
    refine r_aload_n (pc := 14) h dX11_two_14 rfl ?_
    refine gf_X11_72 (pc := 15) h dX11_two_15 ?_
    refine r_iconst (v := 0) (pc := 18) h dX11_two_18 (by decide) ?_
    refine r_zald (pc := 19) h dX11_two_19 (by decide) (by decide) (vin (n := 2) (by decide) (by decide)) ?_
    refine r_if_eq (pc := 20) h 48 dX11_two_20 (by decide) (fun c20 => ?_) (fun c20 => ?_)
    · refine r_bipush (v := -2) (pc := 48) h dX11_two_48 (by decide) ?_
      exact hr _ _ _ _ dX11_two_50 (rfl) (⟨by unfold R_two; rw [if_pos hg, if_pos (by first | exact Or.inr (Or.inr c45) | exact Or.inr (Or.inl c29) | exact Or.inl c20)], fun _ _ _ => rfl, fun _ _ _ => rfl⟩)
    · refine r_aload_n (pc := 23) h dX11_two_23 rfl ?_
      refine gf_X11_72 (pc := 24) h dX11_two_24 ?_
      refine r_iconst (v := 1) (pc := 27) h dX11_two_27 (by decide) ?_
      refine r_zald (pc := 28) h dX11_two_28 (by decide) (by decide) (vin (n := 2) (by decide) (by decide)) ?_
      refine r_if_eq (pc := 29) h 48 dX11_two_29 (by decide) (fun c29 => ?_) (fun c29 => ?_)
      · refine r_bipush (v := -2) (pc := 48) h dX11_two_48 (by decide) ?_
        exact hr _ _ _ _ dX11_two_50 (rfl) (⟨by unfold R_two; rw [if_pos hg, if_pos (by first | exact Or.inr (Or.inr c45) | exact Or.inr (Or.inl c29) | exact Or.inl c20)], fun _ _ _ => rfl, fun _ _ _ => rfl⟩)
      · refine r_aload_n (pc := 32) h dX11_two_32 rfl ?_
        refine gf_X11_75 (pc := 33) h dX11_two_33 ?_
        refine r_iconst (v := 0) (pc := 36) h dX11_two_36 (by decide) ?_
        refine r_ialdL (j := 0) (pc := 37) h dX11_two_37 (by decide) (by decide) (by decide) (vin (by decide) (by decide)) ?_
        refine r_aload_n (pc := 38) h dX11_two_38 rfl ?_
        refine gf_X11_75 (pc := 39) h dX11_two_39 ?_
        refine r_bipush (v := 6) (pc := 42) h dX11_two_42 (by decide) ?_
        refine r_ialdL (j := 6) (pc := 44) h dX11_two_44 (by decide) (by decide) (by decide) (vin (by decide) (by decide)) ?_
        refine r_icmp_ne (pc := 45) h 51 dX11_two_45 (by decide) (fun c45 => ?_) (fun c45 => ?_)
        · have hnot : ¬ (I 170 0 = 0 ∨ I 170 1 = 0 ∨ I 171 0 = I 171 6) := fun q => q.elim c20 (fun q => q.elim c29 c45)
          refine r_aload_n (pc := 51) h dX11_two_51 rfl ?_
          refine r_iconst (v := 0) (pc := 52) h dX11_two_52 (by decide) ?_
          refine r_callVI (ci := 11) (pc := 53) h dX11_two_53 wm_X11_255 ca_X11_caught rfl (c_X11_caught E _ _ (by decide) (by rw [e00]; exact hk0 c20) hF h22) rfl rfl (Nat.le_of_ble_eq_true rfl) (by decide) (by decide) (by decide) (by decide) (fun u_ A_ hq => ?_)
          rw [e00, Nat.mul_zero] at hq
          obtain ⟨hu1, hyb, hfr⟩ := hq
          refine r_istore_n (pc := 56) h dX11_two_56 (by decide) ?_
          refine r_aload_n (pc := 57) h dX11_two_57 rfl ?_
          refine r_iconst (v := 1) (pc := 58) h dX11_two_58 (by decide) ?_
          refine r_callVI (ci := 11) (pc := 59) h dX11_two_59 wm_X11_255 ca_X11_caught rfl (c_X11_caught E _ _ (by decide) (by rw [e01, keptOk, hfr.1 171 (by decide) (by decide)]; exact hk1 c29) (frR_ok hfr hF) (by rw [hfr.2 22 (by decide) (by decide)]; exact h22)) rfl rfl (Nat.le_of_ble_eq_true rfl) (by decide) (by decide) (by decide) (by decide) (fun v_ K_ hq => ?_)
          rw [e01, Nat.mul_one] at hq
          have hkr : kR A_ 6 = kR I 6 := by
            unfold kR
            rw [frR_RR hfr, hfr.1 171 (by decide) (by decide), hfr.1 158 (by decide) (by decide)]
          rw [hkr] at hq
          obtain ⟨hv1, hzb, hfr1⟩ := hq
          have hfr2 : frR I K_ := frR_tr hfr hfr1
          refine r_istore_n (pc := 62) h dX11_two_62 (by decide) ?_
          by_cases hboth : (kR I 0).1 = 2 ∧ (kR I 6).1 = 2
          case neg =>
            have fin : ∀ lv, g K_ 112 lv [] := fun lv => by
              refine r_bipush (v := -4) (pc := 112) h dX11_two_112 (by decide) ?_
              exact hr _ _ _ _ dX11_two_114 rfl ⟨by unfold R_two twoV; rw [if_pos hg, if_neg hnot, if_neg hboth], hfr2⟩
            refine r_iconst (v := 1) (pc := 63) h dX11_two_63 (by decide) ?_
            refine r_istore (pc := 64) h dX11_two_64 (by decide) ?_
            refine r_iload (pc := 66) h dX11_two_66 rfl ?_
            refine r_sipush (v := 200) (pc := 68) h dX11_two_68 (by decide) ?_
            refine r_icmp_gt (pc := 71) h 112 dX11_two_71 (by decide) (fun c => absurd c (by decide)) (fun _ => ?_)
            refine r_iload_n (pc := 74) h dX11_two_74 rfl ?_
            refine r_if_le (pc := 75) h 112 dX11_two_75 (by decide) (fun _ => fin _) (fun c75 => ?_)
            refine r_iload_n (pc := 78) h dX11_two_78 rfl ?_
            refine r_if_le (pc := 79) h 112 dX11_two_79 (by decide) (fun _ => fin _) (fun c79 => ?_)
            exfalso
            refine hboth ⟨Classical.byContradiction (fun q => ?_), Classical.byContradiction (fun q => ?_)⟩
            · rw [if_neg q] at hu1
              rw [hu1] at c75
              exact c75 (by decide)
            · rw [if_neg q] at hv1
              rw [hv1] at c79
              exact c79 (by decide)
          rw [if_pos hboth.1] at hu1
          rw [if_pos hboth.2] at hv1
          have hgoal_ : R_two I gap = twoS gap (nI (kR I 6).2.1 - nI (kR I 0).2.1) 200 1 := by
            unfold R_two twoV
            rw [if_pos hg, if_neg hnot, if_pos hboth]
          subst hu1 hv1
          generalize (kR I 0).2.1 = y_ at hgoal_ hyb ⊢
          generalize (kR I 6).2.1 = z_ at hgoal_ hzb ⊢
          refine r_iconst (v := 1) (pc := 63) h dX11_two_63 (by decide) ?_
          refine r_istore (pc := 64) h dX11_two_64 (by decide) ?_
          have loop66 : ∀ (m n_ : Nat), n_ + m = 201 → twoS gap (nI z_ - nI y_) 200 1 = twoS gap (nI z_ - nI y_) m n_ → g K_ 66 [(0, .ref (E.1 151)), (1, .int gap), (2, .int (nI y_)), (3, .int (nI z_)), (4, .int (nI n_))] [] := by
            intro m
            induction m with
            | zero =>
              intro n_ hnm htw
              have ei := nI_tI (i := n_) (by omega)
              refine r_iload (pc := 66) h dX11_two_66 rfl ?_
              refine r_sipush (v := 200) (pc := 68) h dX11_two_68 (by decide) ?_
              refine r_icmp_gt (pc := 71) h 112 dX11_two_71 (by decide) (fun _ => ?_) (fun c => absurd (show (200 : Int32) < nI n_ by rw [Int32.lt_iff_toInt_lt, e200, ei]; omega) c)
              refine r_bipush (v := -4) (pc := 112) h dX11_two_112 (by decide) ?_
              exact hr _ _ _ _ dX11_two_114 rfl ⟨by rw [hgoal_, htw]; rfl, hfr2⟩
            | succ m ih =>
              intro n_ hnm htw
              have ei := nI_tI (i := n_) (by omega)
              refine r_iload (pc := 66) h dX11_two_66 rfl ?_
              refine r_sipush (v := 200) (pc := 68) h dX11_two_68 (by decide) ?_
              refine r_icmp_gt (pc := 71) h 112 dX11_two_71 (by decide) (fun c71 => ?_) (fun c71 => ?_)
              · first
                | (exfalso; rw [Int32.lt_iff_toInt_lt, e200, ei] at c71; omega)
                | (exfalso; rw [Int32.le_iff_toInt_le, z32, nI_tI (by omega)] at c75; omega)
                | (exfalso; rw [Int32.le_iff_toInt_le, z32, nI_tI (by omega)] at c79; omega)
              · refine r_iload_n (pc := 74) h dX11_two_74 rfl ?_
                refine r_if_le (pc := 75) h 112 dX11_two_75 (by decide) (fun c75 => ?_) (fun c75 => ?_)
                · first
                  | (exfalso; rw [Int32.lt_iff_toInt_lt, e200, ei] at c71; omega)
                  | (exfalso; rw [Int32.le_iff_toInt_le, z32, nI_tI (by omega)] at c75; omega)
                  | (exfalso; rw [Int32.le_iff_toInt_le, z32, nI_tI (by omega)] at c79; omega)
                · refine r_iload_n (pc := 78) h dX11_two_78 rfl ?_
                  refine r_if_le (pc := 79) h 112 dX11_two_79 (by decide) (fun c79 => ?_) (fun c79 => ?_)
                  · first
                    | (exfalso; rw [Int32.lt_iff_toInt_lt, e200, ei] at c71; omega)
                    | (exfalso; rw [Int32.le_iff_toInt_le, z32, nI_tI (by omega)] at c75; omega)
                    | (exfalso; rw [Int32.le_iff_toInt_le, z32, nI_tI (by omega)] at c79; omega)
                  · have ey_ := nI_tI (i := y_) (by omega)
                    have ez_ := nI_tI (i := z_) (by omega)
                    have hn2 : n_ ≤ 200 := by omega
                    have es_ : (nI z_ - nI y_).toInt = z_ - y_ := by rw [tI_sub (by rw [ey_, ez_]; omega) (by rw [ey_, ez_]; omega), ey_, ez_]
                    have ex_ : (nI n_ + (nI z_ - nI y_)).toInt = n_ + (z_ - y_) := by rw [tI_add (by rw [ei, es_]; omega) (by rw [ei, es_]; omega), ei, es_]
                    have hiff := absI_ge (x := nI n_ + (nI z_ - nI y_)) hg (by rw [ex_]; omega)
                    refine r_iload (pc := 82) h dX11_two_82 rfl ?_
                    refine r_iload_n (pc := 84) h dX11_two_84 rfl ?_
                    refine r_iadd (pc := 85) h dX11_two_85 ?_
                    refine r_iload_n (pc := 86) h dX11_two_86 rfl ?_
                    refine r_isub (pc := 87) h dX11_two_87 ?_
                    refine r_istore (pc := 88) h dX11_two_88 (by decide) ?_
                    rw [betw]
                    refine r_iload (pc := 90) h dX11_two_90 rfl ?_
                    refine r_iload_n (pc := 92) h dX11_two_92 rfl ?_
                    refine r_icmp_ge (pc := 93) h 103 dX11_two_93 (by decide) (fun c93 => ?_) (fun c93 => ?_)
                    · have hyes_ : gap ≤ absI (nI n_ + (nI z_ - nI y_)) := hiff.mpr (by first | exact Or.inl c93 | exact Or.inr (Int32.not_lt.mp c100))
                      refine r_iload (pc := 103) h dX11_two_103 rfl ?_
                      exact hr _ _ _ _ dX11_two_105 (rfl) (⟨by rw [hgoal_, htw]; exact (two_t hyes_).symm, hfr2⟩)
                    · refine r_iload (pc := 96) h dX11_two_96 rfl ?_
                      refine r_iload_n (pc := 98) h dX11_two_98 rfl ?_
                      refine r_ineg (pc := 99) h dX11_two_99 ?_
                      refine r_icmp_gt (pc := 100) h 106 dX11_two_100 (by decide) (fun c100 => ?_) (fun c100 => ?_)
                      · have hno_ : ¬ gap ≤ absI (nI n_ + (nI z_ - nI y_)) := fun q => (hiff.mp q).elim c93 (Int32.not_le.mpr c100)
                        refine r_iinc (v := 1) (pc := 106) h dX11_two_106 rfl (by decide) (by decide) ?_
                        refine r_goto (pc := 109) h 66 dX11_two_109 (by decide) ?_
                        rw [← nI_succ n_]
                        exact r_at h [(0, .ref (E.1 151)), (1, .int gap), (2, .int (nI y_)), (3, .int (nI z_)), (4, .int (nI (n_ + 1)))] ⟨rfl, rfl, rfl, rfl, rfl, trivial⟩ (ih (n_ + 1) (by omega) (htw.trans (two_f hno_)))
                      · have hyes_ : gap ≤ absI (nI n_ + (nI z_ - nI y_)) := hiff.mpr (by first | exact Or.inl c93 | exact Or.inr (Int32.not_lt.mp c100))
                        refine r_iload (pc := 103) h dX11_two_103 rfl ?_
                        exact hr _ _ _ _ dX11_two_105 (rfl) (⟨by rw [hgoal_, htw]; exact (two_t hyes_).symm, hfr2⟩)
          exact r_at h [(0, .ref (E.1 151)), (1, .int gap), (2, .int (nI y_)), (3, .int (nI z_)), (4, .int (nI 1))] ⟨rfl, rfl, rfl, rfl, rfl, trivial⟩ (loop66 200 1 (by omega) rfl)
        · refine r_bipush (v := -2) (pc := 48) h dX11_two_48 (by decide) ?_
          exact hr _ _ _ _ dX11_two_50 (rfl) (⟨by unfold R_two; rw [if_pos hg, if_pos (by first | exact Or.inr (Or.inr c45) | exact Or.inr (Or.inl c29) | exact Or.inl c20)], fun _ _ _ => rfl, fun _ _ _ => rfl⟩)
  · refine r_iconst (v := -1) (pc := 12) h dX11_two_12 (by decide) ?_
    exact hr _ _ _ _ dX11_two_13 (rfl) (⟨by unfold R_two; rw [if_neg (by have h9_ := b2i_eq0.mp c9; simpa only [Int32.toInt_toInt64, Int64.reduceToInt] using h9_)], fun _ _ _ => rfl, fun _ _ _ => rfl⟩)
set_option maxRecDepth 100000 in
set_option maxHeartbeats 1000000 in
theorem c_X1_distance (E : En) (I : Mem)  (hb0 : -124000 ≤ (I 17 0).toInt ∧ (I 17 0).toInt ≤ 124000) (hb1 : -124000 ≤ (I 17 1).toInt ∧ (I 17 1).toInt ≤ 124000) : Ctr E yX1_distance cX1_distance 6 (some .int) 1 [.ref (E.1 17)] I (qI (fun (r : Int32) (I1 : Mem) => r.toInt = (isq (dsq (I 17 0) (I 17 1)) : Int) ∧ I = I1)) := by
  refine Ctr.openI (by decide) (Nat.le_of_ble_eq_true rfl) (fun g h hr => ?_)
  have h : Sem cX1_distance RX1 6 (rmL 1) E g := h
  show g I 0 [(0, .ref (E.1 17))] []
  refine r_aload_n (pc := 0) h dX1_distance_0 rfl ?_
  refine gf_X1_28 (pc := 1) h dX1_distance_1 (by decide) (by decide) ?_
  refine r_i2l (pc := 4) h dX1_distance_4 ?_
  refine r_aload_n (pc := 5) h dX1_distance_5 rfl ?_
  refine gf_X1_28 (pc := 6) h dX1_distance_6 (by decide) (by decide) ?_
  refine r_i2l (pc := 9) h dX1_distance_9 ?_
  refine r_lmul (pc := 10) h dX1_distance_10 ?_
  refine r_aload_n (pc := 11) h dX1_distance_11 rfl ?_
  refine gf_X1_31 (pc := 12) h dX1_distance_12 (by decide) (by decide) ?_
  refine r_i2l (pc := 15) h dX1_distance_15 ?_
  refine r_aload_n (pc := 16) h dX1_distance_16 rfl ?_
  refine gf_X1_31 (pc := 17) h dX1_distance_17 (by decide) (by decide) ?_
  refine r_i2l (pc := 20) h dX1_distance_20 ?_
  refine r_lmul (pc := 21) h dX1_distance_21 ?_
  refine r_ladd (pc := 22) h dX1_distance_22 ?_
  refine r_lstore_n (pc := 23) h dX1_distance_23 (by decide) ?_
  refine r_lconst (v := 0) (pc := 24) h dX1_distance_24 (by decide) ?_
  refine r_lstore_n (pc := 25) h dX1_distance_25 (by decide) ?_
  refine r_ldc (pc := 26) h dX1_distance_26 wc_X1_138 ?_
  refine r_istore (pc := 28) h dX1_distance_28 (by decide) ?_
  obtain ⟨sq_, hsq_⟩ : ∃ z : Int64, z = (I 17 0).toInt64 * (I 17 0).toInt64 + (I 17 1).toInt64 * (I 17 1).toInt64 := ⟨_, rfl⟩
  have hsv : sq_.toInt = (dsq (I 17 0) (I 17 1) : Int) ∧ (dsq (I 17 0) (I 17 1) : Int) ≤ 30752000000 := by rw [hsq_]; exact sqL hb0 hb1
  have loop30 : ∀ (k : Nat) (rt_ : Int64), k ≤ 20 → 0 ≤ rt_.toInt → rt_.toInt + ((2 ^ k : Nat) : Int) ≤ 1048576 → rt_.toInt * rt_.toInt ≤ sq_.toInt → sq_.toInt < (rt_.toInt + ((2 ^ k : Nat) : Int)) * (rt_.toInt + ((2 ^ k : Nat) : Int)) → g I 30 [(0, .ref (E.1 17)), (1, .long sq_), (3, .long rt_), (5, .int (nI (2 ^ k / 2)))] [] := by
    intro k
    induction k with
    | zero =>
      intro rt_ hk2 h0 hle hlo hhi
      refine r_iload (pc := 30) h dX1_distance_30 rfl ?_
      refine r_if_le (pc := 32) h 66 dX1_distance_32 (by decide) (fun _ => ?_) (fun c => absurd (by decide) c)
      refine r_lload_n (pc := 66) h dX1_distance_66 rfl ?_
      refine r_l2i (pc := 67) h dX1_distance_67 ?_
      refine hr _ _ _ _ dX1_distance_68 rfl ⟨?_, rfl⟩
      obtain ⟨n, hn⟩ : ∃ n : Nat, rt_.toInt = n := ⟨rt_.toInt.toNat, by omega⟩
      rw [hn, hsv.1] at hlo
      rw [hn, hsv.1] at hhi
      rw [l2i_tI (by omega) (by omega), hn, isq_eq (r := n) (by exact_mod_cast hlo) (by exact_mod_cast hhi)]
    | succ k ih =>
      intro rt_ hk2 h0 hle hlo hhi
      have e2 : 2 ^ (k + 1) / 2 = 2 ^ k := by rw [Nat.pow_succ]; omega
      have e3 : ((2 ^ (k + 1) : Nat) : Int) = ((2 ^ k : Nat) : Int) + ((2 ^ k : Nat) : Int) := by rw [Nat.pow_succ]; omega
      have hp1 : 1 ≤ 2 ^ k := Nat.one_le_two_pow
      have hbt : (nI (2 ^ (k + 1) / 2)).toInt = ((2 ^ k : Nat) : Int) := by rw [e2]; exact nI_tI (by omega)
      rw [e3] at hle hhi
      refine r_iload (pc := 30) h dX1_distance_30 rfl ?_
      refine r_if_le (pc := 32) h 66 dX1_distance_32 (by decide) (fun c32 => ?_) (fun c32 => ?_)
      · exfalso
        rw [Int32.le_iff_toInt_le, z32, hbt] at c32
        omega
      · have esum : (rt_ + (nI (2 ^ (k + 1) / 2)).toInt64).toInt = rt_.toInt + ((2 ^ k : Nat) : Int) := by rw [tL_add (by rw [Int32.toInt_toInt64, hbt]; omega) (by rw [Int32.toInt_toInt64, hbt]; omega), Int32.toInt_toInt64, hbt]
        have hsqb := sqI (show 0 ≤ rt_.toInt + ((2 ^ k : Nat) : Int) by omega) (show rt_.toInt + ((2 ^ k : Nat) : Int) ≤ 1048576 by omega)
        have hsq0 := Int.mul_nonneg (show 0 ≤ rt_.toInt + ((2 ^ k : Nat) : Int) by omega) (show 0 ≤ rt_.toInt + ((2 ^ k : Nat) : Int) by omega)
        have emul : ((rt_ + (nI (2 ^ (k + 1) / 2)).toInt64) * (rt_ + (nI (2 ^ (k + 1) / 2)).toInt64)).toInt = (rt_.toInt + ((2 ^ k : Nat) : Int)) * (rt_.toInt + ((2 ^ k : Nat) : Int)) := by rw [tL_mul (by rw [esum]; omega) (by rw [esum]; omega), esum]
        refine r_lload_n (pc := 35) h dX1_distance_35 rfl ?_
        refine r_iload (pc := 36) h dX1_distance_36 rfl ?_
        refine r_i2l (pc := 38) h dX1_distance_38 ?_
        refine r_ladd (pc := 39) h dX1_distance_39 ?_
        refine r_lload_n (pc := 40) h dX1_distance_40 rfl ?_
        refine r_iload (pc := 41) h dX1_distance_41 rfl ?_
        refine r_i2l (pc := 43) h dX1_distance_43 ?_
        refine r_ladd (pc := 44) h dX1_distance_44 ?_
        refine r_lmul (pc := 45) h dX1_distance_45 ?_
        refine r_lload_n (pc := 46) h dX1_distance_46 rfl ?_
        refine r_lcmp (pc := 47) h dX1_distance_47 ?_
        refine r_if_gt (pc := 48) h 57 dX1_distance_48 (by decide) (fun c48 => ?_) (fun c48 => ?_)
        · refine r_iload (pc := 57) h dX1_distance_57 rfl ?_
          refine r_iconst (v := 1) (pc := 59) h dX1_distance_59 (by decide) ?_
          refine r_ishr (pc := 60) h dX1_distance_60 ?_
          refine r_istore (pc := 61) h dX1_distance_61 (by decide) ?_
          refine r_goto (pc := 63) h 30 dX1_distance_63 (by decide) ?_
          rw [half_bit k (by omega)]
          first
          | (refine r_at h [(0, .ref (E.1 17)), (1, .long sq_), (3, .long (rt_ + (nI (2 ^ (k + 1) / 2)).toInt64)), (5, .int (nI (2 ^ k / 2)))] ⟨rfl, rfl, rfl, rfl, trivial⟩ ?_
             have c9_ := lg_ngt.mp c48
             rw [emul] at c9_
             exact ih _ (by omega) (by rw [esum]; omega) (by rw [esum]; omega) (by rw [esum]; exact c9_) (by rw [esum, Int.add_assoc]; exact hhi))
          | (refine r_at h [(0, .ref (E.1 17)), (1, .long sq_), (3, .long rt_), (5, .int (nI (2 ^ k / 2)))] ⟨rfl, rfl, rfl, rfl, trivial⟩ ?_
             have c9_ := lg_gt.mp c48
             rw [emul] at c9_
             exact ih _ (by omega) h0 (by omega) hlo c9_)
        · refine r_lload_n (pc := 51) h dX1_distance_51 rfl ?_
          refine r_iload (pc := 52) h dX1_distance_52 rfl ?_
          refine r_i2l (pc := 54) h dX1_distance_54 ?_
          refine r_ladd (pc := 55) h dX1_distance_55 ?_
          refine r_lstore_n (pc := 56) h dX1_distance_56 (by decide) ?_
          refine r_iload (pc := 57) h dX1_distance_57 rfl ?_
          refine r_iconst (v := 1) (pc := 59) h dX1_distance_59 (by decide) ?_
          refine r_ishr (pc := 60) h dX1_distance_60 ?_
          refine r_istore (pc := 61) h dX1_distance_61 (by decide) ?_
          refine r_goto (pc := 63) h 30 dX1_distance_63 (by decide) ?_
          rw [half_bit k (by omega)]
          first
          | (refine r_at h [(0, .ref (E.1 17)), (1, .long sq_), (3, .long (rt_ + (nI (2 ^ (k + 1) / 2)).toInt64)), (5, .int (nI (2 ^ k / 2)))] ⟨rfl, rfl, rfl, rfl, trivial⟩ ?_
             have c9_ := lg_ngt.mp c48
             rw [emul] at c9_
             exact ih _ (by omega) (by rw [esum]; omega) (by rw [esum]; omega) (by rw [esum]; exact c9_) (by rw [esum, Int.add_assoc]; exact hhi))
          | (refine r_at h [(0, .ref (E.1 17)), (1, .long sq_), (3, .long rt_), (5, .int (nI (2 ^ k / 2)))] ⟨rfl, rfl, rfl, rfl, trivial⟩ ?_
             have c9_ := lg_gt.mp c48
             rw [emul] at c9_
             exact ih _ (by omega) h0 (by omega) hlo c9_)
  rw [← hsq_]
  exact r_at h [(0, .ref (E.1 17)), (1, .long sq_), (3, .long 0), (5, .int (nI (2 ^ 20 / 2)))] ⟨rfl, rfl, rfl, rfl, trivial⟩ (loop30 20 0 (by omega) (by rw [L0]; omega) (by rw [L0]; decide) (by rw [L0, hsv.1]; omega) (by rw [L0, hsv.1]; omega))
set_option maxRecDepth 100000 in
set_option maxHeartbeats 1000000 in
theorem c_X11_root (E : En) (I : Mem) (v : Int64) (hv : 0 ≤ v.toInt) : Ctr E yX11_root cX11_root 8 (some .long) 1 [.long v] I (qL (fun (r : Int64) (I1 : Mem) => (0 ≤ r.toInt ∧ r.toInt ≤ 100000) ∧ r.toInt * r.toInt ≤ v.toInt ∧ (v.toInt < (r.toInt + 1) * (r.toInt + 1) ∨ r.toInt = 100000) ∧ I = I1)) := by
  refine Ctr.openL (by decide) (Nat.le_of_ble_eq_true rfl) (fun g h hr => ?_)
  have h : Sem cX11_root RX11 8 (rmL 1) E g := h
  show g I 0 [(0, .long v)] []
  refine r_lconst (v := 0) (pc := 0) h dX11_root_0 (by decide) ?_
  refine r_lstore_n (pc := 1) h dX11_root_1 (by decide) ?_
  refine r_ldc2 (pc := 2) h dX11_root_2 wc_X11_265 ?_
  refine r_lstore (pc := 5) h dX11_root_5 (by decide) ?_
  have loop7 : ∀ (m : Nat) (lo_ hi_ : Int64), 0 ≤ lo_.toInt → lo_.toInt ≤ hi_.toInt → hi_.toInt ≤ 100000 → hi_.toInt - lo_.toInt < (m : Int) → lo_.toInt * lo_.toInt ≤ v.toInt → (v.toInt < (hi_.toInt + 1) * (hi_.toInt + 1) ∨ hi_.toInt = 100000) → g I 7 [(0, .long v), (2, .long lo_), (4, .long hi_)] [] := by
    intro m
    induction m with
    | zero =>
      intro lo_ hi_ h0 h1 h2 h3
      omega
    | succ m ih =>
      intro lo_ hi_ h0 h1 h2 h3 h4 h5
      refine r_lload_n (pc := 7) h dX11_root_7 rfl ?_
      refine r_lload (pc := 8) h dX11_root_8 rfl ?_
      refine r_lcmp (pc := 10) h dX11_root_10 ?_
      refine r_if_ge (pc := 11) h 67 dX11_root_11 (by decide) (fun c11 => ?_) (fun c11 => ?_)
      · refine r_lload_n (pc := 67) h dX11_root_67 rfl ?_
        exact hr _ _ _ _ dX11_root_68 (⟨⟨h0, by omega⟩, h4, by have c8_ := lg_ge.mp c11; have e8_ : lo_.toInt = hi_.toInt := (by omega); rw [e8_]; exact h5, rfl⟩)
      · have c8_ : lo_.toInt < hi_.toInt := by have := mt lg_ge.mpr c11; omega
        refine r_lload_n (pc := 14) h dX11_root_14 rfl ?_
        refine r_lload (pc := 15) h dX11_root_15 rfl ?_
        refine r_ladd (pc := 17) h dX11_root_17 ?_
        refine r_lconst (v := 1) (pc := 18) h dX11_root_18 (by decide) ?_
        refine r_ladd (pc := 19) h dX11_root_19 ?_
        refine r_ldc2 (pc := 20) h dX11_root_20 wc_X11_267 ?_
        refine r_ldiv (pc := 23) h dX11_root_23 (by decide) ?_
        refine r_lstore (pc := 24) h dX11_root_24 (by decide) ?_
        have es1 : (lo_ + hi_).toInt = lo_.toInt + hi_.toInt := tL_add (by omega) (by omega)
        have es2 : (lo_ + hi_ + 1).toInt = lo_.toInt + hi_.toInt + 1 := by rw [tL_add (by rw [es1, L1]; omega) (by rw [es1, L1]; omega), es1, L1]
        obtain ⟨md_, hmd_⟩ : ∃ z : Int64, z = (lo_ + hi_ + 1) / 2 := ⟨_, rfl⟩
        have em : md_.toInt = (lo_.toInt + hi_.toInt + 1) / 2 := by rw [hmd_, tL_div (by rw [es2]; omega) (by decide), es2, L2]
        have em1 : (md_ - 1).toInt = md_.toInt - 1 := by rw [tL_sub (by rw [L1]; omega) (by rw [L1]; omega), L1]
        have hsqb := sqI (show 0 ≤ md_.toInt by omega) (show md_.toInt ≤ 100000 by omega)
        have hsq0 := Int.mul_nonneg (show 0 ≤ md_.toInt by omega) (show 0 ≤ md_.toInt by omega)
        have emul : (md_ * md_).toInt = md_.toInt * md_.toInt := tL_mul (by omega) (by omega)
        rw [← hmd_]
        refine r_at h [(0, .long v), (2, .long lo_), (4, .long hi_), (6, .long md_)] ⟨rfl, rfl, rfl, rfl, trivial⟩ ?_
        refine r_lload (pc := 26) h dX11_root_26 rfl ?_
        refine r_lload (pc := 28) h dX11_root_28 rfl ?_
        refine r_lmul (pc := 30) h dX11_root_30 ?_
        refine r_lload_n (pc := 31) h dX11_root_31 rfl ?_
        refine r_lcmp (pc := 32) h dX11_root_32 ?_
        refine r_if_gt (pc := 33) h 41 dX11_root_33 (by decide) (fun c33 => ?_) (fun c33 => ?_)
        · refine r_lload_n (pc := 41) h dX11_root_41 rfl ?_
          refine r_lstore_n (pc := 42) h dX11_root_42 (by decide) ?_
          refine r_lload (pc := 43) h dX11_root_43 rfl ?_
          refine r_lload (pc := 45) h dX11_root_45 rfl ?_
          refine r_lmul (pc := 47) h dX11_root_47 ?_
          refine r_lload_n (pc := 48) h dX11_root_48 rfl ?_
          refine r_lcmp (pc := 49) h dX11_root_49 ?_
          refine r_if_gt (pc := 50) h 58 dX11_root_50 (by decide) (fun c50 => ?_) (fun c50 => ?_)
          · refine r_lload (pc := 58) h dX11_root_58 rfl ?_
            refine r_lconst (v := 1) (pc := 60) h dX11_root_60 (by decide) ?_
            refine r_lsub (pc := 61) h dX11_root_61 ?_
            refine r_lstore (pc := 62) h dX11_root_62 (by decide) ?_
            refine r_goto (pc := 64) h 7 dX11_root_64 (by decide) ?_
            first
            | exact absurd c33 c50
            | exact absurd c50 c33
            | (refine r_at h [(0, .long v), (2, .long lo_), (4, .long (md_ - 1))] ⟨rfl, rfl, rfl, trivial⟩ ?_
               have c9_ := lg_gt.mp c33
               rw [emul] at c9_
               exact ih _ _ h0 (by rw [em1]; omega) (by rw [em1]; omega) (by rw [em1]; omega) h4 (Or.inl (by rw [em1, show md_.toInt - 1 + 1 = md_.toInt by omega]; exact c9_)))
            | (refine r_at h [(0, .long v), (2, .long md_), (4, .long hi_)] ⟨rfl, rfl, rfl, trivial⟩ ?_
               have c9_ := lg_ngt.mp c33
               rw [emul] at c9_
               exact ih _ _ (by omega) (by omega) h2 (by omega) c9_ h5)
          · refine r_lload (pc := 53) h dX11_root_53 rfl ?_
            refine r_goto (pc := 55) h 62 dX11_root_55 (by decide) ?_
            refine r_lstore (pc := 62) h dX11_root_62 (by decide) ?_
            refine r_goto (pc := 64) h 7 dX11_root_64 (by decide) ?_
            first
            | exact absurd c33 c50
            | exact absurd c50 c33
            | (refine r_at h [(0, .long v), (2, .long lo_), (4, .long (md_ - 1))] ⟨rfl, rfl, rfl, trivial⟩ ?_
               have c9_ := lg_gt.mp c33
               rw [emul] at c9_
               exact ih _ _ h0 (by rw [em1]; omega) (by rw [em1]; omega) (by rw [em1]; omega) h4 (Or.inl (by rw [em1, show md_.toInt - 1 + 1 = md_.toInt by omega]; exact c9_)))
            | (refine r_at h [(0, .long v), (2, .long md_), (4, .long hi_)] ⟨rfl, rfl, rfl, trivial⟩ ?_
               have c9_ := lg_ngt.mp c33
               rw [emul] at c9_
               exact ih _ _ (by omega) (by omega) h2 (by omega) c9_ h5)
        · refine r_lload (pc := 36) h dX11_root_36 rfl ?_
          refine r_goto (pc := 38) h 42 dX11_root_38 (by decide) ?_
          refine r_lstore_n (pc := 42) h dX11_root_42 (by decide) ?_
          refine r_lload (pc := 43) h dX11_root_43 rfl ?_
          refine r_lload (pc := 45) h dX11_root_45 rfl ?_
          refine r_lmul (pc := 47) h dX11_root_47 ?_
          refine r_lload_n (pc := 48) h dX11_root_48 rfl ?_
          refine r_lcmp (pc := 49) h dX11_root_49 ?_
          refine r_if_gt (pc := 50) h 58 dX11_root_50 (by decide) (fun c50 => ?_) (fun c50 => ?_)
          · refine r_lload (pc := 58) h dX11_root_58 rfl ?_
            refine r_lconst (v := 1) (pc := 60) h dX11_root_60 (by decide) ?_
            refine r_lsub (pc := 61) h dX11_root_61 ?_
            refine r_lstore (pc := 62) h dX11_root_62 (by decide) ?_
            refine r_goto (pc := 64) h 7 dX11_root_64 (by decide) ?_
            first
            | exact absurd c33 c50
            | exact absurd c50 c33
            | (refine r_at h [(0, .long v), (2, .long lo_), (4, .long (md_ - 1))] ⟨rfl, rfl, rfl, trivial⟩ ?_
               have c9_ := lg_gt.mp c33
               rw [emul] at c9_
               exact ih _ _ h0 (by rw [em1]; omega) (by rw [em1]; omega) (by rw [em1]; omega) h4 (Or.inl (by rw [em1, show md_.toInt - 1 + 1 = md_.toInt by omega]; exact c9_)))
            | (refine r_at h [(0, .long v), (2, .long md_), (4, .long hi_)] ⟨rfl, rfl, rfl, trivial⟩ ?_
               have c9_ := lg_ngt.mp c33
               rw [emul] at c9_
               exact ih _ _ (by omega) (by omega) h2 (by omega) c9_ h5)
          · refine r_lload (pc := 53) h dX11_root_53 rfl ?_
            refine r_goto (pc := 55) h 62 dX11_root_55 (by decide) ?_
            refine r_lstore (pc := 62) h dX11_root_62 (by decide) ?_
            refine r_goto (pc := 64) h 7 dX11_root_64 (by decide) ?_
            first
            | exact absurd c33 c50
            | exact absurd c50 c33
            | (refine r_at h [(0, .long v), (2, .long lo_), (4, .long (md_ - 1))] ⟨rfl, rfl, rfl, trivial⟩ ?_
               have c9_ := lg_gt.mp c33
               rw [emul] at c9_
               exact ih _ _ h0 (by rw [em1]; omega) (by rw [em1]; omega) (by rw [em1]; omega) h4 (Or.inl (by rw [em1, show md_.toInt - 1 + 1 = md_.toInt by omega]; exact c9_)))
            | (refine r_at h [(0, .long v), (2, .long md_), (4, .long hi_)] ⟨rfl, rfl, rfl, trivial⟩ ?_
               have c9_ := lg_ngt.mp c33
               rw [emul] at c9_
               exact ih _ _ (by omega) (by omega) h2 (by omega) c9_ h5)
  exact r_at h [(0, .long v), (2, .long 0), (4, .long 100000)] ⟨rfl, rfl, rfl, trivial⟩ (loop7 100001 0 100000 (by rw [L0]; omega) (by rw [L0, L100k]; omega) (by rw [L100k]; omega) (by rw [L0, L100k]; omega) (by rw [L0]; omega) (Or.inr L100k))
set_option maxRecDepth 100000 in
set_option maxHeartbeats 1000000 in
theorem c_X10_pointsOf (E : En) (I : Mem) (s : Int32) (w : Int32) (hs : 0 ≤ s.toInt ∧ s.toInt < 9) (hw : w = -1 ∨ (0 ≤ w.toInt ∧ w.toInt < 8)) (hm : manOk I) (hF : FlOkF I) (hW : FwOk I) : Ctr E yX10_pointsOf cX10_pointsOf 4 (some .int) 4 [.ref (E.1 0), .int s, .int w] I (qI (fun (r : Int32) (I1 : Mem) => r = ptF I s w ∧ fr27 I I1)) := by
  refine Ctr.openI (by decide) (Nat.le_of_ble_eq_true rfl) (fun g h hr => ?_)
  have h : Sem cX10_pointsOf RX10 4 (rmL 4) E g := h
  show g I 0 [(0, .ref (E.1 0)), (1, .int s), (2, .int w)] []
  refine r_aload_n (pc := 0) h dX10_pointsOf_0 rfl ?_
  refine gf_X10_85 (pc := 1) h dX10_pointsOf_1 ?_
  refine gf_X10_245 (pc := 4) h dX10_pointsOf_4 ?_
  refine r_iload_n (pc := 7) h dX10_pointsOf_7 rfl ?_
  refine pf_X10_222 (pc := 8) h dX10_pointsOf_8 (by decide) (by decide) ?_
  refine r_aload_n (pc := 11) h dX10_pointsOf_11 rfl ?_
  refine gf_X10_85 (pc := 12) h dX10_pointsOf_12 ?_
  refine gf_X10_245 (pc := 15) h dX10_pointsOf_15 ?_
  refine r_iload_n (pc := 18) h dX10_pointsOf_18 rfl ?_
  refine pf_X10_369 (pc := 19) h dX10_pointsOf_19 (by decide) (by decide) ?_
  refine r_nmG (fun J_ hJ => ?_)
  have hJ27 : ∀ a, a ≠ 27 → J_ a = I a := fun a ha => by rw [hJ, upm_ne _ _ _ ha, upm_ne _ _ _ ha]
  have hJj : ∀ j, J_ 27 j = if j = 5 then w else if j = 0 then s else I 27 j := fun j => by
    rw [hJ, upm_at, upm_at]
    by_cases q5 : j = 5
    · rw [if_pos ⟨rfl, q5⟩, if_pos q5]
    · rw [if_neg (fun z => q5 z.2), if_neg q5]
      by_cases q0 : j = 0
      · rw [if_pos ⟨rfl, q0⟩, if_pos q0]
      · rw [if_neg (fun z => q0 z.2), if_neg q0]
  have j0 : J_ 27 0 = s := hJj 0
  have j1 : J_ 27 1 = I 27 1 := hJj 1
  have j2 : J_ 27 2 = I 27 2 := hJj 2
  have j3 : J_ 27 3 = I 27 3 := hJj 3
  have j4 : J_ 27 4 = I 27 4 := hJj 4
  have j5 : J_ 27 5 = w := hJj 5
  have hn9 : s.toNatClampNeg < 9 := by rw [tn]; omega
  have hFJ : FlOkF J_ := FlOkF_of (fun a ha => hJ27 a (by omega)) hF
  have haJ : AimOk J_ 27 := by
    unfold AimOk
    rw [j0, j1, j3, j4, j5]
    exact ⟨hs, hm.1, hm.2.1, hm.2.2, hw⟩
  refine r_aload_n (pc := 22) h dX10_pointsOf_22 rfl ?_
  refine r_aload_n (pc := 23) h dX10_pointsOf_23 rfl ?_
  refine gf_X10_57 (pc := 24) h dX10_pointsOf_24 ?_
  refine r_aload_n (pc := 27) h dX10_pointsOf_27 rfl ?_
  refine gf_X10_85 (pc := 28) h dX10_pointsOf_28 ?_
  refine gf_X10_245 (pc := 31) h dX10_pointsOf_31 ?_
  refine r_aload_n (pc := 34) h dX10_pointsOf_34 rfl ?_
  refine gf_X10_19 (pc := 35) h dX10_pointsOf_35 ?_
  refine r_iload_n (pc := 38) h dX10_pointsOf_38 rfl ?_
  refine r_aa2 (pc := 39) h dX10_pointsOf_39 (vin (n := 9) (by omega) (by omega)) ?_
  refine gf_X10_136 (pc := 40) h dX10_pointsOf_40 (by omega) (kdSt _ hn9) ?_
  refine r_callVI (ci := 10) (pc := 43) h dX10_pointsOf_43 wm_X10_192 ca_X10_endOf rfl (c_endOf E _ 17 27 _ (Or.inr rfl) (by decide) (by decide) haJ hFJ) rfl rfl (Nat.le_of_ble_eq_true rfl) (by decide) (by decide) (by decide) (by decide) (fun e_ K_ hq => ?_)
  obtain ⟨hz1, hz2, hz3, hz4, hz5, hz6, hz7⟩ := end17 hq
  have hfa : fA J_ 27 (J_ (41 + 2 * s.toNatClampNeg) 5) = (FF I s (I (41 + 2 * s.toNatClampNeg) 5) w (I 27 1) (I 27 2) (I 27 3) (I 27 4)) := by
    unfold fA
    rw [FF_congr (I := I) (J := J_) (fun a ha => hJ27 a (by omega)) hF.2.1, j0, j1, j2, j3, j4, j5, hJ27 (41 + 2 * s.toNatClampNeg) (by omega)]
  rw [hfa] at hz1 hz3 hz4 hz5 hz7
  have hbd := FF_bd (I := I) (s := s) (bd := I (41 + 2 * s.toNatClampNeg) 5) (w := w) (l := I 27 1) (a := I 27 2) (st := I 27 3) (sp := I 27 4) hw hm.2.1 hm.2.2 hW hz7.2
  have hfr : fr27 I K_ := ⟨fun a a1 a2 => (hz6 a a1).trans (hJ27 a a2), fun j q0 q5 => by rw [hz6 27 (by decide), hJj, if_neg q5, if_neg q0]⟩
  show g K_ _ _ _
  have hgoal_ : ptF I s w = ptsP (FF I s (I (41 + 2 * s.toNatClampNeg) 5) w (I 27 1) (I 27 2) (I 27 3) (I 27 4)) := rfl
  generalize (FF I s (I (41 + 2 * s.toNatClampNeg) 5) w (I 27 1) (I 27 2) (I 27 3) (I 27 4)) = Z_ at hz1 hz4 hz5 hbd hgoal_
  refine r_istore_n (pc := 46) h dX10_pointsOf_46 (by decide) ?_
  refine r_iload_n (pc := 47) h dX10_pointsOf_47 rfl ?_
  refine r_iconst (v := 2) (pc := 48) h dX10_pointsOf_48 (by decide) ?_
  refine r_icmp_ne (pc := 49) h 55 dX10_pointsOf_49 (by decide) (fun c49 => ?_) (fun c49 => ?_)
  · refine r_iload_n (pc := 55) h dX10_pointsOf_55 rfl ?_
    refine r_iconst (v := 1) (pc := 56) h dX10_pointsOf_56 (by decide) ?_
    refine r_icmp_ne (pc := 57) h 80 dX10_pointsOf_57 (by decide) (fun c57 => ?_) (fun c57 => ?_)
    · refine r_iconst (v := 0) (pc := 80) h dX10_pointsOf_80 (by decide) ?_
      exact hr _ _ _ _ dX10_pointsOf_81 (rfl) (⟨by rw [hgoal_]; unfold ptsP; rw [if_neg (fun q => c49 (hz1.trans q))]; first | (rw [if_pos (hz1.symm.trans c57), hm_, ptsC hd_, hz4, hz5]; done) | rw [if_neg (fun q => c57 (hz1.trans q))], hfr⟩)
    · refine r_iconst (v := 0) (pc := 60) h dX10_pointsOf_60 (by decide) ?_
      refine r_bipush (v := 40) (pc := 61) h dX10_pointsOf_61 (by decide) ?_
      refine r_aload_n (pc := 63) h dX10_pointsOf_63 rfl ?_
      refine gf_X10_57 (pc := 64) h dX10_pointsOf_64 ?_
      refine r_callVI (ci := 1) (pc := 67) h dX10_pointsOf_67 wm_X10_408 ca_X1_distance rfl (c_X1_distance E _ (by rw [hz4]; exact hbd.1) (by rw [hz5]; exact hbd.2)) rfl rfl (Nat.le_of_ble_eq_true rfl) (by decide) (by decide) (by decide) (by decide) (fun d_ D_ hq => ?_)
      obtain ⟨hd_, rfl⟩ := hq
      refine r_bipush (v := 50) (pc := 70) h dX10_pointsOf_70 (by decide) ?_
      refine r_idiv (pc := 72) h dX10_pointsOf_72 (by decide) ?_
      refine r_isub (pc := 73) h dX10_pointsOf_73 ?_
      refine r_callSI (pc := 74) h dX10_pointsOf_74 wm_X10_411 ca_J9_max_7cf53 (c_J9_max_7cf53 E _ _ _) rfl rfl (Nat.le_of_ble_eq_true rfl) (by decide) (fun m_ M_ hq => ?_)
      obtain ⟨hm_, rfl⟩ := hq
      refine r_goto (pc := 77) h 81 dX10_pointsOf_77 (by decide) ?_
      exact hr _ _ _ _ dX10_pointsOf_81 (rfl) (⟨by rw [hgoal_]; unfold ptsP; rw [if_neg (fun q => c49 (hz1.trans q))]; first | (rw [if_pos (hz1.symm.trans c57), hm_, ptsC hd_, hz4, hz5]; done) | rw [if_neg (fun q => c57 (hz1.trans q))], hfr⟩)
  · refine r_bipush (v := 50) (pc := 52) h dX10_pointsOf_52 (by decide) ?_
    exact hr _ _ _ _ dX10_pointsOf_54 (rfl) (⟨by rw [hgoal_]; unfold ptsP; rw [if_pos (hz1.symm.trans c49)], hfr⟩)
set_option maxRecDepth 100000 in
set_option maxHeartbeats 1000000 in
theorem c_X11_pointsOf (E : En) (I : Mem) (s : Int32) (w : Int32) (hs : 0 ≤ s.toInt ∧ s.toInt < 9) (hw : w.toInt < 8) (hm : manOkR I) (hF : FlOkR I) (hW : RwOk I) (h22 : I 151 22 = 0) : Ctr E yX11_pointsOf cX11_pointsOf 9 (some .int) 5 [.ref (E.1 151), .int s, .int w] I (qI (fun (r : Int32) (I1 : Mem) => r = ptR I s w ∧ frR I I1)) := by
  refine Ctr.openI (by decide) (Nat.le_of_ble_eq_true rfl) (fun g h hr => ?_)
  have h : Sem cX11_pointsOf RX11 9 (rmL 5) E g := h
  show g I 0 [(0, .ref (E.1 151)), (1, .int s), (2, .int w)] []
  refine r_aload_n (pc := 0) h dX11_pointsOf_0 rfl ?_
  refine r_iload_n (pc := 1) h dX11_pointsOf_1 rfl ?_
  refine r_aload_n (pc := 2) h dX11_pointsOf_2 rfl ?_
  refine gf_X11_28 (pc := 3) h dX11_pointsOf_3 ?_
  refine r_iload_n (pc := 6) h dX11_pointsOf_6 rfl ?_
  refine r_iald (pc := 7) h dX11_pointsOf_7 (by decide) (by decide) (vin (n := 9) (by omega) (by omega)) ?_
  refine r_aload_n (pc := 8) h dX11_pointsOf_8 rfl ?_
  refine gf_X11_81 (pc := 9) h dX11_pointsOf_9 ?_
  refine r_aload_n (pc := 12) h dX11_pointsOf_12 rfl ?_
  refine gf_X11_262 (pc := 13) h dX11_pointsOf_13 ?_
  refine r_aload_n (pc := 16) h dX11_pointsOf_16 rfl ?_
  refine gf_X11_84 (pc := 17) h dX11_pointsOf_17 ?_
  refine r_aload_n (pc := 20) h dX11_pointsOf_20 rfl ?_
  refine gf_X11_87 (pc := 21) h dX11_pointsOf_21 ?_
  refine r_iload_n (pc := 24) h dX11_pointsOf_24 rfl ?_
  refine r_callVI (ci := 11) (pc := 25) h dX11_pointsOf_25 wm_X11_236 ca_X11_flies rfl (c_X11_flies E _ _ _ _ _ _ _ _ hs hw hm.1 hF.1 hF.2.1 hF.2.2) rfl rfl (Nat.le_of_ble_eq_true rfl) (by decide) (by decide) (by decide) (by decide) (fun e_ K_ hq => ?_)
  have hq : FliesPost I K_ s (I 158 s.toNatClampNeg) (I 151 32) (I 151 33) (I 151 34) (I 151 35) w e_ := hq
  obtain ⟨hz1, hz2, hz3, hz4, hz5, hz6, hz7, hz8⟩ := flies0 hq h22
  have hbd := RR_bd (I := I) (s := s) (bd := I 158 s.toNatClampNeg) (w := w) (l := I 151 32) (a := I 151 33) (st := I 151 34) (sp := I 151 35) hw hm.2.1 hm.2.2 hW hz8.2
  have hfr : frR I K_ := ⟨hz6, hz7⟩
  have hgoal_ : ptR I s w = ptsP (RR I s (I 158 s.toNatClampNeg) w (I 151 32) (I 151 33) (I 151 34) (I 151 35)) := rfl
  generalize (RR I s (I 158 s.toNatClampNeg) w (I 151 32) (I 151 33) (I 151 34) (I 151 35)) = Z_ at hz1 hz4 hz5 hbd hgoal_
  refine r_istore_n (pc := 28) h dX11_pointsOf_28 (by decide) ?_
  refine r_iload_n (pc := 29) h dX11_pointsOf_29 rfl ?_
  refine r_iconst (v := 1) (pc := 30) h dX11_pointsOf_30 (by decide) ?_
  refine r_icmp_eq (pc := 31) h 46 dX11_pointsOf_31 (by decide) (fun c31 => ?_) (fun c31 => ?_)
  · refine r_aload_n (pc := 46) h dX11_pointsOf_46 rfl ?_
    refine gf_X11_60 (pc := 47) h dX11_pointsOf_47 ?_
    refine r_iconst (v := 0) (pc := 50) h dX11_pointsOf_50 (by decide) ?_
    refine r_ialdL (j := 0) (pc := 51) h dX11_pointsOf_51 (by decide) (by decide) (by decide) (vin (by decide) (by decide)) ?_
    refine r_i2l (pc := 52) h dX11_pointsOf_52 ?_
    refine r_lstore (pc := 53) h dX11_pointsOf_53 (by decide) ?_
    refine r_aload_n (pc := 55) h dX11_pointsOf_55 rfl ?_
    refine gf_X11_60 (pc := 56) h dX11_pointsOf_56 ?_
    refine r_iconst (v := 1) (pc := 59) h dX11_pointsOf_59 (by decide) ?_
    refine r_ialdL (j := 1) (pc := 60) h dX11_pointsOf_60 (by decide) (by decide) (by decide) (vin (by decide) (by decide)) ?_
    refine r_i2l (pc := 61) h dX11_pointsOf_61 ?_
    refine r_lstore (pc := 62) h dX11_pointsOf_62 (by decide) ?_
    refine r_bipush (v := 40) (pc := 64) h dX11_pointsOf_64 (by decide) ?_
    refine r_lload (pc := 66) h dX11_pointsOf_66 rfl ?_
    refine r_lload (pc := 68) h dX11_pointsOf_68 rfl ?_
    refine r_lmul (pc := 70) h dX11_pointsOf_70 ?_
    refine r_lload (pc := 71) h dX11_pointsOf_71 rfl ?_
    refine r_lload (pc := 73) h dX11_pointsOf_73 rfl ?_
    refine r_lmul (pc := 75) h dX11_pointsOf_75 ?_
    refine r_ladd (pc := 76) h dX11_pointsOf_76 ?_
    have hsq := sqL (x := K_ 167 0) (y := K_ 167 1) (by rw [hz4]; exact hbd.1) (by rw [hz5]; exact hbd.2)
    refine r_callSL (pc := 77) h dX11_pointsOf_77 wm_X11_269 ca_X11_root (c_X11_root E _ _ (by rw [hsq.1]; omega)) rfl rfl (Nat.le_of_ble_eq_true rfl) (by decide) (fun d_ D_ hq => ?_)
    obtain ⟨hd1, hd2, hd3, rfl⟩ := hq
    rw [hsq.1] at hd2 hd3
    have hpt := ptsR hd1 hd2 hd3
    refine r_ldc2 (pc := 80) h dX11_pointsOf_80 wc_X11_208 ?_
    refine r_ldiv (pc := 83) h dX11_pointsOf_83 (by decide) ?_
    refine r_l2i (pc := 84) h dX11_pointsOf_84 ?_
    refine r_isub (pc := 85) h dX11_pointsOf_85 ?_
    refine r_istore (pc := 86) h dX11_pointsOf_86 (by decide) ?_
    refine r_iload (pc := 88) h dX11_pointsOf_88 rfl ?_
    refine r_if_ge (pc := 90) h 97 dX11_pointsOf_90 (by decide) (fun c90 => ?_) (fun c90 => ?_)
    · refine r_iload (pc := 97) h dX11_pointsOf_97 rfl ?_
      exact hr _ _ _ _ dX11_pointsOf_99 (rfl) (⟨by rw [hgoal_]; unfold ptsP; rw [if_neg (fun q => absurd (c31.symm.trans (hz1.trans q)) (by decide)), if_pos (hz1.symm.trans c31), ← hz4, ← hz5, ← hpt]; first | rw [if_pos c90] | rw [if_neg c90], hfr⟩)
    · refine r_iconst (v := 0) (pc := 93) h dX11_pointsOf_93 (by decide) ?_
      refine r_goto (pc := 94) h 99 dX11_pointsOf_94 (by decide) ?_
      exact hr _ _ _ _ dX11_pointsOf_99 (rfl) (⟨by rw [hgoal_]; unfold ptsP; rw [if_neg (fun q => absurd (c31.symm.trans (hz1.trans q)) (by decide)), if_pos (hz1.symm.trans c31), ← hz4, ← hz5, ← hpt]; first | rw [if_pos c90] | rw [if_neg c90], hfr⟩)
  · refine r_iload_n (pc := 34) h dX11_pointsOf_34 rfl ?_
    refine r_iconst (v := 2) (pc := 35) h dX11_pointsOf_35 (by decide) ?_
    refine r_icmp_ne (pc := 36) h 44 dX11_pointsOf_36 (by decide) (fun c36 => ?_) (fun c36 => ?_)
    · refine r_iconst (v := 0) (pc := 44) h dX11_pointsOf_44 (by decide) ?_
      exact hr _ _ _ _ dX11_pointsOf_45 (rfl) (⟨by rw [hgoal_]; unfold ptsP; first | rw [if_pos (hz1.symm.trans c36)] | rw [if_neg (fun q => c36 (hz1.trans q)), if_neg (fun q => c31 (hz1.trans q))], hfr⟩)
    · refine r_bipush (v := 50) (pc := 39) h dX11_pointsOf_39 (by decide) ?_
      refine r_goto (pc := 41) h 45 dX11_pointsOf_41 (by decide) ?_
      exact hr _ _ _ _ dX11_pointsOf_45 (rfl) (⟨by rw [hgoal_]; unfold ptsP; first | rw [if_pos (hz1.symm.trans c36)] | rw [if_neg (fun q => c36 (hz1.trans q)), if_neg (fun q => c31 (hz1.trans q))], hfr⟩)
set_option maxRecDepth 100000 in
set_option maxHeartbeats 1000000 in
theorem c_X10_points (E : En) (I : Mem) (s : Int32) (w : Int32) (hc : 0 ≤ (I 0 2).toInt ∧ (I 0 2).toInt ≤ 9) (hcw : 0 ≤ (I 0 4).toInt ∧ (I 0 4).toInt ≤ 8) (hm : manOk I) (hF : FlOkF I) (hW : FwOk I) : Ctr E yX10_points cX10_points 3 (some .int) 5 [.ref (E.1 0), .int s, .int w] I (qI (fun (r : Int32) (I1 : Mem) => r = (if isS s (I 0 2) ∧ (w.toInt = -1 ∨ isS w (I 0 4)) then ptF I s w else -1) ∧ fr27 I I1)) := by
  refine Ctr.openI (by decide) (Nat.le_of_ble_eq_true rfl) (fun g h hr => ?_)
  have h : Sem cX10_points RX10 3 (rmL 5) E g := h
  show g I 0 [(0, .ref (E.1 0)), (1, .int s), (2, .int w)] []
  have ec : (I 0 2 - 1).toInt = (I 0 2).toInt - 1 := tI_sub1 (by omega)
  have ecw : (I 0 4 - 1).toInt = (I 0 4).toInt - 1 := tI_sub1 (by omega)
  refine r_aload_n (pc := 0) h dX10_points_0 rfl ?_
  refine r_iload_n (pc := 1) h dX10_points_1 rfl ?_
  refine r_callVI (ci := 10) (pc := 2) h dX10_points_2 wm_X10_126 ca_X10_isStick rfl (c_X10_isStick E _ _) rfl rfl (Nat.le_of_ble_eq_true rfl) (by decide) (by decide) (by decide) (by decide) (fun r I1 hq => ?_)
  obtain ⟨rfl, rfl⟩ := hq
  refine r_if_eq (pc := 5) h 16 dX10_points_5 (by decide) (fun c5 => ?_) (fun c5 => ?_)
  · refine r_iconst (v := -1) (pc := 16) h dX10_points_16 (by decide) ?_
    exact hr _ _ _ _ dX10_points_17 (rfl) (⟨by rw [if_neg (by (try simp only [b2i_eq0] at *); (try simp only [Int32.reduceToInt, Int64.reduceToInt, Int32.toInt_toInt64] at *); omega)], fun _ _ _ => rfl, fun _ _ _ => rfl⟩)
  · refine r_aload_n (pc := 8) h dX10_points_8 rfl ?_
    refine r_iload_n (pc := 9) h dX10_points_9 rfl ?_
    refine r_callVI (ci := 10) (pc := 10) h dX10_points_10 wm_X10_235 ca_X10_isWindOrNone rfl (c_X10_isWindOrNone E _ _) rfl rfl (Nat.le_of_ble_eq_true rfl) (by decide) (by decide) (by decide) (by decide) (fun r I1 hq => ?_)
    obtain ⟨rfl, rfl⟩ := hq
    refine r_if_ne (pc := 13) h 18 dX10_points_13 (by decide) (fun c13 => ?_) (fun c13 => ?_)
    · have hv : isS s (I 0 2) ∧ (w.toInt = -1 ∨ isS w (I 0 4)) := by (try simp only [b2i_eq0] at *); (try simp only [Int32.reduceToInt, Int64.reduceToInt, Int32.toInt_toInt64] at *); omega
      refine r_aload_n (pc := 18) h dX10_points_18 rfl ?_
      refine r_iload_n (pc := 19) h dX10_points_19 rfl ?_
      refine r_iload_n (pc := 20) h dX10_points_20 rfl ?_
      refine r_callVI (ci := 10) (pc := 21) h dX10_points_21 wm_X10_248 ca_X10_pointsOf rfl (c_X10_pointsOf E _ _ _ ⟨hv.1.1, by omega⟩ (by rcases hv.2 with q | q; exact Or.inl (by rw [i32_eq, i32_m1]; exact q); exact Or.inr ⟨q.1, by omega⟩) hm hF hW) rfl rfl (Nat.le_of_ble_eq_true rfl) (by decide) (by decide) (by decide) (by decide) (fun r I1 hq => ?_)
      obtain ⟨hp1, hp2⟩ := hq
      exact hr _ _ _ _ dX10_points_24 (rfl) (⟨by rw [if_pos hv]; exact hp1, hp2⟩)
    · refine r_iconst (v := -1) (pc := 16) h dX10_points_16 (by decide) ?_
      exact hr _ _ _ _ dX10_points_17 (rfl) (⟨by rw [if_neg (by (try simp only [b2i_eq0] at *); (try simp only [Int32.reduceToInt, Int64.reduceToInt, Int32.toInt_toInt64] at *); omega)], fun _ _ _ => rfl, fun _ _ _ => rfl⟩)
set_option maxRecDepth 100000 in
set_option maxHeartbeats 1000000 in
theorem c_X11_points (E : En) (I : Mem) (s : Int32) (w : Int32) (hc : 0 ≤ (I 151 1).toInt ∧ (I 151 1).toInt ≤ 9) (hcw : 0 ≤ (I 151 10).toInt ∧ (I 151 10).toInt ≤ 8) (hm : manOkR I) (hF : FlOkR I) (hW : RwOk I) (h22 : I 151 22 = 0) : Ctr E yX11_points cX11_points 3 (some .int) 6 [.ref (E.1 151), .int s, .int w] I (qI (fun (r : Int32) (I1 : Mem) => r = (if isS s (I 151 1) ∧ (-1 ≤ w.toInt ∧ w.toInt < (I 151 10).toInt) then ptR I s w else -1) ∧ frR I I1)) := by
  refine Ctr.openI (by decide) (Nat.le_of_ble_eq_true rfl) (fun g h hr => ?_)
  have h : Sem cX11_points RX11 3 (rmL 6) E g := h
  show g I 0 [(0, .ref (E.1 151)), (1, .int s), (2, .int w)] []
  have ec : (I 151 1 - 1).toInt = (I 151 1).toInt - 1 := tI_sub1 (by omega)
  have ecw : (I 151 10 - 1).toInt = (I 151 10).toInt - 1 := tI_sub1 (by omega)
  refine r_aload_n (pc := 0) h dX11_points_0 rfl ?_
  refine r_iload_n (pc := 1) h dX11_points_1 rfl ?_
  refine r_callVI (ci := 11) (pc := 2) h dX11_points_2 wm_X11_153 ca_X11_isStick rfl (c_X11_isStick E _ _) rfl rfl (Nat.le_of_ble_eq_true rfl) (by decide) (by decide) (by decide) (by decide) (fun r I1 hq => ?_)
  obtain ⟨rfl, rfl⟩ := hq
  refine r_if_eq (pc := 5) h 25 dX11_points_5 (by decide) (fun c5 => ?_) (fun c5 => ?_)
  · refine r_iconst (v := -1) (pc := 25) h dX11_points_25 (by decide) ?_
    exact hr _ _ _ _ dX11_points_26 (rfl) (by first | exact ⟨by rw [if_pos hv]; exact hp1, hp2⟩ | exact ⟨by rw [if_neg (by (try simp only [b2i_eq0] at *); (try simp only [Int32.reduceToInt, Int64.reduceToInt, Int32.toInt_toInt64] at *); omega)], fun _ _ _ => rfl, fun _ _ _ => rfl⟩)
  · refine r_aload_n (pc := 8) h dX11_points_8 rfl ?_
    refine r_iload_n (pc := 9) h dX11_points_9 rfl ?_
    refine r_callVI (ci := 11) (pc := 10) h dX11_points_10 wm_X11_233 ca_X11_isWind rfl (c_X11_isWind E _ _) rfl rfl (Nat.le_of_ble_eq_true rfl) (by decide) (by decide) (by decide) (by decide) (fun r I1 hq => ?_)
    obtain ⟨rfl, rfl⟩ := hq
    refine r_if_eq (pc := 13) h 25 dX11_points_13 (by decide) (fun c13 => ?_) (fun c13 => ?_)
    · refine r_iconst (v := -1) (pc := 25) h dX11_points_25 (by decide) ?_
      exact hr _ _ _ _ dX11_points_26 (rfl) (by first | exact ⟨by rw [if_pos hv]; exact hp1, hp2⟩ | exact ⟨by rw [if_neg (by (try simp only [b2i_eq0] at *); (try simp only [Int32.reduceToInt, Int64.reduceToInt, Int32.toInt_toInt64] at *); omega)], fun _ _ _ => rfl, fun _ _ _ => rfl⟩)
    · have hv : isS s (I 151 1) ∧ (-1 ≤ w.toInt ∧ w.toInt < (I 151 10).toInt) := by (try simp only [b2i_eq0] at *); (try simp only [Int32.reduceToInt, Int64.reduceToInt, Int32.toInt_toInt64] at *); omega
      refine r_aload_n (pc := 16) h dX11_points_16 rfl ?_
      refine r_iload_n (pc := 17) h dX11_points_17 rfl ?_
      refine r_iload_n (pc := 18) h dX11_points_18 rfl ?_
      refine r_callVI (ci := 11) (pc := 19) h dX11_points_19 wm_X11_273 ca_X11_pointsOf rfl (c_X11_pointsOf E _ _ _ ⟨hv.1.1, by omega⟩ (by omega) hm hF hW h22) rfl rfl (Nat.le_of_ble_eq_true rfl) (by decide) (by decide) (by decide) (by decide) (fun r I1 hq => ?_)
      obtain ⟨hp1, hp2⟩ := hq
      refine r_goto (pc := 22) h 26 dX11_points_22 (by decide) ?_
      exact hr _ _ _ _ dX11_points_26 (rfl) (by first | exact ⟨by rw [if_pos hv]; exact hp1, hp2⟩ | exact ⟨by rw [if_neg (by (try simp only [b2i_eq0] at *); (try simp only [Int32.reduceToInt, Int64.reduceToInt, Int32.toInt_toInt64] at *); omega)], fun _ _ _ => rfl, fun _ _ _ => rfl⟩)
