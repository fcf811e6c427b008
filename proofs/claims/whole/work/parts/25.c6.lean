/-! THE REFERENCE's flight: lift, step -/
def liftV (lf ho v6 : Int32) : Int32 := if 0 < ho then (if v6 < 300 then lf * v6 / 1000 + ho else lf * v6 / 1000) else if v6 < 100 then 0 else lf * v6 / 1000
def R_liftOf (I : Mem) (s : Int32) : Int32 := liftV (I 159 (4 * s + bandS (I 167 5)).toNatClampNeg) (I 153 s.toNatClampNeg) (I 167 6)
theorem bandS_bd (x : Int32) : 0 ≤ (bandS x).toInt ∧ (bandS x).toInt ≤ 3 := by
  unfold bandS
  split
  · decide
  · split
    · decide
    · split <;> decide
theorem bandH_bd (x : Int32) : 0 ≤ (bandH x).toInt ∧ (bandH x).toInt ≤ 3 := by
  unfold bandH
  split
  · decide
  · split
    · decide
    · split <;> decide
def rS1 (I : Mem) : Mem := upm I 151 20 (I 151 20 + 1)
def rS2 (I : Mem) (s : Int32) : Mem := upm I 167 3 (heldI (I 167 3 + (R_liftOf I s * R_cosine I (I 167 7) / 1000 - I 154 s.toNatClampNeg) / 10) (-80) 80)
def rS3 (I : Mem) : Mem := upm I 167 2 (I 167 2 + I 167 3)
def wayR (w : Int32) : Int32 := (w - w / 36000 * 36000 + 36000) - (w - w / 36000 * 36000 + 36000) / 36000 * 36000
def rS4 (I : Mem) (s bd : Int32) : Mem := upm I 167 4 (wayR (I 167 4 + (I 155 s.toNatClampNeg + bd) * I 167 6 * R_sine I (I 167 7) / 100000))
def rS5 (I : Mem) : Mem := upm I 167 0 (I 167 0 + I 167 5 * R_sine I (I 167 4 / 100) / 1000)
def rS6 (I : Mem) : Mem := upm I 167 1 (I 167 1 + I 167 5 * R_cosine I (I 167 4 / 100) / 1000)
def rS7 (I : Mem) (p : Nat) : Mem := upm I 167 0 (I 167 0 + I 161 p * R_sine I (I 162 p) / 1000)
def rS8 (I : Mem) (p : Nat) : Mem := upm I 167 1 (I 167 1 + I 161 p * R_cosine I (I 162 p) / 1000)
def rSw (I : Mem) (w : Int32) : Mem := if w < 0 then I else rS8 (rS7 I (4 * w + bandH (I 167 2)).toNatClampNeg) (4 * w + bandH (I 167 2)).toNatClampNeg
def rS9 (I : Mem) (s : Int32) : Mem := upm I 167 6 (heldI (I 167 6 - I 156 s.toNatClampNeg) 0 1000)
def rS10 (I : Mem) (s : Int32) : Mem := upm I 167 5 (heldI (I 167 5 - I 157 s.toNatClampNeg) 20 250)
def rS11 (I : Mem) : Mem := upm I 167 7 (if I 151 20 - I 151 20 / 4 * 4 = 0 then heldI (I 167 7 - 1) 0 90 else I 167 7)
def R_steps (I : Mem) (s bd w : Int32) : Mem := rS11 (rS10 (rS9 (rSw (rS6 (rS5 (rS4 (rS3 (rS2 (rS1 I) s)) s bd))) w) s) s)
theorem e36k : (36000 : Int32).toInt = 36000 := by decide
theorem wayR_bd (w : Int32) : 0 ≤ (wayR w).toInt ∧ (wayR w).toInt < 36000 := by
  unfold wayR
  have h1 := tI_rem (x := w) (y := 36000) (by rw [e36k]; omega)
  have hb := tmod_bounds (a := w.toInt) (M := 36000) (by omega)
  rw [e36k] at h1
  obtain ⟨z, hz⟩ : ∃ z, z = w - w / 36000 * 36000 + 36000 := ⟨_, rfl⟩
  have h2 : z.toInt = w.toInt.tmod 36000 + 36000 := by
    rw [hz, tI_add (by rw [h1, e36k]; omega) (by rw [h1, e36k]; omega), h1, e36k]
  rw [← hz, tI_rem (x := z) (y := 36000) (by rw [e36k]; omega), e36k, Int.tmod_eq_emod_of_nonneg (by omega)]
  omega
theorem e100 : (100 : Int32).toInt = 100 := by decide
theorem way100 {w : Int32} (h : 0 ≤ w.toInt ∧ w.toInt < 36000) : 0 ≤ (w / 100).toInt ∧ (w / 100).toInt ≤ 359 := by
  rw [tI_div (by rw [e100]; omega), e100, Int.tdiv_eq_ediv_of_nonneg h.1]
  omega
set_option maxRecDepth 100000 in
set_option maxHeartbeats 4000000 in
theorem c_X11_held (E : En) (I : Mem) (v : Int32) (lo : Int32) (hi : Int32)  : Ctr E yX11_held cX11_held 3 (some .int) 1 [.int v, .int lo, .int hi] I (qI (fun (r : Int32) (I1 : Mem) => r = heldI v lo hi ∧ I = I1)) := by
  refine Ctr.openI (by decide) (Nat.le_of_ble_eq_true rfl) (fun g h hr => ?_)
  have h : Sem cX11_held RX11 3 (rmL 1) E g := h
  show g I 0 [(0, .int v), (1, .int lo), (2, .int hi)] []
  refine r_iload_n (pc := 0) h dX11_held_0 rfl ?_
  refine r_iload_n (pc := 1) h dX11_held_1 rfl ?_
  refine r_icmp_ge (pc := 2) h 9 dX11_held_2 (by decide) (fun c2 => ?_) (fun c2 => ?_)
  · refine r_iload_n (pc := 9) h dX11_held_9 rfl ?_
    refine r_iload_n (pc := 10) h dX11_held_10 rfl ?_
    refine r_icmp_le (pc := 11) h 18 dX11_held_11 (by decide) (fun c11 => ?_) (fun c11 => ?_)
    · refine r_iload_n (pc := 18) h dX11_held_18 rfl ?_
      exact hr _ _ _ _ dX11_held_19 (rfl) (⟨by unfold heldI; first | rw [if_pos (by rw [Int32.lt_iff_toInt_lt]; rw [Int32.le_iff_toInt_le] at c2; omega)] | (rw [if_neg (by rw [Int32.lt_iff_toInt_lt]; rw [Int32.le_iff_toInt_le] at c2; omega)]; first | rw [if_pos (by rw [Int32.lt_iff_toInt_lt]; rw [Int32.le_iff_toInt_le] at c11; omega)] | rw [if_neg (by rw [Int32.lt_iff_toInt_lt]; rw [Int32.le_iff_toInt_le] at c11; omega)]), rfl⟩)
    · refine r_iload_n (pc := 14) h dX11_held_14 rfl ?_
      refine r_goto (pc := 15) h 19 dX11_held_15 (by decide) ?_
      exact hr _ _ _ _ dX11_held_19 (rfl) (⟨by unfold heldI; first | rw [if_pos (by rw [Int32.lt_iff_toInt_lt]; rw [Int32.le_iff_toInt_le] at c2; omega)] | (rw [if_neg (by rw [Int32.lt_iff_toInt_lt]; rw [Int32.le_iff_toInt_le] at c2; omega)]; first | rw [if_pos (by rw [Int32.lt_iff_toInt_lt]; rw [Int32.le_iff_toInt_le] at c11; omega)] | rw [if_neg (by rw [Int32.lt_iff_toInt_lt]; rw [Int32.le_iff_toInt_le] at c11; omega)]), rfl⟩)
  · refine r_iload_n (pc := 5) h dX11_held_5 rfl ?_
    refine r_goto (pc := 6) h 19 dX11_held_6 (by decide) ?_
    exact hr _ _ _ _ dX11_held_19 (rfl) (⟨by unfold heldI; first | rw [if_pos (by rw [Int32.lt_iff_toInt_lt]; rw [Int32.le_iff_toInt_le] at c2; omega)] | (rw [if_neg (by rw [Int32.lt_iff_toInt_lt]; rw [Int32.le_iff_toInt_le] at c2; omega)]; first | rw [if_pos (by rw [Int32.lt_iff_toInt_lt]; rw [Int32.le_iff_toInt_le] at c11; omega)] | rw [if_neg (by rw [Int32.lt_iff_toInt_lt]; rw [Int32.le_iff_toInt_le] at c11; omega)]), rfl⟩)
set_option maxRecDepth 100000 in
set_option maxHeartbeats 4000000 in
theorem c_X11_liftOf (E : En) (I : Mem) (s : Int32) (hs : 0 ≤ s.toInt ∧ s.toInt < 9) : Ctr E yX11_liftOf cX11_liftOf 4 (some .int) 1 [.ref (E.1 151), .int s] I (qI (fun (r : Int32) (I1 : Mem) => r = R_liftOf I s ∧ I = I1)) := by
  refine Ctr.openI (by decide) (Nat.le_of_ble_eq_true rfl) (fun g h hr => ?_)
  have h : Sem cX11_liftOf RX11 4 (rmL 1) E g := h
  show g I 0 [(0, .ref (E.1 151)), (1, .int s)] []
  have sub0 : ∀ (J : Mem) (lv : LV) (st : List Value), lk lv 0 = some (.ref (E.1 151)) → g J 47 lv (.int (bandS (J 167 5)) :: st) → g J 0 lv st := by
    intro J lv st hl0 kk
    refine r_aload_n (pc := 0) h dX11_liftOf_0 hl0 ?_
    refine gf_X11_60 (pc := 1) h dX11_liftOf_1 ?_
    refine r_iconst (v := 5) (pc := 4) h dX11_liftOf_4 (by decide) ?_
    refine r_ialdL (j := 5) (pc := 5) h dX11_liftOf_5 (by decide) (by decide) (by decide) (vin (by decide) (by decide)) ?_
    refine r_bipush (v := 60) (pc := 6) h dX11_liftOf_6 (by decide) ?_
    refine r_icmp_ge (pc := 8) h 15 dX11_liftOf_8 (by decide) (fun c8 => ?_) (fun c8 => ?_)
    · refine r_aload_n (pc := 15) h dX11_liftOf_15 hl0 ?_
      refine gf_X11_60 (pc := 16) h dX11_liftOf_16 ?_
      refine r_iconst (v := 5) (pc := 19) h dX11_liftOf_19 (by decide) ?_
      refine r_ialdL (j := 5) (pc := 20) h dX11_liftOf_20 (by decide) (by decide) (by decide) (vin (by decide) (by decide)) ?_
      refine r_bipush (v := 120) (pc := 21) h dX11_liftOf_21 (by decide) ?_
      refine r_icmp_ge (pc := 23) h 30 dX11_liftOf_23 (by decide) (fun c23 => ?_) (fun c23 => ?_)
      · refine r_aload_n (pc := 30) h dX11_liftOf_30 hl0 ?_
        refine gf_X11_60 (pc := 31) h dX11_liftOf_31 ?_
        refine r_iconst (v := 5) (pc := 34) h dX11_liftOf_34 (by decide) ?_
        refine r_ialdL (j := 5) (pc := 35) h dX11_liftOf_35 (by decide) (by decide) (by decide) (vin (by decide) (by decide)) ?_
        refine r_sipush (v := 180) (pc := 36) h dX11_liftOf_36 (by decide) ?_
        refine r_icmp_ge (pc := 39) h 46 dX11_liftOf_39 (by decide) (fun c39 => ?_) (fun c39 => ?_)
        · refine r_iconst (v := 3) (pc := 46) h dX11_liftOf_46 (by decide) ?_
          first
          | (rw [show bandS (J 167 5) = 3 by unfold bandS; rw [if_neg (by rw [Int32.lt_iff_toInt_lt]; rw [Int32.le_iff_toInt_le] at c8; omega), if_neg (by rw [Int32.lt_iff_toInt_lt]; rw [Int32.le_iff_toInt_le] at c23; omega), if_neg (by rw [Int32.lt_iff_toInt_lt]; rw [Int32.le_iff_toInt_le] at c39; omega)]] at kk; exact kk)
          | (rw [show bandS (J 167 5) = 2 by unfold bandS; rw [if_neg (by rw [Int32.lt_iff_toInt_lt]; rw [Int32.le_iff_toInt_le] at c8; omega), if_neg (by rw [Int32.lt_iff_toInt_lt]; rw [Int32.le_iff_toInt_le] at c23; omega), if_pos (by rw [Int32.lt_iff_toInt_lt]; rw [Int32.le_iff_toInt_le] at c39; omega)]] at kk; exact kk)
          | (rw [show bandS (J 167 5) = 1 by unfold bandS; rw [if_neg (by rw [Int32.lt_iff_toInt_lt]; rw [Int32.le_iff_toInt_le] at c8; omega), if_pos (by rw [Int32.lt_iff_toInt_lt]; rw [Int32.le_iff_toInt_le] at c23; omega)]] at kk; exact kk)
          | (rw [show bandS (J 167 5) = 0 by unfold bandS; rw [if_pos (by rw [Int32.lt_iff_toInt_lt]; rw [Int32.le_iff_toInt_le] at c8; omega)]] at kk; exact kk)
        · refine r_iconst (v := 2) (pc := 42) h dX11_liftOf_42 (by decide) ?_
          refine r_goto (pc := 43) h 47 dX11_liftOf_43 (by decide) ?_
          first
          | (rw [show bandS (J 167 5) = 3 by unfold bandS; rw [if_neg (by rw [Int32.lt_iff_toInt_lt]; rw [Int32.le_iff_toInt_le] at c8; omega), if_neg (by rw [Int32.lt_iff_toInt_lt]; rw [Int32.le_iff_toInt_le] at c23; omega), if_neg (by rw [Int32.lt_iff_toInt_lt]; rw [Int32.le_iff_toInt_le] at c39; omega)]] at kk; exact kk)
          | (rw [show bandS (J 167 5) = 2 by unfold bandS; rw [if_neg (by rw [Int32.lt_iff_toInt_lt]; rw [Int32.le_iff_toInt_le] at c8; omega), if_neg (by rw [Int32.lt_iff_toInt_lt]; rw [Int32.le_iff_toInt_le] at c23; omega), if_pos (by rw [Int32.lt_iff_toInt_lt]; rw [Int32.le_iff_toInt_le] at c39; omega)]] at kk; exact kk)
          | (rw [show bandS (J 167 5) = 1 by unfold bandS; rw [if_neg (by rw [Int32.lt_iff_toInt_lt]; rw [Int32.le_iff_toInt_le] at c8; omega), if_pos (by rw [Int32.lt_iff_toInt_lt]; rw [Int32.le_iff_toInt_le] at c23; omega)]] at kk; exact kk)
          | (rw [show bandS (J 167 5) = 0 by unfold bandS; rw [if_pos (by rw [Int32.lt_iff_toInt_lt]; rw [Int32.le_iff_toInt_le] at c8; omega)]] at kk; exact kk)
      · refine r_iconst (v := 1) (pc := 26) h dX11_liftOf_26 (by decide) ?_
        refine r_goto (pc := 27) h 47 dX11_liftOf_27 (by decide) ?_
        first
        | (rw [show bandS (J 167 5) = 3 by unfold bandS; rw [if_neg (by rw [Int32.lt_iff_toInt_lt]; rw [Int32.le_iff_toInt_le] at c8; omega), if_neg (by rw [Int32.lt_iff_toInt_lt]; rw [Int32.le_iff_toInt_le] at c23; omega), if_neg (by rw [Int32.lt_iff_toInt_lt]; rw [Int32.le_iff_toInt_le] at c39; omega)]] at kk; exact kk)
        | (rw [show bandS (J 167 5) = 2 by unfold bandS; rw [if_neg (by rw [Int32.lt_iff_toInt_lt]; rw [Int32.le_iff_toInt_le] at c8; omega), if_neg (by rw [Int32.lt_iff_toInt_lt]; rw [Int32.le_iff_toInt_le] at c23; omega), if_pos (by rw [Int32.lt_iff_toInt_lt]; rw [Int32.le_iff_toInt_le] at c39; omega)]] at kk; exact kk)
        | (rw [show bandS (J 167 5) = 1 by unfold bandS; rw [if_neg (by rw [Int32.lt_iff_toInt_lt]; rw [Int32.le_iff_toInt_le] at c8; omega), if_pos (by rw [Int32.lt_iff_toInt_lt]; rw [Int32.le_iff_toInt_le] at c23; omega)]] at kk; exact kk)
        | (rw [show bandS (J 167 5) = 0 by unfold bandS; rw [if_pos (by rw [Int32.lt_iff_toInt_lt]; rw [Int32.le_iff_toInt_le] at c8; omega)]] at kk; exact kk)
    · refine r_iconst (v := 0) (pc := 11) h dX11_liftOf_11 (by decide) ?_
      refine r_goto (pc := 12) h 47 dX11_liftOf_12 (by decide) ?_
      first
      | (rw [show bandS (J 167 5) = 3 by unfold bandS; rw [if_neg (by rw [Int32.lt_iff_toInt_lt]; rw [Int32.le_iff_toInt_le] at c8; omega), if_neg (by rw [Int32.lt_iff_toInt_lt]; rw [Int32.le_iff_toInt_le] at c23; omega), if_neg (by rw [Int32.lt_iff_toInt_lt]; rw [Int32.le_iff_toInt_le] at c39; omega)]] at kk; exact kk)
      | (rw [show bandS (J 167 5) = 2 by unfold bandS; rw [if_neg (by rw [Int32.lt_iff_toInt_lt]; rw [Int32.le_iff_toInt_le] at c8; omega), if_neg (by rw [Int32.lt_iff_toInt_lt]; rw [Int32.le_iff_toInt_le] at c23; omega), if_pos (by rw [Int32.lt_iff_toInt_lt]; rw [Int32.le_iff_toInt_le] at c39; omega)]] at kk; exact kk)
      | (rw [show bandS (J 167 5) = 1 by unfold bandS; rw [if_neg (by rw [Int32.lt_iff_toInt_lt]; rw [Int32.le_iff_toInt_le] at c8; omega), if_pos (by rw [Int32.lt_iff_toInt_lt]; rw [Int32.le_iff_toInt_le] at c23; omega)]] at kk; exact kk)
      | (rw [show bandS (J 167 5) = 0 by unfold bandS; rw [if_pos (by rw [Int32.lt_iff_toInt_lt]; rw [Int32.le_iff_toInt_le] at c8; omega)]] at kk; exact kk)
  refine sub0 _ _ _ rfl ?_
  refine r_istore_n (pc := 47) h dX11_liftOf_47 (by decide) ?_
  have hb5 := bandS_bd (I 167 5)
  have e4 := m4_tI (s := s) (b := bandS (I 167 5)) (n := 9) (by omega) (by omega) hb5 (by omega)
  refine r_aload_n (pc := 48) h dX11_liftOf_48 rfl ?_
  refine gf_X11_31 (pc := 49) h dX11_liftOf_49 ?_
  refine r_iconst (v := 4) (pc := 52) h dX11_liftOf_52 (by decide) ?_
  refine r_iload_n (pc := 53) h dX11_liftOf_53 rfl ?_
  refine r_imul (pc := 54) h dX11_liftOf_54 ?_
  refine r_iload_n (pc := 55) h dX11_liftOf_55 rfl ?_
  refine r_iadd (pc := 56) h dX11_liftOf_56 ?_
  refine r_iald (pc := 57) h dX11_liftOf_57 (by decide) (by decide) (vin (n := 36) (by omega) (by omega)) ?_
  refine r_aload_n (pc := 58) h dX11_liftOf_58 rfl ?_
  refine gf_X11_60 (pc := 59) h dX11_liftOf_59 ?_
  refine r_bipush (v := 6) (pc := 62) h dX11_liftOf_62 (by decide) ?_
  refine r_ialdL (j := 6) (pc := 64) h dX11_liftOf_64 (by decide) (by decide) (by decide) (vin (by decide) (by decide)) ?_
  refine r_imul (pc := 65) h dX11_liftOf_65 ?_
  refine r_sipush (v := 1000) (pc := 66) h dX11_liftOf_66 (by decide) ?_
  refine r_idiv (pc := 69) h dX11_liftOf_69 (by decide) ?_
  refine r_istore_n (pc := 70) h dX11_liftOf_70 (by decide) ?_
  refine r_aload_n (pc := 71) h dX11_liftOf_71 rfl ?_
  refine gf_X11_13 (pc := 72) h dX11_liftOf_72 ?_
  refine r_iload_n (pc := 75) h dX11_liftOf_75 rfl ?_
  refine r_iald (pc := 76) h dX11_liftOf_76 (by decide) (by decide) (vin (n := 9) (by omega) (by omega)) ?_
  refine r_if_le (pc := 77) h 106 dX11_liftOf_77 (by decide) (fun c77 => ?_) (fun c77 => ?_)
  · refine r_aload_n (pc := 106) h dX11_liftOf_106 rfl ?_
    refine gf_X11_60 (pc := 107) h dX11_liftOf_107 ?_
    refine r_bipush (v := 6) (pc := 110) h dX11_liftOf_110 (by decide) ?_
    refine r_ialdL (j := 6) (pc := 112) h dX11_liftOf_112 (by decide) (by decide) (by decide) (vin (by decide) (by decide)) ?_
    refine r_bipush (v := 100) (pc := 113) h dX11_liftOf_113 (by decide) ?_
    refine r_icmp_ge (pc := 115) h 122 dX11_liftOf_115 (by decide) (fun c115 => ?_) (fun c115 => ?_)
    · refine r_iload_n (pc := 122) h dX11_liftOf_122 rfl ?_
      exact hr _ _ _ _ dX11_liftOf_123 (rfl) (⟨by unfold R_liftOf liftV; first | (rw [if_pos (by rw [Int32.lt_iff_toInt_lt]; rw [Int32.le_iff_toInt_le] at c77; omega)]; first | rw [if_pos (by rw [Int32.lt_iff_toInt_lt]; rw [Int32.le_iff_toInt_le] at c90; omega)] | rw [if_neg (by rw [Int32.lt_iff_toInt_lt]; rw [Int32.le_iff_toInt_le] at c90; omega)]) | (rw [if_neg (by rw [Int32.lt_iff_toInt_lt]; rw [Int32.le_iff_toInt_le] at c77; omega)]; first | rw [if_pos (by rw [Int32.lt_iff_toInt_lt]; rw [Int32.le_iff_toInt_le] at c115; omega)] | rw [if_neg (by rw [Int32.lt_iff_toInt_lt]; rw [Int32.le_iff_toInt_le] at c115; omega)]), rfl⟩)
    · refine r_iconst (v := 0) (pc := 118) h dX11_liftOf_118 (by decide) ?_
      refine r_goto (pc := 119) h 123 dX11_liftOf_119 (by decide) ?_
      exact hr _ _ _ _ dX11_liftOf_123 (rfl) (⟨by unfold R_liftOf liftV; first | (rw [if_pos (by rw [Int32.lt_iff_toInt_lt]; rw [Int32.le_iff_toInt_le] at c77; omega)]; first | rw [if_pos (by rw [Int32.lt_iff_toInt_lt]; rw [Int32.le_iff_toInt_le] at c90; omega)] | rw [if_neg (by rw [Int32.lt_iff_toInt_lt]; rw [Int32.le_iff_toInt_le] at c90; omega)]) | (rw [if_neg (by rw [Int32.lt_iff_toInt_lt]; rw [Int32.le_iff_toInt_le] at c77; omega)]; first | rw [if_pos (by rw [Int32.lt_iff_toInt_lt]; rw [Int32.le_iff_toInt_le] at c115; omega)] | rw [if_neg (by rw [Int32.lt_iff_toInt_lt]; rw [Int32.le_iff_toInt_le] at c115; omega)]), rfl⟩)
  · refine r_aload_n (pc := 80) h dX11_liftOf_80 rfl ?_
    refine gf_X11_60 (pc := 81) h dX11_liftOf_81 ?_
    refine r_bipush (v := 6) (pc := 84) h dX11_liftOf_84 (by decide) ?_
    refine r_ialdL (j := 6) (pc := 86) h dX11_liftOf_86 (by decide) (by decide) (by decide) (vin (by decide) (by decide)) ?_
    refine r_sipush (v := 300) (pc := 87) h dX11_liftOf_87 (by decide) ?_
    refine r_icmp_ge (pc := 90) h 104 dX11_liftOf_90 (by decide) (fun c90 => ?_) (fun c90 => ?_)
    · refine r_iload_n (pc := 104) h dX11_liftOf_104 rfl ?_
      exact hr _ _ _ _ dX11_liftOf_105 (rfl) (⟨by unfold R_liftOf liftV; first | (rw [if_pos (by rw [Int32.lt_iff_toInt_lt]; rw [Int32.le_iff_toInt_le] at c77; omega)]; first | rw [if_pos (by rw [Int32.lt_iff_toInt_lt]; rw [Int32.le_iff_toInt_le] at c90; omega)] | rw [if_neg (by rw [Int32.lt_iff_toInt_lt]; rw [Int32.le_iff_toInt_le] at c90; omega)]) | (rw [if_neg (by rw [Int32.lt_iff_toInt_lt]; rw [Int32.le_iff_toInt_le] at c77; omega)]; first | rw [if_pos (by rw [Int32.lt_iff_toInt_lt]; rw [Int32.le_iff_toInt_le] at c115; omega)] | rw [if_neg (by rw [Int32.lt_iff_toInt_lt]; rw [Int32.le_iff_toInt_le] at c115; omega)]), rfl⟩)
    · refine r_iload_n (pc := 93) h dX11_liftOf_93 rfl ?_
      refine r_aload_n (pc := 94) h dX11_liftOf_94 rfl ?_
      refine gf_X11_13 (pc := 95) h dX11_liftOf_95 ?_
      refine r_iload_n (pc := 98) h dX11_liftOf_98 rfl ?_
      refine r_iald (pc := 99) h dX11_liftOf_99 (by decide) (by decide) (vin (n := 9) (by omega) (by omega)) ?_
      refine r_iadd (pc := 100) h dX11_liftOf_100 ?_
      refine r_goto (pc := 101) h 105 dX11_liftOf_101 (by decide) ?_
      exact hr _ _ _ _ dX11_liftOf_105 (rfl) (⟨by unfold R_liftOf liftV; first | (rw [if_pos (by rw [Int32.lt_iff_toInt_lt]; rw [Int32.le_iff_toInt_le] at c77; omega)]; first | rw [if_pos (by rw [Int32.lt_iff_toInt_lt]; rw [Int32.le_iff_toInt_le] at c90; omega)] | rw [if_neg (by rw [Int32.lt_iff_toInt_lt]; rw [Int32.le_iff_toInt_le] at c90; omega)]) | (rw [if_neg (by rw [Int32.lt_iff_toInt_lt]; rw [Int32.le_iff_toInt_le] at c77; omega)]; first | rw [if_pos (by rw [Int32.lt_iff_toInt_lt]; rw [Int32.le_iff_toInt_le] at c115; omega)] | rw [if_neg (by rw [Int32.lt_iff_toInt_lt]; rw [Int32.le_iff_toInt_le] at c115; omega)]), rfl⟩)
set_option maxRecDepth 100000 in
set_option maxHeartbeats 4000000 in
theorem c_X11_steps (E : En) (I : Mem) (s : Int32) (bd : Int32) (w : Int32) (hs : 0 ≤ s.toInt ∧ s.toInt < 9) (hw : w.toInt < 8) (hl : 0 ≤ (I 167 7).toInt ∧ (I 167 7).toInt ≤ 90) (ht : ∀ p, p < 32 → 0 ≤ (I 162 p).toInt ∧ (I 162 p).toInt ≤ 359) : Ctr E yX11_steps cX11_steps 6 none 3 [.ref (E.1 151), .int s, .int bd, .int w] I (qV (fun I1 : Mem => I1 = R_steps I s bd w)) := by
  refine Ctr.openV (by decide) (Nat.le_of_ble_eq_true rfl) (fun g h hr => ?_)
  have h : Sem cX11_steps RX11 6 (rmL 3) E g := h
  show g I 0 [(0, .ref (E.1 151)), (1, .int s), (2, .int bd), (3, .int w)] []
  have sub206 : ∀ (J : Mem) (lv : LV) (st : List Value), lk lv 0 = some (.ref (E.1 151)) → g J 255 lv (.int (bandH (J 167 2)) :: st) → g J 206 lv st := by
    intro J lv st hl0 kk
    refine r_aload_n (pc := 206) h dX11_steps_206 hl0 ?_
    refine gf_X11_60 (pc := 207) h dX11_steps_207 ?_
    refine r_iconst (v := 2) (pc := 210) h dX11_steps_210 (by decide) ?_
    refine r_ialdL (j := 2) (pc := 211) h dX11_steps_211 (by decide) (by decide) (by decide) (vin (by decide) (by decide)) ?_
    refine r_sipush (v := 200) (pc := 212) h dX11_steps_212 (by decide) ?_
    refine r_icmp_ge (pc := 215) h 222 dX11_steps_215 (by decide) (fun c215 => ?_) (fun c215 => ?_)
    · refine r_aload_n (pc := 222) h dX11_steps_222 hl0 ?_
      refine gf_X11_60 (pc := 223) h dX11_steps_223 ?_
      refine r_iconst (v := 2) (pc := 226) h dX11_steps_226 (by decide) ?_
      refine r_ialdL (j := 2) (pc := 227) h dX11_steps_227 (by decide) (by decide) (by decide) (vin (by decide) (by decide)) ?_
      refine r_sipush (v := 500) (pc := 228) h dX11_steps_228 (by decide) ?_
      refine r_icmp_ge (pc := 231) h 238 dX11_steps_231 (by decide) (fun c231 => ?_) (fun c231 => ?_)
      · refine r_aload_n (pc := 238) h dX11_steps_238 hl0 ?_
        refine gf_X11_60 (pc := 239) h dX11_steps_239 ?_
        refine r_iconst (v := 2) (pc := 242) h dX11_steps_242 (by decide) ?_
        refine r_ialdL (j := 2) (pc := 243) h dX11_steps_243 (by decide) (by decide) (by decide) (vin (by decide) (by decide)) ?_
        refine r_sipush (v := 1000) (pc := 244) h dX11_steps_244 (by decide) ?_
        refine r_icmp_ge (pc := 247) h 254 dX11_steps_247 (by decide) (fun c247 => ?_) (fun c247 => ?_)
        · refine r_iconst (v := 3) (pc := 254) h dX11_steps_254 (by decide) ?_
          first
          | (rw [show bandH (J 167 2) = 3 by unfold bandH; rw [if_neg (by rw [Int32.lt_iff_toInt_lt]; rw [Int32.le_iff_toInt_le] at c215; omega), if_neg (by rw [Int32.lt_iff_toInt_lt]; rw [Int32.le_iff_toInt_le] at c231; omega), if_neg (by rw [Int32.lt_iff_toInt_lt]; rw [Int32.le_iff_toInt_le] at c247; omega)]] at kk; exact kk)
          | (rw [show bandH (J 167 2) = 2 by unfold bandH; rw [if_neg (by rw [Int32.lt_iff_toInt_lt]; rw [Int32.le_iff_toInt_le] at c215; omega), if_neg (by rw [Int32.lt_iff_toInt_lt]; rw [Int32.le_iff_toInt_le] at c231; omega), if_pos (by rw [Int32.lt_iff_toInt_lt]; rw [Int32.le_iff_toInt_le] at c247; omega)]] at kk; exact kk)
          | (rw [show bandH (J 167 2) = 1 by unfold bandH; rw [if_neg (by rw [Int32.lt_iff_toInt_lt]; rw [Int32.le_iff_toInt_le] at c215; omega), if_pos (by rw [Int32.lt_iff_toInt_lt]; rw [Int32.le_iff_toInt_le] at c231; omega)]] at kk; exact kk)
          | (rw [show bandH (J 167 2) = 0 by unfold bandH; rw [if_pos (by rw [Int32.lt_iff_toInt_lt]; rw [Int32.le_iff_toInt_le] at c215; omega)]] at kk; exact kk)
        · refine r_iconst (v := 2) (pc := 250) h dX11_steps_250 (by decide) ?_
          refine r_goto (pc := 251) h 255 dX11_steps_251 (by decide) ?_
          first
          | (rw [show bandH (J 167 2) = 3 by unfold bandH; rw [if_neg (by rw [Int32.lt_iff_toInt_lt]; rw [Int32.le_iff_toInt_le] at c215; omega), if_neg (by rw [Int32.lt_iff_toInt_lt]; rw [Int32.le_iff_toInt_le] at c231; omega), if_neg (by rw [Int32.lt_iff_toInt_lt]; rw [Int32.le_iff_toInt_le] at c247; omega)]] at kk; exact kk)
          | (rw [show bandH (J 167 2) = 2 by unfold bandH; rw [if_neg (by rw [Int32.lt_iff_toInt_lt]; rw [Int32.le_iff_toInt_le] at c215; omega), if_neg (by rw [Int32.lt_iff_toInt_lt]; rw [Int32.le_iff_toInt_le] at c231; omega), if_pos (by rw [Int32.lt_iff_toInt_lt]; rw [Int32.le_iff_toInt_le] at c247; omega)]] at kk; exact kk)
          | (rw [show bandH (J 167 2) = 1 by unfold bandH; rw [if_neg (by rw [Int32.lt_iff_toInt_lt]; rw [Int32.le_iff_toInt_le] at c215; omega), if_pos (by rw [Int32.lt_iff_toInt_lt]; rw [Int32.le_iff_toInt_le] at c231; omega)]] at kk; exact kk)
          | (rw [show bandH (J 167 2) = 0 by unfold bandH; rw [if_pos (by rw [Int32.lt_iff_toInt_lt]; rw [Int32.le_iff_toInt_le] at c215; omega)]] at kk; exact kk)
      · refine r_iconst (v := 1) (pc := 234) h dX11_steps_234 (by decide) ?_
        refine r_goto (pc := 235) h 255 dX11_steps_235 (by decide) ?_
        first
        | (rw [show bandH (J 167 2) = 3 by unfold bandH; rw [if_neg (by rw [Int32.lt_iff_toInt_lt]; rw [Int32.le_iff_toInt_le] at c215; omega), if_neg (by rw [Int32.lt_iff_toInt_lt]; rw [Int32.le_iff_toInt_le] at c231; omega), if_neg (by rw [Int32.lt_iff_toInt_lt]; rw [Int32.le_iff_toInt_le] at c247; omega)]] at kk; exact kk)
        | (rw [show bandH (J 167 2) = 2 by unfold bandH; rw [if_neg (by rw [Int32.lt_iff_toInt_lt]; rw [Int32.le_iff_toInt_le] at c215; omega), if_neg (by rw [Int32.lt_iff_toInt_lt]; rw [Int32.le_iff_toInt_le] at c231; omega), if_pos (by rw [Int32.lt_iff_toInt_lt]; rw [Int32.le_iff_toInt_le] at c247; omega)]] at kk; exact kk)
        | (rw [show bandH (J 167 2) = 1 by unfold bandH; rw [if_neg (by rw [Int32.lt_iff_toInt_lt]; rw [Int32.le_iff_toInt_le] at c215; omega), if_pos (by rw [Int32.lt_iff_toInt_lt]; rw [Int32.le_iff_toInt_le] at c231; omega)]] at kk; exact kk)
        | (rw [show bandH (J 167 2) = 0 by unfold bandH; rw [if_pos (by rw [Int32.lt_iff_toInt_lt]; rw [Int32.le_iff_toInt_le] at c215; omega)]] at kk; exact kk)
    · refine r_iconst (v := 0) (pc := 218) h dX11_steps_218 (by decide) ?_
      refine r_goto (pc := 219) h 255 dX11_steps_219 (by decide) ?_
      first
      | (rw [show bandH (J 167 2) = 3 by unfold bandH; rw [if_neg (by rw [Int32.lt_iff_toInt_lt]; rw [Int32.le_iff_toInt_le] at c215; omega), if_neg (by rw [Int32.lt_iff_toInt_lt]; rw [Int32.le_iff_toInt_le] at c231; omega), if_neg (by rw [Int32.lt_iff_toInt_lt]; rw [Int32.le_iff_toInt_le] at c247; omega)]] at kk; exact kk)
      | (rw [show bandH (J 167 2) = 2 by unfold bandH; rw [if_neg (by rw [Int32.lt_iff_toInt_lt]; rw [Int32.le_iff_toInt_le] at c215; omega), if_neg (by rw [Int32.lt_iff_toInt_lt]; rw [Int32.le_iff_toInt_le] at c231; omega), if_pos (by rw [Int32.lt_iff_toInt_lt]; rw [Int32.le_iff_toInt_le] at c247; omega)]] at kk; exact kk)
      | (rw [show bandH (J 167 2) = 1 by unfold bandH; rw [if_neg (by rw [Int32.lt_iff_toInt_lt]; rw [Int32.le_iff_toInt_le] at c215; omega), if_pos (by rw [Int32.lt_iff_toInt_lt]; rw [Int32.le_iff_toInt_le] at c231; omega)]] at kk; exact kk)
      | (rw [show bandH (J 167 2) = 0 by unfold bandH; rw [if_pos (by rw [Int32.lt_iff_toInt_lt]; rw [Int32.le_iff_toInt_le] at c215; omega)]] at kk; exact kk)
  have sub383 : ∀ (J : Mem) (lv : LV) (st : List Value), lk lv 0 = some (.ref (E.1 151)) → (st.map fun v => v.category).sum ≤ 6 → g J 417 lv (.int (if J 151 20 - J 151 20 / 4 * 4 = 0 then heldI (J 167 7 - 1) 0 90 else J 167 7) :: st) → g J 383 lv st := by
    intro J lv st hl0 hcat kk
    refine r_aload_n (pc := 383) h dX11_steps_383 hl0 ?_
    refine gf_X11_189 (pc := 384) h dX11_steps_384 ?_
    refine r_iconst (v := 4) (pc := 387) h dX11_steps_387 (by decide) ?_
    refine r_irem (pc := 388) h dX11_steps_388 (by decide) ?_
    refine r_if_ne (pc := 389) h 410 dX11_steps_389 (by decide) (fun c389 => ?_) (fun c389 => ?_)
    · refine r_aload_n (pc := 410) h dX11_steps_410 hl0 ?_
      refine gf_X11_60 (pc := 411) h dX11_steps_411 ?_
      refine r_bipush (v := 7) (pc := 414) h dX11_steps_414 (by decide) ?_
      refine r_ialdL (j := 7) (pc := 416) h dX11_steps_416 (by decide) (by decide) (by decide) (vin (by decide) (by decide)) ?_
      first
      | (rw [if_pos c389] at kk; exact kk)
      | (rw [if_neg c389] at kk; exact kk)
    · refine r_aload_n (pc := 392) h dX11_steps_392 hl0 ?_
      refine gf_X11_60 (pc := 393) h dX11_steps_393 ?_
      refine r_bipush (v := 7) (pc := 396) h dX11_steps_396 (by decide) ?_
      refine r_ialdL (j := 7) (pc := 398) h dX11_steps_398 (by decide) (by decide) (by decide) (vin (by decide) (by decide)) ?_
      refine r_iconst (v := 1) (pc := 399) h dX11_steps_399 (by decide) ?_
      refine r_isub (pc := 400) h dX11_steps_400 ?_
      refine r_iconst (v := 0) (pc := 401) h dX11_steps_401 (by decide) ?_
      refine r_bipush (v := 90) (pc := 402) h dX11_steps_402 (by decide) ?_
      refine r_callSI (pc := 404) h dX11_steps_404 wm_X11_195 ca_X11_held (c_X11_held E _ _ _ _) rfl rfl (by first | exact Nat.le_trans hcat (by decide) | (simp only [List.map_cons, List.sum_cons, show ∀ x, (Value.int x).category = 1 from fun _ => rfl, show ∀ x, (Value.ref x).category = 1 from fun _ => rfl]; omega)) (by decide) (fun r I1 hq => ?_)
      obtain ⟨rfl, rfl⟩ := hq
      refine r_goto (pc := 407) h 417 dX11_steps_407 (by decide) ?_
      first
      | (rw [if_pos c389] at kk; exact kk)
      | (rw [if_neg c389] at kk; exact kk)
  refine r_aload_n (pc := 0) h dX11_steps_0 rfl ?_
  refine r_dup (pc := 1) h dX11_steps_1 rfl ?_
  refine gf_X11_189 (pc := 2) h dX11_steps_2 ?_
  refine r_iconst (v := 1) (pc := 5) h dX11_steps_5 (by decide) ?_
  refine r_iadd (pc := 6) h dX11_steps_6 ?_
  refine pf_X11_189 (pc := 7) h dX11_steps_7 ?_
  refine r_nmG (fun M1 hM1 => ?_)
  have hM1 : M1 = rS1 I := hM1
  have hl1 : 0 ≤ (M1 167 7).toInt ∧ (M1 167 7).toInt ≤ 90 := by rw [hM1]; exact hl
  have ht1 : ∀ p, p < 32 → 0 ≤ (M1 162 p).toInt ∧ (M1 162 p).toInt ≤ 359 := by rw [hM1]; exact ht
  refine r_aload_n (pc := 10) h dX11_steps_10 rfl ?_
  refine gf_X11_60 (pc := 11) h dX11_steps_11 ?_
  refine r_iconst (v := 3) (pc := 14) h dX11_steps_14 (by decide) ?_
  refine r_aload_n (pc := 15) h dX11_steps_15 rfl ?_
  refine gf_X11_60 (pc := 16) h dX11_steps_16 ?_
  refine r_iconst (v := 3) (pc := 19) h dX11_steps_19 (by decide) ?_
  refine r_ialdL (j := 3) (pc := 20) h dX11_steps_20 (by decide) (by decide) (by decide) (vin (by decide) (by decide)) ?_
  refine r_aload_n (pc := 21) h dX11_steps_21 rfl ?_
  refine r_iload_n (pc := 22) h dX11_steps_22 rfl ?_
  refine r_callVI (ci := 11) (pc := 23) h dX11_steps_23 wm_X11_192 ca_X11_liftOf rfl (c_X11_liftOf E _ _ hs) rfl rfl (Nat.le_of_ble_eq_true rfl) (by decide) (by decide) (by decide) (by decide) (fun r I1 hq => ?_)
  obtain ⟨rfl, rfl⟩ := hq
  refine r_aload_n (pc := 26) h dX11_steps_26 rfl ?_
  refine r_aload_n (pc := 27) h dX11_steps_27 rfl ?_
  refine gf_X11_60 (pc := 28) h dX11_steps_28 ?_
  refine r_bipush (v := 7) (pc := 31) h dX11_steps_31 (by decide) ?_
  refine r_ialdL (j := 7) (pc := 33) h dX11_steps_33 (by decide) (by decide) (by decide) (vin (by decide) (by decide)) ?_
  refine r_callVI (ci := 11) (pc := 34) h dX11_steps_34 wm_X11_133 ca_X11_cosine rfl (c_X11_cosine E _ _ ⟨hl1.1, Int.le_trans hl1.2 (by decide)⟩) rfl rfl (Nat.le_of_ble_eq_true rfl) (by decide) (by decide) (by decide) (by decide) (fun r I1 hq => ?_)
  obtain ⟨rfl, rfl⟩ := hq
  refine r_imul (pc := 37) h dX11_steps_37 ?_
  refine r_sipush (v := 1000) (pc := 38) h dX11_steps_38 (by decide) ?_
  refine r_idiv (pc := 41) h dX11_steps_41 (by decide) ?_
  refine r_aload_n (pc := 42) h dX11_steps_42 rfl ?_
  refine gf_X11_16 (pc := 43) h dX11_steps_43 ?_
  refine r_iload_n (pc := 46) h dX11_steps_46 rfl ?_
  refine r_iald (pc := 47) h dX11_steps_47 (by decide) (by decide) (vin (n := 9) (by omega) (by omega)) ?_
  refine r_isub (pc := 48) h dX11_steps_48 ?_
  refine r_bipush (v := 10) (pc := 49) h dX11_steps_49 (by decide) ?_
  refine r_idiv (pc := 51) h dX11_steps_51 (by decide) ?_
  refine r_iadd (pc := 52) h dX11_steps_52 ?_
  refine r_bipush (v := -80) (pc := 53) h dX11_steps_53 (by decide) ?_
  refine r_bipush (v := 80) (pc := 55) h dX11_steps_55 (by decide) ?_
  refine r_callSI (pc := 57) h dX11_steps_57 wm_X11_195 ca_X11_held (c_X11_held E _ _ _ _) rfl rfl (Nat.le_of_ble_eq_true rfl) (by decide) (fun r I1 hq => ?_)
  obtain ⟨rfl, rfl⟩ := hq
  refine r_iastL (j := 3) (pc := 60) h dX11_steps_60 (by decide) (by decide) (by decide) (vin (by decide) (by decide)) ?_
  refine r_nmG (fun M2 hM2 => ?_)
  have hM2 : M2 = rS2 M1 s := hM2
  have hl2 : 0 ≤ (M2 167 7).toInt ∧ (M2 167 7).toInt ≤ 90 := by rw [hM2]; exact hl1
  have ht2 : ∀ p, p < 32 → 0 ≤ (M2 162 p).toInt ∧ (M2 162 p).toInt ≤ 359 := by rw [hM2]; exact ht1
  refine r_aload_n (pc := 61) h dX11_steps_61 rfl ?_
  refine gf_X11_60 (pc := 62) h dX11_steps_62 ?_
  refine r_iconst (v := 2) (pc := 65) h dX11_steps_65 (by decide) ?_
  refine r_dup2 (pc := 66) h dX11_steps_66 rfl rfl ?_
  refine r_ialdL (j := 2) (pc := 67) h dX11_steps_67 (by decide) (by decide) (by decide) (vin (by decide) (by decide)) ?_
  refine r_aload_n (pc := 68) h dX11_steps_68 rfl ?_
  refine gf_X11_60 (pc := 69) h dX11_steps_69 ?_
  refine r_iconst (v := 3) (pc := 72) h dX11_steps_72 (by decide) ?_
  refine r_ialdL (j := 3) (pc := 73) h dX11_steps_73 (by decide) (by decide) (by decide) (vin (by decide) (by decide)) ?_
  refine r_iadd (pc := 74) h dX11_steps_74 ?_
  refine r_iastL (j := 2) (pc := 75) h dX11_steps_75 (by decide) (by decide) (by decide) (vin (by decide) (by decide)) ?_
  refine r_nmG (fun M3 hM3 => ?_)
  have hM3 : M3 = rS3 M2 := hM3
  have hl3 : 0 ≤ (M3 167 7).toInt ∧ (M3 167 7).toInt ≤ 90 := by rw [hM3]; exact hl2
  have ht3 : ∀ p, p < 32 → 0 ≤ (M3 162 p).toInt ∧ (M3 162 p).toInt ≤ 359 := by rw [hM3]; exact ht2
  refine r_aload_n (pc := 76) h dX11_steps_76 rfl ?_
  refine gf_X11_60 (pc := 77) h dX11_steps_77 ?_
  refine r_iconst (v := 4) (pc := 80) h dX11_steps_80 (by decide) ?_
  refine r_ialdL (j := 4) (pc := 81) h dX11_steps_81 (by decide) (by decide) (by decide) (vin (by decide) (by decide)) ?_
  refine r_aload_n (pc := 82) h dX11_steps_82 rfl ?_
  refine gf_X11_19 (pc := 83) h dX11_steps_83 ?_
  refine r_iload_n (pc := 86) h dX11_steps_86 rfl ?_
  refine r_iald (pc := 87) h dX11_steps_87 (by decide) (by decide) (vin (n := 9) (by omega) (by omega)) ?_
  refine r_iload_n (pc := 88) h dX11_steps_88 rfl ?_
  refine r_iadd (pc := 89) h dX11_steps_89 ?_
  refine r_aload_n (pc := 90) h dX11_steps_90 rfl ?_
  refine gf_X11_60 (pc := 91) h dX11_steps_91 ?_
  refine r_bipush (v := 6) (pc := 94) h dX11_steps_94 (by decide) ?_
  refine r_ialdL (j := 6) (pc := 96) h dX11_steps_96 (by decide) (by decide) (by decide) (vin (by decide) (by decide)) ?_
  refine r_imul (pc := 97) h dX11_steps_97 ?_
  refine r_aload_n (pc := 98) h dX11_steps_98 rfl ?_
  refine r_aload_n (pc := 99) h dX11_steps_99 rfl ?_
  refine gf_X11_60 (pc := 100) h dX11_steps_100 ?_
  refine r_bipush (v := 7) (pc := 103) h dX11_steps_103 (by decide) ?_
  refine r_ialdL (j := 7) (pc := 105) h dX11_steps_105 (by decide) (by decide) (by decide) (vin (by decide) (by decide)) ?_
  refine r_callVI (ci := 11) (pc := 106) h dX11_steps_106 wm_X11_123 ca_X11_sine rfl (c_X11_sine E _ _ ⟨hl3.1, Int.le_trans hl3.2 (by decide)⟩) rfl rfl (Nat.le_of_ble_eq_true rfl) (by decide) (by decide) (by decide) (by decide) (fun r I1 hq => ?_)
  obtain ⟨rfl, rfl⟩ := hq
  refine r_imul (pc := 109) h dX11_steps_109 ?_
  refine r_ldc (pc := 110) h dX11_steps_110 wc_X11_199 ?_
  refine r_idiv (pc := 112) h dX11_steps_112 (by decide) ?_
  refine r_iadd (pc := 113) h dX11_steps_113 ?_
  refine r_istore (pc := 114) h dX11_steps_114 (by decide) ?_
  refine r_aload_n (pc := 116) h dX11_steps_116 rfl ?_
  refine gf_X11_60 (pc := 117) h dX11_steps_117 ?_
  refine r_iconst (v := 4) (pc := 120) h dX11_steps_120 (by decide) ?_
  refine r_iload (pc := 121) h dX11_steps_121 rfl ?_
  refine r_ldc (pc := 123) h dX11_steps_123 wc_X11_200 ?_
  refine r_irem (pc := 125) h dX11_steps_125 (by decide) ?_
  refine r_ldc (pc := 126) h dX11_steps_126 wc_X11_200 ?_
  refine r_iadd (pc := 128) h dX11_steps_128 ?_
  refine r_ldc (pc := 129) h dX11_steps_129 wc_X11_200 ?_
  refine r_irem (pc := 131) h dX11_steps_131 (by decide) ?_
  refine r_iastL (j := 4) (pc := 132) h dX11_steps_132 (by decide) (by decide) (by decide) (vin (by decide) (by decide)) ?_
  refine r_nmG (fun M4 hM4 => ?_)
  have hM4 : M4 = rS4 M3 s bd := hM4
  have ht4 : ∀ p, p < 32 → 0 ≤ (M4 162 p).toInt ∧ (M4 162 p).toInt ≤ 359 := by rw [hM4]; exact ht3
  have hw4 : 0 ≤ (M4 167 4).toInt ∧ (M4 167 4).toInt < 36000 := by rw [hM4]; exact wayR_bd _
  refine r_aload_n (pc := 133) h dX11_steps_133 rfl ?_
  refine gf_X11_60 (pc := 134) h dX11_steps_134 ?_
  refine r_iconst (v := 0) (pc := 137) h dX11_steps_137 (by decide) ?_
  refine r_dup2 (pc := 138) h dX11_steps_138 rfl rfl ?_
  refine r_ialdL (j := 0) (pc := 139) h dX11_steps_139 (by decide) (by decide) (by decide) (vin (by decide) (by decide)) ?_
  refine r_aload_n (pc := 140) h dX11_steps_140 rfl ?_
  refine gf_X11_60 (pc := 141) h dX11_steps_141 ?_
  refine r_iconst (v := 5) (pc := 144) h dX11_steps_144 (by decide) ?_
  refine r_ialdL (j := 5) (pc := 145) h dX11_steps_145 (by decide) (by decide) (by decide) (vin (by decide) (by decide)) ?_
  refine r_aload_n (pc := 146) h dX11_steps_146 rfl ?_
  refine r_aload_n (pc := 147) h dX11_steps_147 rfl ?_
  refine gf_X11_60 (pc := 148) h dX11_steps_148 ?_
  refine r_iconst (v := 4) (pc := 151) h dX11_steps_151 (by decide) ?_
  refine r_ialdL (j := 4) (pc := 152) h dX11_steps_152 (by decide) (by decide) (by decide) (vin (by decide) (by decide)) ?_
  refine r_bipush (v := 100) (pc := 153) h dX11_steps_153 (by decide) ?_
  refine r_idiv (pc := 155) h dX11_steps_155 (by decide) ?_
  refine r_callVI (ci := 11) (pc := 156) h dX11_steps_156 wm_X11_123 ca_X11_sine rfl (c_X11_sine E _ _ (way100 hw4)) rfl rfl (Nat.le_of_ble_eq_true rfl) (by decide) (by decide) (by decide) (by decide) (fun r I1 hq => ?_)
  obtain ⟨rfl, rfl⟩ := hq
  refine r_imul (pc := 159) h dX11_steps_159 ?_
  refine r_sipush (v := 1000) (pc := 160) h dX11_steps_160 (by decide) ?_
  refine r_idiv (pc := 163) h dX11_steps_163 (by decide) ?_
  refine r_iadd (pc := 164) h dX11_steps_164 ?_
  refine r_iastL (j := 0) (pc := 165) h dX11_steps_165 (by decide) (by decide) (by decide) (vin (by decide) (by decide)) ?_
  refine r_nmG (fun M5 hM5 => ?_)
  have hM5 : M5 = rS5 M4 := hM5
  have ht5 : ∀ p, p < 32 → 0 ≤ (M5 162 p).toInt ∧ (M5 162 p).toInt ≤ 359 := by rw [hM5]; exact ht4
  have hw5 : 0 ≤ (M5 167 4).toInt ∧ (M5 167 4).toInt < 36000 := by rw [hM5]; exact hw4
  refine r_aload_n (pc := 166) h dX11_steps_166 rfl ?_
  refine gf_X11_60 (pc := 167) h dX11_steps_167 ?_
  refine r_iconst (v := 1) (pc := 170) h dX11_steps_170 (by decide) ?_
  refine r_dup2 (pc := 171) h dX11_steps_171 rfl rfl ?_
  refine r_ialdL (j := 1) (pc := 172) h dX11_steps_172 (by decide) (by decide) (by decide) (vin (by decide) (by decide)) ?_
  refine r_aload_n (pc := 173) h dX11_steps_173 rfl ?_
  refine gf_X11_60 (pc := 174) h dX11_steps_174 ?_
  refine r_iconst (v := 5) (pc := 177) h dX11_steps_177 (by decide) ?_
  refine r_ialdL (j := 5) (pc := 178) h dX11_steps_178 (by decide) (by decide) (by decide) (vin (by decide) (by decide)) ?_
  refine r_aload_n (pc := 179) h dX11_steps_179 rfl ?_
  refine r_aload_n (pc := 180) h dX11_steps_180 rfl ?_
  refine gf_X11_60 (pc := 181) h dX11_steps_181 ?_
  refine r_iconst (v := 4) (pc := 184) h dX11_steps_184 (by decide) ?_
  refine r_ialdL (j := 4) (pc := 185) h dX11_steps_185 (by decide) (by decide) (by decide) (vin (by decide) (by decide)) ?_
  refine r_bipush (v := 100) (pc := 186) h dX11_steps_186 (by decide) ?_
  refine r_idiv (pc := 188) h dX11_steps_188 (by decide) ?_
  refine r_callVI (ci := 11) (pc := 189) h dX11_steps_189 wm_X11_133 ca_X11_cosine rfl (c_X11_cosine E _ _ (way100 hw5)) rfl rfl (Nat.le_of_ble_eq_true rfl) (by decide) (by decide) (by decide) (by decide) (fun r I1 hq => ?_)
  obtain ⟨rfl, rfl⟩ := hq
  refine r_imul (pc := 192) h dX11_steps_192 ?_
  refine r_sipush (v := 1000) (pc := 193) h dX11_steps_193 (by decide) ?_
  refine r_idiv (pc := 196) h dX11_steps_196 (by decide) ?_
  refine r_iadd (pc := 197) h dX11_steps_197 ?_
  refine r_iastL (j := 1) (pc := 198) h dX11_steps_198 (by decide) (by decide) (by decide) (vin (by decide) (by decide)) ?_
  refine r_nmG (fun M6 hM6 => ?_)
  have hM6 : M6 = rS6 M5 := hM6
  have ht6 : ∀ p, p < 32 → 0 ≤ (M6 162 p).toInt ∧ (M6 162 p).toInt ≤ 359 := by rw [hM6]; exact ht5
  refine r_iload_n (pc := 199) h dX11_steps_199 rfl ?_
  refine r_if_lt (pc := 200) h 322 dX11_steps_200 (by decide) (fun c200 => ?_) (fun c200 => ?_)
  · refine r_nmG (fun M8 hM8 => ?_)
    have hM8 : M8 = rSw M6 w := by
      first
      | (rw [hM8]; unfold rSw; rw [if_pos c200]; done)
      | (rw [hM8, hM7]; unfold rSw; rw [if_neg c200, ← hpt]; rfl)
    refine r_aload_n (pc := 322) h dX11_steps_322 rfl ?_
    refine gf_X11_60 (pc := 323) h dX11_steps_323 ?_
    refine r_bipush (v := 6) (pc := 326) h dX11_steps_326 (by decide) ?_
    refine r_aload_n (pc := 328) h dX11_steps_328 rfl ?_
    refine gf_X11_60 (pc := 329) h dX11_steps_329 ?_
    refine r_bipush (v := 6) (pc := 332) h dX11_steps_332 (by decide) ?_
    refine r_ialdL (j := 6) (pc := 334) h dX11_steps_334 (by decide) (by decide) (by decide) (vin (by decide) (by decide)) ?_
    refine r_aload_n (pc := 335) h dX11_steps_335 rfl ?_
    refine gf_X11_22 (pc := 336) h dX11_steps_336 ?_
    refine r_iload_n (pc := 339) h dX11_steps_339 rfl ?_
    refine r_iald (pc := 340) h dX11_steps_340 (by decide) (by decide) (vin (n := 9) (by omega) (by omega)) ?_
    refine r_isub (pc := 341) h dX11_steps_341 ?_
    refine r_iconst (v := 0) (pc := 342) h dX11_steps_342 (by decide) ?_
    refine r_sipush (v := 1000) (pc := 343) h dX11_steps_343 (by decide) ?_
    refine r_callSI (pc := 346) h dX11_steps_346 wm_X11_195 ca_X11_held (c_X11_held E _ _ _ _) rfl rfl (Nat.le_of_ble_eq_true rfl) (by decide) (fun r I1 hq => ?_)
    obtain ⟨rfl, rfl⟩ := hq
    refine r_iastL (j := 6) (pc := 349) h dX11_steps_349 (by decide) (by decide) (by decide) (vin (by decide) (by decide)) ?_
    refine r_nmG (fun M9 hM9 => ?_)
    have hM9 : M9 = rS9 M8 s := hM9
    refine r_aload_n (pc := 350) h dX11_steps_350 rfl ?_
    refine gf_X11_60 (pc := 351) h dX11_steps_351 ?_
    refine r_iconst (v := 5) (pc := 354) h dX11_steps_354 (by decide) ?_
    refine r_aload_n (pc := 355) h dX11_steps_355 rfl ?_
    refine gf_X11_60 (pc := 356) h dX11_steps_356 ?_
    refine r_iconst (v := 5) (pc := 359) h dX11_steps_359 (by decide) ?_
    refine r_ialdL (j := 5) (pc := 360) h dX11_steps_360 (by decide) (by decide) (by decide) (vin (by decide) (by decide)) ?_
    refine r_aload_n (pc := 361) h dX11_steps_361 rfl ?_
    refine gf_X11_25 (pc := 362) h dX11_steps_362 ?_
    refine r_iload_n (pc := 365) h dX11_steps_365 rfl ?_
    refine r_iald (pc := 366) h dX11_steps_366 (by decide) (by decide) (vin (n := 9) (by omega) (by omega)) ?_
    refine r_isub (pc := 367) h dX11_steps_367 ?_
    refine r_bipush (v := 20) (pc := 368) h dX11_steps_368 (by decide) ?_
    refine r_sipush (v := 250) (pc := 370) h dX11_steps_370 (by decide) ?_
    refine r_callSI (pc := 373) h dX11_steps_373 wm_X11_195 ca_X11_held (c_X11_held E _ _ _ _) rfl rfl (Nat.le_of_ble_eq_true rfl) (by decide) (fun r I1 hq => ?_)
    obtain ⟨rfl, rfl⟩ := hq
    refine r_iastL (j := 5) (pc := 376) h dX11_steps_376 (by decide) (by decide) (by decide) (vin (by decide) (by decide)) ?_
    refine r_nmG (fun M10 hM10 => ?_)
    have hM10 : M10 = rS10 M9 s := hM10
    refine r_aload_n (pc := 377) h dX11_steps_377 rfl ?_
    refine gf_X11_60 (pc := 378) h dX11_steps_378 ?_
    refine r_bipush (v := 7) (pc := 381) h dX11_steps_381 (by decide) ?_
    refine sub383 _ _ _ rfl (Nat.le_of_ble_eq_true rfl) ?_
    refine r_iastL (j := 7) (pc := 417) h dX11_steps_417 (by decide) (by decide) (by decide) (vin (by decide) (by decide)) ?_
    refine r_nmG (fun M11 hM11 => ?_)
    have hM11 : M11 = rS11 M10 := hM11
    exact hr _ _ _ dX11_steps_418 (by rw [hM11, hM10, hM9, hM8, hM6, hM5, hM4, hM3, hM2, hM1]; rfl)
  · have hw0 : 0 ≤ w.toInt := by rw [Int32.lt_iff_toInt_lt, z32] at c200; omega
    refine r_iconst (v := 4) (pc := 203) h dX11_steps_203 (by decide) ?_
    refine r_iload_n (pc := 204) h dX11_steps_204 rfl ?_
    refine r_imul (pc := 205) h dX11_steps_205 ?_
    refine sub206 _ _ _ rfl ?_
    refine r_iadd (pc := 255) h dX11_steps_255 ?_
    refine r_istore (pc := 256) h dX11_steps_256 (by decide) ?_
    obtain ⟨pt, hpt⟩ : ∃ z : Int32, z = 4 * w + bandH (M6 167 2) := ⟨_, rfl⟩
    have hb5 := bandH_bd (M6 167 2)
    have e4 := m4_tI (s := w) (b := bandH (M6 167 2)) (n := 9) hw0 (by omega) hb5 (by omega)
    rw [← hpt] at e4
    have hp : pt.toNatClampNeg < 32 := by rw [tn]; omega
    refine r_at h [(0, .ref (E.1 151)), (1, .int s), (2, .int bd), (3, .int w), (5, .int pt)] ⟨rfl, rfl, rfl, rfl, by rw [hpt]; rfl, trivial⟩ ?_
    refine r_aload_n (pc := 258) h dX11_steps_258 rfl ?_
    refine gf_X11_60 (pc := 259) h dX11_steps_259 ?_
    refine r_iconst (v := 0) (pc := 262) h dX11_steps_262 (by decide) ?_
    refine r_dup2 (pc := 263) h dX11_steps_263 rfl rfl ?_
    refine r_ialdL (j := 0) (pc := 264) h dX11_steps_264 (by decide) (by decide) (by decide) (vin (by decide) (by decide)) ?_
    refine r_aload_n (pc := 265) h dX11_steps_265 rfl ?_
    refine gf_X11_38 (pc := 266) h dX11_steps_266 ?_
    refine r_iload (pc := 269) h dX11_steps_269 rfl ?_
    refine r_iald (pc := 271) h dX11_steps_271 (by decide) (by decide) (vin (n := 32) (by omega) (by omega)) ?_
    refine r_aload_n (pc := 272) h dX11_steps_272 rfl ?_
    refine r_aload_n (pc := 273) h dX11_steps_273 rfl ?_
    refine gf_X11_41 (pc := 274) h dX11_steps_274 ?_
    refine r_iload (pc := 277) h dX11_steps_277 rfl ?_
    refine r_iald (pc := 279) h dX11_steps_279 (by decide) (by decide) (vin (n := 32) (by omega) (by omega)) ?_
    refine r_callVI (ci := 11) (pc := 280) h dX11_steps_280 wm_X11_123 ca_X11_sine rfl (c_X11_sine E _ _ (ht6 _ hp)) rfl rfl (Nat.le_of_ble_eq_true rfl) (by decide) (by decide) (by decide) (by decide) (fun r I1 hq => ?_)
    obtain ⟨rfl, rfl⟩ := hq
    refine r_imul (pc := 283) h dX11_steps_283 ?_
    refine r_sipush (v := 1000) (pc := 284) h dX11_steps_284 (by decide) ?_
    refine r_idiv (pc := 287) h dX11_steps_287 (by decide) ?_
    refine r_iadd (pc := 288) h dX11_steps_288 ?_
    refine r_iastL (j := 0) (pc := 289) h dX11_steps_289 (by decide) (by decide) (by decide) (vin (by decide) (by decide)) ?_
    refine r_nmG (fun M7 hM7 => ?_)
    have hM7 : M7 = rS7 M6 pt.toNatClampNeg := hM7
    have ht7 : ∀ p, p < 32 → 0 ≤ (M7 162 p).toInt ∧ (M7 162 p).toInt ≤ 359 := by rw [hM7]; exact ht6
    refine r_aload_n (pc := 290) h dX11_steps_290 rfl ?_
    refine gf_X11_60 (pc := 291) h dX11_steps_291 ?_
    refine r_iconst (v := 1) (pc := 294) h dX11_steps_294 (by decide) ?_
    refine r_dup2 (pc := 295) h dX11_steps_295 rfl rfl ?_
    refine r_ialdL (j := 1) (pc := 296) h dX11_steps_296 (by decide) (by decide) (by decide) (vin (by decide) (by decide)) ?_
    refine r_aload_n (pc := 297) h dX11_steps_297 rfl ?_
    refine gf_X11_38 (pc := 298) h dX11_steps_298 ?_
    refine r_iload (pc := 301) h dX11_steps_301 rfl ?_
    refine r_iald (pc := 303) h dX11_steps_303 (by decide) (by decide) (vin (n := 32) (by omega) (by omega)) ?_
    refine r_aload_n (pc := 304) h dX11_steps_304 rfl ?_
    refine r_aload_n (pc := 305) h dX11_steps_305 rfl ?_
    refine gf_X11_41 (pc := 306) h dX11_steps_306 ?_
    refine r_iload (pc := 309) h dX11_steps_309 rfl ?_
    refine r_iald (pc := 311) h dX11_steps_311 (by decide) (by decide) (vin (n := 32) (by omega) (by omega)) ?_
    refine r_callVI (ci := 11) (pc := 312) h dX11_steps_312 wm_X11_133 ca_X11_cosine rfl (c_X11_cosine E _ _ (ht7 _ hp)) rfl rfl (Nat.le_of_ble_eq_true rfl) (by decide) (by decide) (by decide) (by decide) (fun r I1 hq => ?_)
    obtain ⟨rfl, rfl⟩ := hq
    refine r_imul (pc := 315) h dX11_steps_315 ?_
    refine r_sipush (v := 1000) (pc := 316) h dX11_steps_316 (by decide) ?_
    refine r_idiv (pc := 319) h dX11_steps_319 (by decide) ?_
    refine r_iadd (pc := 320) h dX11_steps_320 ?_
    refine r_iastL (j := 1) (pc := 321) h dX11_steps_321 (by decide) (by decide) (by decide) (vin (by decide) (by decide)) ?_
    refine r_nmG (fun M8 hM8 => ?_)
    have hM8 : M8 = rSw M6 w := by
      first
      | (rw [hM8]; unfold rSw; rw [if_pos c200]; done)
      | (rw [hM8, hM7]; unfold rSw; rw [if_neg c200, ← hpt]; rfl)
    refine r_aload_n (pc := 322) h dX11_steps_322 rfl ?_
    refine gf_X11_60 (pc := 323) h dX11_steps_323 ?_
    refine r_bipush (v := 6) (pc := 326) h dX11_steps_326 (by decide) ?_
    refine r_aload_n (pc := 328) h dX11_steps_328 rfl ?_
    refine gf_X11_60 (pc := 329) h dX11_steps_329 ?_
    refine r_bipush (v := 6) (pc := 332) h dX11_steps_332 (by decide) ?_
    refine r_ialdL (j := 6) (pc := 334) h dX11_steps_334 (by decide) (by decide) (by decide) (vin (by decide) (by decide)) ?_
    refine r_aload_n (pc := 335) h dX11_steps_335 rfl ?_
    refine gf_X11_22 (pc := 336) h dX11_steps_336 ?_
    refine r_iload_n (pc := 339) h dX11_steps_339 rfl ?_
    refine r_iald (pc := 340) h dX11_steps_340 (by decide) (by decide) (vin (n := 9) (by omega) (by omega)) ?_
    refine r_isub (pc := 341) h dX11_steps_341 ?_
    refine r_iconst (v := 0) (pc := 342) h dX11_steps_342 (by decide) ?_
    refine r_sipush (v := 1000) (pc := 343) h dX11_steps_343 (by decide) ?_
    refine r_callSI (pc := 346) h dX11_steps_346 wm_X11_195 ca_X11_held (c_X11_held E _ _ _ _) rfl rfl (Nat.le_of_ble_eq_true rfl) (by decide) (fun r I1 hq => ?_)
    obtain ⟨rfl, rfl⟩ := hq
    refine r_iastL (j := 6) (pc := 349) h dX11_steps_349 (by decide) (by decide) (by decide) (vin (by decide) (by decide)) ?_
    refine r_nmG (fun M9 hM9 => ?_)
    have hM9 : M9 = rS9 M8 s := hM9
    refine r_aload_n (pc := 350) h dX11_steps_350 rfl ?_
    refine gf_X11_60 (pc := 351) h dX11_steps_351 ?_
    refine r_iconst (v := 5) (pc := 354) h dX11_steps_354 (by decide) ?_
    refine r_aload_n (pc := 355) h dX11_steps_355 rfl ?_
    refine gf_X11_60 (pc := 356) h dX11_steps_356 ?_
    refine r_iconst (v := 5) (pc := 359) h dX11_steps_359 (by decide) ?_
    refine r_ialdL (j := 5) (pc := 360) h dX11_steps_360 (by decide) (by decide) (by decide) (vin (by decide) (by decide)) ?_
    refine r_aload_n (pc := 361) h dX11_steps_361 rfl ?_
    refine gf_X11_25 (pc := 362) h dX11_steps_362 ?_
    refine r_iload_n (pc := 365) h dX11_steps_365 rfl ?_
    refine r_iald (pc := 366) h dX11_steps_366 (by decide) (by decide) (vin (n := 9) (by omega) (by omega)) ?_
    refine r_isub (pc := 367) h dX11_steps_367 ?_
    refine r_bipush (v := 20) (pc := 368) h dX11_steps_368 (by decide) ?_
    refine r_sipush (v := 250) (pc := 370) h dX11_steps_370 (by decide) ?_
    refine r_callSI (pc := 373) h dX11_steps_373 wm_X11_195 ca_X11_held (c_X11_held E _ _ _ _) rfl rfl (Nat.le_of_ble_eq_true rfl) (by decide) (fun r I1 hq => ?_)
    obtain ⟨rfl, rfl⟩ := hq
    refine r_iastL (j := 5) (pc := 376) h dX11_steps_376 (by decide) (by decide) (by decide) (vin (by decide) (by decide)) ?_
    refine r_nmG (fun M10 hM10 => ?_)
    have hM10 : M10 = rS10 M9 s := hM10
    refine r_aload_n (pc := 377) h dX11_steps_377 rfl ?_
    refine gf_X11_60 (pc := 378) h dX11_steps_378 ?_
    refine r_bipush (v := 7) (pc := 381) h dX11_steps_381 (by decide) ?_
    refine sub383 _ _ _ rfl (Nat.le_of_ble_eq_true rfl) ?_
    refine r_iastL (j := 7) (pc := 417) h dX11_steps_417 (by decide) (by decide) (by decide) (vin (by decide) (by decide)) ?_
    refine r_nmG (fun M11 hM11 => ?_)
    have hM11 : M11 = rS11 M10 := hM11
    exact hr _ _ _ dX11_steps_418 (by rw [hM11, hM10, hM9, hM8, hM6, hM5, hM4, hM3, hM2, hM1]; rfl)
