/-! THE CLASS's flight: lift, band, step. kx_: the flight's id (15 the latest, 17 the trial), n: the stick's number, wi: the wind's id -/
def liftW (lf ho v6 : Int32) : Int32 := if ho = 0 then (if v6 < 100 then 0 else lf * v6 / 1000) else (if v6 < 300 then lf * v6 / 1000 + ho else lf * v6 / 1000)
abbrev isWi (wi : Nat) : Prop := wi < 182 ∧ (wi = 4 ∨ 59 ≤ wi) ∧ kd wi = 9 ∧ rf wi 0 = wi + 1 ∧ rf wi 1 = wi + 2 ∧ kd (wi + 1) = 12 ∧ kd (wi + 2) = 12 ∧ ln (wi + 1) = 4 ∧ ln (wi + 2) = 4
theorem isWi4 : isWi 4 := by decide
theorem isWiN : ∀ n, n < 8 → isWi (59 + 3 * n) := by decide
def fS1 (I : Mem) (k : Nat) : Mem := upm I k 8 (I k 8 + 1)
def fS2 (I : Mem) (k n : Nat) : Mem := upm I k 3 (maxI (-80) (minI 80 (I k 3 + (liftW (I (41 + 2 * n + 1) (bandS (I k 5)).toNatClampNeg) (I (41 + 2 * n) 4) (I k 6) * I 1 (I k 7 + 90).toNatClampNeg / 1000 - I (41 + 2 * n) 0) / 10)))
def fS3 (I : Mem) (k : Nat) : Mem := upm I k 2 (I k 2 + I k 3)
def fS4 (I : Mem) (k n : Nat) (bd : Int32) : Mem := upm I k 4 (fmI (I k 4 + (I (41 + 2 * n) 1 + bd) * I k 6 * I 1 (I k 7).toNatClampNeg / 100000) 36000)
def fS5 (I : Mem) (k : Nat) : Mem := upm I k 0 (I k 0 + I k 5 * I 1 (I k 4 / 100).toNatClampNeg / 1000)
def fS6 (I : Mem) (k : Nat) : Mem := upm I k 1 (I k 1 + I k 5 * I 1 (I k 4 / 100 + 90).toNatClampNeg / 1000)
def fS7 (I : Mem) (k wi p : Nat) : Mem := upm I k 0 (I k 0 + I (wi + 1) p * I 1 (I (wi + 2) p).toNatClampNeg / 1000)
def fS8 (I : Mem) (k wi p : Nat) : Mem := upm I k 1 (I k 1 + I (wi + 1) p * I 1 (I (wi + 2) p + 90).toNatClampNeg / 1000)
def fSw (I : Mem) (k wi : Nat) : Mem := fS8 (fS7 I k wi (bandH (I k 2)).toNatClampNeg) k wi (bandH (I k 2)).toNatClampNeg
def fS9 (I : Mem) (k n : Nat) : Mem := upm I k 6 (maxI 0 (I k 6 - I (41 + 2 * n) 2))
def fS10 (I : Mem) (k n : Nat) : Mem := upm I k 5 (maxI 20 (I k 5 - I (41 + 2 * n) 3))
def fS11 (I : Mem) (k : Nat) : Mem := if I k 8 - I k 8 / 4 * 4 = 0 then upm I k 7 (maxI 0 (I k 7 - 1)) else I
def F_step (I : Mem) (k n : Nat) (bd : Int32) (wi : Nat) : Mem := fS11 (fS10 (fS9 (fSw (fS6 (fS5 (fS4 (fS3 (fS2 (fS1 I k) k n) k) k n bd) k) k) k wi) k n) k n) k
theorem fmI_bd (x : Int32) : 0 ≤ (fmI x 36000).toInt ∧ (fmI x 36000).toInt < 36000 := by
  unfold fmI
  have es : Int32.size = 4294967296 := rfl
  rw [e36k, Int32.toInt_ofInt, es, Int.bmod_eq_of_le (by omega) (by omega)]
  omega
theorem e90 : (90 : Int32).toInt = 90 := by decide
theorem p90 {x : Int32} {m : Int} (h : 0 ≤ x.toInt ∧ x.toInt ≤ 359) : 0 ≤ (x + 90).toInt ∧ (x + 90).toInt ≤ 449 := by
  rw [tI_add (by rw [e90]; omega) (by rw [e90]; omega), e90]
  omega
theorem vin450 {x : Int32} (h : 0 ≤ x.toInt ∧ x.toInt ≤ 359) : vp_in x (ln 1) := vin (n := 450) h.1 (by omega)
theorem vin450p {x : Int32} (h : 0 ≤ x.toInt ∧ x.toInt ≤ 359) : vp_in (x + 90) (ln 1) := by
  have := p90 (m := 0) h
  exact vin (n := 450) this.1 (by omega)
set_option maxRecDepth 100000 in
set_option maxHeartbeats 4000000 in
theorem c_X7_liftAt (E : En) (I : Mem) (n : Nat) (sp : Int32) (v6 : Int32) (hn : n < 9) : Ctr E yX7_liftAt cX7_liftAt 5 (some .int) 1 [.ref (E.1 (41 + 2 * n)), .int sp, .int v6] I (qI (fun (r : Int32) (I1 : Mem) => r = liftW (I (41 + 2 * n + 1) (bandS sp).toNatClampNeg) (I (41 + 2 * n) 4) v6 ∧ I = I1)) := by
  refine Ctr.openI (by decide) (Nat.le_of_ble_eq_true rfl) (fun g h hr => ?_)
  have h : Sem cX7_liftAt RX7 5 (rmL 1) E g := h
  show g I 0 [(0, .ref (E.1 (41 + 2 * n))), (1, .int sp), (2, .int v6)] []
  have sub0 : ∀ (J : Mem) (lv : LV) (st : List Value), lk lv 1 = some (.int sp) → g J 32 lv (.int (bandS sp) :: st) → g J 0 lv st := by
    intro J lv st hl1 kk
    refine r_iload_n (pc := 0) h dX7_liftAt_0 hl1 ?_
    refine r_bipush (v := 60) (pc := 1) h dX7_liftAt_1 (by decide) ?_
    refine r_icmp_ge (pc := 3) h 10 dX7_liftAt_3 (by decide) (fun c3 => ?_) (fun c3 => ?_)
    · refine r_iload_n (pc := 10) h dX7_liftAt_10 hl1 ?_
      refine r_bipush (v := 120) (pc := 11) h dX7_liftAt_11 (by decide) ?_
      refine r_icmp_ge (pc := 13) h 20 dX7_liftAt_13 (by decide) (fun c13 => ?_) (fun c13 => ?_)
      · refine r_iload_n (pc := 20) h dX7_liftAt_20 hl1 ?_
        refine r_sipush (v := 180) (pc := 21) h dX7_liftAt_21 (by decide) ?_
        refine r_icmp_ge (pc := 24) h 31 dX7_liftAt_24 (by decide) (fun c24 => ?_) (fun c24 => ?_)
        · refine r_iconst (v := 3) (pc := 31) h dX7_liftAt_31 (by decide) ?_
          first
          | (rw [show bandS sp = 3 by unfold bandS; rw [if_neg (by rw [Int32.lt_iff_toInt_lt]; rw [Int32.le_iff_toInt_le] at c3; omega), if_neg (by rw [Int32.lt_iff_toInt_lt]; rw [Int32.le_iff_toInt_le] at c13; omega), if_neg (by rw [Int32.lt_iff_toInt_lt]; rw [Int32.le_iff_toInt_le] at c24; omega)]] at kk; exact kk)
          | (rw [show bandS sp = 2 by unfold bandS; rw [if_neg (by rw [Int32.lt_iff_toInt_lt]; rw [Int32.le_iff_toInt_le] at c3; omega), if_neg (by rw [Int32.lt_iff_toInt_lt]; rw [Int32.le_iff_toInt_le] at c13; omega), if_pos (by rw [Int32.lt_iff_toInt_lt]; rw [Int32.le_iff_toInt_le] at c24; omega)]] at kk; exact kk)
          | (rw [show bandS sp = 1 by unfold bandS; rw [if_neg (by rw [Int32.lt_iff_toInt_lt]; rw [Int32.le_iff_toInt_le] at c3; omega), if_pos (by rw [Int32.lt_iff_toInt_lt]; rw [Int32.le_iff_toInt_le] at c13; omega)]] at kk; exact kk)
          | (rw [show bandS sp = 0 by unfold bandS; rw [if_pos (by rw [Int32.lt_iff_toInt_lt]; rw [Int32.le_iff_toInt_le] at c3; omega)]] at kk; exact kk)
        · refine r_iconst (v := 2) (pc := 27) h dX7_liftAt_27 (by decide) ?_
          refine r_goto (pc := 28) h 32 dX7_liftAt_28 (by decide) ?_
          first
          | (rw [show bandS sp = 3 by unfold bandS; rw [if_neg (by rw [Int32.lt_iff_toInt_lt]; rw [Int32.le_iff_toInt_le] at c3; omega), if_neg (by rw [Int32.lt_iff_toInt_lt]; rw [Int32.le_iff_toInt_le] at c13; omega), if_neg (by rw [Int32.lt_iff_toInt_lt]; rw [Int32.le_iff_toInt_le] at c24; omega)]] at kk; exact kk)
          | (rw [show bandS sp = 2 by unfold bandS; rw [if_neg (by rw [Int32.lt_iff_toInt_lt]; rw [Int32.le_iff_toInt_le] at c3; omega), if_neg (by rw [Int32.lt_iff_toInt_lt]; rw [Int32.le_iff_toInt_le] at c13; omega), if_pos (by rw [Int32.lt_iff_toInt_lt]; rw [Int32.le_iff_toInt_le] at c24; omega)]] at kk; exact kk)
          | (rw [show bandS sp = 1 by unfold bandS; rw [if_neg (by rw [Int32.lt_iff_toInt_lt]; rw [Int32.le_iff_toInt_le] at c3; omega), if_pos (by rw [Int32.lt_iff_toInt_lt]; rw [Int32.le_iff_toInt_le] at c13; omega)]] at kk; exact kk)
          | (rw [show bandS sp = 0 by unfold bandS; rw [if_pos (by rw [Int32.lt_iff_toInt_lt]; rw [Int32.le_iff_toInt_le] at c3; omega)]] at kk; exact kk)
      · refine r_iconst (v := 1) (pc := 16) h dX7_liftAt_16 (by decide) ?_
        refine r_goto (pc := 17) h 32 dX7_liftAt_17 (by decide) ?_
        first
        | (rw [show bandS sp = 3 by unfold bandS; rw [if_neg (by rw [Int32.lt_iff_toInt_lt]; rw [Int32.le_iff_toInt_le] at c3; omega), if_neg (by rw [Int32.lt_iff_toInt_lt]; rw [Int32.le_iff_toInt_le] at c13; omega), if_neg (by rw [Int32.lt_iff_toInt_lt]; rw [Int32.le_iff_toInt_le] at c24; omega)]] at kk; exact kk)
        | (rw [show bandS sp = 2 by unfold bandS; rw [if_neg (by rw [Int32.lt_iff_toInt_lt]; rw [Int32.le_iff_toInt_le] at c3; omega), if_neg (by rw [Int32.lt_iff_toInt_lt]; rw [Int32.le_iff_toInt_le] at c13; omega), if_pos (by rw [Int32.lt_iff_toInt_lt]; rw [Int32.le_iff_toInt_le] at c24; omega)]] at kk; exact kk)
        | (rw [show bandS sp = 1 by unfold bandS; rw [if_neg (by rw [Int32.lt_iff_toInt_lt]; rw [Int32.le_iff_toInt_le] at c3; omega), if_pos (by rw [Int32.lt_iff_toInt_lt]; rw [Int32.le_iff_toInt_le] at c13; omega)]] at kk; exact kk)
        | (rw [show bandS sp = 0 by unfold bandS; rw [if_pos (by rw [Int32.lt_iff_toInt_lt]; rw [Int32.le_iff_toInt_le] at c3; omega)]] at kk; exact kk)
    · refine r_iconst (v := 0) (pc := 6) h dX7_liftAt_6 (by decide) ?_
      refine r_goto (pc := 7) h 32 dX7_liftAt_7 (by decide) ?_
      first
      | (rw [show bandS sp = 3 by unfold bandS; rw [if_neg (by rw [Int32.lt_iff_toInt_lt]; rw [Int32.le_iff_toInt_le] at c3; omega), if_neg (by rw [Int32.lt_iff_toInt_lt]; rw [Int32.le_iff_toInt_le] at c13; omega), if_neg (by rw [Int32.lt_iff_toInt_lt]; rw [Int32.le_iff_toInt_le] at c24; omega)]] at kk; exact kk)
      | (rw [show bandS sp = 2 by unfold bandS; rw [if_neg (by rw [Int32.lt_iff_toInt_lt]; rw [Int32.le_iff_toInt_le] at c3; omega), if_neg (by rw [Int32.lt_iff_toInt_lt]; rw [Int32.le_iff_toInt_le] at c13; omega), if_pos (by rw [Int32.lt_iff_toInt_lt]; rw [Int32.le_iff_toInt_le] at c24; omega)]] at kk; exact kk)
      | (rw [show bandS sp = 1 by unfold bandS; rw [if_neg (by rw [Int32.lt_iff_toInt_lt]; rw [Int32.le_iff_toInt_le] at c3; omega), if_pos (by rw [Int32.lt_iff_toInt_lt]; rw [Int32.le_iff_toInt_le] at c13; omega)]] at kk; exact kk)
      | (rw [show bandS sp = 0 by unfold bandS; rw [if_pos (by rw [Int32.lt_iff_toInt_lt]; rw [Int32.le_iff_toInt_le] at c3; omega)]] at kk; exact kk)
  refine sub0 _ _ _ rfl ?_
  refine r_istore_n (pc := 32) h dX7_liftAt_32 (by decide) ?_
  have hb5 := bandS_bd sp
  refine r_aload_n (pc := 33) h dX7_liftAt_33 rfl ?_
  refine gf_X7_22 (pc := 34) h dX7_liftAt_34 (by omega) (kdSt _ hn) (rfLi _ hn) ?_
  refine r_iload_n (pc := 37) h dX7_liftAt_37 rfl ?_
  refine r_iald (pc := 38) h dX7_liftAt_38 (by omega) (kdLi _ hn) (by rw [lnLi _ hn]; exact vin (by omega) (by omega)) ?_
  refine r_iload_n (pc := 39) h dX7_liftAt_39 rfl ?_
  refine r_imul (pc := 40) h dX7_liftAt_40 ?_
  refine r_sipush (v := 1000) (pc := 41) h dX7_liftAt_41 (by decide) ?_
  refine r_idiv (pc := 44) h dX7_liftAt_44 (by decide) ?_
  refine r_istore (pc := 45) h dX7_liftAt_45 (by decide) ?_
  refine r_aload_n (pc := 47) h dX7_liftAt_47 rfl ?_
  refine gf_X7_11 (pc := 48) h dX7_liftAt_48 (by omega) (kdSt _ hn) ?_
  refine r_if_eq (pc := 51) h 74 dX7_liftAt_51 (by decide) (fun c51 => ?_) (fun c51 => ?_)
  · refine r_iload_n (pc := 74) h dX7_liftAt_74 rfl ?_
    refine r_bipush (v := 100) (pc := 75) h dX7_liftAt_75 (by decide) ?_
    refine r_icmp_ge (pc := 77) h 84 dX7_liftAt_77 (by decide) (fun c77 => ?_) (fun c77 => ?_)
    · refine r_iload (pc := 84) h dX7_liftAt_84 rfl ?_
      exact hr _ _ _ _ dX7_liftAt_86 (rfl) (⟨by unfold liftW; first | (rw [if_pos (by assumption)]; first | rw [if_pos (by rw [Int32.lt_iff_toInt_lt]; rw [Int32.le_iff_toInt_le] at c77; omega)] | rw [if_neg (by rw [Int32.lt_iff_toInt_lt]; rw [Int32.le_iff_toInt_le] at c77; omega)]) | (rw [if_neg (by assumption)]; first | rw [if_pos (by rw [Int32.lt_iff_toInt_lt]; rw [Int32.le_iff_toInt_le] at c58; omega)] | rw [if_neg (by rw [Int32.lt_iff_toInt_lt]; rw [Int32.le_iff_toInt_le] at c58; omega)]), rfl⟩)
    · refine r_iconst (v := 0) (pc := 80) h dX7_liftAt_80 (by decide) ?_
      refine r_goto (pc := 81) h 86 dX7_liftAt_81 (by decide) ?_
      exact hr _ _ _ _ dX7_liftAt_86 (rfl) (⟨by unfold liftW; first | (rw [if_pos (by assumption)]; first | rw [if_pos (by rw [Int32.lt_iff_toInt_lt]; rw [Int32.le_iff_toInt_le] at c77; omega)] | rw [if_neg (by rw [Int32.lt_iff_toInt_lt]; rw [Int32.le_iff_toInt_le] at c77; omega)]) | (rw [if_neg (by assumption)]; first | rw [if_pos (by rw [Int32.lt_iff_toInt_lt]; rw [Int32.le_iff_toInt_le] at c58; omega)] | rw [if_neg (by rw [Int32.lt_iff_toInt_lt]; rw [Int32.le_iff_toInt_le] at c58; omega)]), rfl⟩)
  · refine r_iload_n (pc := 54) h dX7_liftAt_54 rfl ?_
    refine r_sipush (v := 300) (pc := 55) h dX7_liftAt_55 (by decide) ?_
    refine r_icmp_ge (pc := 58) h 71 dX7_liftAt_58 (by decide) (fun c58 => ?_) (fun c58 => ?_)
    · refine r_iload (pc := 71) h dX7_liftAt_71 rfl ?_
      exact hr _ _ _ _ dX7_liftAt_73 (rfl) (⟨by unfold liftW; first | (rw [if_pos (by assumption)]; first | rw [if_pos (by rw [Int32.lt_iff_toInt_lt]; rw [Int32.le_iff_toInt_le] at c77; omega)] | rw [if_neg (by rw [Int32.lt_iff_toInt_lt]; rw [Int32.le_iff_toInt_le] at c77; omega)]) | (rw [if_neg (by assumption)]; first | rw [if_pos (by rw [Int32.lt_iff_toInt_lt]; rw [Int32.le_iff_toInt_le] at c58; omega)] | rw [if_neg (by rw [Int32.lt_iff_toInt_lt]; rw [Int32.le_iff_toInt_le] at c58; omega)]), rfl⟩)
    · refine r_iload (pc := 61) h dX7_liftAt_61 rfl ?_
      refine r_aload_n (pc := 63) h dX7_liftAt_63 rfl ?_
      refine gf_X7_11 (pc := 64) h dX7_liftAt_64 (by omega) (kdSt _ hn) ?_
      refine r_iadd (pc := 67) h dX7_liftAt_67 ?_
      refine r_goto (pc := 68) h 73 dX7_liftAt_68 (by decide) ?_
      exact hr _ _ _ _ dX7_liftAt_73 (rfl) (⟨by unfold liftW; first | (rw [if_pos (by assumption)]; first | rw [if_pos (by rw [Int32.lt_iff_toInt_lt]; rw [Int32.le_iff_toInt_le] at c77; omega)] | rw [if_neg (by rw [Int32.lt_iff_toInt_lt]; rw [Int32.le_iff_toInt_le] at c77; omega)]) | (rw [if_neg (by assumption)]; first | rw [if_pos (by rw [Int32.lt_iff_toInt_lt]; rw [Int32.le_iff_toInt_le] at c58; omega)] | rw [if_neg (by rw [Int32.lt_iff_toInt_lt]; rw [Int32.le_iff_toInt_le] at c58; omega)]), rfl⟩)
set_option maxRecDepth 100000 in
set_option maxHeartbeats 4000000 in
theorem c_X9_bandAt (E : En) (I : Mem) (hh : Int32)  : Ctr E yX9_bandAt cX9_bandAt 1 (some .int) 1 [.int hh] I (qI (fun (r : Int32) (I1 : Mem) => r = bandH hh ∧ I = I1)) := by
  refine Ctr.openI (by decide) (Nat.le_of_ble_eq_true rfl) (fun g h hr => ?_)
  have h : Sem cX9_bandAt RX9 1 (rmL 1) E g := h
  show g I 0 [(0, .int hh)] []
  refine r_iload_n (pc := 0) h dX9_bandAt_0 rfl ?_
  refine r_sipush (v := 200) (pc := 1) h dX9_bandAt_1 (by decide) ?_
  refine r_icmp_ge (pc := 4) h 11 dX9_bandAt_4 (by decide) (fun c4 => ?_) (fun c4 => ?_)
  · refine r_iload_n (pc := 11) h dX9_bandAt_11 rfl ?_
    refine r_sipush (v := 500) (pc := 12) h dX9_bandAt_12 (by decide) ?_
    refine r_icmp_ge (pc := 15) h 22 dX9_bandAt_15 (by decide) (fun c15 => ?_) (fun c15 => ?_)
    · refine r_iload_n (pc := 22) h dX9_bandAt_22 rfl ?_
      refine r_sipush (v := 1000) (pc := 23) h dX9_bandAt_23 (by decide) ?_
      refine r_icmp_ge (pc := 26) h 33 dX9_bandAt_26 (by decide) (fun c26 => ?_) (fun c26 => ?_)
      · refine r_iconst (v := 3) (pc := 33) h dX9_bandAt_33 (by decide) ?_
        exact hr _ _ _ _ dX9_bandAt_34 (rfl) (⟨by unfold bandH; first | rw [if_neg (by rw [Int32.lt_iff_toInt_lt]; rw [Int32.le_iff_toInt_le] at c4; omega), if_neg (by rw [Int32.lt_iff_toInt_lt]; rw [Int32.le_iff_toInt_le] at c15; omega), if_neg (by rw [Int32.lt_iff_toInt_lt]; rw [Int32.le_iff_toInt_le] at c26; omega)] | rw [if_neg (by rw [Int32.lt_iff_toInt_lt]; rw [Int32.le_iff_toInt_le] at c4; omega), if_neg (by rw [Int32.lt_iff_toInt_lt]; rw [Int32.le_iff_toInt_le] at c15; omega), if_pos (by rw [Int32.lt_iff_toInt_lt]; rw [Int32.le_iff_toInt_le] at c26; omega)] | rw [if_neg (by rw [Int32.lt_iff_toInt_lt]; rw [Int32.le_iff_toInt_le] at c4; omega), if_pos (by rw [Int32.lt_iff_toInt_lt]; rw [Int32.le_iff_toInt_le] at c15; omega)] | rw [if_pos (by rw [Int32.lt_iff_toInt_lt]; rw [Int32.le_iff_toInt_le] at c4; omega)], rfl⟩)
      · refine r_iconst (v := 2) (pc := 29) h dX9_bandAt_29 (by decide) ?_
        refine r_goto (pc := 30) h 34 dX9_bandAt_30 (by decide) ?_
        exact hr _ _ _ _ dX9_bandAt_34 (rfl) (⟨by unfold bandH; first | rw [if_neg (by rw [Int32.lt_iff_toInt_lt]; rw [Int32.le_iff_toInt_le] at c4; omega), if_neg (by rw [Int32.lt_iff_toInt_lt]; rw [Int32.le_iff_toInt_le] at c15; omega), if_neg (by rw [Int32.lt_iff_toInt_lt]; rw [Int32.le_iff_toInt_le] at c26; omega)] | rw [if_neg (by rw [Int32.lt_iff_toInt_lt]; rw [Int32.le_iff_toInt_le] at c4; omega), if_neg (by rw [Int32.lt_iff_toInt_lt]; rw [Int32.le_iff_toInt_le] at c15; omega), if_pos (by rw [Int32.lt_iff_toInt_lt]; rw [Int32.le_iff_toInt_le] at c26; omega)] | rw [if_neg (by rw [Int32.lt_iff_toInt_lt]; rw [Int32.le_iff_toInt_le] at c4; omega), if_pos (by rw [Int32.lt_iff_toInt_lt]; rw [Int32.le_iff_toInt_le] at c15; omega)] | rw [if_pos (by rw [Int32.lt_iff_toInt_lt]; rw [Int32.le_iff_toInt_le] at c4; omega)], rfl⟩)
    · refine r_iconst (v := 1) (pc := 18) h dX9_bandAt_18 (by decide) ?_
      refine r_goto (pc := 19) h 34 dX9_bandAt_19 (by decide) ?_
      exact hr _ _ _ _ dX9_bandAt_34 (rfl) (⟨by unfold bandH; first | rw [if_neg (by rw [Int32.lt_iff_toInt_lt]; rw [Int32.le_iff_toInt_le] at c4; omega), if_neg (by rw [Int32.lt_iff_toInt_lt]; rw [Int32.le_iff_toInt_le] at c15; omega), if_neg (by rw [Int32.lt_iff_toInt_lt]; rw [Int32.le_iff_toInt_le] at c26; omega)] | rw [if_neg (by rw [Int32.lt_iff_toInt_lt]; rw [Int32.le_iff_toInt_le] at c4; omega), if_neg (by rw [Int32.lt_iff_toInt_lt]; rw [Int32.le_iff_toInt_le] at c15; omega), if_pos (by rw [Int32.lt_iff_toInt_lt]; rw [Int32.le_iff_toInt_le] at c26; omega)] | rw [if_neg (by rw [Int32.lt_iff_toInt_lt]; rw [Int32.le_iff_toInt_le] at c4; omega), if_pos (by rw [Int32.lt_iff_toInt_lt]; rw [Int32.le_iff_toInt_le] at c15; omega)] | rw [if_pos (by rw [Int32.lt_iff_toInt_lt]; rw [Int32.le_iff_toInt_le] at c4; omega)], rfl⟩)
  · refine r_iconst (v := 0) (pc := 7) h dX9_bandAt_7 (by decide) ?_
    refine r_goto (pc := 8) h 34 dX9_bandAt_8 (by decide) ?_
    exact hr _ _ _ _ dX9_bandAt_34 (rfl) (⟨by unfold bandH; first | rw [if_neg (by rw [Int32.lt_iff_toInt_lt]; rw [Int32.le_iff_toInt_le] at c4; omega), if_neg (by rw [Int32.lt_iff_toInt_lt]; rw [Int32.le_iff_toInt_le] at c15; omega), if_neg (by rw [Int32.lt_iff_toInt_lt]; rw [Int32.le_iff_toInt_le] at c26; omega)] | rw [if_neg (by rw [Int32.lt_iff_toInt_lt]; rw [Int32.le_iff_toInt_le] at c4; omega), if_neg (by rw [Int32.lt_iff_toInt_lt]; rw [Int32.le_iff_toInt_le] at c15; omega), if_pos (by rw [Int32.lt_iff_toInt_lt]; rw [Int32.le_iff_toInt_le] at c26; omega)] | rw [if_neg (by rw [Int32.lt_iff_toInt_lt]; rw [Int32.le_iff_toInt_le] at c4; omega), if_pos (by rw [Int32.lt_iff_toInt_lt]; rw [Int32.le_iff_toInt_le] at c15; omega)] | rw [if_pos (by rw [Int32.lt_iff_toInt_lt]; rw [Int32.le_iff_toInt_le] at c4; omega)], rfl⟩)
set_option maxRecDepth 100000 in
set_option maxHeartbeats 4000000 in
theorem c_X1_step (E : En) (I : Mem) (kx n : Nat) (bd : Int32) (wi : Nat) (hkk : kx = 15 ∨ kx = 17) (hn : n < 9) (hwi : isWi wi) (hl : 0 ≤ (I kx 7).toInt ∧ (I kx 7).toInt ≤ 90) (ht : ∀ p, p < 4 → 0 ≤ (I (wi + 2) p).toInt ∧ (I (wi + 2) p).toInt ≤ 359) : Ctr E yX1_step cX1_step 6 none 2 [.ref (E.1 kx), .ref (E.1 (41 + 2 * n)), .int bd, .ref (E.1 wi)] I (qV (fun I1 : Mem => I1 = F_step I kx n bd wi)) := by
  refine Ctr.openV (by decide) (Nat.le_of_ble_eq_true rfl) (fun g h hr => ?_)
  have h : Sem cX1_step RX1 6 (rmL 2) E g := h
  show g I 0 [(0, .ref (E.1 kx)), (1, .ref (E.1 (41 + 2 * n))), (2, .int bd), (3, .ref (E.1 wi))] []
  have hk : kx < 184 := by omega
  have hkd : kd kx = 1 := by rcases hkk with rfl | rfl <;> decide
  have hrw : rf kx 11 = 1 := by rcases hkk with rfl | rfl <;> decide
  have hwl := hwi.1
  have hwb := hwi.2.1
  refine r_aload_n (pc := 0) h dX1_step_0 rfl ?_
  refine r_dup (pc := 1) h dX1_step_1 rfl ?_
  refine gf_X1_9 (pc := 2) h dX1_step_2 hk hkd ?_
  refine r_iconst (v := 1) (pc := 5) h dX1_step_5 (by decide) ?_
  refine r_iadd (pc := 6) h dX1_step_6 ?_
  refine pf_X1_9 (pc := 7) h dX1_step_7 hk hkd ?_
  refine r_nmG (fun N1_ hM1 => ?_)
  have hM1 : N1_ = fS1 I kx := hM1
  have hl1 : 0 ≤ (N1_ kx 7).toInt ∧ (N1_ kx 7).toInt ≤ 90 := by
    rw [hM1]
    unfold fS1
    rw [upm_at, if_neg (by omega)]
    exact hl
  have ht1 : ∀ p, p < 4 → 0 ≤ (N1_ (wi + 2) p).toInt ∧ (N1_ (wi + 2) p).toInt ≤ 359 := by
    rw [hM1]
    unfold fS1
    rw [upm_ne _ _ _ (by omega)]
    exact ht
  refine r_aload_n (pc := 10) h dX1_step_10 rfl ?_
  refine r_aload_n (pc := 11) h dX1_step_11 rfl ?_
  refine gf_X1_51 (pc := 12) h dX1_step_12 hk hkd ?_
  refine r_aload_n (pc := 15) h dX1_step_15 rfl ?_
  refine gf_X1_57 (pc := 16) h dX1_step_16 hk hkd ?_
  refine r_callVI (ci := 7) (pc := 19) h dX1_step_19 wm_X1_65 ca_X7_liftAt rfl (c_X7_liftAt E _ _ _ _ hn) rfl rfl (Nat.le_of_ble_eq_true rfl) (by decide) (by decide) (by omega) (kdSt _ hn) (fun r I1 hq => ?_)
  obtain ⟨rfl, rfl⟩ := hq
  refine r_aload_n (pc := 22) h dX1_step_22 rfl ?_
  refine gf_X1_21 (pc := 23) h dX1_step_23 hk hkd hrw ?_
  refine r_aload_n (pc := 26) h dX1_step_26 rfl ?_
  refine gf_X1_61 (pc := 27) h dX1_step_27 hk hkd ?_
  refine r_bipush (v := 90) (pc := 30) h dX1_step_30 (by decide) ?_
  refine r_iadd (pc := 32) h dX1_step_32 ?_
  refine r_iald (pc := 33) h dX1_step_33 (by decide) (by decide) (vin450p ⟨hl1.1, Int.le_trans hl1.2 (by decide)⟩) ?_
  refine r_imul (pc := 34) h dX1_step_34 ?_
  refine r_sipush (v := 1000) (pc := 35) h dX1_step_35 (by decide) ?_
  refine r_idiv (pc := 38) h dX1_step_38 (by decide) ?_
  refine r_aload_n (pc := 39) h dX1_step_39 rfl ?_
  refine gf_X1_71 (pc := 40) h dX1_step_40 (by omega) (kdSt _ hn) ?_
  refine r_isub (pc := 43) h dX1_step_43 ?_
  refine r_bipush (v := 10) (pc := 44) h dX1_step_44 (by decide) ?_
  refine r_idiv (pc := 46) h dX1_step_46 (by decide) ?_
  refine r_istore (pc := 47) h dX1_step_47 (by decide) ?_
  refine r_aload_n (pc := 49) h dX1_step_49 rfl ?_
  refine r_bipush (v := -80) (pc := 50) h dX1_step_50 (by decide) ?_
  refine r_bipush (v := 80) (pc := 52) h dX1_step_52 (by decide) ?_
  refine r_aload_n (pc := 54) h dX1_step_54 rfl ?_
  refine gf_X1_37 (pc := 55) h dX1_step_55 hk hkd ?_
  refine r_iload (pc := 58) h dX1_step_58 rfl ?_
  refine r_iadd (pc := 60) h dX1_step_60 ?_
  refine r_callSI (pc := 61) h dX1_step_61 wm_X1_74 ca_J9_min_7cf53 (c_J9_min_7cf53 E _ _ _) rfl rfl (Nat.le_of_ble_eq_true rfl) (by decide) (fun r I1 hq => ?_)
  obtain ⟨rfl, rfl⟩ := hq
  refine r_callSI (pc := 64) h dX1_step_64 wm_X1_79 ca_J9_max_7cf53 (c_J9_max_7cf53 E _ _ _) rfl rfl (Nat.le_of_ble_eq_true rfl) (by decide) (fun r I1 hq => ?_)
  obtain ⟨rfl, rfl⟩ := hq
  refine pf_X1_37 (pc := 67) h dX1_step_67 hk hkd ?_
  refine r_nmG (fun N2_ hM2 => ?_)
  have hM2 : N2_ = fS2 N1_ kx n := hM2
  have hl2 : 0 ≤ (N2_ kx 7).toInt ∧ (N2_ kx 7).toInt ≤ 90 := by
    rw [hM2]
    unfold fS2
    rw [upm_at, if_neg (by omega)]
    exact hl1
  have ht2 : ∀ p, p < 4 → 0 ≤ (N2_ (wi + 2) p).toInt ∧ (N2_ (wi + 2) p).toInt ≤ 359 := by
    rw [hM2]
    unfold fS2
    rw [upm_ne _ _ _ (by omega)]
    exact ht1
  refine r_aload_n (pc := 70) h dX1_step_70 rfl ?_
  refine r_dup (pc := 71) h dX1_step_71 rfl ?_
  refine gf_X1_34 (pc := 72) h dX1_step_72 hk hkd ?_
  refine r_aload_n (pc := 75) h dX1_step_75 rfl ?_
  refine gf_X1_37 (pc := 76) h dX1_step_76 hk hkd ?_
  refine r_iadd (pc := 79) h dX1_step_79 ?_
  refine pf_X1_34 (pc := 80) h dX1_step_80 hk hkd ?_
  refine r_nmG (fun N3_ hM3 => ?_)
  have hM3 : N3_ = fS3 N2_ kx := hM3
  have hl3 : 0 ≤ (N3_ kx 7).toInt ∧ (N3_ kx 7).toInt ≤ 90 := by
    rw [hM3]
    unfold fS3
    rw [upm_at, if_neg (by omega)]
    exact hl2
  have ht3 : ∀ p, p < 4 → 0 ≤ (N3_ (wi + 2) p).toInt ∧ (N3_ (wi + 2) p).toInt ≤ 359 := by
    rw [hM3]
    unfold fS3
    rw [upm_ne _ _ _ (by omega)]
    exact ht2
  refine r_aload_n (pc := 83) h dX1_step_83 rfl ?_
  refine r_aload_n (pc := 84) h dX1_step_84 rfl ?_
  refine gf_X1_45 (pc := 85) h dX1_step_85 hk hkd ?_
  refine r_aload_n (pc := 88) h dX1_step_88 rfl ?_
  refine gf_X1_82 (pc := 89) h dX1_step_89 (by omega) (kdSt _ hn) ?_
  refine r_iload_n (pc := 92) h dX1_step_92 rfl ?_
  refine r_iadd (pc := 93) h dX1_step_93 ?_
  refine r_aload_n (pc := 94) h dX1_step_94 rfl ?_
  refine gf_X1_57 (pc := 95) h dX1_step_95 hk hkd ?_
  refine r_imul (pc := 98) h dX1_step_98 ?_
  refine r_aload_n (pc := 99) h dX1_step_99 rfl ?_
  refine gf_X1_21 (pc := 100) h dX1_step_100 hk hkd hrw ?_
  refine r_aload_n (pc := 103) h dX1_step_103 rfl ?_
  refine gf_X1_61 (pc := 104) h dX1_step_104 hk hkd ?_
  refine r_iald (pc := 107) h dX1_step_107 (by decide) (by decide) (vin450 ⟨hl3.1, Int.le_trans hl3.2 (by decide)⟩) ?_
  refine r_imul (pc := 108) h dX1_step_108 ?_
  refine r_ldc (pc := 109) h dX1_step_109 wc_X1_85 ?_
  refine r_idiv (pc := 111) h dX1_step_111 (by decide) ?_
  refine r_iadd (pc := 112) h dX1_step_112 ?_
  refine r_ldc (pc := 113) h dX1_step_113 wc_X1_86 ?_
  refine r_callSI (pc := 115) h dX1_step_115 wm_X1_87 ca_J9_floorMod_7cf53 (c_J9_floorMod_7cf53 E _ _ _ (by decide)) rfl rfl (Nat.le_of_ble_eq_true rfl) (by decide) (fun r I1 hq => ?_)
  obtain ⟨rfl, rfl⟩ := hq
  refine pf_X1_45 (pc := 118) h dX1_step_118 hk hkd ?_
  refine r_nmG (fun N4_ hM4 => ?_)
  have hM4 : N4_ = fS4 N3_ kx n bd := hM4
  have ht4 : ∀ p, p < 4 → 0 ≤ (N4_ (wi + 2) p).toInt ∧ (N4_ (wi + 2) p).toInt ≤ 359 := by
    rw [hM4]
    unfold fS4
    rw [upm_ne _ _ _ (by omega)]
    exact ht3
  have hw4 : 0 ≤ (N4_ kx 4).toInt ∧ (N4_ kx 4).toInt < 36000 := by
    rw [hM4]
    unfold fS4
    rw [upm_eq]
    exact fmI_bd _
  refine r_aload_n (pc := 121) h dX1_step_121 rfl ?_
  refine r_dup (pc := 122) h dX1_step_122 rfl ?_
  refine gf_X1_28 (pc := 123) h dX1_step_123 hk hkd ?_
  refine r_aload_n (pc := 126) h dX1_step_126 rfl ?_
  refine gf_X1_51 (pc := 127) h dX1_step_127 hk hkd ?_
  refine r_aload_n (pc := 130) h dX1_step_130 rfl ?_
  refine gf_X1_21 (pc := 131) h dX1_step_131 hk hkd hrw ?_
  refine r_aload_n (pc := 134) h dX1_step_134 rfl ?_
  refine gf_X1_45 (pc := 135) h dX1_step_135 hk hkd ?_
  refine r_bipush (v := 100) (pc := 138) h dX1_step_138 (by decide) ?_
  refine r_idiv (pc := 140) h dX1_step_140 (by decide) ?_
  refine r_iald (pc := 141) h dX1_step_141 (by decide) (by decide) (vin450 (way100 hw4)) ?_
  refine r_imul (pc := 142) h dX1_step_142 ?_
  refine r_sipush (v := 1000) (pc := 143) h dX1_step_143 (by decide) ?_
  refine r_idiv (pc := 146) h dX1_step_146 (by decide) ?_
  refine r_iadd (pc := 147) h dX1_step_147 ?_
  refine pf_X1_28 (pc := 148) h dX1_step_148 hk hkd ?_
  refine r_nmG (fun N5_ hM5 => ?_)
  have hM5 : N5_ = fS5 N4_ kx := hM5
  have ht5 : ∀ p, p < 4 → 0 ≤ (N5_ (wi + 2) p).toInt ∧ (N5_ (wi + 2) p).toInt ≤ 359 := by
    rw [hM5]
    unfold fS5
    rw [upm_ne _ _ _ (by omega)]
    exact ht4
  have hw5 : 0 ≤ (N5_ kx 4).toInt ∧ (N5_ kx 4).toInt < 36000 := by
    rw [hM5]
    unfold fS5
    rw [upm_at, if_neg (by omega)]
    exact hw4
  refine r_aload_n (pc := 151) h dX1_step_151 rfl ?_
  refine r_dup (pc := 152) h dX1_step_152 rfl ?_
  refine gf_X1_31 (pc := 153) h dX1_step_153 hk hkd ?_
  refine r_aload_n (pc := 156) h dX1_step_156 rfl ?_
  refine gf_X1_51 (pc := 157) h dX1_step_157 hk hkd ?_
  refine r_aload_n (pc := 160) h dX1_step_160 rfl ?_
  refine gf_X1_21 (pc := 161) h dX1_step_161 hk hkd hrw ?_
  refine r_aload_n (pc := 164) h dX1_step_164 rfl ?_
  refine gf_X1_45 (pc := 165) h dX1_step_165 hk hkd ?_
  refine r_bipush (v := 100) (pc := 168) h dX1_step_168 (by decide) ?_
  refine r_idiv (pc := 170) h dX1_step_170 (by decide) ?_
  refine r_bipush (v := 90) (pc := 171) h dX1_step_171 (by decide) ?_
  refine r_iadd (pc := 173) h dX1_step_173 ?_
  refine r_iald (pc := 174) h dX1_step_174 (by decide) (by decide) (vin450p (way100 hw5)) ?_
  refine r_imul (pc := 175) h dX1_step_175 ?_
  refine r_sipush (v := 1000) (pc := 176) h dX1_step_176 (by decide) ?_
  refine r_idiv (pc := 179) h dX1_step_179 (by decide) ?_
  refine r_iadd (pc := 180) h dX1_step_180 ?_
  refine pf_X1_31 (pc := 181) h dX1_step_181 hk hkd ?_
  refine r_nmG (fun N6_ hM6 => ?_)
  have hM6 : N6_ = fS6 N5_ kx := hM6
  have ht6 : ∀ p, p < 4 → 0 ≤ (N6_ (wi + 2) p).toInt ∧ (N6_ (wi + 2) p).toInt ≤ 359 := by
    rw [hM6]
    unfold fS6
    rw [upm_ne _ _ _ (by omega)]
    exact ht5
  have hb6 := bandH_bd (N6_ kx 2)
  have hp6 := bH_lt (N6_ kx 2)
  refine r_aload_n (pc := 184) h dX1_step_184 rfl ?_
  refine gf_X1_34 (pc := 185) h dX1_step_185 hk hkd ?_
  refine r_callSI (pc := 188) h dX1_step_188 wm_X1_90 ca_X9_bandAt (c_X9_bandAt E _ _) rfl rfl (Nat.le_of_ble_eq_true rfl) (by decide) (fun r I1 hq => ?_)
  obtain ⟨rfl, rfl⟩ := hq
  refine r_istore (pc := 191) h dX1_step_191 (by decide) ?_
  refine r_aload_n (pc := 193) h dX1_step_193 rfl ?_
  refine r_dup (pc := 194) h dX1_step_194 rfl ?_
  refine gf_X1_28 (pc := 195) h dX1_step_195 hk hkd ?_
  refine r_aload_n (pc := 198) h dX1_step_198 rfl ?_
  refine gf_X1_96 (pc := 199) h dX1_step_199 (by omega) hwi.2.2.1 hwi.2.2.2.1 ?_
  refine r_iload (pc := 202) h dX1_step_202 rfl ?_
  refine r_iald (pc := 204) h dX1_step_204 (by omega) hwi.2.2.2.2.2.1 (by rw [hwi.2.2.2.2.2.2.2.1]; exact vin hb6.1 (by omega)) ?_
  refine r_aload_n (pc := 205) h dX1_step_205 rfl ?_
  refine gf_X1_21 (pc := 206) h dX1_step_206 hk hkd hrw ?_
  refine r_aload_n (pc := 209) h dX1_step_209 rfl ?_
  refine gf_X1_99 (pc := 210) h dX1_step_210 (by omega) hwi.2.2.1 hwi.2.2.2.2.1 ?_
  refine r_iload (pc := 213) h dX1_step_213 rfl ?_
  refine r_iald (pc := 215) h dX1_step_215 (by omega) hwi.2.2.2.2.2.2.1 (by rw [hwi.2.2.2.2.2.2.2.2]; exact vin hb6.1 (by omega)) ?_
  refine r_iald (pc := 216) h dX1_step_216 (by decide) (by decide) (vin450 (ht6 _ hp6)) ?_
  refine r_imul (pc := 217) h dX1_step_217 ?_
  refine r_sipush (v := 1000) (pc := 218) h dX1_step_218 (by decide) ?_
  refine r_idiv (pc := 221) h dX1_step_221 (by decide) ?_
  refine r_iadd (pc := 222) h dX1_step_222 ?_
  refine pf_X1_28 (pc := 223) h dX1_step_223 hk hkd ?_
  refine r_nmG (fun N7_ hM7 => ?_)
  have hM7 : N7_ = fS7 N6_ kx wi (bandH (N6_ kx 2)).toNatClampNeg := hM7
  have ht7 : ∀ p, p < 4 → 0 ≤ (N7_ (wi + 2) p).toInt ∧ (N7_ (wi + 2) p).toInt ≤ 359 := by
    rw [hM7]
    unfold fS7
    rw [upm_ne _ _ _ (by omega)]
    exact ht6
  refine r_aload_n (pc := 226) h dX1_step_226 rfl ?_
  refine r_dup (pc := 227) h dX1_step_227 rfl ?_
  refine gf_X1_31 (pc := 228) h dX1_step_228 hk hkd ?_
  refine r_aload_n (pc := 231) h dX1_step_231 rfl ?_
  refine gf_X1_96 (pc := 232) h dX1_step_232 (by omega) hwi.2.2.1 hwi.2.2.2.1 ?_
  refine r_iload (pc := 235) h dX1_step_235 rfl ?_
  refine r_iald (pc := 237) h dX1_step_237 (by omega) hwi.2.2.2.2.2.1 (by rw [hwi.2.2.2.2.2.2.2.1]; exact vin hb6.1 (by omega)) ?_
  refine r_aload_n (pc := 238) h dX1_step_238 rfl ?_
  refine gf_X1_21 (pc := 239) h dX1_step_239 hk hkd hrw ?_
  refine r_aload_n (pc := 242) h dX1_step_242 rfl ?_
  refine gf_X1_99 (pc := 243) h dX1_step_243 (by omega) hwi.2.2.1 hwi.2.2.2.2.1 ?_
  refine r_iload (pc := 246) h dX1_step_246 rfl ?_
  refine r_iald (pc := 248) h dX1_step_248 (by omega) hwi.2.2.2.2.2.2.1 (by rw [hwi.2.2.2.2.2.2.2.2]; exact vin hb6.1 (by omega)) ?_
  refine r_bipush (v := 90) (pc := 249) h dX1_step_249 (by decide) ?_
  refine r_iadd (pc := 251) h dX1_step_251 ?_
  refine r_iald (pc := 252) h dX1_step_252 (by decide) (by decide) (vin450p (ht7 _ hp6)) ?_
  refine r_imul (pc := 253) h dX1_step_253 ?_
  refine r_sipush (v := 1000) (pc := 254) h dX1_step_254 (by decide) ?_
  refine r_idiv (pc := 257) h dX1_step_257 (by decide) ?_
  refine r_iadd (pc := 258) h dX1_step_258 ?_
  refine pf_X1_31 (pc := 259) h dX1_step_259 hk hkd ?_
  refine r_nmG (fun N8_ hM8 => ?_)
  have hM8 : N8_ = fSw N6_ kx wi := by
    rw [hM8, hM7]
    rfl
  refine r_aload_n (pc := 262) h dX1_step_262 rfl ?_
  refine r_iconst (v := 0) (pc := 263) h dX1_step_263 (by decide) ?_
  refine r_aload_n (pc := 264) h dX1_step_264 rfl ?_
  refine gf_X1_57 (pc := 265) h dX1_step_265 hk hkd ?_
  refine r_aload_n (pc := 268) h dX1_step_268 rfl ?_
  refine gf_X1_102 (pc := 269) h dX1_step_269 (by omega) (kdSt _ hn) ?_
  refine r_isub (pc := 272) h dX1_step_272 ?_
  refine r_callSI (pc := 273) h dX1_step_273 wm_X1_79 ca_J9_max_7cf53 (c_J9_max_7cf53 E _ _ _) rfl rfl (Nat.le_of_ble_eq_true rfl) (by decide) (fun r I1 hq => ?_)
  obtain ⟨rfl, rfl⟩ := hq
  refine pf_X1_57 (pc := 276) h dX1_step_276 hk hkd ?_
  refine r_nmG (fun N9_ hM9 => ?_)
  have hM9 : N9_ = fS9 N8_ kx n := hM9
  refine r_aload_n (pc := 279) h dX1_step_279 rfl ?_
  refine r_bipush (v := 20) (pc := 280) h dX1_step_280 (by decide) ?_
  refine r_aload_n (pc := 282) h dX1_step_282 rfl ?_
  refine gf_X1_51 (pc := 283) h dX1_step_283 hk hkd ?_
  refine r_aload_n (pc := 286) h dX1_step_286 rfl ?_
  refine gf_X1_105 (pc := 287) h dX1_step_287 (by omega) (kdSt _ hn) ?_
  refine r_isub (pc := 290) h dX1_step_290 ?_
  refine r_callSI (pc := 291) h dX1_step_291 wm_X1_79 ca_J9_max_7cf53 (c_J9_max_7cf53 E _ _ _) rfl rfl (Nat.le_of_ble_eq_true rfl) (by decide) (fun r I1 hq => ?_)
  obtain ⟨rfl, rfl⟩ := hq
  refine pf_X1_51 (pc := 294) h dX1_step_294 hk hkd ?_
  refine r_nmG (fun N10_ hM10 => ?_)
  have hM10 : N10_ = fS10 N9_ kx n := hM10
  refine r_aload_n (pc := 297) h dX1_step_297 rfl ?_
  refine gf_X1_9 (pc := 298) h dX1_step_298 hk hkd ?_
  refine r_iconst (v := 4) (pc := 301) h dX1_step_301 (by decide) ?_
  refine r_irem (pc := 302) h dX1_step_302 (by decide) ?_
  refine r_if_ne (pc := 303) h 320 dX1_step_303 (by decide) (fun c303 => ?_) (fun c303 => ?_)
  · refine r_nmG (fun N11_ hM11 => ?_)
    have hM11 : N11_ = fS11 N10_ kx := by
      rw [hM11]
      unfold fS11
      first
      | exact (if_pos c303).symm
      | exact (if_neg c303).symm
    exact hr _ _ _ dX1_step_320 (by rw [hM11, hM10, hM9, hM8, hM6, hM5, hM4, hM3, hM2, hM1]; rfl)
  · refine r_aload_n (pc := 306) h dX1_step_306 rfl ?_
    refine r_iconst (v := 0) (pc := 307) h dX1_step_307 (by decide) ?_
    refine r_aload_n (pc := 308) h dX1_step_308 rfl ?_
    refine gf_X1_61 (pc := 309) h dX1_step_309 hk hkd ?_
    refine r_iconst (v := 1) (pc := 312) h dX1_step_312 (by decide) ?_
    refine r_isub (pc := 313) h dX1_step_313 ?_
    refine r_callSI (pc := 314) h dX1_step_314 wm_X1_79 ca_J9_max_7cf53 (c_J9_max_7cf53 E _ _ _) rfl rfl (Nat.le_of_ble_eq_true rfl) (by decide) (fun r I1 hq => ?_)
    obtain ⟨rfl, rfl⟩ := hq
    refine pf_X1_61 (pc := 317) h dX1_step_317 hk hkd ?_
    refine r_nmG (fun N11_ hM11 => ?_)
    have hM11 : N11_ = fS11 N10_ kx := by
      rw [hM11]
      unfold fS11
      first
      | exact (if_pos c303).symm
      | exact (if_neg c303).symm
    exact hr _ _ _ dX1_step_320 (by rw [hM11, hM10, hM9, hM8, hM6, hM5, hM4, hM3, hM2, hM1]; rfl)
set_option maxRecDepth 100000 in
set_option maxHeartbeats 4000000 in
theorem c_X1_isNear (E : En) (I : Mem) (kx : Nat) (x : Int32) (y : Int32) (far : Int64) (hk : kx < 184) (hkd : kd kx = 1) : Ctr E yX1_isNear cX1_isNear 9 (some .boolean) 1 [.ref (E.1 kx), .int x, .int y, .long far] I (qI (fun (r : Int32) (I1 : Mem) => r = b2i (((I kx 0 - x).toInt64 * (I kx 0 - x).toInt64 + (I kx 1 - y).toInt64 * (I kx 1 - y).toInt64).toInt ≤ (far * far).toInt) ∧ I = I1)) := by
  refine Ctr.openI (by decide) (Nat.le_of_ble_eq_true rfl) (fun g h hr => ?_)
  have h : Sem cX1_isNear RX1 9 (rmL 1) E g := h
  show g I 0 [(0, .ref (E.1 kx)), (1, .int x), (2, .int y), (3, .long far)] []
  refine r_aload_n (pc := 0) h dX1_isNear_0 rfl ?_
  refine gf_X1_28 (pc := 1) h dX1_isNear_1 hk hkd ?_
  refine r_iload_n (pc := 4) h dX1_isNear_4 rfl ?_
  refine r_isub (pc := 5) h dX1_isNear_5 ?_
  refine r_i2l (pc := 6) h dX1_isNear_6 ?_
  refine r_lstore (pc := 7) h dX1_isNear_7 (by decide) ?_
  refine r_aload_n (pc := 9) h dX1_isNear_9 rfl ?_
  refine gf_X1_31 (pc := 10) h dX1_isNear_10 hk hkd ?_
  refine r_iload_n (pc := 13) h dX1_isNear_13 rfl ?_
  refine r_isub (pc := 14) h dX1_isNear_14 ?_
  refine r_i2l (pc := 15) h dX1_isNear_15 ?_
  refine r_lstore (pc := 16) h dX1_isNear_16 (by decide) ?_
  refine r_lload (pc := 18) h dX1_isNear_18 rfl ?_
  refine r_lload (pc := 20) h dX1_isNear_20 rfl ?_
  refine r_lmul (pc := 22) h dX1_isNear_22 ?_
  refine r_lload (pc := 23) h dX1_isNear_23 rfl ?_
  refine r_lload (pc := 25) h dX1_isNear_25 rfl ?_
  refine r_lmul (pc := 27) h dX1_isNear_27 ?_
  refine r_ladd (pc := 28) h dX1_isNear_28 ?_
  refine r_lload_n (pc := 29) h dX1_isNear_29 rfl ?_
  refine r_lload_n (pc := 30) h dX1_isNear_30 rfl ?_
  refine r_lmul (pc := 31) h dX1_isNear_31 ?_
  refine r_lcmp (pc := 32) h dX1_isNear_32 ?_
  refine r_if_gt (pc := 33) h 40 dX1_isNear_33 (by decide) (fun c33 => ?_) (fun c33 => ?_)
  · refine r_iconst (v := 0) (pc := 40) h dX1_isNear_40 (by decide) ?_
    exact hr _ _ _ _ dX1_isNear_41 (by first | rfl | decide | exact b2i_nar) (⟨by simp only [lg_gt, lg_ngt, eq0_b2i, eq1_b2i] at *; omega, rfl⟩)
  · refine r_iconst (v := 1) (pc := 36) h dX1_isNear_36 (by decide) ?_
    refine r_goto (pc := 37) h 41 dX1_isNear_37 (by decide) ?_
    exact hr _ _ _ _ dX1_isNear_41 (by first | rfl | decide | exact b2i_nar) (⟨by simp only [lg_gt, lg_ngt, eq0_b2i, eq1_b2i] at *; omega, rfl⟩)
