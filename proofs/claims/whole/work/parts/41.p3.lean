/-! FLIGHTS AS VALUES: (end, last tick, place and way) by stick, bend, wind, lean, angle, strength, spin -/
def flE (T : Nat → Nat → Int32) (n : Nat) (rg : Int32) (pr v0 : Vec) (m : Nat) : Int32 := endV (vSeq pr v0 m) (nI m) T n rg
def flN (T : Nat → Nat → Int32) (n : Nat) (rg : Int32) (pr v0 : Vec) : Nat := fst1 (fun m => decide (¬ flE T n rg pr v0 m = 0)) 400 1
theorem fl_uni {T : Nat → Nat → Int32} {n : Nat} {rg : Int32} {pr v0 : Vec} {N : Nat} (h1 : 1 ≤ N) (h4 : N ≤ 400) (hz : ∀ q, 1 ≤ q → q < N → flE T n rg pr v0 q = 0) (hN : ¬ flE T n rg pr v0 N = 0) : flN T n rg pr v0 = N :=
  fst1_eq _ h1 (by omega) (decide_eq_true hN) (fun k a b => decide_eq_false (fun q => q (hz k a b)))
abbrev FlR : Type := Int32 × Nat × Vec
def flV (T : Nat → Nat → Int32) (n : Nat) (rg : Int32) (pr v0 : Vec) : FlR := (flE T n rg pr v0 (flN T n rg pr v0), flN T n rg pr v0, vSeq pr v0 (flN T n rg pr v0))
abbrev Fl : Type := Int32 → Int32 → Int32 → Int32 → Int32 → Int32 → Int32 → FlR
def wiW (w : Int32) : Nat := if w = -1 then 4 else 59 + 3 * w.toNatClampNeg
def FF (I : Mem) : Fl := fun s bd w l a st sp => flV (trF I) (I 7 1).toNatClampNeg (I 7 2) (prF I s.toNatClampNeg bd (wiW w)) (v0of l a st sp)
def RR (I : Mem) : Fl := fun s bd w l a st sp => flV (trM I) (I 151 13).toNatClampNeg (I 151 18) (prM I s bd w) (v0of l a st sp)
abbrev fA (I : Mem) (am : Nat) (bd : Int32) : FlR := FF I (I am 0) bd (I am 5) (I am 1) (I am 2) (I am 3) (I am 4)
theorem end_all {I I1 : Mem} {kx am : Nat} {bd r : Int32} (h : EndPost I I1 kx am bd r) : r = (fA I am bd).1 ∧ (¬ r = 0) ∧ (1 ≤ (fA I am bd).2.1 ∧ (fA I am bd).2.1 ≤ 400) ∧ FlF I I1 kx (prF I (I am 0).toNatClampNeg bd (wiF I am)) (v0of (I am 1) (I am 2) (I am 3) (I am 4)) (fA I am bd).2.1 ∧ I1 kx 9 = r ∧ I1 kx 10 = hitV (fA I am bd).2.2 (trF I) (I 7 1).toNatClampNeg := by
  obtain ⟨N, h1, h4, hz, hN, hr, hF, h9, h10⟩ := h
  have e : (fA I am bd).2.1 = N := fl_uni (T := trF I) (n := (I 7 1).toNatClampNeg) (rg := I 7 2) (pr := prF I (I am 0).toNatClampNeg bd (wiF I am)) (v0 := v0of (I am 1) (I am 2) (I am 3) (I am 4)) h1 h4 hz hN
  subst e
  exact ⟨hr, by rw [hr]; exact hN, ⟨h1, h4⟩, hF, by rw [hr]; exact h9, h10⟩
theorem end17 {I I1 : Mem} {am : Nat} {bd r : Int32} (h : EndPost I I1 17 am bd r) : r = (fA I am bd).1 ∧ (¬ r = 0) ∧ I1 17 8 = nI (fA I am bd).2.1 ∧ I1 17 0 = (fA I am bd).2.2 0 ∧ I1 17 1 = (fA I am bd).2.2 1 ∧ (∀ a, a ≠ 17 → I1 a = I a) ∧ (1 ≤ (fA I am bd).2.1 ∧ (fA I am bd).2.1 ≤ 400) := by
  obtain ⟨h1, h2, h3, h4, h5, h6⟩ := end_all h
  refine ⟨h1, h2, h4.2.2.2.1, h4.2.2.1 0 (by decide), h4.2.2.1 1 (by decide), fun a ha => ?_, h3⟩
  by_cases e : a = 16
  · rw [e]
    exact h4.2.1 rfl
  · exact h4.1 a ha e
theorem flies_all {I I1 : Mem} {s bd l a st sp w r : Int32} (h : FliesPost I I1 s bd l a st sp w r) : r = (RR I s bd w l a st sp).1 ∧ (¬ r = 0) ∧ (1 ≤ (RR I s bd w l a st sp).2.1 ∧ (RR I s bd w l a st sp).2.1 ≤ 400) ∧ FlM I I1 (prM I s bd w) (v0of l a st sp) (RR I s bd w l a st sp).2.1 ∧ I1 151 21 = hitV (RR I s bd w l a st sp).2.2 (trM I) (I 151 13).toNatClampNeg := by
  obtain ⟨N, h1, h4, hz, hN, hr, hF, h9⟩ := h
  have e : (RR I s bd w l a st sp).2.1 = N := fl_uni (T := trM I) (n := (I 151 13).toNatClampNeg) (rg := I 151 18) (pr := prM I s bd w) (v0 := v0of l a st sp) h1 h4 hz hN
  subst e
  exact ⟨hr, by rw [hr]; exact hN, ⟨h1, h4⟩, hF, h9⟩
theorem flies0 {I I1 : Mem} {s bd l a st sp w r : Int32} (h : FliesPost I I1 s bd l a st sp w r) (h22 : I 151 22 = 0) : r = (RR I s bd w l a st sp).1 ∧ (¬ r = 0) ∧ I1 151 20 = nI (RR I s bd w l a st sp).2.1 ∧ I1 167 0 = (RR I s bd w l a st sp).2.2 0 ∧ I1 167 1 = (RR I s bd w l a st sp).2.2 1 ∧ (∀ a, a ≠ 167 → a ≠ 151 → I1 a = I a) ∧ (∀ j, j ≠ 20 → j ≠ 21 → I1 151 j = I 151 j) ∧ (1 ≤ (RR I s bd w l a st sp).2.1 ∧ (RR I s bd w l a st sp).2.1 ≤ 400) := by
  obtain ⟨h1, h2, h3, h4, h5⟩ := flies_all h
  refine ⟨h1, h2, h4.2.2.1, h4.2.2.2.1 0 (by decide), h4.2.2.2.1 1 (by decide), fun b hb hb2 => ?_, h4.2.1, h3⟩
  by_cases e : b = 168
  · rw [e]
    exact h4.2.2.2.2.1 h22
  · exact h4.1 b hb hb2 e
theorem hitN_T4 {v : Vec} {T T' : Nat → Nat → Int32} {n : Nat} (h : ∀ t, t < n → ∀ j, j < 4 → T j t = T' j t) : hitN v T n = hitN v T' n := by
  unfold hitN
  refine fst1_congr n 0 (fun k _ hk => ?_)
  unfold treeP
  rw [h k (by omega) 0 (by decide), h k (by omega) 1 (by decide), h k (by omega) 2 (by decide), h k (by omega) 3 (by decide)]
theorem hitV_T4 {v : Vec} {T T' : Nat → Nat → Int32} {n : Nat} (h : ∀ t, t < n → ∀ j, j < 4 → T j t = T' j t) : hitV v T n = hitV v T' n := by
  unfold hitV
  rw [hitN_T4 h]
theorem flE_T {T T' : Nat → Nat → Int32} {n : Nat} {rg : Int32} {pr v0 : Vec} (h : ∀ t, t < n → ∀ j, j < 4 → T j t = T' j t) : flE T n rg pr v0 = flE T' n rg pr v0 := by
  funext m
  unfold flE endV
  rw [hitN_T4 h]
theorem flV_T {T T' : Nat → Nat → Int32} {n : Nat} {rg : Int32} {pr v0 : Vec} (h : ∀ t, t < n → ∀ j, j < 4 → T j t = T' j t) : flV T n rg pr v0 = flV T' n rg pr v0 := by
  unfold flV flN
  rw [flE_T h]
theorem wiW_bd (w : Int32) : wiW w = 4 ∨ 59 ≤ wiW w := by
  unfold wiW
  split
  · exact Or.inl rfl
  · exact Or.inr (by omega)
theorem FF_congr {I J : Mem} (h : ∀ a, (4 ≤ a ∧ a ≤ 14) ∨ 41 ≤ a → J a = I a) (hc : 0 ≤ (I 7 1).toInt ∧ (I 7 1).toInt ≤ 6) : FF J = FF I := by
  funext s bd w l a st sp
  unfold FF
  have hw := wiW_bd w
  have e1 : prF J s.toNatClampNeg bd (wiW w) = prF I s.toNatClampNeg bd (wiW w) := by
    unfold prF
    rw [h (41 + 2 * s.toNatClampNeg) (by omega), h (41 + 2 * s.toNatClampNeg + 1) (by omega), h (wiW w + 1) (by omega), h (wiW w + 2) (by omega)]
  rw [e1, h 7 (by omega)]
  refine flV_T (fun t ht j _ => ?_)
  have ht6 : t < 6 := by
    rw [tn] at ht
    omega
  unfold trF
  rw [h (9 + t) (by omega)]
theorem RR_congr {I J : Mem} (h : ∀ a, 153 ≤ a ∧ a ≤ 166 → J a = I a) (h13 : J 151 13 = I 151 13) (h18 : J 151 18 = I 151 18) : RR J = RR I := by
  funext s bd w l a st sp
  unfold RR
  have e1 : prM J s bd w = prM I s bd w := by
    unfold prM
    rw [h 153 (by omega), h 154 (by omega), h 155 (by omega), h 156 (by omega), h 157 (by omega), h 159 (by omega), h 161 (by omega), h 162 (by omega)]
  have e2 : trM J = trM I := by
    unfold trM
    rw [h 163 (by omega), h 164 (by omega), h 165 (by omega), h 166 (by omega)]
  rw [e1, e2, h13, h18]
/-! bounds of a flight's place -/
theorem sinTab_bd (n : Nat) : 0 ≤ (sinTab n).toInt ∧ (sinTab n).toInt ≤ 1000 := by
  rcases Nat.lt_or_ge n 91 with h | h
  · have : ∀ n, n < 91 → 0 ≤ (sinTab n).toInt ∧ (sinTab n).toInt ≤ 1000 := by decide +kernel
    exact this n h
  · have e : sinTab n = 0 := by
      unfold sinTab
      rw [List.getD_eq_getElem?_getD, List.getElem?_eq_none (by exact h)]
      rfl
    rw [e]
    decide
theorem tI_neg {x : Int32} (h : -2147483648 < x.toInt) : (-x).toInt = -x.toInt := by
  have := tI_sub (x := 0) (y := x) (by rw [z32]; have := tI_hi x; omega) (by rw [z32]; omega)
  rw [z32, Int32.zero_sub] at this
  omega
theorem sinT_bd (d : Int32) : -1000 ≤ (sinT d).toInt ∧ (sinT d).toInt ≤ 1000 := by
  have h := sinTab_bd (sX d).toNatClampNeg
  unfold sinT
  split
  · rw [tI_neg (by omega)]
    omega
  · omega
theorem cosT_bd (d : Int32) : -1000 ≤ (cosT d).toInt ∧ (cosT d).toInt ≤ 1000 := sinT_bd _
theorem e1000 : (1000 : Int32).toInt = 1000 := by decide
theorem mulT {u v : Int32} {M : Int} (hM : 0 ≤ M ∧ M ≤ 1000) (hu : 0 ≤ u.toInt ∧ u.toInt ≤ M) (hv : -1000 ≤ v.toInt ∧ v.toInt ≤ 1000) : -M ≤ (u * v / 1000).toInt ∧ (u * v / 1000).toInt ≤ M := by
  have a1 : u.toInt * v.toInt ≤ M * 1000 := by
    rcases Int.lt_or_le v.toInt 0 with q | q
    · have := Int.mul_nonpos_of_nonneg_of_nonpos hu.1 (Int.le_of_lt q)
      omega
    · have := Int.mul_le_mul hu.2 hv.2 q hM.1
      omega
  have a2 : -(M * 1000) ≤ u.toInt * v.toInt := by
    rcases Int.lt_or_le v.toInt 0 with q | q
    · have := Int.mul_le_mul hu.2 (show -v.toInt ≤ 1000 by omega) (by omega) hM.1
      rw [Int.mul_neg] at this
      omega
    · have := Int.mul_nonneg hu.1 q
      omega
  have e : (u * v).toInt = u.toInt * v.toInt := tI_mul (by omega) (by omega)
  rw [tI_div (by rw [e1000]; omega), e1000, e]
  rcases Int.lt_or_le (u.toInt * v.toInt) 0 with q | q
  · have := tdiv_neg (b := 1000) q (by omega)
    omega
  · have := tdiv_pos (b := 1000) q (by omega)
    omega
theorem vSeq_xy {pr v0 : Vec} (h0 : v0 0 = 0) (h1 : v0 1 = 0) (h5 : 0 ≤ (v0 5).toInt ∧ (v0 5).toInt ≤ 250) (h6 : 0 ≤ (v0 6).toInt ∧ (v0 6).toInt ≤ 1000) (hp : ∀ b, b < 4 → 0 ≤ (pr (10 + b)).toInt ∧ (pr (10 + b)).toInt ≤ 60) : ∀ i : Nat, i ≤ 400 → (-(310 * (i : Int)) ≤ (vSeq pr v0 i 0).toInt ∧ (vSeq pr v0 i 0).toInt ≤ 310 * (i : Int)) ∧ (-(310 * (i : Int)) ≤ (vSeq pr v0 i 1).toInt ∧ (vSeq pr v0 i 1).toInt ≤ 310 * (i : Int))
  | 0, _ => by
    show (_ ≤ (v0 0).toInt ∧ (v0 0).toInt ≤ _) ∧ (_ ≤ (v0 1).toInt ∧ (v0 1).toInt ≤ _)
    rw [h0, h1, z32]
    omega
  | i + 1, hi => by
    have ih := vSeq_xy h0 h1 h5 h6 hp i (by omega)
    have r5 := (vSeq_rg (pr := pr) h5 h6 i).1
    show (_ ≤ (pX pr (vSeq pr v0 i)).toInt ∧ (pX pr (vSeq pr v0 i)).toInt ≤ _) ∧ (_ ≤ (pY pr (vSeq pr v0 i)).toInt ∧ (pY pr (vSeq pr v0 i)).toInt ≤ _)
    generalize vSeq pr v0 i = v at ih r5
    have hb := hp _ (bH_lt (v 2 + pC pr v))
    have a1 := mulT (u := v 5) (v := sinT (pW pr v / 100)) (M := 250) (by omega) r5 (sinT_bd _)
    have a2 := mulT (u := v 5) (v := cosT (pW pr v / 100)) (M := 250) (by omega) r5 (cosT_bd _)
    have a3 := mulT (u := pr (10 + (bandH (v 2 + pC pr v)).toNatClampNeg)) (v := sinT (pr (14 + (bandH (v 2 + pC pr v)).toNatClampNeg))) (M := 60) (by omega) hb (sinT_bd _)
    have a4 := mulT (u := pr (10 + (bandH (v 2 + pC pr v)).toNatClampNeg)) (v := cosT (pr (14 + (bandH (v 2 + pC pr v)).toNatClampNeg))) (M := 60) (by omega) hb (cosT_bd _)
    unfold pX pY
    generalize v 5 * sinT (pW pr v / 100) / 1000 = z1 at a1 ⊢
    generalize v 5 * cosT (pW pr v / 100) / 1000 = z2 at a2 ⊢
    generalize pr (10 + (bandH (v 2 + pC pr v)).toNatClampNeg) * sinT (pr (14 + (bandH (v 2 + pC pr v)).toNatClampNeg)) / 1000 = z3 at a3 ⊢
    generalize pr (10 + (bandH (v 2 + pC pr v)).toNatClampNeg) * cosT (pr (14 + (bandH (v 2 + pC pr v)).toNatClampNeg)) / 1000 = z4 at a4 ⊢
    have s1 : (v 0 + z1).toInt = (v 0).toInt + z1.toInt := tI_add (by omega) (by omega)
    have s2 : (v 0 + z1 + z3).toInt = (v 0).toInt + z1.toInt + z3.toInt := by rw [tI_add (by omega) (by omega), s1]
    have s3 : (v 1 + z2).toInt = (v 1).toInt + z2.toInt := tI_add (by omega) (by omega)
    have s4 : (v 1 + z2 + z4).toInt = (v 1).toInt + z2.toInt + z4.toInt := by rw [tI_add (by omega) (by omega), s3]
    rw [s2, s4]
    omega
/-- where flights end -/
abbrev nearB (z : FlR) : Prop := (-124000 ≤ (z.2.2 0).toInt ∧ (z.2.2 0).toInt ≤ 124000) ∧ (-124000 ≤ (z.2.2 1).toInt ∧ (z.2.2 1).toInt ≤ 124000)
theorem flV_bd {T : Nat → Nat → Int32} {n : Nat} {rg : Int32} {pr : Vec} {l a st sp : Int32} (hst : 30 ≤ st.toInt ∧ st.toInt ≤ 250) (hsp : 100 ≤ sp.toInt ∧ sp.toInt ≤ 1000) (hp : ∀ b, b < 4 → 0 ≤ (pr (10 + b)).toInt ∧ (pr (10 + b)).toInt ≤ 60) (hN : (flV T n rg pr (v0of l a st sp)).2.1 ≤ 400) : nearB (flV T n rg pr (v0of l a st sp)) := by
  have := vSeq_xy (pr := pr) (v0 := v0of l a st sp) rfl rfl (by show 0 ≤ st.toInt ∧ st.toInt ≤ 250; omega) (by show 0 ≤ sp.toInt ∧ sp.toInt ≤ 1000; omega) hp _ hN
  refine ⟨⟨?_, ?_⟩, ⟨?_, ?_⟩⟩
  · exact Int.le_trans (by omega) this.1.1
  · exact Int.le_trans this.1.2 (by omega)
  · exact Int.le_trans (by omega) this.2.1
  · exact Int.le_trans this.2.2 (by omega)
/-! the whole root -/
def isq (v : Nat) : Nat := fst1 (fun r => decide (v < (r + 1) * (r + 1))) (v + 1) 0
theorem isq_eq {v r : Nat} (h1 : r * r ≤ v) (h2 : v < (r + 1) * (r + 1)) : isq v = r :=
  fst1_eq _ (Nat.zero_le _) (by have := Nat.le_mul_self r; omega) (decide_eq_true h2) (fun k _ hk => decide_eq_false (fun q => by
    have : (k + 1) * (k + 1) ≤ r * r := Nat.mul_le_mul hk hk
    omega))
def dsq (x y : Int32) : Nat := (x.toInt * x.toInt + y.toInt * y.toInt).toNat
def ptsD (x y : Int32) : Int32 := if isq (dsq x y) / 50 ≤ 40 then nI (40 - isq (dsq x y) / 50) else 0
def ptsP (z : FlR) : Int32 := if z.1 = 2 then 50 else if z.1 = 1 then ptsD (z.2.2 0) (z.2.2 1) else 0
theorem sq_bd {a : Int} (h1 : -124000 ≤ a) (h2 : a ≤ 124000) : 0 ≤ a * a ∧ a * a ≤ 15376000000 := by
  rcases Int.lt_or_le a 0 with q | q
  · have e : a * a = (-a) * (-a) := by rw [Int.neg_mul_neg]
    have := Int.mul_le_mul (show -a ≤ 124000 by omega) (show -a ≤ 124000 by omega) (by omega) (by omega)
    have := Int.mul_nonneg (show 0 ≤ -a by omega) (show 0 ≤ -a by omega)
    omega
  · have := Int.mul_le_mul h2 h2 q (by omega)
    have := Int.mul_nonneg q q
    omega
theorem tL_mul {x y : Int64} (h1 : -9223372036854775808 ≤ x.toInt * y.toInt) (h2 : x.toInt * y.toInt < 9223372036854775808) : (x * y).toInt = x.toInt * y.toInt := by
  rw [Int64.toInt_mul]
  exact Int.bmod_eq_of_le (by omega) (by omega)
theorem sqL {x y : Int32} (hx : -124000 ≤ x.toInt ∧ x.toInt ≤ 124000) (hy : -124000 ≤ y.toInt ∧ y.toInt ≤ 124000) : (x.toInt64 * x.toInt64 + y.toInt64 * y.toInt64).toInt = (dsq x y : Int) ∧ (dsq x y : Int) ≤ 30752000000 := by
  have a1 := sq_bd hx.1 hx.2
  have a2 := sq_bd hy.1 hy.2
  have e1 : (x.toInt64 * x.toInt64).toInt = x.toInt * x.toInt := by rw [tL_mul (by rw [Int32.toInt_toInt64]; omega) (by rw [Int32.toInt_toInt64]; omega), Int32.toInt_toInt64]
  have e2 : (y.toInt64 * y.toInt64).toInt = y.toInt * y.toInt := by rw [tL_mul (by rw [Int32.toInt_toInt64]; omega) (by rw [Int32.toInt_toInt64]; omega), Int32.toInt_toInt64]
  have e3 : (dsq x y : Int) = x.toInt * x.toInt + y.toInt * y.toInt := by
    unfold dsq
    omega
  refine ⟨?_, by omega⟩
  rw [tL_add (by omega) (by omega), e1, e2, e3]
