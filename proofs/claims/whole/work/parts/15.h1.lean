/-! HELPERS: numbers, places, rows of single arrays -/
theorem tI_add {x y : Int32} (h1 : -2147483648 ≤ x.toInt + y.toInt) (h2 : x.toInt + y.toInt < 2147483648) : (x + y).toInt = x.toInt + y.toInt := by
  rw [Int32.toInt_add]
  exact Int.bmod_eq_of_le (by omega) (by omega)
theorem tI_sub {x y : Int32} (h1 : -2147483648 ≤ x.toInt - y.toInt) (h2 : x.toInt - y.toInt < 2147483648) : (x - y).toInt = x.toInt - y.toInt := by
  rw [Int32.toInt_sub]
  exact Int.bmod_eq_of_le (by omega) (by omega)
theorem tI_mul {x y : Int32} (h1 : -2147483648 ≤ x.toInt * y.toInt) (h2 : x.toInt * y.toInt < 2147483648) : (x * y).toInt = x.toInt * y.toInt := by
  rw [Int32.toInt_mul]
  exact Int.bmod_eq_of_le (by omega) (by omega)
theorem tI_lo (x : Int32) : -2147483648 ≤ x.toInt := by have := Int32.le_toInt x; omega
theorem tI_hi (x : Int32) : x.toInt < 2147483648 := by have := Int32.toInt_lt x; omega
theorem i1 : (1 : Int32).toInt = 1 := by decide
theorem tI_add1 {x : Int32} (h : x.toInt < 2147483647) : (x + 1).toInt = x.toInt + 1 := by
  have := tI_lo x
  rw [tI_add (by rw [i1]; omega) (by rw [i1]; omega), i1]
theorem tI_sub1 {x : Int32} (h : -2147483648 < x.toInt) : (x - 1).toInt = x.toInt - 1 := by
  have := tI_hi x
  rw [tI_sub (by rw [i1]; omega) (by rw [i1]; omega), i1]
theorem tn (x : Int32) : x.toNatClampNeg = x.toInt.toNat := rfl
theorem tnI (x : Int32) (h : 0 ≤ x.toInt) : (x.toNatClampNeg : Int) = x.toInt := by rw [tn]; omega
theorem vin {i : Int32} {n : Nat} (h0 : 0 ≤ i.toInt) (h1 : i.toInt < n) : vp_in i n := by
  intro q
  rcases q with q | q
  · rw [Int32.lt_iff_toInt_lt] at q
    have : (0 : Int32).toInt = 0 := by decide
    omega
  · rw [tn] at q
    omega
theorem kdSt : ∀ n, n < 9 → kd (41 + 2 * n) = 7 := by decide
theorem kdLi : ∀ n, n < 9 → kd (41 + 2 * n + 1) = 12 := by decide
theorem lnLi : ∀ n, n < 9 → ln (41 + 2 * n + 1) = 4 := by decide
theorem rfLi : ∀ n, n < 9 → rf (41 + 2 * n) 7 = 41 + 2 * n + 1 := by decide
theorem kdWi : ∀ n, n < 8 → kd (59 + 3 * n) = 9 := by decide
theorem kdWs : ∀ n, n < 8 → kd (59 + 3 * n + 1) = 12 := by decide
theorem kdWt : ∀ n, n < 8 → kd (59 + 3 * n + 2) = 12 := by decide
theorem lnWs : ∀ n, n < 8 → ln (59 + 3 * n + 1) = 4 := by decide
theorem lnWt : ∀ n, n < 8 → ln (59 + 3 * n + 2) = 4 := by decide
theorem rfWs : ∀ n, n < 8 → rf (59 + 3 * n) 0 = 59 + 3 * n + 1 := by decide
theorem rfWt : ∀ n, n < 8 → rf (59 + 3 * n) 1 = 59 + 3 * n + 2 := by decide
theorem kdTr : ∀ n, n < 6 → kd (9 + n) = 8 := by decide
theorem kdAi : ∀ n, n < 2 → kd (22 + n) = 0 := by decide
theorem kdPt : ∀ n, n < 5 → kd (29 + n) = 12 := by decide
theorem lnPt : ∀ n, n < 5 → ln (29 + n) = 9 := by decide
theorem kdRo : ∀ n, n < 30 → kd (83 + 2 * n) = 5 := by decide
theorem kdRa : ∀ n, n < 30 → kd (83 + 2 * n + 1) = 0 := by decide
theorem rfRa : ∀ n, n < 30 → rf (83 + 2 * n) 0 = 83 + 2 * n + 1 := by decide
theorem kdSh : ∀ n, n < 4 → kd (143 + 2 * n) = 6 := by decide
theorem kdSi : ∀ n, n < 4 → kd (143 + 2 * n + 1) = 12 := by decide
theorem lnSi : ∀ n, n < 4 → ln (143 + 2 * n + 1) = 60 := by decide
theorem rfSi : ∀ n, n < 4 → rf (143 + 2 * n) 2 = 143 + 2 * n + 1 := by decide
section GA
variable {cc : ByteArray} {own : String} {nL : Nat} {R : Room} {E : En} {g : GT} {I : Mem} {lv : LV} {st : List Value}
theorem r_aa2 (h : Sem cc own nL R E g) {pc : Nat} {i : Int32} (d : decode cc pc = .ok (.aaload, 1)) (hin : vp_in i (ln 2)) (kk : g I (pc + 1) lv (.ref (E.1 (41 + 2 * i.toNatClampNeg)) :: st)) : g I pc lv (.int i :: .ref (E.1 2) :: st) := r_aald h (ci := 17) (C := "ThrowersBag$Stick") d 5 rfl (by decide) (by decide) (by decide) hin kk
theorem r_aa3 (h : Sem cc own nL R E g) {pc : Nat} {i : Int32} (d : decode cc pc = .ok (.aaload, 1)) (hin : vp_in i (ln 3)) (kk : g I (pc + 1) lv (.ref (E.1 (59 + 3 * i.toNatClampNeg)) :: st)) : g I pc lv (.int i :: .ref (E.1 3) :: st) := r_aald h (ci := 19) (C := "ThrowersBag$Wind") d 7 rfl (by decide) (by decide) (by decide) hin kk
theorem r_aa8 (h : Sem cc own nL R E g) {pc : Nat} {i : Int32} (d : decode cc pc = .ok (.aaload, 1)) (hin : vp_in i (ln 8)) (kk : g I (pc + 1) lv (.ref (E.1 (9 + i.toNatClampNeg)) :: st)) : g I pc lv (.int i :: .ref (E.1 8) :: st) := r_aald h (ci := 18) (C := "ThrowersBag$Tree") d 6 rfl (by decide) (by decide) (by decide) hin kk
theorem r_aa21 (h : Sem cc own nL R E g) {pc : Nat} {i : Int32} (d : decode cc pc = .ok (.aaload, 1)) (hin : vp_in i (ln 21)) (kk : g I (pc + 1) lv (.ref (E.1 (22 + i.toNatClampNeg)) :: st)) : g I pc lv (.int i :: .ref (E.1 21) :: st) := r_aald h (ci := 14) (C := "ThrowersBag$Aim") d 2 rfl (by decide) (by decide) (by decide) hin kk
theorem r_aa36 (h : Sem cc own nL R E g) {pc : Nat} {i : Int32} (d : decode cc pc = .ok (.aaload, 1)) (hin : vp_in i (ln 36)) (kk : g I (pc + 1) lv (.ref (E.1 (83 + 2 * i.toNatClampNeg)) :: st)) : g I pc lv (.int i :: .ref (E.1 36) :: st) := r_aald h (ci := 15) (C := "ThrowersBag$Row") d 3 rfl (by decide) (by decide) (by decide) hin kk
theorem r_aa40 (h : Sem cc own nL R E g) {pc : Nat} {i : Int32} (d : decode cc pc = .ok (.aaload, 1)) (hin : vp_in i (ln 40)) (kk : g I (pc + 1) lv (.ref (E.1 (143 + 2 * i.toNatClampNeg)) :: st)) : g I pc lv (.int i :: .ref (E.1 40) :: st) := r_aald h (ci := 16) (C := "ThrowersBag$Sheet") d 4 rfl (by decide) (by decide) (by decide) hin kk
theorem r_aa28 (h : Sem cc own nL R E g) {pc : Nat} {i : Int32} (d : decode cc pc = .ok (.aaload, 1)) (hin : vp_in i (ln 28)) (kk : g I (pc + 1) lv (.ref (E.1 (29 + i.toNatClampNeg)) :: st)) : g I pc lv (.int i :: .ref (E.1 28) :: st) := r_aaldA h d (by decide) (by decide) hin kk
end GA
