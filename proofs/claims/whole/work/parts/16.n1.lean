/-! NUMBERS: quotient, remainder, exclusive or, by toInt -/
theorem tdiv_pos {a b : Int} (ha : 0 ≤ a) (hb : 0 < b) : a.tdiv b = a / b ∧ 0 ≤ a / b ∧ a / b ≤ a := by
  refine ⟨Int.tdiv_eq_ediv_of_nonneg ha, Int.ediv_nonneg ha (by omega), Int.ediv_le_self b ha⟩
theorem tdiv_neg {a b : Int} (ha : a < 0) (hb : 0 < b) : a.tdiv b = -((-a) / b) ∧ 0 ≤ (-a) / b ∧ (-a) / b ≤ -a := by
  have h := tdiv_pos (a := -a) (b := b) (by omega) hb
  refine ⟨?_, h.2⟩
  rw [← h.1, Int.neg_tdiv, Int.neg_neg]
theorem tI_div {x y : Int32} (hy : 0 < y.toInt) : (x / y).toInt = x.toInt.tdiv y.toInt := by
  rw [Int32.toInt_div]
  have h1 := tI_lo x
  have h2 := tI_hi x
  rcases Int.lt_or_le x.toInt 0 with h | h
  · have h3 := tdiv_neg h hy
    rw [h3.1]
    rcases Int.lt_or_le x.toInt (-2147483648 + 1) with q | q
    · exact Int.bmod_eq_of_le (by omega) (by omega)
    · exact Int.bmod_eq_of_le (by omega) (by omega)
  · have h3 := tdiv_pos h hy
    rw [h3.1]
    exact Int.bmod_eq_of_le (by omega) (by omega)
theorem tdiv_mul_bd (a b : Int) (hb : 0 < b) : (0 ≤ a → 0 ≤ a.tdiv b * b ∧ a.tdiv b * b ≤ a) ∧ (a < 0 → a ≤ a.tdiv b * b ∧ a.tdiv b * b ≤ 0) := by
  constructor
  · intro h
    have h3 := tdiv_pos h hb
    rw [h3.1]
    exact ⟨Int.mul_nonneg h3.2.1 (by omega), Int.ediv_mul_le a (by omega)⟩
  · intro h
    have h3 := tdiv_neg h hb
    rw [h3.1, Int.neg_mul]
    have h4 := Int.ediv_mul_le (-a) (show b ≠ 0 by omega)
    have h5 := Int.mul_nonneg h3.2.1 (show 0 ≤ b by omega)
    omega
theorem tI_rem {x y : Int32} (hy : 0 < y.toInt) : (x - x / y * y).toInt = x.toInt.tmod y.toInt := by
  have h1 := tI_lo x
  have h2 := tI_hi x
  have hd := tI_div (x := x) hy
  have hb := tdiv_mul_bd x.toInt y.toInt hy
  have hm : (x / y * y).toInt = x.toInt.tdiv y.toInt * y.toInt := by
    rw [tI_mul (by rw [hd]; rcases Int.lt_or_le x.toInt 0 with h | h <;> omega) (by rw [hd]; rcases Int.lt_or_le x.toInt 0 with h | h <;> omega), hd]
  rw [tI_sub (by rw [hm]; rcases Int.lt_or_le x.toInt 0 with h | h <;> omega) (by rw [hm]; rcases Int.lt_or_le x.toInt 0 with h | h <;> omega), hm, Int.tmod_def, Int.mul_comm]
theorem xor_neg {x y : Int32} (hy : 0 ≤ y.toInt) : (x ^^^ y).toInt < 0 ↔ x.toInt < 0 := by
  have h1 : ((x ^^^ y).toBitVec).msb = (x.toBitVec.msb ^^ y.toBitVec.msb) := by rw [Int32.toBitVec_xor, BitVec.msb_xor]
  rw [BitVec.msb_eq_toInt, BitVec.msb_eq_toInt, BitVec.msb_eq_toInt] at h1
  have e0 : ∀ z : Int32, z.toBitVec.toInt = z.toInt := fun _ => rfl
  rw [e0, e0, e0] at h1
  have hy2 : ¬ y.toInt < 0 := by omega
  simp only [hy2, decide_false, Bool.xor_false, decide_eq_decide] at h1
  exact h1
