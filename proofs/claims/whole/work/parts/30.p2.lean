/-! THE CLASS's step is the pure one -/
def wvT (d : Nat) : Int32 := if d < 360 then sinT (nI d) else sinT (nI (d - 360))
theorem nI_ofx {x : Int32} (h : 0 ≤ x.toInt) : nI x.toNatClampNeg = x := by
  rw [i32_eq, nI_toInt (by have := tI_hi x; rw [tn]; omega), tn]
  omega
theorem wv_sin {x : Int32} (h : 0 ≤ x.toInt ∧ x.toInt ≤ 359) : wvT x.toNatClampNeg = sinT x := by
  unfold wvT
  rw [if_pos (by rw [tn]; omega), nI_ofx h.1]
theorem wv_cos {x : Int32} (h : 0 ≤ x.toInt ∧ x.toInt ≤ 359) : wvT (x + 90).toNatClampNeg = cosT x := by
  have e270 : (270 : Int32).toInt = 270 := by decide
  have ea : (x + 90).toInt = x.toInt + 90 := by rw [tI_add (by rw [e90]; omega) (by rw [e90]; omega), e90]
  unfold wvT cosT
  by_cases q : 270 ≤ x
  · rw [if_pos q]
    rw [Int32.le_iff_toInt_le, e270] at q
    rw [if_neg (by rw [tn, ea]; omega)]
    have e5 : nI ((x + 90).toNatClampNeg - 360) = x - 270 := by
      rw [i32_eq, nI_toInt (by rw [tn, ea]; omega), tn, ea, tI_sub (by rw [e270]; omega) (by rw [e270]; omega), e270]
      omega
    rw [e5]
  · rw [if_neg q]
    rw [Int32.le_iff_toInt_le, e270] at q
    rw [if_pos (by rw [tn, ea]; omega), nI_ofx (by rw [ea]; omega)]
theorem liftWV {lf ho v6 : Int32} (h : 0 ≤ ho.toInt) : liftW lf ho v6 = liftV lf ho v6 := by
  unfold liftW liftV
  by_cases q : ho = 0
  · have q2 : ¬ 0 < ho := by rw [Int32.lt_iff_toInt_lt, z32, q, z32]; omega
    rw [if_pos q, if_neg q2]
  · have q2 : 0 < ho := by rw [Int32.lt_iff_toInt_lt, z32]; rw [i32_eq, z32] at q; omega
    rw [if_neg q, if_pos q2]
theorem mm80 (x : Int32) : maxI (-80) (minI 80 x) = heldI x (-80) 80 := by
  have e8 : (80 : Int32).toInt = 80 := by decide
  have e9 : (-80 : Int32).toInt = -80 := by decide
  unfold maxI minI heldI
  by_cases q1 : x < 80
  · rw [if_pos q1]
    by_cases q2 : (-80 : Int32) < x
    · rw [if_pos q2]
      rw [Int32.lt_iff_toInt_lt] at q1 q2
      rw [if_neg (by rw [Int32.lt_iff_toInt_lt]; omega), if_neg (by rw [Int32.lt_iff_toInt_lt]; omega)]
    · rw [if_neg q2]
      rw [Int32.lt_iff_toInt_lt] at q1 q2
      by_cases q3 : x < -80
      · rw [if_pos q3]
      · rw [if_neg q3]
        rw [Int32.lt_iff_toInt_lt] at q3
        rw [if_neg (by rw [Int32.lt_iff_toInt_lt]; omega)]
        rw [i32_eq]
        omega
  · rw [if_neg q1, if_pos (by decide)]
    rw [Int32.lt_iff_toInt_lt] at q1
    rw [if_neg (by rw [Int32.lt_iff_toInt_lt]; omega)]
    by_cases q3 : (80 : Int32) < x
    · rw [if_pos q3]
    · rw [if_neg q3]
      rw [Int32.lt_iff_toInt_lt] at q3
      rw [i32_eq]
      omega
theorem mx_held {x lo hi : Int32} (h : x.toInt ≤ hi.toInt) (h2 : lo.toInt ≤ hi.toInt) : maxI lo x = heldI x lo hi := by
  unfold maxI heldI
  by_cases q : lo < x
  · rw [if_pos q]
    rw [Int32.lt_iff_toInt_lt] at q
    rw [if_neg (by rw [Int32.lt_iff_toInt_lt]; omega), if_neg (by rw [Int32.lt_iff_toInt_lt]; omega)]
  · rw [if_neg q]
    by_cases q3 : x < lo
    · rw [if_pos q3]
    · rw [if_neg q3]
      rw [Int32.lt_iff_toInt_lt] at q q3
      rw [if_neg (by rw [Int32.lt_iff_toInt_lt]; omega)]
      rw [i32_eq]
      omega
theorem fm_wayR (x : Int32) : fmI x 36000 = wayR x := by
  have hb := wayR_bd x
  have h1 := tI_rem (x := x) (y := 36000) (by rw [e36k]; omega)
  have hbb := tmod_bounds (a := x.toInt) (M := 36000) (by omega)
  rw [e36k] at h1
  unfold fmI
  refine (eq_ofInt ?_).symm
  unfold wayR
  obtain ⟨z, hz⟩ : ∃ z, z = x - x / 36000 * 36000 + 36000 := ⟨_, rfl⟩
  have h2 : z.toInt = x.toInt.tmod 36000 + 36000 := by
    rw [hz, tI_add (by rw [h1, e36k]; omega) (by rw [h1, e36k]; omega), h1, e36k]
  rw [← hz, tI_rem (x := z) (y := 36000) (by rw [e36k]; omega), e36k, Int.tmod_eq_emod_of_nonneg (by omega), h2]
  rcases Int.lt_or_le (x.toInt.tmod 36000) 0 with q | q
  · have := fm_a (x := x.toInt) (y := 36000) (by omega) q
    omega
  · have := fm_b (x := x.toInt) (y := 36000) (by omega) q
    omega
def prF (I : Mem) (n : Nat) (bd : Int32) (wi : Nat) : Vec := fun j => if j = 0 then I (41 + 2 * n) 0 else if j = 1 then I (41 + 2 * n) 1 else if j = 2 then I (41 + 2 * n) 2 else if j = 3 then I (41 + 2 * n) 3 else if j = 4 then I (41 + 2 * n) 4 else if j = 5 then bd else if j < 10 then I (41 + 2 * n + 1) (j - 6) else if j < 14 then I (wi + 1) (j - 10) else if j < 18 then I (wi + 2) (j - 14) else 0
theorem prF_lift (I : Mem) (n : Nat) (bd : Int32) (wi : Nat) {b : Nat} (hb : b < 4) : prF I n bd wi (6 + b) = I (41 + 2 * n + 1) b := by
  unfold prF
  rw [if_neg (by omega), if_neg (by omega), if_neg (by omega), if_neg (by omega), if_neg (by omega), if_neg (by omega), if_pos (by omega)]
  congr 1
  omega
theorem prF_sp (I : Mem) (n : Nat) (bd : Int32) (wi : Nat) {b : Nat} (hb : b < 4) : prF I n bd wi (10 + b) = I (wi + 1) b := by
  unfold prF
  rw [if_neg (by omega), if_neg (by omega), if_neg (by omega), if_neg (by omega), if_neg (by omega), if_neg (by omega), if_neg (by omega), if_pos (by omega)]
  congr 1
  omega
theorem prF_to (I : Mem) (n : Nat) (bd : Int32) (wi : Nat) {b : Nat} (hb : b < 4) : prF I n bd wi (14 + b) = I (wi + 2) b := by
  unfold prF
  rw [if_neg (by omega), if_neg (by omega), if_neg (by omega), if_neg (by omega), if_neg (by omega), if_neg (by omega), if_neg (by omega), if_neg (by omega), if_pos (by omega)]
  congr 1
  omega
set_option maxHeartbeats 1000000 in
/-- what the class's step does -/
theorem F_step_is (J : Mem) (k n : Nat) (bd : Int32) (wi : Nat) (hkk : k = 15 ∨ k = 17) (hn : n < 9) (hwi : isWi wi) (hT : J 1 = wvT)
    (hl : 0 ≤ (J k 7).toInt ∧ (J k 7).toInt ≤ 90) (hsp : (J k 6).toInt ≤ 1000 ∧ 0 ≤ (J k 6).toInt) (hsd : (J k 5).toInt ≤ 250 ∧ 0 ≤ (J k 5).toInt) (ht : ∀ p, p < 4 → 0 ≤ (J (wi + 2) p).toInt ∧ (J (wi + 2) p).toInt ≤ 359)
    (hlo : 0 ≤ (J (41 + 2 * n) 2).toInt ∧ (J (41 + 2 * n) 2).toInt ≤ 20) (hdr : 0 ≤ (J (41 + 2 * n) 3).toInt ∧ (J (41 + 2 * n) 3).toInt ≤ 10) (hho : 0 ≤ (J (41 + 2 * n) 4).toInt) :
    (∀ j, j < 8 → F_step J k n bd wi k j = pst (prF J n bd wi) (J k 8 + 1) (J k) j) ∧ (∀ a, a ≠ k → F_step J k n bd wi a = J a) ∧ F_step J k n bd wi k 8 = J k 8 + 1 ∧ F_step J k n bd wi k 9 = J k 9 ∧ F_step J k n bd wi k 10 = J k 10 := by
  have hwb := hwi.2.1
  unfold F_step
  obtain ⟨M1, h1⟩ : ∃ M, M = fS1 J k := ⟨_, rfl⟩
  obtain ⟨M2, h2⟩ : ∃ M, M = fS2 M1 k n := ⟨_, rfl⟩
  obtain ⟨M3, h3⟩ : ∃ M, M = fS3 M2 k := ⟨_, rfl⟩
  obtain ⟨M4, h4⟩ : ∃ M, M = fS4 M3 k n bd := ⟨_, rfl⟩
  obtain ⟨M5, h5⟩ : ∃ M, M = fS5 M4 k := ⟨_, rfl⟩
  obtain ⟨M6, h6⟩ : ∃ M, M = fS6 M5 k := ⟨_, rfl⟩
  obtain ⟨M8, h8⟩ : ∃ M, M = fSw M6 k wi := ⟨_, rfl⟩
  obtain ⟨M9, h9⟩ : ∃ M, M = fS9 M8 k n := ⟨_, rfl⟩
  obtain ⟨M10, h10⟩ : ∃ M, M = fS10 M9 k n := ⟨_, rfl⟩
  rw [← h1, ← h2, ← h3, ← h4, ← h5, ← h6, ← h8, ← h9, ← h10]
  have o1 : ∀ a, a ≠ k → M1 a = J a := fun a ha => by rw [h1]; exact upm_ne _ _ _ ha
  have o2 : ∀ a, a ≠ k → M2 a = J a := fun a ha => by rw [h2, ← o1 a ha]; exact upm_ne _ _ _ ha
  have o3 : ∀ a, a ≠ k → M3 a = J a := fun a ha => by rw [h3, ← o2 a ha]; exact upm_ne _ _ _ ha
  have o4 : ∀ a, a ≠ k → M4 a = J a := fun a ha => by rw [h4, ← o3 a ha]; exact upm_ne _ _ _ ha
  have o5 : ∀ a, a ≠ k → M5 a = J a := fun a ha => by rw [h5, ← o4 a ha]; exact upm_ne _ _ _ ha
  have o6 : ∀ a, a ≠ k → M6 a = J a := fun a ha => by rw [h6, ← o5 a ha]; exact upm_ne _ _ _ ha
  have o8 : ∀ a, a ≠ k → M8 a = J a := fun a ha => by
    rw [h8, ← o6 a ha]
    unfold fSw fS8 fS7
    rw [upm_ne _ _ _ ha, upm_ne _ _ _ ha]
  have o9 : ∀ a, a ≠ k → M9 a = J a := fun a ha => by rw [h9, ← o8 a ha]; exact upm_ne _ _ _ ha
  have o10 : ∀ a, a ≠ k → M10 a = J a := fun a ha => by rw [h10, ← o9 a ha]; exact upm_ne _ _ _ ha
  have n1 : (1 : Nat) ≠ k := by omega
  have ns : 41 + 2 * n ≠ k := by omega
  have nl : 41 + 2 * n + 1 ≠ k := by omega
  have nw1 : wi + 1 ≠ k := by omega
  have nw2 : wi + 2 ≠ k := by omega
  have k1 : ∀ j, j ≠ 8 → M1 k j = J k j := fun j hj => by
    rw [h1]
    unfold fS1
    rw [upm_at, if_neg (fun q => hj q.2)]
  have c2 : M2 k 3 = pC (prF J n bd wi) (J k) := by
    rw [h2]
    unfold fS2 pC
    rw [upm_eq, mm80, k1 3 (by decide), k1 5 (by decide), k1 6 (by decide), k1 7 (by decide), o1 _ nl, o1 _ ns, o1 _ n1, hT, wv_cos ⟨hl.1, by omega⟩, prF_lift _ _ _ _ (bS_lt _), liftWV hho]
    rfl
  have k2 : ∀ j, j ≠ 3 → j ≠ 8 → M2 k j = J k j := fun j hj hj8 => by
    rw [h2]
    unfold fS2
    rw [upm_at, if_neg (fun q => hj q.2), k1 j hj8]
  have c3 : M3 k 2 = J k 2 + pC (prF J n bd wi) (J k) := by
    rw [h3]
    unfold fS3
    rw [upm_eq, k2 2 (by decide) (by decide), c2]
  have k3 : ∀ j, j ≠ 2 → M3 k j = M2 k j := fun j hj => by
    rw [h3]
    unfold fS3
    rw [upm_at, if_neg (fun q => hj q.2)]
  have c4 : M4 k 4 = pW (prF J n bd wi) (J k) := by
    rw [h4]
    unfold fS4 pW
    rw [upm_eq, fm_wayR, k3 4 (by decide), k2 4 (by decide) (by decide), k3 6 (by decide), k2 6 (by decide) (by decide), k3 7 (by decide), k2 7 (by decide) (by decide), o3 _ ns, o3 _ n1, hT, wv_sin ⟨hl.1, by omega⟩]
    rfl
  have k4 : ∀ j, j ≠ 4 → M4 k j = M3 k j := fun j hj => by
    rw [h4]
    unfold fS4
    rw [upm_at, if_neg (fun q => hj q.2)]
  have hw := way100 (wayR_bd (J k 4 + (prF J n bd wi 1 + prF J n bd wi 5) * J k 6 * sinT (J k 7) / 100000))
  have hw : 0 ≤ (pW (prF J n bd wi) (J k) / 100).toInt ∧ (pW (prF J n bd wi) (J k) / 100).toInt ≤ 359 := hw
  have c5 : M5 k 0 = J k 0 + J k 5 * sinT (pW (prF J n bd wi) (J k) / 100) / 1000 := by
    rw [h5]
    unfold fS5
    rw [upm_eq, c4, o4 _ n1, hT, wv_sin hw, k4 0 (by decide), k3 0 (by decide), k2 0 (by decide) (by decide), k4 5 (by decide), k3 5 (by decide), k2 5 (by decide) (by decide)]
  have k5 : ∀ j, j ≠ 0 → M5 k j = M4 k j := fun j hj => by
    rw [h5]
    unfold fS5
    rw [upm_at, if_neg (fun q => hj q.2)]
  have c6 : M6 k 1 = J k 1 + J k 5 * cosT (pW (prF J n bd wi) (J k) / 100) / 1000 := by
    rw [h6]
    unfold fS6
    rw [upm_eq, k5 4 (by decide), c4, o5 _ n1, hT, wv_cos hw, k5 1 (by decide), k4 1 (by decide), k3 1 (by decide), k2 1 (by decide) (by decide), k5 5 (by decide), k4 5 (by decide), k3 5 (by decide), k2 5 (by decide) (by decide)]
  have k6 : ∀ j, j ≠ 1 → M6 k j = M5 k j := fun j hj => by
    rw [h6]
    unfold fS6
    rw [upm_at, if_neg (fun q => hj q.2)]
  have e62 : M6 k 2 = J k 2 + pC (prF J n bd wi) (J k) := by rw [k6 2 (by decide), k5 2 (by decide), k4 2 (by decide), c3]
  have c8 : M8 k 0 = pX (prF J n bd wi) (J k) ∧ M8 k 1 = pY (prF J n bd wi) (J k) ∧ ∀ j, j ≠ 0 → j ≠ 1 → M8 k j = M6 k j := by
    unfold pX pY
    rw [h8, prF_sp _ _ _ _ (bH_lt _), prF_to _ _ _ _ (bH_lt _)]
    unfold fSw
    rw [e62]
    refine ⟨?_, ?_, ?_⟩
    · unfold fS8 fS7
      rw [upm_at, if_neg (by omega), upm_eq, k6 0 (by decide), c5, o6 _ nw1, o6 _ nw2, o6 _ n1, hT, wv_sin (ht _ (bH_lt _))]
    · unfold fS8 fS7
      rw [upm_eq, upm_ne _ _ _ nw1, upm_ne _ _ _ nw2, upm_ne _ _ _ n1, upm_at, if_neg (by omega), c6, o6 _ nw1, o6 _ nw2, o6 _ n1, hT, wv_cos (ht _ (bH_lt _))]
    · intro j hj0 hj1
      unfold fS8 fS7
      rw [upm_at, if_neg (fun q => hj1 q.2), upm_at, if_neg (fun q => hj0 q.2)]
  have q8 : ∀ j, j ≠ 0 → j ≠ 1 → j ≠ 2 → j ≠ 3 → j ≠ 4 → M8 k j = M1 k j := fun j a0 a1 a2 a3 a4 => by
    rw [c8.2.2 j a0 a1, k6 j a1, k5 j a0, k4 j a4, k3 j a2, h2]
    unfold fS2
    rw [upm_at, if_neg (fun q => a3 q.2)]
  have t8 : M1 k 8 = J k 8 + 1 := by
    rw [h1]
    exact upm_eq _ _ _ _
  have e20 : (20 : Int32).toInt = 20 := by decide
  have e250 : (250 : Int32).toInt = 250 := by decide
  have e1000 : (1000 : Int32).toInt = 1000 := by decide
  have e90' : (90 : Int32).toInt = 90 := by decide
  have c9 : M9 k 6 = heldI (J k 6 - J (41 + 2 * n) 2) 0 1000 := by
    rw [h9]
    unfold fS9
    rw [upm_eq, q8 6 (by decide) (by decide) (by decide) (by decide) (by decide), k1 6 (by decide), o8 _ ns]
    exact mx_held (by rw [tI_sub (by omega) (by omega), e1000]; omega) (by decide)
  have k9 : ∀ j, j ≠ 6 → M9 k j = M8 k j := fun j hj => by
    rw [h9]
    unfold fS9
    rw [upm_at, if_neg (fun q => hj q.2)]
  have c10 : M10 k 5 = heldI (J k 5 - J (41 + 2 * n) 3) 20 250 := by
    rw [h10]
    unfold fS10
    rw [upm_eq, k9 5 (by decide), q8 5 (by decide) (by decide) (by decide) (by decide) (by decide), k1 5 (by decide), o9 _ ns]
    exact mx_held (by rw [tI_sub (by omega) (by omega), e250]; omega) (by decide)
  have k10 : ∀ j, j ≠ 5 → M10 k j = M9 k j := fun j hj => by
    rw [h10]
    unfold fS10
    rw [upm_at, if_neg (fun q => hj q.2)]
  have g8 : M10 k 8 = J k 8 + 1 := by rw [k10 8 (by decide), k9 8 (by decide), q8 8 (by decide) (by decide) (by decide) (by decide) (by decide), t8]
  have g7 : M10 k 7 = J k 7 := by rw [k10 7 (by decide), k9 7 (by decide), q8 7 (by decide) (by decide) (by decide) (by decide) (by decide), k1 7 (by decide)]
  have k11 : ∀ j, j ≠ 7 → fS11 M10 k k j = M10 k j := fun j hj => by
    unfold fS11
    split
    · rw [upm_at, if_neg (fun q => hj q.2)]
    · rfl
  refine ⟨?_, ?_, ?_, ?_, ?_⟩
  · intro j hj
    rcases (show j = 0 ∨ j = 1 ∨ j = 2 ∨ j = 3 ∨ j = 4 ∨ j = 5 ∨ j = 6 ∨ j = 7 by omega) with rfl | rfl | rfl | rfl | rfl | rfl | rfl | rfl
    · rw [k11 _ (by decide), k10 _ (by decide), k9 _ (by decide), c8.1]
      rfl
    · rw [k11 _ (by decide), k10 _ (by decide), k9 _ (by decide), c8.2.1]
      rfl
    · rw [k11 _ (by decide), k10 _ (by decide), k9 _ (by decide), c8.2.2 2 (by decide) (by decide), e62]
      rfl
    · rw [k11 _ (by decide), k10 _ (by decide), k9 _ (by decide), c8.2.2 3 (by decide) (by decide), k6 3 (by decide), k5 3 (by decide), k4 3 (by decide), k3 3 (by decide), c2]
      rfl
    · rw [k11 _ (by decide), k10 _ (by decide), k9 _ (by decide), c8.2.2 4 (by decide) (by decide), k6 4 (by decide), k5 4 (by decide), c4]
      rfl
    · rw [k11 _ (by decide), c10]
      rfl
    · rw [k11 _ (by decide), k10 _ (by decide), c9]
      rfl
    · have e7 : pst (prF J n bd wi) (J k 8 + 1) (J k) 7 = if (J k 8 + 1) - (J k 8 + 1) / 4 * 4 = 0 then heldI (J k 7 - 1) 0 90 else J k 7 := rfl
      rw [e7]
      unfold fS11
      rw [g8]
      split
      · rw [upm_eq, g7]
        exact mx_held (by rw [tI_sub1 (by omega), e90']; omega) (by decide)
      · exact g7
  · intro a ha
    unfold fS11
    split
    · rw [upm_ne _ _ _ ha, o10 a ha]
    · exact o10 a ha
  · rw [k11 _ (by decide), g8]
  · rw [k11 _ (by decide), k10 _ (by decide), k9 _ (by decide), q8 9 (by decide) (by decide) (by decide) (by decide) (by decide), k1 9 (by decide)]
  · rw [k11 _ (by decide), k10 _ (by decide), k9 _ (by decide), q8 10 (by decide) (by decide) (by decide) (by decide) (by decide), k1 10 (by decide)]
