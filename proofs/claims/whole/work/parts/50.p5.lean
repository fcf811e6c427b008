/-! THE RELATION of the class's memory and the reference's -/
def RS (I : Mem) : Prop := (0 ≤ (I 0 2).toInt ∧ (I 0 2).toInt ≤ 9) ∧ I 151 1 = I 0 2 ∧ ∀ n, n < 9 → (I (41 + 2 * n) 0 = I 154 n ∧ I (41 + 2 * n) 1 = I 155 n ∧ I (41 + 2 * n) 2 = I 156 n ∧ I (41 + 2 * n) 3 = I 157 n ∧ I (41 + 2 * n) 4 = I 153 n ∧ I (41 + 2 * n) 5 = I 158 n) ∧ (∀ b, b < 4 → I (41 + 2 * n + 1) b = I 159 (4 * n + b)) ∧ StOk I n ∧ (n < (I 0 2).toNatClampNeg → (I (41 + 2 * n) 6 = 1 ∧ I 160 n = 0) ∨ (I (41 + 2 * n) 6 = 0 ∧ I 160 n = 1)) ∧ ((I 0 2).toNatClampNeg ≤ n → I 160 n = 0)
def RW (I : Mem) : Prop := (0 ≤ (I 0 4).toInt ∧ (I 0 4).toInt ≤ 8) ∧ I 151 10 = I 0 4 ∧ (∀ n, n < 8 → ∀ b, b < 4 → I (59 + 3 * n + 1) b = I 161 (4 * n + b) ∧ I (59 + 3 * n + 2) b = I 162 (4 * n + b) ∧ (0 ≤ (I 161 (4 * n + b)).toInt ∧ (I 161 (4 * n + b)).toInt ≤ 60) ∧ (0 ≤ (I 162 (4 * n + b)).toInt ∧ (I 162 (4 * n + b)).toInt ≤ 359)) ∧ (∀ b, b < 4 → I 5 b = 0 ∧ I 6 b = 0)
def RT (I : Mem) : Prop := (0 ≤ (I 7 1).toInt ∧ (I 7 1).toInt ≤ 6) ∧ I 151 13 = I 7 1 ∧ I 151 18 = I 7 2 ∧ ∀ t, t < 6 → I (9 + t) 0 = I 163 t ∧ I (9 + t) 1 = I 164 t ∧ I (9 + t) 2 = I 165 t ∧ I (9 + t) 3 = I 166 t
def RB (I : Mem) : Prop := I 1 = wvT ∧ I 152 = sinTab
def RLt (I : Mem) : Prop := I 151 22 = 0 ∧ I 151 23 = I 15 8 ∧ I 151 24 = I 15 10 ∧ (I 15 9 = 0 ↔ I 151 25 = 0) ∧ (0 ≤ (I 15 8).toInt ∧ (I 15 8).toInt ≤ 400) ∧ (¬ I 151 25 = 0 → (∀ k, k < 8 * (I 15 8).toNatClampNeg + 8 → I 16 k = I 168 k) ∧ I 15 0 = I 168 (8 * (I 15 8).toNatClampNeg) ∧ I 15 1 = I 168 (8 * (I 15 8).toNatClampNeg + 1))
def RC (I : Mem) : Prop := (I 0 11 = 0 ↔ I 151 28 = 0) ∧ ∀ q, q < 4 → I 20 q = I 169 q
def RK (I : Mem) : Prop := ∀ w, w < 2 → I 24 w = I 170 w ∧ (∀ f, f < 6 → (f = 5 → ¬ I 24 w = 0) → I (22 + w) f = I 171 (6 * w + f)) ∧ (¬ I 24 w = 0 → AimOk I (22 + w))
def RM (I : Mem) : Prop := (∀ i, i < 5 → I 26 i = I 172 i ∧ (-2 ≤ (I 26 i).toInt ∧ (I 26 i).toInt < 8)) ∧ (I 27 1 = I 151 32 ∧ I 27 2 = I 151 33 ∧ I 27 3 = I 151 34 ∧ I 27 4 = I 151 35) ∧ manOk I
def RO (I : Mem) : Prop := (0 ≤ (I 0 16).toInt ∧ (I 0 16).toInt ≤ 30) ∧ I 151 42 = I 0 16 ∧ ∀ n, n < (I 0 16).toNatClampNeg → (∀ f, f < 5 → I (83 + 2 * n + 1) f = I 177 (7 * n + f)) ∧ I (83 + 2 * n + 1) 5 = -1 ∧ I (83 + 2 * n) 1 = I 177 (7 * n + 5) ∧ I (83 + 2 * n) 2 = I 177 (7 * n + 6) ∧ AimOk I (83 + 2 * n + 1)
def RG (I : Mem) : Prop := ∀ p, p < 25 → I 38 p = I 178 p ∧ I 39 p = I 179 p
def RH (I : Mem) : Prop := ∀ n, n < 4 → I (143 + 2 * n) 0 = I 180 n ∧ (I 180 n = -1 ∨ (0 ≤ (I 180 n).toInt ∧ (I 180 n).toInt ≤ 2)) ∧ (0 ≤ (I (143 + 2 * n) 1).toInt ∧ (I (143 + 2 * n) 1).toInt ≤ 60) ∧ (I 181 n).toInt ≤ 60 ∧ (¬ I 180 n = -1 → I (143 + 2 * n) 1 = I 181 n ∧ ∀ k, k < 60 → I (143 + 2 * n + 1) k = I 182 (60 * n + k))
def Rel (I : Mem) : Prop := RS I ∧ RW I ∧ RT I ∧ RB I ∧ RLt I ∧ RC I ∧ RK I ∧ RM I ∧ RO I ∧ RG I ∧ RH I
theorem RS_of {I J : Mem} (h : ∀ a, (41 ≤ a ∧ a ≤ 58) ∨ (153 ≤ a ∧ a ≤ 160) → J a = I a) (h1 : J 0 2 = I 0 2) (h2 : J 151 1 = I 151 1) (H : RS I) : RS J := by
  unfold RS
  rw [h1, h2]
  refine ⟨H.1, H.2.1, fun n hn => ?_⟩
  unfold StOk
  rw [h (41 + 2 * n) (by omega), h (41 + 2 * n + 1) (by omega), h 153 (by omega), h 154 (by omega), h 155 (by omega), h 156 (by omega), h 157 (by omega), h 158 (by omega), h 159 (by omega), h 160 (by omega)]
  exact H.2.2 n hn
theorem RW_of {I J : Mem} (h : ∀ a, a = 5 ∨ a = 6 ∨ (59 ≤ a ∧ a ≤ 82) ∨ a = 161 ∨ a = 162 → J a = I a) (h1 : J 0 4 = I 0 4) (h2 : J 151 10 = I 151 10) (H : RW I) : RW J := by
  unfold RW
  rw [h1, h2, h 5 (by omega), h 6 (by omega), h 161 (by omega), h 162 (by omega)]
  refine ⟨H.1, H.2.1, fun n hn => ?_, H.2.2.2⟩
  rw [h (59 + 3 * n + 1) (by omega), h (59 + 3 * n + 2) (by omega)]
  exact H.2.2.1 n hn
theorem RT_of {I J : Mem} (h : ∀ a, a = 7 ∨ (9 ≤ a ∧ a ≤ 14) ∨ (163 ≤ a ∧ a ≤ 166) → J a = I a) (h1 : J 151 13 = I 151 13) (h2 : J 151 18 = I 151 18) (H : RT I) : RT J := by
  unfold RT
  rw [h1, h2, h 7 (by omega), h 163 (by omega), h 164 (by omega), h 165 (by omega), h 166 (by omega)]
  refine ⟨H.1, H.2.1, H.2.2.1, fun t ht => ?_⟩
  rw [h (9 + t) (by omega)]
  exact H.2.2.2 t ht
theorem RB_of {I J : Mem} (h : ∀ a, a = 1 ∨ a = 152 → J a = I a) (H : RB I) : RB J := by
  unfold RB
  rw [h 1 (by omega), h 152 (by omega)]
  exact H
theorem RLt_of {I J : Mem} (h : ∀ a, a = 15 ∨ a = 16 ∨ a = 168 → J a = I a) (h1 : J 151 22 = I 151 22) (h2 : J 151 23 = I 151 23) (h3 : J 151 24 = I 151 24) (h4 : J 151 25 = I 151 25) (H : RLt I) : RLt J := by
  unfold RLt
  rw [h1, h2, h3, h4, h 15 (by omega), h 16 (by omega), h 168 (by omega)]
  exact H
theorem RC_of {I J : Mem} (h : ∀ a, a = 20 ∨ a = 169 → J a = I a) (h1 : J 0 11 = I 0 11) (h2 : J 151 28 = I 151 28) (H : RC I) : RC J := by
  unfold RC
  rw [h1, h2, h 20 (by omega), h 169 (by omega)]
  exact H
theorem RK_of {I J : Mem} (h : ∀ a, (22 ≤ a ∧ a ≤ 24) ∨ a = 170 ∨ a = 171 → J a = I a) (H : RK I) : RK J := by
  intro w hw
  unfold AimOk
  rw [h 24 (by omega), h (22 + w) (by omega), h 170 (by omega), h 171 (by omega)]
  exact H w hw
theorem RM_of {I J : Mem} (h : ∀ a, a = 26 ∨ a = 172 → J a = I a) (h1 : ∀ j, 1 ≤ j → j ≤ 4 → J 27 j = I 27 j) (h2 : ∀ j, 32 ≤ j → j ≤ 35 → J 151 j = I 151 j) (H : RM I) : RM J := by
  unfold RM manOk
  rw [h 26 (by omega), h 172 (by omega), h1 1 (by decide) (by decide), h1 2 (by decide) (by decide), h1 3 (by decide) (by decide), h1 4 (by decide) (by decide), h2 32 (by decide) (by decide), h2 33 (by decide) (by decide), h2 34 (by decide) (by decide), h2 35 (by decide) (by decide)]
  exact H
theorem RO_of {I J : Mem} (h : ∀ a, (83 ≤ a ∧ a ≤ 142) ∨ a = 177 → J a = I a) (h1 : J 0 16 = I 0 16) (h2 : J 151 42 = I 151 42) (H : RO I) : RO J := by
  unfold RO
  rw [h1, h2, h 177 (by omega)]
  refine ⟨H.1, H.2.1, fun n hn => ?_⟩
  have hn3 : n < 30 := by
    have h9 := H.1
    rw [tn] at hn
    omega
  unfold AimOk
  rw [h (83 + 2 * n) (by omega), h (83 + 2 * n + 1) (by omega)]
  exact H.2.2 n hn
theorem RG_of {I J : Mem} (h : ∀ a, a = 38 ∨ a = 39 ∨ a = 178 ∨ a = 179 → J a = I a) (H : RG I) : RG J := by
  unfold RG
  rw [h 38 (by omega), h 39 (by omega), h 178 (by omega), h 179 (by omega)]
  exact H
theorem RH_of {I J : Mem} (h : ∀ a, (143 ≤ a ∧ a ≤ 150) ∨ (180 ≤ a ∧ a ≤ 182) → J a = I a) (H : RH I) : RH J := by
  intro n hn
  rw [h (143 + 2 * n) (by omega), h (143 + 2 * n + 1) (by omega), h 180 (by omega), h 181 (by omega), h 182 (by omega)]
  exact H n hn
/-! what the relation gives -/
theorem Rel_FlF {I : Mem} (H : Rel I) : FlOkF I := by
  obtain ⟨hS, hW, hT, hB, -⟩ := H
  refine ⟨fun n hn => (hS.2.2 n hn).2.2.1, hT.1, hB.1, fun wi hw p hp => ?_⟩
  have hb := isWi_bd wi hw.1 hw.2.2.1
  rcases hb with e | e
  · rw [e, (hW.2.2.2 p hp).2]
    decide
  · have hk : ∀ wi, wi < 182 → 59 ≤ wi → wi ≤ 80 → kd wi = 9 → wi % 3 = 2 := by decide +kernel
    have h3 := hk wi hw.1 e.1 e.2 hw.2.2.1
    obtain ⟨n, hn⟩ : ∃ n, wi = 59 + 3 * n := ⟨(wi - 59) / 3, by omega⟩
    have h9 := hW.2.2.1 n (by omega) p hp
    rw [hn, h9.2.1]
    exact h9.2.2.2
theorem Rel_FwF {I : Mem} (H : Rel I) : FwOk I := by
  obtain ⟨hS, hW, hT, hB, -⟩ := H
  intro wi hw p hp
  have hb := isWi_bd wi hw.1 hw.2.2.1
  rcases hb with e | e
  · rw [e, (hW.2.2.2 p hp).1]
    decide
  · have hk : ∀ wi, wi < 182 → 59 ≤ wi → wi ≤ 80 → kd wi = 9 → wi % 3 = 2 := by decide +kernel
    have h3 := hk wi hw.1 e.1 e.2 hw.2.2.1
    obtain ⟨n, hn⟩ : ∃ n, wi = 59 + 3 * n := ⟨(wi - 59) / 3, by omega⟩
    have h9 := hW.2.2.1 n (by omega) p hp
    rw [hn, h9.1]
    exact h9.2.2.1
theorem Rel_FlR {I : Mem} (H : Rel I) : FlOkR I := by
  obtain ⟨hS, hW, hT, hB, -⟩ := H
  refine ⟨fun p hp => ?_, by rw [hT.2.1]; exact hT.1, hB.2⟩
  have h9 := hW.2.2.1 (p / 4) (by omega) (p % 4) (by omega)
  rw [show 4 * (p / 4) + p % 4 = p by omega] at h9
  exact h9.2.2.2
theorem Rel_RwR {I : Mem} (H : Rel I) : RwOk I := by
  obtain ⟨hS, hW, hT, hB, -⟩ := H
  intro p hp
  have h9 := hW.2.2.1 (p / 4) (by omega) (p % 4) (by omega)
  rw [show 4 * (p / 4) + p % 4 = p by omega] at h9
  exact h9.2.2.1
/-- the two fly alike -/
theorem prFM {I : Mem} (H : Rel I) {s w : Int32} (hs : 0 ≤ s.toInt ∧ s.toInt < 9) (hw : w = -1 ∨ (0 ≤ w.toInt ∧ w.toInt < 8)) (bd : Int32) : prF I s.toNatClampNeg bd (wiW w) = prM I s bd w := by
  obtain ⟨hS, hW, hT, hB, -⟩ := H
  have hn : s.toNatClampNeg < 9 := by
    rw [tn]
    omega
  have hS9 := hS.2.2 _ hn
  funext j
  unfold prF prM
  rw [hS9.1.1, hS9.1.2.1, hS9.1.2.2.1, hS9.1.2.2.2.1, hS9.1.2.2.2.2.1]
  by_cases j0 : j = 0
  · rw [if_pos j0, if_pos j0]
  rw [if_neg j0, if_neg j0]
  by_cases j1 : j = 1
  · rw [if_pos j1, if_pos j1]
  rw [if_neg j1, if_neg j1]
  by_cases j2 : j = 2
  · rw [if_pos j2, if_pos j2]
  rw [if_neg j2, if_neg j2]
  by_cases j3 : j = 3
  · rw [if_pos j3, if_pos j3]
  rw [if_neg j3, if_neg j3]
  by_cases j4 : j = 4
  · rw [if_pos j4, if_pos j4]
  rw [if_neg j4, if_neg j4]
  by_cases j5 : j = 5
  · rw [if_pos j5, if_pos j5]
  rw [if_neg j5, if_neg j5]
  by_cases j10 : j < 10
  · rw [if_pos j10, if_pos j10]
    exact hS9.2.1 (j - 6) (by omega)
  rw [if_neg j10, if_neg j10]
  by_cases j14 : j < 14
  · rw [if_pos j14, if_pos j14]
    unfold wiW
    rcases hw with e | e
    · rw [if_pos e, e, if_pos (by decide)]
      exact (hW.2.2.2 (j - 10) (by omega)).1
    · rw [if_neg (fun q => by rw [q, i32_m1] at e; omega), if_neg (fun q => by rw [Int32.lt_iff_toInt_lt, z32] at q; omega)]
      exact (hW.2.2.1 w.toNatClampNeg (by rw [tn]; omega) (j - 10) (by omega)).1
  rw [if_neg j14, if_neg j14]
  by_cases j18 : j < 18
  · rw [if_pos j18, if_pos j18]
    unfold wiW
    rcases hw with e | e
    · rw [if_pos e, e, if_pos (by decide)]
      exact (hW.2.2.2 (j - 14) (by omega)).2
    · rw [if_neg (fun q => by rw [q, i32_m1] at e; omega), if_neg (fun q => by rw [Int32.lt_iff_toInt_lt, z32] at q; omega)]
      exact (hW.2.2.1 w.toNatClampNeg (by rw [tn]; omega) (j - 14) (by omega)).2.1
  rw [if_neg j18, if_neg j18]
theorem trFM {I : Mem} (H : Rel I) : ∀ t, t < (I 7 1).toNatClampNeg → ∀ j, j < 4 → trF I j t = trM I j t := by
  obtain ⟨hS, hW, hT, hB, -⟩ := H
  intro t ht j hj
  have ht6 : t < 6 := by
    have h9 := hT.1
    rw [tn] at ht
    omega
  have h9 := hT.2.2.2 t ht6
  unfold trF trM
  rcases (show j = 0 ∨ j = 1 ∨ j = 2 ∨ j = 3 by omega) with e | e | e | e
  · rw [e, if_pos rfl]
    exact h9.1
  · rw [e, if_neg (by decide), if_pos rfl]
    exact h9.2.1
  · rw [e, if_neg (by decide), if_neg (by decide), if_pos rfl]
    exact h9.2.2.1
  · rw [e, if_neg (by decide), if_neg (by decide), if_neg (by decide)]
    exact h9.2.2.2
theorem FF_RR {I : Mem} (H : Rel I) {s w : Int32} (hs : 0 ≤ s.toInt ∧ s.toInt < 9) (hw : w = -1 ∨ (0 ≤ w.toInt ∧ w.toInt < 8)) (bd l a st sp : Int32) : FF I s bd w l a st sp = RR I s bd w l a st sp := by
  have e1 := prFM H hs hw bd
  have e2 := trFM H
  obtain ⟨hS, hW, hT, hB, -⟩ := H
  unfold FF RR
  rw [e1, hT.2.1, hT.2.2.1]
  exact flV_T e2
/-- the class leaves the reference's rows alone -/
abbrev lowF (I J : Mem) : Prop := ∀ a, 151 ≤ a → J a = I a
/-- all groups but those that are told -/
theorem Rel_fr {I J : Mem} (H : Rel I) (h : ∀ a, a ≠ 0 → a ≠ 17 → a ≠ 19 → a ≠ 25 → a ≠ 27 → ¬ (28 ≤ a ∧ a ≤ 35) → a ≠ 151 → a ≠ 167 → ¬ (173 ≤ a ∧ a ≤ 176) → J a = I a) (h0 : ∀ j, J 0 j = I 0 j) (h27 : ∀ j, 1 ≤ j → j ≤ 4 → J 27 j = I 27 j) (h151 : ∀ j, j ≠ 20 → j ≠ 21 → j ≠ 36 → j ≠ 41 → J 151 j = I 151 j) : Rel J := by
  obtain ⟨hS, hW, hT, hB, hL, hC, hK, hM, hO, hG, hH⟩ := H
  refine ⟨RS_of (fun a ha => h a (by omega) (by omega) (by omega) (by omega) (by omega) (by omega) (by omega) (by omega) (by omega)) (h0 2) (h151 1 (by decide) (by decide) (by decide) (by decide)) hS,
    RW_of (fun a ha => h a (by omega) (by omega) (by omega) (by omega) (by omega) (by omega) (by omega) (by omega) (by omega)) (h0 4) (h151 10 (by decide) (by decide) (by decide) (by decide)) hW,
    RT_of (fun a ha => h a (by omega) (by omega) (by omega) (by omega) (by omega) (by omega) (by omega) (by omega) (by omega)) (h151 13 (by decide) (by decide) (by decide) (by decide)) (h151 18 (by decide) (by decide) (by decide) (by decide)) hT,
    RB_of (fun a ha => h a (by omega) (by omega) (by omega) (by omega) (by omega) (by omega) (by omega) (by omega) (by omega)) hB,
    RLt_of (fun a ha => h a (by omega) (by omega) (by omega) (by omega) (by omega) (by omega) (by omega) (by omega) (by omega)) (h151 22 (by decide) (by decide) (by decide) (by decide)) (h151 23 (by decide) (by decide) (by decide) (by decide)) (h151 24 (by decide) (by decide) (by decide) (by decide)) (h151 25 (by decide) (by decide) (by decide) (by decide)) hL,
    RC_of (fun a ha => h a (by omega) (by omega) (by omega) (by omega) (by omega) (by omega) (by omega) (by omega) (by omega)) (h0 11) (h151 28 (by decide) (by decide) (by decide) (by decide)) hC,
    RK_of (fun a ha => h a (by omega) (by omega) (by omega) (by omega) (by omega) (by omega) (by omega) (by omega) (by omega)) hK,
    RM_of (fun a ha => h a (by omega) (by omega) (by omega) (by omega) (by omega) (by omega) (by omega) (by omega) (by omega)) h27 (fun j j1 j2 => h151 j (by omega) (by omega) (by omega) (by omega)) hM,
    RO_of (fun a ha => h a (by omega) (by omega) (by omega) (by omega) (by omega) (by omega) (by omega) (by omega) (by omega)) (h0 16) (h151 42 (by decide) (by decide) (by decide) (by decide)) hO,
    RG_of (fun a ha => h a (by omega) (by omega) (by omega) (by omega) (by omega) (by omega) (by omega) (by omega) (by omega)) hG,
    RH_of (fun a ha => h a (by omega) (by omega) (by omega) (by omega) (by omega) (by omega) (by omega) (by omega) (by omega)) hH⟩
