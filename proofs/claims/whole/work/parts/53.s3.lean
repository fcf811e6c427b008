/-! CALL BY CALL, part 3 -/
theorem swEq {x dg : Int32} (hx : 0 ≤ x.toInt ∧ x.toInt ≤ 359) (hd : -359 ≤ dg.toInt ∧ dg.toInt ≤ 359) : fmI (x + dg) 360 = (x + dg + 360) - (x + dg + 360) / 360 * 360 ∧ (0 ≤ (fmI (x + dg) 360).toInt ∧ (fmI (x + dg) 360).toInt ≤ 359) := by
  have e1 : (x + dg).toInt = x.toInt + dg.toInt := tI_add (by omega) (by omega)
  have e2 : (x + dg + 360).toInt = x.toInt + dg.toInt + 360 := by rw [tI_add (by rw [e1, e360]; omega) (by rw [e1, e360]; omega), e1, e360]
  have e3 : ((x + dg + 360) - (x + dg + 360) / 360 * 360).toInt = (x.toInt + dg.toInt + 360) % 360 := by
    rw [tI_rem (by rw [e360]; omega), e360, e2, Int.tmod_eq_emod_of_nonneg (by omega)]
  have e4 : fmI (x + dg) 360 = (x + dg + 360) - (x + dg + 360) / 360 * 360 := by
    unfold fmI
    rw [e1, e360, eq_ofInt e3]
    congr 1
    omega
  refine ⟨e4, ?_⟩
  rw [e4, e3]
  omega
theorem s_swing {I : Mem} (H : Rel I) {w dg : Int32}  : (F_swing I w dg).1 = (R_swing (F_swing I w dg).2 w dg).1 ∧ Rel (R_swing (F_swing I w dg).2 w dg).2 := by
  obtain ⟨hS, hW, hT, hB, hL, hC, hK_, hM, hO, hG, hH⟩ := id H
  unfold F_swing
  by_cases hv : isS w (I 0 4) ∧ (-359 ≤ dg.toInt ∧ dg.toInt ≤ 359)
  · rw [if_pos hv]
    have hn := isS_n (M := 8) hv.1 hW.1
    unfold R_swing
    dsimp only
    have hv2 : isS w (rowQ I (59 + 3 * w.toNatClampNeg + 2) 0 (turnF I (59 + 3 * w.toNatClampNeg + 2) dg) 4 151 10) ∧ (-359 ≤ dg.toInt ∧ dg.toInt ≤ 359) := by rw [rowQ_ne _ _ _ _ (by omega), hW.2.1]; exact hv
    rw [if_pos hv2]
    refine ⟨rfl, ?_⟩
    generalize w.toNatClampNeg = n at *
    obtain ⟨K, hKd⟩ : ∃ K, K = (rowQ (rowQ I (59 + 3 * n + 2) 0 (turnF I (59 + 3 * n + 2) dg) 4) 162 (4 * n) (swgF (rowQ I (59 + 3 * n + 2) 0 (turnF I (59 + 3 * n + 2) dg) 4) (4 * n) dg) 4) := ⟨_, rfl⟩
    show Rel (rowQ (rowQ I (59 + 3 * n + 2) 0 (turnF I (59 + 3 * n + 2) dg) 4) 162 (4 * n) (swgF (rowQ I (59 + 3 * n + 2) 0 (turnF I (59 + 3 * n + 2) dg) 4) (4 * n) dg) 4)
    rw [← hKd]
    have hK : ∀ a, (a ≠ 59 + 3 * n + 2 ∧ a ≠ 162) → K a = I a := fun a ha => by rw [hKd, rowQ_ne _ _ _ _ (by omega), rowQ_ne _ _ _ _ (by omega)]
    have h0 : ∀ j, j = j → K 0 j = I 0 j := fun j _ => by rw [hK 0 (by omega)]
    have h151 : ∀ j, j = j → K 151 j = I 151 j := fun j _ => by rw [hK 151 (by omega)]
    refine ⟨RS_of (fun a ha => hK a (by omega)) (h0 2 rfl) (h151 1 rfl) hS,
      ?_,
      RT_of (fun a ha => hK a (by omega)) (h151 13 rfl) (h151 18 rfl) hT,
      RB_of (fun a ha => hK a (by omega)) hB,
      RLt_of (fun a ha => hK a (by omega)) (h151 22 rfl) (h151 23 rfl) (h151 24 rfl) (h151 25 rfl) hL,
      RC_of (fun a ha => hK a (by omega)) (h0 11 rfl) (h151 28 rfl) hC,
      RK_of (fun a ha => hK a (by omega)) hK_,
      RM_of (fun a ha => hK a (by omega)) (fun j _ _ => by rw [hK 27 (by omega)]) (fun j j1 j2 => h151 j rfl) hM,
      RO_of (fun a ha => hK a (by omega)) (h0 16 rfl) (h151 42 rfl) hO,
      RG_of (fun a ha => hK a (by omega)) hG,
      RH_of (fun a ha => hK a (by omega)) hH⟩
    unfold RW
    rw [h0 4 rfl, h151 10 rfl, hK 5 (by omega), hK 6 (by omega), hK 161 (by omega)]
    refine ⟨hW.1, hW.2.1, fun m hm d hd => ?_, hW.2.2.2⟩
    have hI := hW.2.2.1 m hm d hd
    rw [hK (59 + 3 * m + 1) (by omega)]
    by_cases e : m = n
    · have sw := swEq (x := I 162 (4 * n + d)) (dg := dg) (by rw [← e]; exact hI.2.2.2) hv.2
      have k1 : K (59 + 3 * n + 2) d = fmI (I 162 (4 * n + d) + dg) 360 := by
        rw [hKd, rowQ_ne _ _ _ _ (by omega)]
        have e_ := rowQ_in I (59 + 3 * n + 2) 0 (i := 4) (j := d) (turnF I (59 + 3 * n + 2) dg) hd
        rw [Nat.zero_add] at e_
        rw [e_]
        unfold turnF
        rw [← e, hI.2.1]
      have k2 : K 162 (4 * n + d) = (I 162 (4 * n + d) + dg + 360) - (I 162 (4 * n + d) + dg + 360) / 360 * 360 := by
        rw [hKd, rowQ_in _ _ _ _ hd]
        unfold swgF
        rw [rowQ_ne _ _ _ _ (by omega)]
      rw [e, k1, k2, ← sw.1]
      rw [e] at hI
      exact ⟨hI.1, rfl, hI.2.2.1, sw.2⟩
    · have k1 : K (59 + 3 * m + 2) d = I (59 + 3 * m + 2) d := by rw [hK (59 + 3 * m + 2) (by omega)]
      have k2 : K 162 (4 * m + d) = I 162 (4 * m + d) := by rw [hKd, rowQ_out _ _ _ (by omega), rowQ_ne _ _ _ _ (by omega)]
      rw [k1, k2]
      exact hI
  · rw [if_neg hv]
    unfold R_swing
    dsimp only
    have hv2 : ¬ (isS w (I 151 10) ∧ (-359 ≤ dg.toInt ∧ dg.toInt ≤ 359)) := by rw [hW.2.1]; exact hv
    rw [if_neg hv2]
    exact ⟨rfl, H⟩
theorem keepM_in (I : Mem) (o : Nat) (s l a st sp w : Int32) : keepM I o s l a st sp w 171 o = s ∧ keepM I o s l a st sp w 171 (o + 1) = l ∧ keepM I o s l a st sp w 171 (o + 2) = a ∧ keepM I o s l a st sp w 171 (o + 3) = st ∧ keepM I o s l a st sp w 171 (o + 4) = sp ∧ keepM I o s l a st sp w 171 (o + 5) = w := by
  refine ⟨?_, ?_, ?_, ?_, ?_, ?_⟩ <;> simp [keepM, upm]
theorem keepM_out (I : Mem) {o b : Nat} (s l a st sp w : Int32) (h : b < o ∨ o + 6 ≤ b) : keepM I o s l a st sp w 171 b = I 171 b := by
  unfold keepM
  rw [upm_at, if_neg (fun q => by omega), upm_at, if_neg (fun q => by omega), upm_at, if_neg (fun q => by omega), upm_at, if_neg (fun q => by omega), upm_at, if_neg (fun q => by omega), upm_at, if_neg (fun q => by omega)]
theorem keepM_ne (I : Mem) {o k : Nat} (s l a st sp w : Int32) (h : k ≠ 171) : keepM I o s l a st sp w k = I k := by
  unfold keepM
  rw [upm_ne _ _ _ h, upm_ne _ _ _ h, upm_ne _ _ _ h, upm_ne _ _ _ h, upm_ne _ _ _ h, upm_ne _ _ _ h]
theorem s_keep {I : Mem} (H : Rel I) {wh s l a st sp w : Int32}  : (F_keep I wh s l a st sp w).1 = (R_keep (F_keep I wh s l a st sp w).2 wh s l a st sp w).1 ∧ Rel (R_keep (F_keep I wh s l a st sp w).2 wh s l a st sp w).2 := by
  obtain ⟨hS, hW, hT, hB, hL, hC, hK_, hM, hO, hG, hH⟩ := id H
  unfold F_keep
  by_cases hv : (0 ≤ wh.toInt ∧ wh.toInt ≤ 1) ∧ thrF I s l a st sp w
  · rw [if_pos hv]
    have hn2 : wh.toNatClampNeg < 2 := by rw [tn]; have := hv.1; omega
    unfold R_keep
    dsimp only
    have hv2 : (0 ≤ wh.toInt ∧ wh.toInt ≤ 1) ∧ thrR (upm (takeM I (22 + wh.toNatClampNeg) s l a st sp w) 24 wh.toNatClampNeg 1) s l a st sp w := by
      refine ⟨hv.1, ?_⟩
      have hn2 : wh.toNatClampNeg < 2 := by rw [tn]; have := hv.1; omega
      have e1 : (upm (takeM I (22 + wh.toNatClampNeg) s l a st sp w) 24 wh.toNatClampNeg 1) 151 = I 151 := by rw [upm_ne _ _ _ (by decide), takeM_ne _ _ _ _ _ _ _ (by omega)]
      unfold thrR
      rw [e1, hS.2.1, hW.2.1]
      have h2 := hv.2.2.2
      have h3 := hW.1
      unfold isS at h2
      exact ⟨hv.2.1, hv.2.2.1, by omega⟩
    rw [if_pos hv2]
    refine ⟨rfl, ?_⟩
    generalize wh.toNatClampNeg = n at *
    obtain ⟨K, hKd⟩ : ∃ K, K = (keepM (upm (upm (takeM I (22 + n) s l a st sp w) 24 n 1) 170 n 1) (6 * n) s l a st sp w) := ⟨_, rfl⟩
    show Rel (keepM (upm (upm (takeM I (22 + n) s l a st sp w) 24 n 1) 170 n 1) (6 * n) s l a st sp w)
    rw [← hKd]
    have hK : ∀ a, (a ≠ 22 + n ∧ a ≠ 24 ∧ a ≠ 170 ∧ a ≠ 171) → K a = I a := fun a ha => by rw [hKd, keepM_ne _ _ _ _ _ _ _ (by omega), upm_ne _ _ _ (by omega), upm_ne _ _ _ (by omega), takeM_ne _ _ _ _ _ _ _ (by omega)]
    have h0 : ∀ j, j = j → K 0 j = I 0 j := fun j _ => by rw [hK 0 (by omega)]
    have h151 : ∀ j, j = j → K 151 j = I 151 j := fun j _ => by rw [hK 151 (by omega)]
    refine ⟨RS_of (fun a ha => hK a (by omega)) (h0 2 rfl) (h151 1 rfl) hS,
      RW_of (fun a ha => hK a (by omega)) (h0 4 rfl) (h151 10 rfl) hW,
      RT_of (fun a ha => hK a (by omega)) (h151 13 rfl) (h151 18 rfl) hT,
      RB_of (fun a ha => hK a (by omega)) hB,
      RLt_of (fun a ha => hK a (by omega)) (h151 22 rfl) (h151 23 rfl) (h151 24 rfl) (h151 25 rfl) hL,
      RC_of (fun a ha => hK a (by omega)) (h0 11 rfl) (h151 28 rfl) hC,
      ?_,
      RM_of (fun a ha => hK a (by omega)) (fun j _ _ => by rw [hK 27 (by omega)]) (fun j j1 j2 => h151 j rfl) hM,
      RO_of (fun a ha => hK a (by omega)) (h0 16 rfl) (h151 42 rfl) hO,
      RG_of (fun a ha => hK a (by omega)) hG,
      RH_of (fun a ha => hK a (by omega)) hH⟩
    intro m hm
    have hI := hK_ m hm
    have k24 : K 24 m = (if m = n then 1 else I 24 m) := by
      rw [hKd, keepM_ne _ _ _ _ _ _ _ (by decide), upm_ne _ _ _ (by decide), upm_at, takeM_ne _ _ _ _ _ _ _ (by omega)]
      simp
    have k170 : K 170 m = (if m = n then 1 else I 170 m) := by
      rw [hKd, keepM_ne _ _ _ _ _ _ _ (by decide), upm_at, upm_ne _ _ _ (by decide), takeM_ne _ _ _ _ _ _ _ (by omega)]
      simp
    by_cases e : m = n
    · rw [if_pos e] at k24 k170
      have ta := takeM_at I (22 + n) s l a st sp w
      have ka : K (22 + n) = takeM I (22 + n) s l a st sp w (22 + n) := by rw [hKd, keepM_ne _ _ _ _ _ _ _ (by omega), upm_ne _ _ _ (by omega), upm_ne _ _ _ (by omega)]
      have ki := keepM_in (upm (upm (takeM I (22 + n) s l a st sp w) 24 n 1) 170 n 1) (6 * n) s l a st sp w
      rw [← hKd] at ki
      rw [k24, k170]
      unfold AimOk
      rw [e, ka, ta.1, ta.2.1, ta.2.2.2.1, ta.2.2.2.2.1, ta.2.2.2.2.2]
      refine ⟨rfl, fun f hf _ => ?_, fun _ => ⟨?_, hv.2.2.1.1, hv.2.2.1.2.2.1, hv.2.2.1.2.2.2, ?_⟩⟩
      · rcases (show f = 0 ∨ f = 1 ∨ f = 2 ∨ f = 3 ∨ f = 4 ∨ f = 5 by omega) with q | q | q | q | q | q <;> rw [q]
        · rw [ta.1, Nat.add_zero, ki.1]
        · rw [ta.2.1, ki.2.1]
        · rw [ta.2.2.1, ki.2.2.1]
        · rw [ta.2.2.2.1, ki.2.2.2.1]
        · rw [ta.2.2.2.2.1, ki.2.2.2.2.1]
        · rw [ta.2.2.2.2.2, ki.2.2.2.2.2]
      · have h1 := hv.2.1
        have h2 := hS.1
        unfold isS at h1
        omega
      · have h2 := hv.2.2.2
        have h3 := hW.1
        unfold isS at h2
        rcases h2 with q | q
        · exact Or.inl (by rw [i32_eq, i32_m1]; exact q)
        · exact Or.inr ⟨q.1, by omega⟩
    · rw [if_neg e] at k24 k170
      rw [k24, k170]
      unfold AimOk
      rw [hK (22 + m) (by omega)]
      refine ⟨hI.1, fun f hf h5 => ?_, hI.2.2⟩
      rw [hKd, keepM_out _ _ _ _ _ _ _ (by omega), upm_ne _ _ _ (by decide), upm_ne _ _ _ (by decide), takeM_ne _ _ _ _ _ _ _ (by omega)]
      exact hI.2.1 f hf h5
  · rw [if_neg hv]
    unfold R_keep
    dsimp only
    have hv2 : ¬ ((0 ≤ wh.toInt ∧ wh.toInt ≤ 1) ∧ thrR I s l a st sp w) := fun q => hv (by
      refine ⟨q.1, ?_⟩
      have h1 := q.2
      unfold thrR at h1
      rw [hS.2.1, hW.2.1] at h1
      have h2 := h1.2.2
      have h3 := hW.1
      refine ⟨h1.1, h1.2.1, ?_⟩
      unfold isS
      omega)
    rw [if_neg hv2]
    exact ⟨rfl, H⟩
def RO2 (A B : Mem) : Prop := (0 ≤ (A 0 16).toInt ∧ (A 0 16).toInt ≤ 30) ∧ B 151 42 = A 0 16 ∧ ∀ n, n < (A 0 16).toNatClampNeg → (∀ f, f < 5 → A (83 + 2 * n + 1) f = B 177 (7 * n + f)) ∧ A (83 + 2 * n + 1) 5 = -1 ∧ A (83 + 2 * n) 1 = B 177 (7 * n + 5) ∧ A (83 + 2 * n) 2 = B 177 (7 * n + 6) ∧ AimOk A (83 + 2 * n + 1)
theorem addR_in (I : Mem) (s l a st sp x y : Int32) : addR I s l a st sp x y 177 (7 * (I 151 42).toNatClampNeg) = s ∧ addR I s l a st sp x y 177 (7 * (I 151 42).toNatClampNeg + 1) = l ∧ addR I s l a st sp x y 177 (7 * (I 151 42).toNatClampNeg + 2) = a ∧ addR I s l a st sp x y 177 (7 * (I 151 42).toNatClampNeg + 3) = st ∧ addR I s l a st sp x y 177 (7 * (I 151 42).toNatClampNeg + 4) = sp ∧ addR I s l a st sp x y 177 (7 * (I 151 42).toNatClampNeg + 5) = x ∧ addR I s l a st sp x y 177 (7 * (I 151 42).toNatClampNeg + 6) = y := by
  refine ⟨?_, ?_, ?_, ?_, ?_, ?_, ?_⟩ <;> simp [addR, upm]
theorem addR_out (I : Mem) (s l a st sp x y : Int32) {b : Nat} (h : b < 7 * (I 151 42).toNatClampNeg) : addR I s l a st sp x y 177 b = I 177 b := by
  unfold addR
  rw [upm_ne _ _ _ (by decide), upm_at, if_neg (fun q => by omega), upm_at, if_neg (fun q => by omega), upm_at, if_neg (fun q => by omega), upm_at, if_neg (fun q => by omega), upm_at, if_neg (fun q => by omega), upm_at, if_neg (fun q => by omega), upm_at, if_neg (fun q => by omega)]
theorem addF_in (I : Mem) (s l a st sp x y : Int32) : addF I s l a st sp x y (83 + 2 * (I 0 16).toNatClampNeg + 1) = takeM I (83 + 2 * (I 0 16).toNatClampNeg + 1) s l a st sp (-1) (83 + 2 * (I 0 16).toNatClampNeg + 1) ∧ addF I s l a st sp x y (83 + 2 * (I 0 16).toNatClampNeg) 1 = x ∧ addF I s l a st sp x y (83 + 2 * (I 0 16).toNatClampNeg) 2 = y := by
  refine ⟨?_, ?_, ?_⟩
  · unfold addF
    rw [upm_ne _ _ _ (by omega), upm_ne _ _ _ (by omega), upm_ne _ _ _ (by omega)]
  · unfold addF
    rw [upm_ne _ _ _ (by omega), upm_at, if_neg (fun q => by omega), upm_eq]
  · unfold addF
    rw [upm_ne _ _ _ (by omega), upm_eq]
theorem RO2_add {A B : Mem} {s l a st sp x y : Int32} (H : RO2 A B) (hc : (A 0 16).toInt < 30) (hs : 0 ≤ s.toInt ∧ s.toInt < 9) (hv : styP l a st sp) : RO2 (addF A s l a st sp x y) (addR B s l a st sp x y) := by
  have ec : (A 0 16 + 1).toInt = (A 0 16).toInt + 1 := tI_add1 (by omega)
  have h1 := H.1
  unfold RO2
  rw [addF_16, addR_42, H.2.1, ec]
  refine ⟨by omega, rfl, fun n hn => ?_⟩
  have fi := addF_in A s l a st sp x y
  have ri := addR_in B s l a st sp x y
  rw [H.2.1] at ri
  by_cases e : n = (A 0 16).toNatClampNeg
  · rw [e]
    have ta := takeM_at A (83 + 2 * (A 0 16).toNatClampNeg + 1) s l a st sp (-1)
    unfold AimOk
    rw [fi.1, fi.2.1, fi.2.2, ri.2.2.2.2.2.1, ri.2.2.2.2.2.2, ta.1, ta.2.1, ta.2.2.2.1, ta.2.2.2.2.1, ta.2.2.2.2.2]
    refine ⟨fun f hf => ?_, rfl, rfl, rfl, hs, hv.1, hv.2.2.1, hv.2.2.2, Or.inl rfl⟩
    rcases (show f = 0 ∨ f = 1 ∨ f = 2 ∨ f = 3 ∨ f = 4 by omega) with q | q | q | q | q <;> rw [q]
    · rw [ta.1, Nat.add_zero, ri.1]
    · rw [ta.2.1, ri.2.1]
    · rw [ta.2.2.1, ri.2.2.1]
    · rw [ta.2.2.2.1, ri.2.2.2.1]
    · rw [ta.2.2.2.2.1, ri.2.2.2.2.1]
  · have hlt : n < (A 0 16).toNatClampNeg := by
      rw [tn, ec] at hn
      rw [tn] at e ⊢
      omega
    have hI := H.2.2 n hlt
    have ho : ∀ b, b < 7 * (A 0 16).toNatClampNeg → addR B s l a st sp x y 177 b = B 177 b := fun b hb => addR_out B s l a st sp x y (by rw [H.2.1]; exact hb)
    unfold AimOk
    rw [addF_ne A s l a st sp x y (show 83 + 2 * n + 1 ≠ 0 by omega) (by omega) (by omega), addF_ne A s l a st sp x y (show 83 + 2 * n ≠ 0 by omega) (by omega) (by omega), ho (7 * n + 5) (by omega), ho (7 * n + 6) (by omega)]
    exact ⟨fun f hf => by rw [ho (7 * n + f) (by omega)]; exact hI.1 f hf, hI.2.1, hI.2.2.1, hI.2.2.2.1, hI.2.2.2.2⟩
theorem RO2_to {A B K : Mem} (H : RO2 A B) (h1 : ∀ a, a < 151 → K a = A a) (h2 : K 151 42 = B 151 42) (h3 : K 177 = B 177) : RO K := by
  unfold RO
  rw [h1 0 (by decide), h2, h3]
  refine ⟨H.1, H.2.1, fun n hn => ?_⟩
  have h9 := H.1
  have hn3 : n < 30 := by
    rw [tn] at hn
    omega
  unfold AimOk
  rw [h1 (83 + 2 * n) (by omega), h1 (83 + 2 * n + 1) (by omega)]
  exact H.2.2 n hn
theorem RO2_of {I B : Mem} (H : RO I) (h2 : B 151 42 = I 151 42) (h3 : B 177 = I 177) : RO2 I B := by
  unfold RO2
  rw [h2, h3]
  exact H
theorem RO2_adds {I B : Mem} {f f' : Nat → Int32} {p p' : Nat} (H : RO2 I B) : ∀ r : Nat, (I 0 16).toInt + (r : Int) ≤ 30 → (∀ k, k < r → ∀ c, c < 7 → f (p + 7 * k + c) = f' (p' + 7 * k + c)) → (∀ k, k < r → (0 ≤ (f (p + 7 * k)).toInt ∧ (f (p + 7 * k)).toInt < 9) ∧ styP (f (p + 7 * k + 1)) (f (p + 7 * k + 2)) (f (p + 7 * k + 3)) (f (p + 7 * k + 4))) → RO2 (addFs I f p r) (addRs B f' p' r)
  | 0, _, _, _ => H
  | r + 1, hr, h1, h2 => by
    have ih := RO2_adds H r (by omega) (fun k hk => h1 k (by omega)) (fun k hk => h2 k (by omega))
    have e0 := h1 r (by omega) 0 (by decide)
    rw [Nat.add_zero, Nat.add_zero] at e0
    show RO2 (addF (addFs I f p r) _ _ _ _ _ _ _) (addR (addRs B f' p' r) _ _ _ _ _ _ _)
    rw [← e0, ← h1 r (by omega) 1 (by decide), ← h1 r (by omega) 2 (by decide), ← h1 r (by omega) 3 (by decide), ← h1 r (by omega) 4 (by decide), ← h1 r (by omega) 5 (by decide), ← h1 r (by omega) 6 (by decide)]
    have h9 := H.1
    refine RO2_add ih ?_ (h2 r (by omega)).1 (h2 r (by omega)).2
    rw [addFs_16, (tn_addn h9.1 (by omega)).1]
    omega
theorem s_row {I : Mem} (H : Rel I) {s l a st sp x y : Int32} : (F_row I s l a st sp x y).1 = (R_row (F_row I s l a st sp x y).2 s l a st sp x y).1 ∧ Rel (R_row (F_row I s l a st sp x y).2 s l a st sp x y).2 := by
  obtain ⟨hS, hW, hT, hB, hL, hC, hK_, hM, hO, hG, hH⟩ := id H
  unfold F_row
  by_cases hv : isS s (I 0 2) ∧ styP l a st sp ∧ rowV x y
  · rw [if_pos hv]
    by_cases hf : 30 ≤ (I 0 16).toInt
    · rw [if_pos hf]
      unfold R_row
      dsimp only
      have hv2 : isS s (I 151 1) ∧ styP l a st sp ∧ rowV x y := by rw [hS.2.1]; exact hv
      have e9 : I 151 42 = 30 := by rw [hO.2.1, i32_eq, e30]; have := hO.1; omega
      rw [if_pos hv2, if_pos e9]
      exact ⟨rfl, H⟩
    · rw [if_neg hf]
      have h9 := hO.1
      have hn30 : (I 0 16).toNatClampNeg < 30 := by rw [tn]; omega
      have hlow : ∀ k, 151 ≤ k → addF I s l a st sp x y k = I k := fun k hk => addF_ne I s l a st sp x y (by omega) (by omega) (by omega)
      have e42 : addF I s l a st sp x y 151 42 = I 0 16 := by rw [hlow 151 (by omega), hO.2.1]
      unfold R_row
      dsimp only
      have hv2 : isS s (addF I s l a st sp x y 151 1) ∧ styP l a st sp ∧ rowV x y := by rw [hlow 151 (by omega), hS.2.1]; exact hv
      have e9 : ¬ addF I s l a st sp x y 151 42 = 30 := fun q => by rw [e42] at q; rw [q, e30] at hf; omega
      rw [if_pos hv2, if_neg e9]
      refine ⟨e42.symm, ?_⟩
      show Rel (addR (addF I s l a st sp x y) s l a st sp x y)
      obtain ⟨K, hKd⟩ : ∃ K, K = addR (addF I s l a st sp x y) s l a st sp x y := ⟨_, rfl⟩
      rw [← hKd]
      have hK : ∀ a', (a' ≠ 0 ∧ ¬ (83 ≤ a' ∧ a' ≤ 142) ∧ a' ≠ 151 ∧ a' ≠ 177) → K a' = I a' := fun a' ha => by rw [hKd, addR_ne _ _ _ _ _ _ _ _ (by omega) (by omega), addF_ne _ _ _ _ _ _ _ _ (by omega) (by omega) (by omega)]
      have h0 : ∀ j, j ≠ 16 → K 0 j = I 0 j := fun j hj => by rw [hKd, addR_ne _ _ _ _ _ _ _ _ (by omega) (by omega), addF_0 _ _ _ _ _ _ _ _ hj]
      have h151 : ∀ j, j ≠ 42 → K 151 j = I 151 j := fun j hj => by rw [hKd, addR_151 _ _ _ _ _ _ _ _ hj, hlow 151 (by omega)]
      have hs9 : 0 ≤ s.toInt ∧ s.toInt < 9 := by have h1 := hv.1; have h2 := hS.1; unfold isS at h1; omega
      have ho2 := RO2_add (x := x) (y := y) (RO2_of (B := addF I s l a st sp x y) hO (by rw [hlow 151 (by omega)]) (hlow 177 (by omega))) (by omega) hs9 hv.2.1
      refine ⟨RS_of (fun a ha => hK a (by omega)) (h0 2 (by decide)) (h151 1 (by decide)) hS,
        RW_of (fun a ha => hK a (by omega)) (h0 4 (by decide)) (h151 10 (by decide)) hW,
        RT_of (fun a ha => hK a (by omega)) (h151 13 (by decide)) (h151 18 (by decide)) hT,
        RB_of (fun a ha => hK a (by omega)) hB,
        RLt_of (fun a ha => hK a (by omega)) (h151 22 (by decide)) (h151 23 (by decide)) (h151 24 (by decide)) (h151 25 (by decide)) hL,
        RC_of (fun a ha => hK a (by omega)) (h0 11 (by decide)) (h151 28 (by decide)) hC,
        RK_of (fun a ha => hK a (by omega)) hK_,
        RM_of (fun a ha => hK a (by omega)) (fun j _ _ => by rw [hK 27 (by omega)]) (fun j j1 j2 => h151 j (by omega)) hM,
        ?_,
        RG_of (fun a ha => hK a (by omega)) hG,
        RH_of (fun a ha => hK a (by omega)) hH⟩
      exact RO2_to ho2 (fun k hk => by rw [hKd, addR_ne _ _ _ _ _ _ _ _ (by omega) (by omega)]) (by rw [hKd]) (by rw [hKd])
  · rw [if_neg hv]
    unfold R_row
    dsimp only
    have hv2 : ¬ (isS s (I 151 1) ∧ styP l a st sp ∧ rowV x y) := by rw [hS.2.1]; exact hv
    rw [if_neg hv2]
    exact ⟨rfl, H⟩
