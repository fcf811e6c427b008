/-! CALL BY CALL, part 2 -/
theorem s_wind {I : Mem} (H : Rel I) : (F_wind I).1 = (R_wind (F_wind I).2).1 ∧ Rel (R_wind (F_wind I).2).2 := by
  obtain ⟨hS, hW, hT, hB, hL, hC, hK_, hM, hO, hG, hH⟩ := id H
  unfold F_wind
  by_cases hf : 8 ≤ (I 0 4).toInt
  · rw [if_pos hf]
    unfold R_wind
    dsimp only
    have e9 : I 151 10 = 8 := by rw [hW.2.1, i32_eq, e8i]; have := hW.1; omega
    rw [if_pos e9]
    exact ⟨rfl, H⟩
  · rw [if_neg hf]
    have ec : (I 0 4 + 1).toInt = (I 0 4).toInt + 1 := tI_add1 (by omega)
    have hJ : upm I 0 4 (I 0 4 + 1) 151 10 = I 0 4 := by rw [upm_ne _ _ _ (by decide), hW.2.1]
    unfold R_wind
    dsimp only
    have hv2 : ¬ upm I 0 4 (I 0 4 + 1) 151 10 = 8 := fun q => by rw [hJ] at q; rw [q, e8i] at hf; omega
    rw [if_neg hv2]
    refine ⟨hJ.symm, ?_⟩
    obtain ⟨K, hKd⟩ : ∃ K, K = upm (upm I 0 4 (I 0 4 + 1)) 151 10 (upm I 0 4 (I 0 4 + 1) 151 10 + 1) := ⟨_, rfl⟩
    show Rel (upm (upm I 0 4 (I 0 4 + 1)) 151 10 (upm I 0 4 (I 0 4 + 1) 151 10 + 1))
    rw [← hKd]
    rw [hJ] at hKd
    have hK : ∀ a, (a ≠ 0 ∧ a ≠ 151) → K a = I a := fun a ha => by rw [hKd, upm_ne _ _ _ (by omega), upm_ne _ _ _ (by omega)]
    have h0 : ∀ j, j ≠ 4 → K 0 j = I 0 j := fun j hj => by rw [hKd, upm_ne _ _ _ (by omega), upm_at, if_neg (fun q => hj q.2)]
    have h151 : ∀ j, j ≠ 10 → K 151 j = I 151 j := fun j hj => by rw [hKd, upm_at, if_neg (fun q => hj q.2), upm_ne _ _ _ (by omega)]
    have h04 : K 0 4 = I 0 4 + 1 := by rw [hKd, upm_ne _ _ _ (by omega), upm_eq]
    have h1510 : K 151 10 = I 0 4 + 1 := by rw [hKd, upm_eq]
    refine ⟨RS_of (fun a ha => hK a (by omega)) (h0 2 (by decide)) (h151 1 (by decide)) hS,
      ?_,
      RT_of (fun a ha => hK a (by omega)) (h151 13 (by decide)) (h151 18 (by decide)) hT,
      RB_of (fun a ha => hK a (by omega)) hB,
      RLt_of (fun a ha => hK a (by omega)) (h151 22 (by decide)) (h151 23 (by decide)) (h151 24 (by decide)) (h151 25 (by decide)) hL,
      RC_of (fun a ha => hK a (by omega)) (h0 11 (by decide)) (h151 28 (by decide)) hC,
      RK_of (fun a ha => hK a (by omega)) hK_,
      RM_of (fun a ha => hK a (by omega)) (fun j _ _ => by rw [hK 27 (by omega)]) (fun j j1 j2 => h151 j (by omega)) hM,
      RO_of (fun a ha => hK a (by omega)) (h0 16 (by decide)) (h151 42 (by decide)) hO,
      RG_of (fun a ha => hK a (by omega)) hG,
      RH_of (fun a ha => hK a (by omega)) hH⟩
    unfold RW
    rw [h04, h1510, ec, hK 5 (by omega), hK 6 (by omega), hK 161 (by omega), hK 162 (by omega)]
    refine ⟨by have := hW.1; omega, rfl, fun n hn => ?_, hW.2.2.2⟩
    rw [hK (59 + 3 * n + 1) (by omega), hK (59 + 3 * n + 2) (by omega)]
    exact hW.2.2.1 n hn
theorem s_blows {I : Mem} (H : Rel I) {w b s t : Int32}  : (F_blows I w b s t).1 = (R_blows (F_blows I w b s t).2 w b s t).1 ∧ Rel (R_blows (F_blows I w b s t).2 w b s t).2 := by
  obtain ⟨hS, hW, hT, hB, hL, hC, hK_, hM, hO, hG, hH⟩ := id H
  unfold F_blows
  by_cases hv : isS w (I 0 4) ∧ vBl b s t
  · rw [if_pos hv]
    have hn := isS_n (M := 8) hv.1 hW.1
    have hbn : b.toNatClampNeg < 4 := by rw [tn]; have := hv.2.1; omega
    have ei := m4N (s := w) (b := b) hv.1.1 (by have := hW.1; have := hv.1.2; omega) hv.2.1
    unfold R_blows
    dsimp only
    have hv2 : isS w (upm (upm I (59 + 3 * w.toNatClampNeg + 1) b.toNatClampNeg s) (59 + 3 * w.toNatClampNeg + 2) b.toNatClampNeg t 151 10) ∧ vBl b s t := by rw [upm_ne _ _ _ (by omega), upm_ne _ _ _ (by omega), hW.2.1]; exact hv
    rw [if_pos hv2]
    refine ⟨by rw [ei, upm_ne _ _ _ (by omega), upm_ne _ _ _ (by omega)]; exact (hW.2.2.1 _ hn.2 _ hbn).1, ?_⟩
    rw [ei]
    generalize w.toNatClampNeg = n at *
    generalize b.toNatClampNeg = c at *
    obtain ⟨K, hKd⟩ : ∃ K, K = (upm (upm (upm (upm I (59 + 3 * n + 1) c s) (59 + 3 * n + 2) c t) 161 (4 * n + c) s) 162 (4 * n + c) t) := ⟨_, rfl⟩
    show Rel (upm (upm (upm (upm I (59 + 3 * n + 1) c s) (59 + 3 * n + 2) c t) 161 (4 * n + c) s) 162 (4 * n + c) t)
    rw [← hKd]
    have hK : ∀ a, (a ≠ 59 + 3 * n + 1 ∧ a ≠ 59 + 3 * n + 2 ∧ a ≠ 161 ∧ a ≠ 162) → K a = I a := fun a ha => by rw [hKd, upm_ne _ _ _ (by omega), upm_ne _ _ _ (by omega), upm_ne _ _ _ (by omega), upm_ne _ _ _ (by omega)]
    have h0 : ∀ j, j = j → K 0 j = I 0 j := fun j _ => by rw [hK 0 (by omega)]
    have h151 : ∀ j, j = j → K 151 j = I 151 j := fun j _ => by rw [hK 151 (by omega)]
    refine ⟨RS_of (fun a ha => hK a (by omega)) (h0 2 rfl) (h151 1 rfl) hS,
      ?_,
      RT_of (fun a ha => hK a (by omega)) (h151 13 rfl) (h151 18 rfl) hT,
      RB_of (fun a ha => hK a (by omega)) hB,
      RLt_of (fun a ha => hK a (by omega)) (h151 22 rfl) (h151 23 rfl) (h151 24 rfl) (h151 25 rfl) hL,
      RC_of (fun a ha => hK a (by omega)) (h0 11 rfl) (h151 28 rfl) hC,
      RK_of (fun a ha => hK a (by omega)) hK_,
      RM_of (fun a ha => hK a (by omega)) (fun j _ _ => by rw [hK 27 (by omega)]) (fun j j1 j2 => h151 j rfl) hM,
      RO_of (fun a ha => hK a (by omega)) (h0 16 rfl) (h151 42 rfl) hO,
      RG_of (fun a ha => hK a (by omega)) hG,
      RH_of (fun a ha => hK a (by omega)) hH⟩
    unfold RW
    rw [h0 4 rfl, h151 10 rfl, hK 5 (by omega), hK 6 (by omega)]
    refine ⟨hW.1, hW.2.1, fun m hm d hd => ?_, hW.2.2.2⟩
    have hI := hW.2.2.1 m hm d hd
    rw [hKd]
    by_cases e : m = n ∧ d = c
    · rw [e.1, e.2, upm_ne _ _ _ (by omega), upm_ne _ _ _ (by omega), upm_ne _ _ _ (by omega), upm_eq, upm_ne _ _ _ (show (161 : Nat) ≠ 162 by decide), upm_eq, upm_ne _ _ _ (by omega), upm_ne _ _ _ (by omega), upm_eq, upm_eq]
      exact ⟨rfl, rfl, hv.2.2.1, hv.2.2.2⟩
    · rw [upm_ne _ _ _ (show 59 + 3 * m + 1 ≠ 162 by omega), upm_ne _ _ _ (show 59 + 3 * m + 1 ≠ 161 by omega), upm_ne _ _ _ (show 59 + 3 * m + 1 ≠ 59 + 3 * n + 2 by omega), upm_at, if_neg (fun q => by omega), upm_ne _ _ _ (show (161 : Nat) ≠ 162 by decide), upm_at, if_neg (fun q => by omega), upm_ne _ _ _ (show (161 : Nat) ≠ 59 + 3 * n + 2 by omega), upm_ne _ _ _ (show (161 : Nat) ≠ 59 + 3 * n + 1 by omega), upm_ne _ _ _ (show 59 + 3 * m + 2 ≠ 162 by omega), upm_ne _ _ _ (show 59 + 3 * m + 2 ≠ 161 by omega), upm_at, if_neg (fun q => by omega), upm_ne _ _ _ (show 59 + 3 * m + 2 ≠ 59 + 3 * n + 1 by omega), upm_at, if_neg (fun q => by omega), upm_ne _ _ _ (show (162 : Nat) ≠ 161 by decide), upm_ne _ _ _ (show (162 : Nat) ≠ 59 + 3 * n + 2 by omega), upm_ne _ _ _ (show (162 : Nat) ≠ 59 + 3 * n + 1 by omega)]
      exact hI
  · rw [if_neg hv]
    unfold R_blows
    dsimp only
    have hv2 : ¬ (isS w (I 151 10) ∧ vBl b s t) := by rw [hW.2.1]; exact hv
    rw [if_neg hv2]
    exact ⟨rfl, H⟩
theorem s_tree {I : Mem} (H : Rel I) {x y t h : Int32} : (F_tree I x y t h).1 = (R_tree (F_tree I x y t h).2 x y t h).1 ∧ Rel (R_tree (F_tree I x y t h).2 x y t h).2 := by
  obtain ⟨hS, hW, hT, hB, hL, hC, hK_, hM, hO, hG, hH⟩ := id H
  unfold F_tree
  by_cases hv : vTr x y t h
  · rw [if_pos hv]
    unfold F_plant
    by_cases hf : 6 ≤ (I 7 1).toInt
    · rw [if_pos hf]
      unfold R_tree
      dsimp only
      have e9 : I 151 13 = 6 := by rw [hT.2.1, i32_eq]; have := hT.1; show _ = 6; omega
      rw [if_pos hv, if_pos e9]
      exact ⟨rfl, H⟩
    · rw [if_neg hf]
      have ec : (I 7 1 + 1).toInt = (I 7 1).toInt + 1 := tI_add1 (by omega)
      have hn6 : (I 7 1).toNatClampNeg < 6 := by rw [tn]; have := hT.1; omega
      generalize hnd : (I 7 1).toNatClampNeg = n at *
      obtain ⟨J, hJd⟩ : ∃ J, J = upm (upm (upm (upm (upm I (9 + n) 0 x) (9 + n) 1 y) (9 + n) 2 t) (9 + n) 3 h) 7 1 (I 7 1 + 1) := ⟨_, rfl⟩
      dsimp only
      rw [← hJd]
      have hJa : ∀ a, (a ≠ 7 ∧ a ≠ 9 + n) → J a = I a := fun a ha => by rw [hJd, upm_ne _ _ _ (by omega), upm_ne _ _ _ (by omega), upm_ne _ _ _ (by omega), upm_ne _ _ _ (by omega), upm_ne _ _ _ (by omega)]
      have hJ13 : J 151 13 = I 7 1 := by rw [hJa 151 (by omega), hT.2.1]
      unfold R_tree
      have hv2 : ¬ J 151 13 = 6 := fun q => by rw [hJ13] at q; rw [q] at hf; exact hf (by decide)
      rw [if_pos hv, if_neg hv2]
      refine ⟨hJ13.symm, ?_⟩
      dsimp only
      rw [hJ13, hnd]
      obtain ⟨K, hKd⟩ : ∃ K, K = upm (upm (upm (upm (upm J 163 n x) 164 n y) 165 n t) 166 n h) 151 13 (I 7 1 + 1) := ⟨_, rfl⟩
      rw [← hKd]
      have hK : ∀ a, (a ≠ 7 ∧ a ≠ 9 + n ∧ ¬ (163 ≤ a ∧ a ≤ 166) ∧ a ≠ 151) → K a = I a := fun a ha => by rw [hKd, upm_ne _ _ _ (by omega), upm_ne _ _ _ (by omega), upm_ne _ _ _ (by omega), upm_ne _ _ _ (by omega), upm_ne _ _ _ (by omega), hJa a (by omega)]
      have hKJ : ∀ a, (¬ (163 ≤ a ∧ a ≤ 166) ∧ a ≠ 151) → K a = J a := fun a ha => by rw [hKd, upm_ne _ _ _ (by omega), upm_ne _ _ _ (by omega), upm_ne _ _ _ (by omega), upm_ne _ _ _ (by omega), upm_ne _ _ _ (by omega)]
      have h0 : ∀ j, j = j → K 0 j = I 0 j := fun j _ => by rw [hK 0 (by omega)]
      have h151 : ∀ j, j ≠ 13 → K 151 j = I 151 j := fun j hj => by rw [hKd, upm_at, if_neg (fun q => hj q.2), upm_ne _ _ _ (by omega), upm_ne _ _ _ (by omega), upm_ne _ _ _ (by omega), upm_ne _ _ _ (by omega), hJa 151 (by omega)]
      have hr : ∀ m, K 163 m = (if m = n then x else I 163 m) ∧ K 164 m = (if m = n then y else I 164 m) ∧ K 165 m = (if m = n then t else I 165 m) ∧ K 166 m = (if m = n then h else I 166 m) := fun m => by
        refine ⟨?_, ?_, ?_, ?_⟩
        · rw [hKd, upm_ne _ _ _ (by decide), upm_ne _ _ _ (by decide), upm_ne _ _ _ (by decide), upm_ne _ _ _ (by decide), upm_at, hJa 163 (by omega)]
          simp
        · rw [hKd, upm_ne _ _ _ (by decide), upm_ne _ _ _ (by decide), upm_ne _ _ _ (by decide), upm_at, upm_ne _ _ _ (by decide), hJa 164 (by omega)]
          simp
        · rw [hKd, upm_ne _ _ _ (by decide), upm_ne _ _ _ (by decide), upm_at, upm_ne _ _ _ (by decide), upm_ne _ _ _ (by decide), hJa 165 (by omega)]
          simp
        · rw [hKd, upm_ne _ _ _ (by decide), upm_at, upm_ne _ _ _ (by decide), upm_ne _ _ _ (by decide), upm_ne _ _ _ (by decide), hJa 166 (by omega)]
          simp
      have hc : K (9 + n) 0 = x ∧ K (9 + n) 1 = y ∧ K (9 + n) 2 = t ∧ K (9 + n) 3 = h := by
        rw [hKJ (9 + n) (by omega), hJd, upm_ne _ _ _ (by omega)]
        refine ⟨?_, ?_, ?_, ?_⟩ <;> simp [upm]
      have h7 : ∀ j, K 7 j = (if j = 1 then I 7 1 + 1 else I 7 j) := fun j => by
        rw [hKJ 7 (by omega), hJd, upm_at, upm_ne _ _ _ (by omega), upm_ne _ _ _ (by omega), upm_ne _ _ _ (by omega), upm_ne _ _ _ (by omega)]
        simp
      have h71 := h7 1
      have h72 := h7 2
      rw [if_pos rfl] at h71
      rw [if_neg (by decide)] at h72
      refine ⟨RS_of (fun a ha => hK a (by omega)) (h0 2 rfl) (h151 1 (by decide)) hS,
        RW_of (fun a ha => hK a (by omega)) (h0 4 rfl) (h151 10 (by decide)) hW,
        ?_,
        RB_of (fun a ha => hK a (by omega)) hB,
        RLt_of (fun a ha => hK a (by omega)) (h151 22 (by decide)) (h151 23 (by decide)) (h151 24 (by decide)) (h151 25 (by decide)) hL,
        RC_of (fun a ha => hK a (by omega)) (h0 11 rfl) (h151 28 (by decide)) hC,
        RK_of (fun a ha => hK a (by omega)) hK_,
        RM_of (fun a ha => hK a (by omega)) (fun j _ _ => by rw [hK 27 (by omega)]) (fun j j1 j2 => h151 j (by omega)) hM,
        RO_of (fun a ha => hK a (by omega)) (h0 16 rfl) (h151 42 (by decide)) hO,
        RG_of (fun a ha => hK a (by omega)) hG,
        RH_of (fun a ha => hK a (by omega)) hH⟩
      unfold RT
      rw [h71, h72, h151 18 (by decide), ec, show K 151 13 = I 7 1 + 1 by rw [hKd, upm_eq]]
      refine ⟨by have := hT.1; omega, rfl, hT.2.2.1, fun m hm => ?_⟩
      have hI := hT.2.2.2 m hm
      have hrm := hr m
      by_cases e : m = n
      · rw [if_pos e, if_pos e, if_pos e, if_pos e] at hrm
        rw [hrm.1, hrm.2.1, hrm.2.2.1, hrm.2.2.2, e]
        exact hc
      · rw [if_neg e, if_neg e, if_neg e, if_neg e] at hrm
        rw [hrm.1, hrm.2.1, hrm.2.2.1, hrm.2.2.2, hK (9 + m) (by omega)]
        exact hI
  · rw [if_neg hv]
    unfold R_tree
    dsimp only
    rw [if_neg hv]
    exact ⟨rfl, H⟩
theorem s_ring {I : Mem} (H : Rel I) {w : Int32}  : (F_ring I w).1 = (R_ring (F_ring I w).2 w).1 ∧ Rel (R_ring (F_ring I w).2 w).2 := by
  obtain ⟨hS, hW, hT, hB, hL, hC, hK_, hM, hO, hG, hH⟩ := id H
  unfold F_ring
  by_cases hv : 1 ≤ w.toInt ∧ w.toInt ≤ 2000
  · rw [if_pos hv]
    unfold R_ring
    dsimp only
    have hv2 : 1 ≤ w.toInt ∧ w.toInt ≤ 2000 := hv
    rw [if_pos hv2]
    refine ⟨by rw [upm_ne _ _ _ (by decide), hT.2.2.1], ?_⟩
    obtain ⟨K, hKd⟩ : ∃ K, K = (upm (upm I 7 2 w) 151 18 w) := ⟨_, rfl⟩
    show Rel (upm (upm I 7 2 w) 151 18 w)
    rw [← hKd]
    have hK : ∀ a, (a ≠ 7 ∧ a ≠ 151) → K a = I a := fun a ha => by rw [hKd, upm_ne _ _ _ (by omega), upm_ne _ _ _ (by omega)]
    have h0 : ∀ j, j = j → K 0 j = I 0 j := fun j _ => by rw [hK 0 (by omega)]
    have h151 : ∀ j, j ≠ 18 → K 151 j = I 151 j := fun j hj => by rw [hKd, upm_at, if_neg (fun q => hj q.2), upm_ne _ _ _ (by decide)]
    refine ⟨RS_of (fun a ha => hK a (by omega)) (h0 2 rfl) (h151 1 (by decide)) hS,
      RW_of (fun a ha => hK a (by omega)) (h0 4 rfl) (h151 10 (by decide)) hW,
      ?_,
      RB_of (fun a ha => hK a (by omega)) hB,
      RLt_of (fun a ha => hK a (by omega)) (h151 22 (by decide)) (h151 23 (by decide)) (h151 24 (by decide)) (h151 25 (by decide)) hL,
      RC_of (fun a ha => hK a (by omega)) (h0 11 rfl) (h151 28 (by decide)) hC,
      RK_of (fun a ha => hK a (by omega)) hK_,
      RM_of (fun a ha => hK a (by omega)) (fun j _ _ => by rw [hK 27 (by omega)]) (fun j j1 j2 => h151 j (by omega)) hM,
      RO_of (fun a ha => hK a (by omega)) (h0 16 rfl) (h151 42 (by decide)) hO,
      RG_of (fun a ha => hK a (by omega)) hG,
      RH_of (fun a ha => hK a (by omega)) hH⟩
    have h71 : K 7 1 = I 7 1 := by rw [hKd, upm_ne _ _ _ (by decide), upm_at, if_neg (by decide)]
    have h72 : K 7 2 = w := by rw [hKd, upm_ne _ _ _ (by decide), upm_eq]
    unfold RT
    rw [h71, h72, h151 13 (by decide), show K 151 18 = w by rw [hKd, upm_eq], hK 163 (by omega), hK 164 (by omega), hK 165 (by omega), hK 166 (by omega)]
    refine ⟨hT.1, hT.2.1, rfl, fun m hm => ?_⟩
    rw [hK (9 + m) (by omega)]
    exact hT.2.2.2 m hm
  · rw [if_neg hv]
    unfold R_ring
    dsimp only
    have hv2 : ¬ (1 ≤ w.toInt ∧ w.toInt ≤ 2000) := by exact hv
    rw [if_neg hv2]
    exact ⟨rfl, H⟩
theorem s_match {I : Mem} (H : Rel I) {i w : Int32}  : (F_match I i w).1 = (R_match (F_match I i w).2 i w).1 ∧ Rel (R_match (F_match I i w).2 i w).2 := by
  obtain ⟨hS, hW, hT, hB, hL, hC, hK_, hM, hO, hG, hH⟩ := id H
  unfold F_match
  by_cases hv : (0 ≤ i.toInt ∧ i.toInt ≤ 4) ∧ (w.toInt = -2 ∨ w.toInt = -1 ∨ isS w (I 0 4))
  · rw [if_pos hv]
    have hn : i.toNatClampNeg < 5 := by rw [tn]; have := hv.1; omega
    unfold R_match
    dsimp only
    have hv2 : (0 ≤ i.toInt ∧ i.toInt ≤ 4) ∧ (-2 ≤ w.toInt ∧ w.toInt < (upm I 26 i.toNatClampNeg w 151 10).toInt) := by rw [upm_ne _ _ _ (by decide), hW.2.1]; have h1 := hv.1; have h2 := hv.2; have h3 := hW.1; unfold isS at h2; omega
    rw [if_pos hv2]
    refine ⟨by rw [upm_ne _ _ _ (by decide)]; exact (hM.1 _ hn).1, ?_⟩
    generalize i.toNatClampNeg = n at *
    obtain ⟨K, hKd⟩ : ∃ K, K = (upm (upm I 26 n w) 172 n w) := ⟨_, rfl⟩
    show Rel (upm (upm I 26 n w) 172 n w)
    rw [← hKd]
    have hK : ∀ a, (a ≠ 26 ∧ a ≠ 172) → K a = I a := fun a ha => by rw [hKd, upm_ne _ _ _ (by omega), upm_ne _ _ _ (by omega)]
    have h0 : ∀ j, j = j → K 0 j = I 0 j := fun j _ => by rw [hK 0 (by omega)]
    have h151 : ∀ j, j = j → K 151 j = I 151 j := fun j _ => by rw [hK 151 (by omega)]
    refine ⟨RS_of (fun a ha => hK a (by omega)) (h0 2 rfl) (h151 1 rfl) hS,
      RW_of (fun a ha => hK a (by omega)) (h0 4 rfl) (h151 10 rfl) hW,
      RT_of (fun a ha => hK a (by omega)) (h151 13 rfl) (h151 18 rfl) hT,
      RB_of (fun a ha => hK a (by omega)) hB,
      RLt_of (fun a ha => hK a (by omega)) (h151 22 rfl) (h151 23 rfl) (h151 24 rfl) (h151 25 rfl) hL,
      RC_of (fun a ha => hK a (by omega)) (h0 11 rfl) (h151 28 rfl) hC,
      RK_of (fun a ha => hK a (by omega)) hK_,
      ?_,
      RO_of (fun a ha => hK a (by omega)) (h0 16 rfl) (h151 42 rfl) hO,
      RG_of (fun a ha => hK a (by omega)) hG,
      RH_of (fun a ha => hK a (by omega)) hH⟩
    have h9 := hW.1
    unfold RM manOk
    rw [hK 27 (by omega), h151 32 rfl, h151 33 rfl, h151 34 rfl, h151 35 rfl]
    refine ⟨fun m hm => ?_, hM.2.1, hM.2.2⟩
    have hI := hM.1 m hm
    rw [hKd]
    by_cases e : m = n
    · rw [e, upm_ne _ _ _ (by decide), upm_eq, upm_eq]
      have h2 := hv.2
      unfold isS at h2
      exact ⟨rfl, by omega, by omega⟩
    · rw [upm_ne _ _ _ (by decide), upm_at, if_neg (fun q => e q.2), upm_at, if_neg (fun q => e q.2), upm_ne _ _ _ (by decide)]
      exact hI
  · rw [if_neg hv]
    unfold R_match
    dsimp only
    have hv2 : ¬ ((0 ≤ i.toInt ∧ i.toInt ≤ 4) ∧ (-2 ≤ w.toInt ∧ w.toInt < (I 151 10).toInt)) := by rw [hW.2.1]; have h3 := hW.1; unfold isS at hv; omega
    rw [if_neg hv2]
    exact ⟨rfl, H⟩
theorem s_style {I : Mem} (H : Rel I) {l a st sp : Int32}  : (F_style I l a st sp).1 = (R_style (F_style I l a st sp).2 l a st sp).1 ∧ Rel (R_style (F_style I l a st sp).2 l a st sp).2 := by
  obtain ⟨hS, hW, hT, hB, hL, hC, hK_, hM, hO, hG, hH⟩ := id H
  unfold F_style
  by_cases hv : styP l a st sp
  · rw [if_pos hv]
    unfold R_style
    dsimp only
    have hv2 : styP l a st sp := hv
    rw [if_pos hv2]
    refine ⟨rfl, ?_⟩
    obtain ⟨K, hKd⟩ : ∃ K, K = (upm (upm (upm (upm (takeM I 27 0 l a st sp (-1)) 151 32 l) 151 33 a) 151 34 st) 151 35 sp) := ⟨_, rfl⟩
    show Rel (upm (upm (upm (upm (takeM I 27 0 l a st sp (-1)) 151 32 l) 151 33 a) 151 34 st) 151 35 sp)
    rw [← hKd]
    have hK : ∀ a, (a ≠ 27 ∧ a ≠ 151) → K a = I a := fun a ha => by rw [hKd, upm_ne _ _ _ (by omega), upm_ne _ _ _ (by omega), upm_ne _ _ _ (by omega), upm_ne _ _ _ (by omega), takeM_ne _ _ _ _ _ _ _ (by omega)]
    have h0 : ∀ j, j = j → K 0 j = I 0 j := fun j _ => by rw [hK 0 (by omega)]
    have h151 : ∀ j, ¬ (32 ≤ j ∧ j ≤ 35) → K 151 j = I 151 j := fun j hj => by rw [hKd, upm_at, if_neg (fun q => by omega), upm_at, if_neg (fun q => by omega), upm_at, if_neg (fun q => by omega), upm_at, if_neg (fun q => by omega), takeM_ne _ _ _ _ _ _ _ (by decide)]
    refine ⟨RS_of (fun a ha => hK a (by omega)) (h0 2 rfl) (h151 1 (by decide)) hS,
      RW_of (fun a ha => hK a (by omega)) (h0 4 rfl) (h151 10 (by decide)) hW,
      RT_of (fun a ha => hK a (by omega)) (h151 13 (by decide)) (h151 18 (by decide)) hT,
      RB_of (fun a ha => hK a (by omega)) hB,
      RLt_of (fun a ha => hK a (by omega)) (h151 22 (by decide)) (h151 23 (by decide)) (h151 24 (by decide)) (h151 25 (by decide)) hL,
      RC_of (fun a ha => hK a (by omega)) (h0 11 rfl) (h151 28 (by decide)) hC,
      RK_of (fun a ha => hK a (by omega)) hK_,
      ?_,
      RO_of (fun a ha => hK a (by omega)) (h0 16 rfl) (h151 42 (by decide)) hO,
      RG_of (fun a ha => hK a (by omega)) hG,
      RH_of (fun a ha => hK a (by omega)) hH⟩
    have hT27 := takeM_at I 27 0 l a st sp (-1)
    have hj : ∀ j, K 27 j = takeM I 27 0 l a st sp (-1) 27 j := fun j => by rw [hKd, upm_ne _ _ _ (by decide), upm_ne _ _ _ (by decide), upm_ne _ _ _ (by decide), upm_ne _ _ _ (by decide)]
    unfold RM manOk
    rw [hj 1, hj 2, hj 3, hj 4, hT27.2.1, hT27.2.2.1, hT27.2.2.2.1, hT27.2.2.2.2.1, hK 26 (by omega), hK 172 (by omega)]
    refine ⟨hM.1, ⟨?_, ?_, ?_, ?_⟩, hv.1, hv.2.2.1, hv.2.2.2⟩ <;> (rw [hKd]; simp [upm])
  · rw [if_neg hv]
    unfold R_style
    dsimp only
    have hv2 : ¬ (styP l a st sp) := by exact hv
    rw [if_neg hv2]
    exact ⟨rfl, H⟩
theorem s_patch {I : Mem} (H : Rel I) {p w k : Int32}  : (F_patch I p w k).1 = (R_patch (F_patch I p w k).2 p w k).1 ∧ Rel (R_patch (F_patch I p w k).2 p w k).2 := by
  obtain ⟨hS, hW, hT, hB, hL, hC, hK_, hM, hO, hG, hH⟩ := id H
  unfold F_patch
  by_cases hv : (0 ≤ p.toInt ∧ p.toInt ≤ 24) ∧ (0 ≤ w.toInt ∧ w.toInt ≤ 1000) ∧ (1 ≤ k.toInt ∧ k.toInt ≤ 9)
  · rw [if_pos hv]
    have hn : p.toNatClampNeg < 25 := by rw [tn]; have := hv.1; omega
    unfold R_patch
    dsimp only
    have hv2 : (0 ≤ p.toInt ∧ p.toInt ≤ 24) ∧ (0 ≤ w.toInt ∧ w.toInt ≤ 1000) ∧ (1 ≤ k.toInt ∧ k.toInt ≤ 9) := hv
    rw [if_pos hv2]
    refine ⟨by rw [upm_ne _ _ _ (by decide), upm_ne _ _ _ (by decide)]; exact (hG _ hn).1, ?_⟩
    generalize p.toNatClampNeg = n at *
    obtain ⟨K, hKd⟩ : ∃ K, K = (upm (upm (upm (upm I 38 n w) 39 n k) 178 n w) 179 n k) := ⟨_, rfl⟩
    show Rel (upm (upm (upm (upm I 38 n w) 39 n k) 178 n w) 179 n k)
    rw [← hKd]
    have hK : ∀ a, (a ≠ 38 ∧ a ≠ 39 ∧ a ≠ 178 ∧ a ≠ 179) → K a = I a := fun a ha => by rw [hKd, upm_ne _ _ _ (by omega), upm_ne _ _ _ (by omega), upm_ne _ _ _ (by omega), upm_ne _ _ _ (by omega)]
    have h0 : ∀ j, j = j → K 0 j = I 0 j := fun j _ => by rw [hK 0 (by omega)]
    have h151 : ∀ j, j = j → K 151 j = I 151 j := fun j _ => by rw [hK 151 (by omega)]
    refine ⟨RS_of (fun a ha => hK a (by omega)) (h0 2 rfl) (h151 1 rfl) hS,
      RW_of (fun a ha => hK a (by omega)) (h0 4 rfl) (h151 10 rfl) hW,
      RT_of (fun a ha => hK a (by omega)) (h151 13 rfl) (h151 18 rfl) hT,
      RB_of (fun a ha => hK a (by omega)) hB,
      RLt_of (fun a ha => hK a (by omega)) (h151 22 rfl) (h151 23 rfl) (h151 24 rfl) (h151 25 rfl) hL,
      RC_of (fun a ha => hK a (by omega)) (h0 11 rfl) (h151 28 rfl) hC,
      RK_of (fun a ha => hK a (by omega)) hK_,
      RM_of (fun a ha => hK a (by omega)) (fun j _ _ => by rw [hK 27 (by omega)]) (fun j j1 j2 => h151 j rfl) hM,
      RO_of (fun a ha => hK a (by omega)) (h0 16 rfl) (h151 42 rfl) hO,
      ?_,
      RH_of (fun a ha => hK a (by omega)) hH⟩
    intro m hm
    have hI := hG m hm
    rw [hKd]
    by_cases e : m = n
    · rw [e]
      simp [upm]
    · simp [upm, e]
      exact hI
  · rw [if_neg hv]
    unfold R_patch
    dsimp only
    have hv2 : ¬ ((0 ≤ p.toInt ∧ p.toInt ≤ 24) ∧ (0 ≤ w.toInt ∧ w.toInt ≤ 1000) ∧ (1 ≤ k.toInt ∧ k.toInt ≤ 9)) := by exact hv
    rw [if_neg hv2]
    exact ⟨rfl, H⟩
theorem s_search {I : Mem} (H : Rel I) {p : Int32}  : (F_search I p).1 = (R_search (F_search I p).2 p).1 ∧ Rel (R_search (F_search I p).2 p).2 := by
  obtain ⟨hS, hW, hT, hB, hL, hC, hK_, hM, hO, hG, hH⟩ := id H
  unfold F_search
  by_cases hv : 0 ≤ p.toInt ∧ p.toInt ≤ 24
  · rw [if_pos hv]
    have hn : p.toNatClampNeg < 25 := by rw [tn]; omega
    unfold R_search
    dsimp only
    have hv2 : 0 ≤ p.toInt ∧ p.toInt ≤ 24 := hv
    rw [if_pos hv2]
    refine ⟨by rw [upm_ne _ _ _ (by decide), upm_ne _ _ _ (by decide), (hG _ hn).1, (hG _ hn).2], ?_⟩
    rw [upm_ne _ _ _ (show (179 : Nat) ≠ 38 by decide), upm_ne _ _ _ (show (178 : Nat) ≠ 38 by decide)]
    generalize p.toNatClampNeg = n at *
    obtain ⟨K, hKd⟩ : ∃ K, K = (upm (upm I 38 n ((10 - I 39 n) * I 38 n / 10)) 178 n ((10 - I 179 n) * I 178 n / 10)) := ⟨_, rfl⟩
    show Rel (upm (upm I 38 n ((10 - I 39 n) * I 38 n / 10)) 178 n ((10 - I 179 n) * I 178 n / 10))
    rw [← hKd]
    have hK : ∀ a, (a ≠ 38 ∧ a ≠ 178) → K a = I a := fun a ha => by rw [hKd, upm_ne _ _ _ (by omega), upm_ne _ _ _ (by omega)]
    have h0 : ∀ j, j = j → K 0 j = I 0 j := fun j _ => by rw [hK 0 (by omega)]
    have h151 : ∀ j, j = j → K 151 j = I 151 j := fun j _ => by rw [hK 151 (by omega)]
    refine ⟨RS_of (fun a ha => hK a (by omega)) (h0 2 rfl) (h151 1 rfl) hS,
      RW_of (fun a ha => hK a (by omega)) (h0 4 rfl) (h151 10 rfl) hW,
      RT_of (fun a ha => hK a (by omega)) (h151 13 rfl) (h151 18 rfl) hT,
      RB_of (fun a ha => hK a (by omega)) hB,
      RLt_of (fun a ha => hK a (by omega)) (h151 22 rfl) (h151 23 rfl) (h151 24 rfl) (h151 25 rfl) hL,
      RC_of (fun a ha => hK a (by omega)) (h0 11 rfl) (h151 28 rfl) hC,
      RK_of (fun a ha => hK a (by omega)) hK_,
      RM_of (fun a ha => hK a (by omega)) (fun j _ _ => by rw [hK 27 (by omega)]) (fun j j1 j2 => h151 j rfl) hM,
      RO_of (fun a ha => hK a (by omega)) (h0 16 rfl) (h151 42 rfl) hO,
      ?_,
      RH_of (fun a ha => hK a (by omega)) hH⟩
    intro m hm
    have hI := hG m hm
    have hJ := hG n hn
    rw [hKd]
    by_cases e : m = n
    · rw [e]
      simp [upm]
      exact ⟨by rw [hJ.1, hJ.2], hJ.2⟩
    · simp [upm, e]
      exact hI
  · rw [if_neg hv]
    unfold R_search
    dsimp only
    have hv2 : ¬ (0 ≤ p.toInt ∧ p.toInt ≤ 24) := by exact hv
    rw [if_neg hv2]
    exact ⟨rfl, H⟩
theorem s_unrow {I : Mem} (H : Rel I) : (F_unrow I).1 = (R_unrow (F_unrow I).2).1 ∧ Rel (R_unrow (F_unrow I).2).2 := by
  obtain ⟨hS, hW, hT, hB, hL, hC, hK_, hM, hO, hG, hH⟩ := id H
  unfold F_unrow
  by_cases hf : I 0 16 = 0
  · rw [if_pos hf]
    unfold R_unrow
    dsimp only
    rw [if_pos (hO.2.1.trans hf)]
    exact ⟨rfl, H⟩
  · rw [if_neg hf]
    have h9 := hO.1
    have ec : (I 0 16 - 1).toInt = (I 0 16).toInt - 1 := tI_sub1 (by omega)
    have hpos : 1 ≤ (I 0 16).toInt := by rw [i32_eq, z32] at hf; omega
    have hJ : upm I 0 16 (I 0 16 - 1) 151 42 = I 0 16 := by rw [upm_ne _ _ _ (by decide), hO.2.1]
    unfold R_unrow
    dsimp only
    have hv2 : ¬ upm I 0 16 (I 0 16 - 1) 151 42 = 0 := fun q => hf (hJ.symm.trans q)
    rw [if_neg hv2]
    refine ⟨by rw [hJ], ?_⟩
    dsimp only
    rw [hJ]
    obtain ⟨K, hKd⟩ : ∃ K, K = upm (upm I 0 16 (I 0 16 - 1)) 151 42 (I 0 16 - 1) := ⟨_, rfl⟩
    rw [← hKd]
    have hK : ∀ a, (a ≠ 0 ∧ a ≠ 151) → K a = I a := fun a ha => by rw [hKd, upm_ne _ _ _ (by omega), upm_ne _ _ _ (by omega)]
    have h0 : ∀ j, j ≠ 16 → K 0 j = I 0 j := fun j hj => by rw [hKd, upm_ne _ _ _ (by omega), upm_at, if_neg (fun q => hj q.2)]
    have h151 : ∀ j, j ≠ 42 → K 151 j = I 151 j := fun j hj => by rw [hKd, upm_at, if_neg (fun q => hj q.2), upm_ne _ _ _ (by omega)]
    have h04 : K 0 16 = I 0 16 - 1 := by rw [hKd, upm_ne _ _ _ (by omega), upm_eq]
    have h1510 : K 151 42 = I 0 16 - 1 := by rw [hKd, upm_eq]
    refine ⟨RS_of (fun a ha => hK a (by omega)) (h0 2 (by decide)) (h151 1 (by decide)) hS,
      RW_of (fun a ha => hK a (by omega)) (h0 4 (by decide)) (h151 10 (by decide)) hW,
      RT_of (fun a ha => hK a (by omega)) (h151 13 (by decide)) (h151 18 (by decide)) hT,
      RB_of (fun a ha => hK a (by omega)) hB,
      RLt_of (fun a ha => hK a (by omega)) (h151 22 (by decide)) (h151 23 (by decide)) (h151 24 (by decide)) (h151 25 (by decide)) hL,
      RC_of (fun a ha => hK a (by omega)) (h0 11 (by decide)) (h151 28 (by decide)) hC,
      RK_of (fun a ha => hK a (by omega)) hK_,
      RM_of (fun a ha => hK a (by omega)) (fun j _ _ => by rw [hK 27 (by omega)]) (fun j j1 j2 => h151 j (by omega)) hM,
      ?_,
      RG_of (fun a ha => hK a (by omega)) hG,
      RH_of (fun a ha => hK a (by omega)) hH⟩
    unfold RO
    rw [h04, h1510, ec, hK 177 (by omega)]
    refine ⟨by omega, rfl, fun n hn => ?_⟩
    have hn3 : n < (I 0 16).toNatClampNeg := by rw [tn, ec] at hn; rw [tn]; omega
    have hn30 : n < 30 := by rw [tn] at hn3; omega
    unfold AimOk
    rw [hK (83 + 2 * n) (by omega), hK (83 + 2 * n + 1) (by omega)]
    exact hO.2.2 n hn3
