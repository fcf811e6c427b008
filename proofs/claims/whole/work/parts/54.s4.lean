/-! CALL BY CALL, part 4 -/
theorem s_table {I : Mem} (H : Rel I) (w d : Int32) : F_table I w d = R_table I w d := by
  obtain ⟨hS, hW, hT, hB, hL, hC, hK_, hM, hO, hG, hH⟩ := id H
  unfold F_table R_table
  by_cases hv : (0 ≤ w.toInt ∧ w.toInt ≤ 1) ∧ (0 ≤ d.toInt ∧ d.toInt ≤ 359)
  · rw [if_pos hv, if_pos hv, hB.1, R_sine_T hB.2, R_cosine_T hB.2, wv_sin hv.2, wv_cos hv.2]
  · rw [if_neg hv, if_neg hv]
theorem s_at {I : Mem} (H : Rel I) (t w : Int32) : F_at I t w = R_at I t w := by
  obtain ⟨hS, hW, hT, hB, hL, hC, hK_, hM, hO, hG, hH⟩ := id H
  unfold F_at R_at
  by_cases hv : ¬ I 15 9 = 0 ∧ (0 ≤ t.toInt ∧ t.toInt ≤ (I 15 8).toInt) ∧ (0 ≤ w.toInt ∧ w.toInt ≤ 7)
  · have hv2 : ¬ I 151 25 = 0 ∧ (0 ≤ t.toInt ∧ t.toInt ≤ (I 151 23).toInt) ∧ (0 ≤ w.toInt ∧ w.toInt ≤ 7) := by rw [hL.2.1]; exact ⟨fun q => hv.1 (hL.2.2.2.1.mpr q), hv.2⟩
    rw [if_pos hv, if_pos hv2]
    have h9 := hL.2.2.2.2.1
    exact (hL.2.2.2.2.2 hv2.1).1 _ (by rw [tn, tn, tn]; have := hv.2; omega)
  · have hv2 : ¬ (¬ I 151 25 = 0 ∧ (0 ≤ t.toInt ∧ t.toInt ≤ (I 151 23).toInt) ∧ (0 ≤ w.toInt ∧ w.toInt ≤ 7)) := by rw [hL.2.1]; exact fun q => hv ⟨fun z => q.1 (hL.2.2.2.1.mp z), q.2⟩
    rw [if_neg hv, if_neg hv2]
theorem s_chosen {I : Mem} (H : Rel I) (w : Int32) : F_chosen I w = R_chosen I w := by
  obtain ⟨hS, hW, hT, hB, hL, hC, hK_, hM, hO, hG, hH⟩ := id H
  unfold F_chosen R_chosen
  by_cases hv : ¬ I 0 11 = 0 ∧ (0 ≤ w.toInt ∧ w.toInt ≤ 3)
  · have hv2 : ¬ I 151 28 = 0 ∧ (0 ≤ w.toInt ∧ w.toInt ≤ 3) := ⟨fun q => hv.1 (hC.1.mpr q), hv.2⟩
    rw [if_pos hv, if_pos hv2]
    exact hC.2 _ (by rw [tn]; have := hv.2; omega)
  · have hv2 : ¬ (¬ I 151 28 = 0 ∧ (0 ≤ w.toInt ∧ w.toInt ≤ 3)) := fun q => hv ⟨fun z => q.1 (hC.1.mp z), q.2⟩
    rw [if_neg hv, if_neg hv2]
theorem s_grass {I : Mem} (H : Rel I) (p w : Int32) : F_grass I p w = R_grass I p w := by
  obtain ⟨hS, hW, hT, hB, hL, hC, hK_, hM, hO, hG, hH⟩ := id H
  unfold F_grass R_grass
  by_cases hv : (0 ≤ p.toInt ∧ p.toInt ≤ 24) ∧ (0 ≤ w.toInt ∧ w.toInt ≤ 1)
  · have h9 := hG p.toNatClampNeg (by rw [tn]; have := hv.1; omega)
    rw [if_pos hv, if_pos hv, h9.1, h9.2]
  · rw [if_neg hv, if_neg hv]
theorem nx_congr {f g : Nat → Int32} : ∀ n, (∀ p, p < n → f p = g p) → nxP f n = nxP g n
  | 0, _ => rfl
  | n + 1, h => by
    have ih := nx_congr n (fun p hp => h p (by omega))
    show (if (nxP f n).2 < f n then (nI n, f n) else nxP f n) = (if (nxP g n).2 < g n then (nI n, g n) else nxP g n)
    rw [ih, h n (by omega)]
theorem s_next {I : Mem} (H : Rel I) : (nxP (grF I) 25).1 = (nxP (grR I) 25).1 := by
  obtain ⟨hS, hW, hT, hB, hL, hC, hK_, hM, hO, hG, hH⟩ := id H
  rw [nx_congr (f := grF I) (g := grR I) 25 (fun p hp => by
    have h9 := hG p hp
    show I 38 p * I 39 p = I 178 p * I 179 p
    rw [h9.1, h9.2])]
theorem Rel_bg {I : Mem} (H : Rel I) : ∀ i, i < (I 0 2).toNatClampNeg → bgF I i = bgR I i := by
  obtain ⟨hS, hW, hT, hB, hL, hC, hK_, hM, hO, hG, hH⟩ := id H
  intro i hi
  have hi9 : i < 9 := by rw [tn] at hi; have := hS.1; omega
  have hI := (hS.2.2 i hi9).2.2.2.1 hi
  show decide (¬ I (41 + 2 * i) 6 = 0) = decide (I 160 i = 0)
  rcases hI with q | q
  · rw [q.1, q.2]
    decide
  · rw [q.1, q.2]
    decide
theorem Rel_mt {I : Mem} (H : Rel I) : ∀ i, i < 5 → mtF I i = mtR I i := by
  obtain ⟨hS, hW, hT, hB, hL, hC, hK_, hM, hO, hG, hH⟩ := id H
  intro i hi
  have hI := hM.1 i hi
  show decide (¬ I 26 i = -2) = decide (¬ I 172 i < -1)
  rw [← hI.1]
  by_cases q : I 26 i = -2
  · rw [q]
    decide
  · rw [decide_eq_true q, decide_eq_true (by
      rw [Int32.lt_iff_toInt_lt, i32_m1]
      rw [i32_eq, show (-2 : Int32).toInt = -2 by decide] at q
      omega)]
theorem s_count {I : Mem} (H : Rel I) (w : Int32) : F_count I w = R_count I w := by
  obtain ⟨hS, hW, hT, hB, hL, hC, hK_, hM, hO, hG, hH⟩ := id H
  unfold F_count R_count
  rw [hS.2.1, hW.2.1, hT.2.1, hO.2.1, cnt_congr _ (Rel_bg H), cnt_congr 5 (Rel_mt H)]
theorem line_col (aw : Int32) : lineP aw = colP aw := by
  unfold lineP colP
  generalize aw + 1000 = v
  have h1 := tI_lo v
  have h2 := tI_hi v
  have ef : (fdI v 400).toInt = v.toInt / 400 := by
    unfold fdI
    rw [e400]
    exact Int32.toInt_ofInt_of_le (by omega) (by omega)
  by_cases q : 0 ≤ v
  · rw [if_pos q]
    rw [Int32.le_iff_toInt_le, z32] at q
    by_cases q2 : v < 2000
    · rw [if_pos q2]
      rw [Int32.lt_iff_toInt_lt, e2000] at q2
      have e1 : fdI v 400 = v / 400 := by rw [i32_eq, ef, tI_div (by rw [e400]; omega), e400, Int.tdiv_eq_ediv_of_nonneg q]
      have e2 : minI 4 (fdI v 400) = fdI v 400 := by
        unfold minI
        split
        · rfl
        · rename_i z
          rw [Int32.lt_iff_toInt_lt, ef, e4i] at z
          rw [i32_eq, ef, e4i]
          omega
      rw [e2]
      unfold maxI
      rw [e1]
      split
      · rfl
      · rename_i z
        rw [Int32.lt_iff_toInt_lt, z32, ← e1, ef] at z
        rw [i32_eq, z32, ← e1, ef]
        omega
    · rw [if_neg q2]
      rw [Int32.lt_iff_toInt_lt, e2000] at q2
      have e2 : minI 4 (fdI v 400) = 4 := by
        unfold minI
        rw [if_neg (by rw [Int32.lt_iff_toInt_lt, ef, e4i]; omega)]
      rw [e2]
      decide
  · rw [if_neg q]
    rw [Int32.le_iff_toInt_le, z32] at q
    have e2 : minI 4 (fdI v 400) = fdI v 400 := by
      unfold minI
      rw [if_pos (by rw [Int32.lt_iff_toInt_lt, ef, e4i]; omega)]
    rw [e2]
    unfold maxI
    rw [if_neg (by rw [Int32.lt_iff_toInt_lt, ef, z32]; omega)]
theorem s_seen {I : Mem} (H : Rel I) {t : Int32} : (F_seen I t).1 = (R_seen (F_seen I t).2 t).1 ∧ Rel (R_seen (F_seen I t).2 t).2 := by
  obtain ⟨hS, hW, hT, hB, hL, hC, hK_, hM, hO, hG, hH⟩ := id H
  unfold F_seen
  by_cases hv : ¬ I 15 9 = 0 ∧ (0 ≤ t.toInt ∧ t.toInt ≤ (I 15 8).toInt)
  · rw [if_pos hv]
    have hf : ¬ I 151 25 = 0 := fun q => hv.1 (hL.2.2.2.1.mpr q)
    have hx := hL.2.2.2.2.2 hf
    have h4 := hL.2.2.2.2.1
    have t1 : I 16 (8 * t.toNatClampNeg + (1 : Int32).toNatClampNeg) = I 168 (8 * t.toNatClampNeg + 1) := hx.1 _ (by rw [e01, tn, tn]; omega)
    have t0 : I 16 (8 * t.toNatClampNeg + (0 : Int32).toNatClampNeg) = I 168 (8 * t.toNatClampNeg) := hx.1 _ (by rw [e00, tn, tn]; omega)
    rw [t1, t0, hx.2.1, hx.2.2, line_col, line_col]
    generalize hcx : colP (I 168 (8 * (I 15 8).toNatClampNeg) - I 168 (8 * t.toNatClampNeg)) = cx
    generalize hrx : colP (I 168 (8 * (I 15 8).toNatClampNeg + 1) - I 168 (8 * t.toNatClampNeg + 1)) = rx
    dsimp only
    obtain ⟨J, hJd⟩ : ∃ J, J = rowQ I 38 0 (spF cx rx) 25 := ⟨_, rfl⟩
    rw [← hJd]
    have hJa : ∀ a, a ≠ 38 → J a = I a := fun a ha => by rw [hJd, rowQ_ne _ _ _ _ ha]
    unfold R_seen
    have hv2 : ¬ J 151 25 = 0 ∧ (0 ≤ t.toInt ∧ t.toInt ≤ (J 151 23).toInt) := by rw [hJa 151 (by decide), hL.2.1]; exact ⟨hf, hv.2⟩
    rw [if_pos hv2, hJa 151 (by decide), hJa 168 (by decide), hL.2.1, hcx, hrx]
    refine ⟨by rw [Int32.mul_comm], ?_⟩
    dsimp only
    obtain ⟨K, hKd⟩ : ∃ K, K = rowQ J 178 0 (spR cx rx) 25 := ⟨_, rfl⟩
    rw [← hKd]
    have hK : ∀ a, (a ≠ 38 ∧ a ≠ 178) → K a = I a := fun a ha => by rw [hKd, rowQ_ne _ _ _ _ ha.2, hJa a ha.1]
    have h0 : ∀ j, j = j → K 0 j = I 0 j := fun j _ => by rw [hK 0 (by omega)]
    have h151 : ∀ j, j = j → K 151 j = I 151 j := fun j _ => by rw [hK 151 (by omega)]
    refine ⟨RS_of (fun a ha => hK a (by omega)) (h0 2 rfl) (h151 1 rfl) hS,
      RW_of (fun a ha => hK a (by omega)) (h0 4 rfl) (h151 10 rfl) hW,
      RT_of (fun a ha => hK a (by omega)) (h151 13 rfl) (h151 18 rfl) hT,
      RB_of (fun a ha => hK a (by omega)) hB,
      RLt_of (fun a ha => hK a (by omega)) (h151 22 rfl) (h151 23 rfl) (h151 24 rfl) (h151 25 rfl) hL,
      RC_of (fun a ha => hK a (by omega)) (h0 11 rfl) (h151 28 rfl) hC,
      RK_of (fun a ha => hK a (by omega)) hK_,
      RM_of (fun a ha => hK a (by omega)) (fun j _ _ => by rw [hK 27 (by omega)]) (fun j j1 j2 => h151 j rfl) hM,
      RO_of (fun a ha => hK a (by omega)) (h0 16 rfl) (h151 42 rfl) hO,
      ?_,
      RH_of (fun a ha => hK a (by omega)) hH⟩
    intro p hp
    have e1 : K 38 p = spF cx rx p := by
      rw [hKd, rowQ_ne _ _ _ _ (by decide), hJd]
      have e_ := rowQ_in I 38 0 (i := 25) (j := p) (spF cx rx) hp
      rw [Nat.zero_add] at e_
      exact e_
    have e2 : K 178 p = spR cx rx p := by
      rw [hKd]
      have e_ := rowQ_in J 178 0 (i := 25) (j := p) (spR cx rx) hp
      rw [Nat.zero_add] at e_
      exact e_
    rw [e1, e2, hK 39 (by decide), hK 179 (by decide)]
    refine ⟨?_, (hG p hp).2⟩
    unfold spF spR
    rw [Int32.add_assoc]
  · rw [if_neg hv]
    unfold R_seen
    dsimp only
    have hv2 : ¬ (¬ I 151 25 = 0 ∧ (0 ≤ t.toInt ∧ t.toInt ≤ (I 151 23).toInt)) := by rw [hL.2.1]; exact fun q => hv ⟨fun z => q.1 (hL.2.2.2.1.mp z), q.2⟩
    rw [if_neg hv2]
    exact ⟨rfl, H⟩
theorem holdM_ne (I : Mem) {k a : Nat} (l n : Int32) (h1 : a ≠ k) (h2 : a ≠ k + 1) : holdM I k l n a = I a := by
  unfold holdM
  rw [rowQ_ne _ _ _ _ h2, upm_ne _ _ _ h1, upm_ne _ _ _ h1]
theorem holdM_at (I : Mem) (k : Nat) (l n : Int32) : holdM I k l n k 0 = l ∧ holdM I k l n k 1 = n ∧ ∀ j, j < 60 → holdM I k l n (k + 1) j = 0 := by
  refine ⟨?_, ?_, fun j hj => ?_⟩
  · unfold holdM
    rw [rowQ_ne _ _ _ _ (by omega), upm_at, if_neg (by omega), upm_eq]
  · unfold holdM
    rw [rowQ_ne _ _ _ _ (by omega), upm_eq]
  · unfold holdM
    have e_ := rowQ_in (upm (upm I k 0 l) k 1 n) (k + 1) 0 (i := 60) (j := j) (fun _ => 0) hj
    rw [Nat.zero_add] at e_
    exact e_
theorem s_sheet {I : Mem} (H : Rel I) {s l n : Int32} : (F_sheet I s l n).1 = (R_sheet (F_sheet I s l n).2 s l n).1 ∧ Rel (R_sheet (F_sheet I s l n).2 s l n).2 := by
  obtain ⟨hS, hW, hT, hB, hL, hC, hK_, hM, hO, hG, hH⟩ := id H
  unfold F_sheet R_sheet
  by_cases hv : (0 ≤ s.toInt ∧ s.toInt ≤ 3) ∧ (0 ≤ l.toInt ∧ l.toInt ≤ 2) ∧ n.toInt ≤ 60
  · rw [if_pos hv, if_pos hv]
    by_cases hz : n.toInt < 0
    · rw [if_pos hz, if_pos hz]
      exact ⟨rfl, H⟩
    · rw [if_neg hz, if_neg hz]
      refine ⟨rfl, ?_⟩
      dsimp only
      have hn4 : s.toNatClampNeg < 4 := by rw [tn]; have := hv.1; omega
      generalize s.toNatClampNeg = k at *
      obtain ⟨K, hKd⟩ : ∃ K, K = rowQ (upm (upm (holdM I (143 + 2 * k) l n) 180 k l) 181 k n) 182 (60 * k) (fun _ => 0) 60 := ⟨_, rfl⟩
      rw [← hKd]
      have ha := holdM_at I (143 + 2 * k) l n
      have hK : ∀ a, (a ≠ 143 + 2 * k ∧ a ≠ 143 + 2 * k + 1 ∧ ¬ (180 ≤ a ∧ a ≤ 182)) → K a = I a := fun a ha => by rw [hKd, rowQ_ne _ _ _ _ (by omega), upm_ne _ _ _ (by omega), upm_ne _ _ _ (by omega), holdM_ne _ _ _ (by omega) (by omega)]
      have hlow : ∀ a, a < 151 → K a = holdM I (143 + 2 * k) l n a := fun a ha => by rw [hKd, rowQ_ne _ _ _ _ (by omega), upm_ne _ _ _ (by omega), upm_ne _ _ _ (by omega)]
      have h0 : ∀ j, j = j → K 0 j = I 0 j := fun j _ => by rw [hK 0 (by omega)]
      have h151 : ∀ j, j = j → K 151 j = I 151 j := fun j _ => by rw [hK 151 (by omega)]
      refine ⟨RS_of (fun a ha => hK a (by omega)) (h0 2 rfl) (h151 1 rfl) hS,
        RW_of (fun a ha => hK a (by omega)) (h0 4 rfl) (h151 10 rfl) hW,
        RT_of (fun a ha => hK a (by omega)) (h151 13 rfl) (h151 18 rfl) hT,
        RB_of (fun a ha => hK a (by omega)) hB,
        RLt_of (fun a ha => hK a (by omega)) (h151 22 rfl) (h151 23 rfl) (h151 24 rfl) (h151 25 rfl) hL,
        RC_of (fun a ha => hK a (by omega)) (h0 11 rfl) (h151 28 rfl) hC,
        RK_of (fun a ha => hK a (by omega)) hK_,
        RM_of (fun a ha => hK a (by omega)) (fun j _ _ => by rw [hK 27 (by omega)]) (fun j j1 j2 => h151 j rfl) hM,
        RO_of (fun a ha => hK a (by omega)) (h0 16 rfl) (h151 42 rfl) hO,
        RG_of (fun a ha => hK a (by omega)) hG,
        ?_⟩
      intro m hm
      have hI := hH m hm
      have k180 : K 180 m = (if m = k then l else I 180 m) := by
        rw [hKd, rowQ_ne _ _ _ _ (by decide), upm_ne _ _ _ (by decide), upm_at, holdM_ne _ _ _ (by omega) (by omega)]
        simp
      have k181 : K 181 m = (if m = k then n else I 181 m) := by
        rw [hKd, rowQ_ne _ _ _ _ (by decide), upm_at, upm_ne _ _ _ (by decide), holdM_ne _ _ _ (by omega) (by omega)]
        simp
      by_cases e : m = k
      · rw [if_pos e] at k180 k181
        rw [k180, k181, e, hlow (143 + 2 * k) (by omega), hlow (143 + 2 * k + 1) (by omega), ha.1, ha.2.1]
        refine ⟨rfl, Or.inr hv.2.1, by omega, hv.2.2, fun _ => ⟨rfl, fun j hj => ?_⟩⟩
        rw [ha.2.2 j hj, hKd, rowQ_in _ _ _ _ hj]
      · rw [if_neg e] at k180 k181
        rw [k180, k181, hK (143 + 2 * m) (by omega), hK (143 + 2 * m + 1) (by omega)]
        refine ⟨hI.1, hI.2.1, hI.2.2.1, hI.2.2.2.1, fun q => ⟨(hI.2.2.2.2 q).1, fun j hj => ?_⟩⟩
        rw [hKd, rowQ_out _ _ _ (by omega), upm_ne _ _ _ (by decide), upm_ne _ _ _ (by decide), holdM_ne _ _ _ (by omega) (by omega)]
        exact (hI.2.2.2.2 q).2 j hj
  · rw [if_neg hv, if_neg hv]
    exact ⟨rfl, H⟩
theorem lane_lt {I : Mem} (hH : RH I) {n : Nat} (hn : n < 4) : (I 180 n).toInt < 0 ↔ I (143 + 2 * n) 0 = -1 := by
  have hI := hH n hn
  rw [hI.1]
  rcases hI.2.1 with q | q
  · rw [q]
    exact ⟨fun _ => rfl, fun _ => by decide⟩
  · exact ⟨fun z => by omega, fun z => by rw [z, i32_m1] at q; omega⟩
theorem s_drop {I : Mem} (H : Rel I) {s : Int32} : (F_drop I s).1 = (R_drop (F_drop I s).2 s).1 ∧ Rel (R_drop (F_drop I s).2 s).2 := by
  obtain ⟨hS, hW, hT, hB, hL, hC, hK_, hM, hO, hG, hH⟩ := id H
  unfold F_drop R_drop
  by_cases hv : 0 ≤ s.toInt ∧ s.toInt ≤ 3
  · rw [if_pos hv, if_pos hv]
    have hn4 : s.toNatClampNeg < 4 := by rw [tn]; omega
    generalize s.toNatClampNeg = k at *
    have hI := hH k hn4
    have hlt := lane_lt hH hn4
    by_cases hz : I (143 + 2 * k) 0 = -1
    · rw [if_pos hz]
      dsimp only
      rw [if_pos (hlt.mpr hz)]
      exact ⟨rfl, H⟩
    · rw [if_neg hz]
      dsimp only
      have hlow : ∀ a, 151 ≤ a → holdM I (143 + 2 * k) (-1) 0 a = I a := fun a ha => holdM_ne _ _ _ (by omega) (by omega)
      have hz2 : ¬ (holdM I (143 + 2 * k) (-1) 0 180 k).toInt < 0 := by rw [hlow 180 (by omega)]; exact fun q => hz (hlt.mp q)
      have hz3 : ¬ I 180 k = -1 := fun q => hz (by rw [hI.1]; exact q)
      rw [if_neg hz2]
      refine ⟨by rw [hlow 181 (by omega)]; exact (hI.2.2.2.2 hz3).1, ?_⟩
      dsimp only
      obtain ⟨K, hKd⟩ : ∃ K, K = upm (holdM I (143 + 2 * k) (-1) 0) 180 k (-1) := ⟨_, rfl⟩
      rw [← hKd]
      have ha := holdM_at I (143 + 2 * k) (-1) 0
      have hK : ∀ a, (a ≠ 143 + 2 * k ∧ a ≠ 143 + 2 * k + 1 ∧ a ≠ 180) → K a = I a := fun a ha => by rw [hKd, upm_ne _ _ _ (by omega), holdM_ne _ _ _ (by omega) (by omega)]
      have h0 : ∀ j, j = j → K 0 j = I 0 j := fun j _ => by rw [hK 0 (by omega)]
      have h151 : ∀ j, j = j → K 151 j = I 151 j := fun j _ => by rw [hK 151 (by omega)]
      refine ⟨RS_of (fun a ha => hK a (by omega)) (h0 2 rfl) (h151 1 rfl) hS,
        RW_of (fun a ha => hK a (by omega)) (h0 4 rfl) (h151 10 rfl) hW,
        RT_of (fun a ha => hK a (by omega)) (h151 13 rfl) (h151 18 rfl) hT,
        RB_of (fun a ha => hK a (by omega)) hB,
        RLt_of (fun a ha => hK a (by omega)) (h151 22 rfl) (h151 23 rfl) (h151 24 rfl) (h151 25 rfl) hL,
        RC_of (fun a ha => hK a (by omega)) (h0 11 rfl) (h151 28 rfl) hC,
        RK_of (fun a ha => hK a (by omega)) hK_,
        RM_of (fun a ha => hK a (by omega)) (fun j _ _ => by rw [hK 27 (by omega)]) (fun j j1 j2 => h151 j rfl) hM,
        RO_of (fun a ha => hK a (by omega)) (h0 16 rfl) (h151 42 rfl) hO,
        RG_of (fun a ha => hK a (by omega)) hG,
        ?_⟩
      intro m hm
      have hJ := hH m hm
      have k180 : K 180 m = (if m = k then -1 else I 180 m) := by
        rw [hKd, upm_at, hlow 180 (by omega)]
        simp
      rw [hK 181 (by omega), hK 182 (by omega)]
      by_cases e : m = k
      · rw [if_pos e] at k180
        rw [k180, e, show K (143 + 2 * k) = holdM I (143 + 2 * k) (-1) 0 (143 + 2 * k) by rw [hKd, upm_ne _ _ _ (by omega)], ha.1, ha.2.1]
        exact ⟨rfl, Or.inl rfl, by decide, hI.2.2.2.1, fun q => absurd rfl q⟩
      · rw [if_neg e] at k180
        rw [k180, hK (143 + 2 * m) (by omega), hK (143 + 2 * m + 1) (by omega)]
        exact hJ
  · rw [if_neg hv, if_neg hv]
    exact ⟨rfl, H⟩
