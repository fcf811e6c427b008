/-! THE LAW: what each call asks for -/
def RefOk (J : Mem) : Prop := (0 ≤ (J 151 1).toInt ∧ (J 151 1).toInt ≤ 9) ∧ (0 ≤ (J 151 10).toInt ∧ (J 151 10).toInt ≤ 8) ∧ (0 ≤ (J 151 13).toInt ∧ (J 151 13).toInt ≤ 6) ∧ FlOkR J ∧ RwOk J ∧ J 151 22 = 0 ∧ (J 151 23).toInt ≤ 400 ∧ manOkR J ∧ (0 ≤ (J 151 42).toInt ∧ (J 151 42).toInt ≤ 30) ∧ rowsR J ∧ (¬ J 170 0 = 0 → keptOk J 0) ∧ (¬ J 170 1 = 0 → keptOk J 6) ∧ (∀ n, n < 4 → (J 181 n).toInt ≤ 60) ∧ (∀ i, i < 5 → (J 172 i).toInt < 8) ∧ (∀ i, i < 5 → -2 ≤ (J 172 i).toInt)
theorem RefOk_low {I J : Mem} (h : ∀ a, 151 ≤ a → J a = I a) (H : RefOk I) : RefOk J := by
  unfold RefOk FlOkR RwOk manOkR rowsR rwOkR keptOk
  rw [h 151 (by omega), h 152 (by omega), h 161 (by omega), h 162 (by omega), h 170 (by omega), h 171 (by omega), h 172 (by omega), h 177 (by omega), h 181 (by omega)]
  exact H
theorem Rel_ref {I : Mem} (H : Rel I) : RefOk I := by
  obtain ⟨hS, hW, hT, hB, hL, hC, hK_, hM, hO, hG, hH⟩ := id H
  refine ⟨by rw [hS.2.1]; exact hS.1, by rw [hW.2.1]; exact hW.1, by rw [hT.2.1]; exact hT.1, Rel_FlR H, Rel_RwR H, hL.1, by rw [hL.2.1]; exact hL.2.2.2.2.1.2, ?_, by rw [hO.2.1]; exact hO.1, ?_, ?_, ?_, fun n hn => (hH n hn).2.2.2.1, fun i hi => by rw [← (hM.1 i hi).1]; exact (hM.1 i hi).2.2, fun i hi => by rw [← (hM.1 i hi).1]; exact (hM.1 i hi).2.1⟩
  · unfold manOkR
    rw [← hM.2.1.1, ← hM.2.1.2.2.1, ← hM.2.1.2.2.2]
    exact hM.2.2
  · intro n hn
    rw [hO.2.1] at hn
    have hI := hO.2.2 n hn
    have f0 : I (83 + 2 * n + 1) 0 = I 177 (7 * n) := hI.1 0 (by decide)
    unfold rwOkR
    rw [← f0, ← hI.1 1 (by decide)]
    exact ⟨hI.2.2.2.2.1, hI.2.2.2.2.2.1⟩
  · intro q
    have hI := hK_ 0 (by decide)
    have hkn : ¬ I 24 _ = 0 := (by rw [hI.1]; exact q)
    have ha := hI.2.2 hkn
    have f0 : I (22 + 0) 0 = I 171 0 := hI.2.1 0 (by decide) (fun _ => hkn)
    have f1 : I (22 + 0) 1 = I 171 (0 + 1) := hI.2.1 1 (by decide) (fun _ => hkn)
    have f5 : I (22 + 0) 5 = I 171 (0 + 5) := hI.2.1 5 (by decide) (fun _ => hkn)
    unfold keptOk
    rw [← f0, ← f1, ← f5]
    refine ⟨ha.1, ?_, ha.2.1⟩
    rcases ha.2.2.2.2 with z | z
    · rw [z]; decide
    · omega
  · intro q
    have hI := hK_ 1 (by decide)
    have hkn : ¬ I 24 _ = 0 := (by rw [hI.1]; exact q)
    have ha := hI.2.2 hkn
    have f0 : I (22 + 1) 0 = I 171 6 := hI.2.1 0 (by decide) (fun _ => hkn)
    have f1 : I (22 + 1) 1 = I 171 (6 + 1) := hI.2.1 1 (by decide) (fun _ => hkn)
    have f5 : I (22 + 1) 5 = I 171 (6 + 5) := hI.2.1 5 (by decide) (fun _ => hkn)
    unfold keptOk
    rw [← f0, ← f1, ← f5]
    refine ⟨ha.1, ?_, ha.2.1⟩
    rcases ha.2.2.2.2 with z | z
    · rw [z]; decide
    · omega
def ClsOk (I : Mem) : Prop := (0 ≤ (I 0 2).toInt ∧ (I 0 2).toInt ≤ 9) ∧ (0 ≤ (I 0 4).toInt ∧ (I 0 4).toInt ≤ 8) ∧ (0 ≤ (I 7 1).toInt ∧ (I 7 1).toInt ≤ 6) ∧ FlOkF I ∧ FwOk I ∧ (I 15 8).toInt ≤ 400 ∧ manOk I ∧ (0 ≤ (I 0 16).toInt ∧ (I 0 16).toInt ≤ 30) ∧ rowsF I ∧ (¬ I 24 0 = 0 → AimOk I 22) ∧ (¬ I 24 1 = 0 → AimOk I 23) ∧ (∀ n, n < 4 → 0 ≤ (I (143 + 2 * n) 1).toInt ∧ (I (143 + 2 * n) 1).toInt ≤ 60) ∧ mtOk I
theorem Rel_cls {I : Mem} (H : Rel I) : ClsOk I := by
  obtain ⟨hS, hW, hT, hB, hL, hC, hK_, hM, hO, hG, hH⟩ := id H
  refine ⟨hS.1, hW.1, hT.1, Rel_FlF H, Rel_FwF H, hL.2.2.2.2.1.2, hM.2.2, hO.1, fun n hn => (hO.2.2 n hn).2.2.2.2, (hK_ 0 (by decide)).2.2, (hK_ 1 (by decide)).2.2, fun n hn => (hH n hn).2.2.1, fun i hi hm => ?_⟩
  have h9 := hM.1 i hi
  have h8 := of_decide_eq_true hm
  rcases Int.lt_or_le (I 26 i).toInt 0 with z | z
  · left
    rw [i32_eq, i32_m1]
    rw [i32_eq, show (-2 : Int32).toInt = -2 by decide] at h8
    omega
  · exact Or.inr ⟨z, h9.2.2⟩
theorem low_new {I : Mem} (H : Rel I) {w g l d h : Int32} : ∀ a_, 151 ≤ a_ → (F_newStick I w g l d h).2 a_ = I a_ := by
  intro a_ ha_
  obtain ⟨hS, hW, hT, hB, hL, hC, hK_, hM, hO, hG, hH⟩ := H
  unfold F_newStick
  split
  · split
    · rfl
    · rename_i q
      have hn : (I 0 2).toNatClampNeg < 9 := by rw [tn]; have := hS.1; omega
      show upm (mkSt I (41 + 2 * (I 0 2).toNatClampNeg) w g l d h) 0 2 (I 0 2 + 1) a_ = I a_
      rw [upm_ne _ _ _ (by omega), mkSt_ne _ _ _ _ _ _ (by omega)]
  · rfl
theorem low_winged {I : Mem} (H : Rel I) {w g l d h : Int32} : ∀ a_, 151 ≤ a_ → (F_winged I w g l d h).2 a_ = I a_ := by
  intro a_ ha_
  unfold F_winged
  split
  · exact low_new H a_ ha_
  · rfl
theorem low_lift {I : Mem} (H : Rel I) {s b v : Int32} : ∀ a_, 151 ≤ a_ → (F_lift I s b v).2 a_ = I a_ := by
  intro a_ ha_
  obtain ⟨hS, hW, hT, hB, hL, hC, hK_, hM, hO, hG, hH⟩ := H
  unfold F_lift
  split
  · rename_i hv
    have hn := isS_n (M := 9) hv.1 hS.1
    show upm _ _ _ _ a_ = I a_
    rw [upm_ne _ _ _ (by omega)]
  · rfl
theorem low_bend {I : Mem} (H : Rel I) {s v : Int32} : ∀ a_, 151 ≤ a_ → (F_bend I s v).2 a_ = I a_ := by
  intro a_ ha_
  obtain ⟨hS, hW, hT, hB, hL, hC, hK_, hM, hO, hG, hH⟩ := H
  unfold F_bend
  split
  · rename_i hv
    have hn := isS_n (M := 9) hv.1 hS.1
    show upm _ _ _ _ a_ = I a_
    rw [upm_ne _ _ _ (by omega)]
  · rfl
theorem low_lose {I : Mem} (H : Rel I) {s is : Int32} : ∀ a_, 151 ≤ a_ → (F_lose I s is).2 a_ = I a_ := by
  intro a_ ha_
  obtain ⟨hS, hW, hT, hB, hL, hC, hK_, hM, hO, hG, hH⟩ := H
  unfold F_lose
  split
  · rename_i hv
    have hn := isS_n (M := 9) hv hS.1
    show upm _ _ _ _ a_ = I a_
    rw [upm_ne _ _ _ (by omega)]
  · rfl
theorem low_wind {I : Mem} (H : Rel I)  : ∀ a_, 151 ≤ a_ → (F_wind I).2 a_ = I a_ := by
  intro a_ ha_
  obtain ⟨hS, hW, hT, hB, hL, hC, hK_, hM, hO, hG, hH⟩ := H
  unfold F_wind
  split
  · rfl
  · show upm _ _ _ _ a_ = I a_
    rw [upm_ne _ _ _ (by omega)]
theorem low_blows {I : Mem} (H : Rel I) {w b s t : Int32} : ∀ a_, 151 ≤ a_ → (F_blows I w b s t).2 a_ = I a_ := by
  intro a_ ha_
  obtain ⟨hS, hW, hT, hB, hL, hC, hK_, hM, hO, hG, hH⟩ := H
  unfold F_blows
  split
  · rename_i hv
    have hn := isS_n (M := 8) hv.1 hW.1
    show upm (upm _ _ _ _) _ _ _ a_ = I a_
    rw [upm_ne _ _ _ (by omega), upm_ne _ _ _ (by omega)]
  · rfl
theorem low_swing {I : Mem} (H : Rel I) {w dg : Int32} : ∀ a_, 151 ≤ a_ → (F_swing I w dg).2 a_ = I a_ := by
  intro a_ ha_
  obtain ⟨hS, hW, hT, hB, hL, hC, hK_, hM, hO, hG, hH⟩ := H
  unfold F_swing
  split
  · rename_i hv
    have hn := isS_n (M := 8) hv.1 hW.1
    show rowQ _ _ _ _ _ a_ = I a_
    rw [rowQ_ne _ _ _ _ (by omega)]
  · rfl
theorem low_tree {I : Mem} (H : Rel I) {x y t h : Int32} : ∀ a_, 151 ≤ a_ → (F_tree I x y t h).2 a_ = I a_ := by
  intro a_ ha_
  obtain ⟨hS, hW, hT, hB, hL, hC, hK_, hM, hO, hG, hH⟩ := H
  unfold F_tree
  split
  · rename_i hv
    unfold F_plant
    split
    · rfl
    · have hn : (I 7 1).toNatClampNeg < 7 := by rw [tn]; have := hT.1; omega
      show upm (upm (upm (upm (upm _ _ _ _) _ _ _) _ _ _) _ _ _) _ _ _ a_ = I a_
      rw [upm_ne _ _ _ (by omega), upm_ne _ _ _ (by omega), upm_ne _ _ _ (by omega), upm_ne _ _ _ (by omega), upm_ne _ _ _ (by omega)]
  · rfl
theorem low_ring {I : Mem} (H : Rel I) {w : Int32} : ∀ a_, 151 ≤ a_ → (F_ring I w).2 a_ = I a_ := by
  intro a_ ha_
  obtain ⟨hS, hW, hT, hB, hL, hC, hK_, hM, hO, hG, hH⟩ := H
  unfold F_ring
  split
  · rename_i hv
    show upm _ _ _ _ a_ = I a_
    rw [upm_ne _ _ _ (by omega)]
  · rfl
theorem low_keep {I : Mem} (H : Rel I) {wh s l a st sp w : Int32} : ∀ a_, 151 ≤ a_ → (F_keep I wh s l a st sp w).2 a_ = I a_ := by
  intro a_ ha_
  obtain ⟨hS, hW, hT, hB, hL, hC, hK_, hM, hO, hG, hH⟩ := H
  unfold F_keep
  split
  · rename_i hv
    have hn : wh.toNatClampNeg < 2 := by rw [tn]; have := hv.1; omega
    show upm (takeM _ _ _ _ _ _ _ _) _ _ _ a_ = I a_
    rw [upm_ne _ _ _ (by omega), takeM_ne _ _ _ _ _ _ _ (by omega)]
  · rfl
theorem low_match {I : Mem} (H : Rel I) {i w : Int32} : ∀ a_, 151 ≤ a_ → (F_match I i w).2 a_ = I a_ := by
  intro a_ ha_
  obtain ⟨hS, hW, hT, hB, hL, hC, hK_, hM, hO, hG, hH⟩ := H
  unfold F_match
  split
  · rename_i hv
    show upm _ _ _ _ a_ = I a_
    rw [upm_ne _ _ _ (by omega)]
  · rfl
theorem low_style {I : Mem} (H : Rel I) {l a st sp : Int32} : ∀ a_, 151 ≤ a_ → (F_style I l a st sp).2 a_ = I a_ := by
  intro a_ ha_
  obtain ⟨hS, hW, hT, hB, hL, hC, hK_, hM, hO, hG, hH⟩ := H
  unfold F_style
  split
  · rename_i hv
    show takeM _ _ _ _ _ _ _ _ a_ = I a_
    rw [takeM_ne _ _ _ _ _ _ _ (by omega)]
  · rfl
theorem low_row {I : Mem} (H : Rel I) {s l a st sp x y : Int32} : ∀ a_, 151 ≤ a_ → (F_row I s l a st sp x y).2 a_ = I a_ := by
  intro a_ ha_
  obtain ⟨hS, hW, hT, hB, hL, hC, hK_, hM, hO, hG, hH⟩ := H
  unfold F_row
  split
  · rename_i hv
    split
    · rfl
    · rename_i q
      have hn : (I 0 16).toNatClampNeg < 30 := by rw [tn]; have := hO.1; omega
      show addF _ _ _ _ _ _ _ _ a_ = I a_
      rw [addF_ne _ _ _ _ _ _ _ _ (by omega) (by omega) (by omega)]
  · rfl
theorem low_unrow {I : Mem} (H : Rel I)  : ∀ a_, 151 ≤ a_ → (F_unrow I).2 a_ = I a_ := by
  intro a_ ha_
  obtain ⟨hS, hW, hT, hB, hL, hC, hK_, hM, hO, hG, hH⟩ := H
  unfold F_unrow
  split
  · rfl
  · show upm _ _ _ _ a_ = I a_
    rw [upm_ne _ _ _ (by omega)]
theorem low_rows {I : Mem} (H : Rel I) {s l i n : Int32} : ∀ a_, 151 ≤ a_ → (F_rows I s l i n).2 a_ = I a_ := by
  intro a_ ha_
  obtain ⟨hS, hW, hT, hB, hL, hC, hK_, hM, hO, hG, hH⟩ := H
  unfold F_rows
  split
  · rename_i h8
    split
    · split
      · split
        · split
          · rename_i h30
            have hnn : (n.toNatClampNeg : Int) = n.toInt := tnI _ h8.1
            show addFs _ _ _ _ a_ = I a_
            exact addFs_ne I _ _ hO.1.1 (by omega) (by omega) _ (by omega)
          · rfl
        · rfl
      · rfl
    · rfl
  · rfl
theorem low_seen {I : Mem} (H : Rel I) {t : Int32} : ∀ a_, 151 ≤ a_ → (F_seen I t).2 a_ = I a_ := by
  intro a_ ha_
  obtain ⟨hS, hW, hT, hB, hL, hC, hK_, hM, hO, hG, hH⟩ := H
  unfold F_seen
  split
  · rename_i hv
    show rowQ _ _ _ _ _ a_ = I a_
    rw [rowQ_ne _ _ _ _ (by omega)]
  · rfl
theorem low_patch {I : Mem} (H : Rel I) {p w k : Int32} : ∀ a_, 151 ≤ a_ → (F_patch I p w k).2 a_ = I a_ := by
  intro a_ ha_
  obtain ⟨hS, hW, hT, hB, hL, hC, hK_, hM, hO, hG, hH⟩ := H
  unfold F_patch
  split
  · rename_i hv
    show upm (upm _ _ _ _) _ _ _ a_ = I a_
    rw [upm_ne _ _ _ (by omega), upm_ne _ _ _ (by omega)]
  · rfl
theorem low_search {I : Mem} (H : Rel I) {p : Int32} : ∀ a_, 151 ≤ a_ → (F_search I p).2 a_ = I a_ := by
  intro a_ ha_
  obtain ⟨hS, hW, hT, hB, hL, hC, hK_, hM, hO, hG, hH⟩ := H
  unfold F_search
  split
  · rename_i hv
    show upm _ _ _ _ a_ = I a_
    rw [upm_ne _ _ _ (by omega)]
  · rfl
theorem low_sheet {I : Mem} (H : Rel I) {s l n : Int32} : ∀ a_, 151 ≤ a_ → (F_sheet I s l n).2 a_ = I a_ := by
  intro a_ ha_
  obtain ⟨hS, hW, hT, hB, hL, hC, hK_, hM, hO, hG, hH⟩ := H
  unfold F_sheet
  split
  · rename_i hv
    have hn : s.toNatClampNeg < 4 := by rw [tn]; have := hv.1; omega
    split
    · rfl
    · show holdM _ _ _ _ a_ = I a_
      rw [holdM_ne _ _ _ (by omega) (by omega)]
  · rfl
theorem low_drop {I : Mem} (H : Rel I) {s : Int32} : ∀ a_, 151 ≤ a_ → (F_drop I s).2 a_ = I a_ := by
  intro a_ ha_
  obtain ⟨hS, hW, hT, hB, hL, hC, hK_, hM, hO, hG, hH⟩ := H
  unfold F_drop
  split
  · rename_i hv
    have hn : s.toNatClampNeg < 4 := by rw [tn]; omega
    split
    · rfl
    · show holdM _ _ _ _ a_ = I a_
      rw [holdM_ne _ _ _ (by omega) (by omega)]
  · rfl
theorem low_item {I : Mem} (H : Rel I) {s l i v : Int32} : ∀ a_, 151 ≤ a_ → (F_item I s l i v).2 a_ = I a_ := by
  intro a_ ha_
  obtain ⟨hS, hW, hT, hB, hL, hC, hK_, hM, hO, hG, hH⟩ := H
  unfold F_item
  split
  · rename_i hf
    have hv := fault0 hf
    have hn : s.toNatClampNeg < 4 := by rw [tn]; omega
    split
    · show upm _ _ _ _ a_ = I a_
      rw [upm_ne _ _ _ (by omega)]
    · rfl
  · rfl
theorem low_copy {I : Mem} (H : Rel I) {f i t j n : Int32} : ∀ a_, 151 ≤ a_ → (F_copy I f i t j n).2 a_ = I a_ := by
  intro a_ ha_
  obtain ⟨hS, hW, hT, hB, hL, hC, hK_, hM, hO, hG, hH⟩ := H
  unfold F_copy
  split
  · rename_i hv
    have hn : t.toNatClampNeg < 4 := by rw [tn]; have := hv.2; omega
    split
    · rfl
    · split
      · split
        · show cpM _ _ _ _ _ _ a_ = I a_
          rw [cpM_ne _ (by omega)]
        · rfl
      · rfl
  · rfl
theorem low_fly {I I1 : Mem} {s l a st sp w r : Int32} (h1 : (thrF I s l a st sp w ∧ EndPost (takeM I 19 s l a st sp w) I1 15 19 (I (41 + 2 * s.toNatClampNeg) 5) r) ∨ (¬ thrF I s l a st sp w ∧ r = -1 ∧ I1 = I)) : ∀ a_, 151 ≤ a_ → I1 a_ = I a_ := by
  intro a_ ha_
  rcases h1 with q | q
  · have e4 := (end_all q.2).2.2.2.1
    rw [e4.1 a_ (by omega) (by omega), takeM_ne _ _ _ _ _ _ _ (by omega)]
  · rw [q.2.2]
theorem low_choose {I I1 : Mem} {so wb r : Int32} (h1 : ChF I so wb r I1) : ∀ a_, 151 ≤ a_ → I1 a_ = I a_ := by
  intro a_ ha_
  rcases h1 with q | q | q
  · rw [q.2.2]
  · rw [q.2.2.2]
  · exact q.2.2.2.2.2.1 a_ (by omega) (by omega) (by omega) (by omega)
theorem nI_c (j c : Nat) : nI j + nI c = nI (j + c) := by
  unfold nI
  rw [Int32.ofNat_add]
