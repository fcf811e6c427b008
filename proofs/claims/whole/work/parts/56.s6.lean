/-! CALL BY CALL, part 6: what flies -/
theorem R17 {I J : Mem} (h : ∀ a, 151 ≤ a → J a = I a) : RR J = RR I := RR_congr (fun a ha => h a (by omega)) (by rw [h 151 (by omega)]) (by rw [h 151 (by omega)])
theorem kF_kR {I : Mem} (H : Rel I) {w : Nat} (hw : w < 2) (hk : ¬ I 24 w = 0) : kF I (22 + w) = kR I (6 * w) := by
  obtain ⟨hS, hW, hT, hB, hL, hC, hK_, hM, hO, hG, hH⟩ := id H
  have hI := hK_ w hw
  have ha := hI.2.2 hk
  have f0 : I (22 + w) 0 = I 171 (6 * w) := hI.2.1 0 (by decide) (fun _ => hk)
  have hs9 : (I 171 (6 * w)).toNatClampNeg < 9 := by rw [← f0, tn]; have := ha.1; omega
  unfold kF kR fA
  rw [hI.2.1 1 (by decide) (fun _ => hk), hI.2.1 2 (by decide) (fun _ => hk), hI.2.1 3 (by decide) (fun _ => hk), hI.2.1 4 (by decide) (fun _ => hk), hI.2.1 5 (by decide) (fun _ => hk), f0, (hS.2.2 _ hs9).1.2.2.2.2.2]
  refine FF_RR H ?_ ?_ _ _ _ _ _
  · rw [← f0]
    exact ha.1
  · rw [← hI.2.1 5 (by decide) (fun _ => hk)]
    exact ha.2.2.2.2
theorem s_two {I I1 I2 : Mem} (H : Rel I) {gap r r' : Int32} (h1 : r = F_two I gap ∧ fr17 I I1) (h2 : r' = R_two I1 gap ∧ frR I1 I2) : r = r' ∧ Rel I2 := by
  obtain ⟨hS, hW, hT, hB, hL, hC, hK_, hM, hO, hG, hH⟩ := id H
  have hlow : ∀ a, 151 ≤ a → I1 a = I a := fun a ha => h1.2 a (by omega)
  refine ⟨?_, Rel_fr H (fun a a0 a1 a2 a3 a4 a5 a6 a7 a8 => (h2.2.1 a a7 a6).trans (h1.2 a a1)) (fun j => by rw [h2.2.1 0 (by decide) (by decide), h1.2 0 (by decide)]) (fun j _ _ => by rw [h2.2.1 27 (by decide) (by decide), h1.2 27 (by decide)]) (fun j j1 j2 _ _ => by rw [h2.2.2 j j1 j2, h1.2 151 (by decide)])⟩
  rw [h1.1, h2.1]
  have e1 : R_two I1 gap = R_two I gap := by
    unfold R_two kR
    rw [R17 hlow, hlow 170 (by omega), hlow 171 (by omega), hlow 158 (by omega)]
  rw [e1]
  unfold F_two R_two
  have h22 : I 22 0 = I 171 0 := (hK_ 0 (by decide)).2.1 0 (by decide) (fun q => absurd q (by decide))
  have h23 : I 23 0 = I 171 6 := (hK_ 1 (by decide)).2.1 0 (by decide) (fun q => absurd q (by decide))
  have h24 := (hK_ 0 (by decide)).1
  have h25 := (hK_ 1 (by decide)).1
  by_cases hg : 1 ≤ gap.toInt ∧ gap.toInt ≤ 100
  · rw [if_pos hg, if_pos hg]
    by_cases hk : I 24 0 = 0 ∨ I 24 1 = 0 ∨ I 22 0 = I 23 0
    · rw [if_pos hk, if_pos (by rw [← h24, ← h25, ← h22, ← h23]; exact hk)]
    · rw [if_neg hk, if_neg (by rw [← h24, ← h25, ← h22, ← h23]; exact hk)]
      have k0 : kF I 22 = kR I 0 := kF_kR H (w := 0) (by decide) (fun q => hk (Or.inl q))
      have k1 : kF I 23 = kR I 6 := kF_kR H (w := 1) (by decide) (fun q => hk (Or.inr (Or.inl q)))
      rw [k0, k1]
  · rw [if_neg hg, if_neg hg]
theorem pt_eq {I : Mem} (H : Rel I) {s w : Int32} (hs : 0 ≤ s.toInt ∧ s.toInt < 9) (hw : w = -1 ∨ (0 ≤ w.toInt ∧ w.toInt < 8)) : ptF I s w = ptR I s w := by
  obtain ⟨hS, hW, hT, hB, hL, hC, hK_, hM, hO, hG, hH⟩ := id H
  have hn : s.toNatClampNeg < 9 := by rw [tn]; omega
  unfold ptF ptR
  rw [FF_RR H hs hw, (hS.2.2 _ hn).1.2.2.2.2.2, hM.2.1.1, hM.2.1.2.1, hM.2.1.2.2.1, hM.2.1.2.2.2]
theorem s_points {I I1 I2 : Mem} (H : Rel I) {s w r r' : Int32} (h1 : r = (if isS s (I 0 2) ∧ (w.toInt = -1 ∨ isS w (I 0 4)) then ptF I s w else -1) ∧ fr27 I I1) (h2 : r' = (if isS s (I1 151 1) ∧ (-1 ≤ w.toInt ∧ w.toInt < (I1 151 10).toInt) then ptR I1 s w else -1) ∧ frR I1 I2) : r = r' ∧ Rel I2 := by
  obtain ⟨hS, hW, hT, hB, hL, hC, hK_, hM, hO, hG, hH⟩ := id H
  have hlow : ∀ a, 151 ≤ a → I1 a = I a := fun a ha => h1.2.1 a (by omega) (by omega)
  refine ⟨?_, Rel_fr H (fun a a0 a1 a2 a3 a4 a5 a6 a7 a8 => (h2.2.1 a a7 a6).trans (h1.2.1 a a1 a4)) (fun j => by rw [h2.2.1 0 (by decide) (by decide), h1.2.1 0 (by decide) (by decide)]) (fun j j1 j4 => by rw [h2.2.1 27 (by decide) (by decide), h1.2.2 j (by omega) (by omega)]) (fun j j1 j2 _ _ => by rw [h2.2.2 j j1 j2, hlow 151 (by omega)])⟩
  rw [h1.1, h2.1]
  have e1 : ptR I1 s w = ptR I s w := by
    unfold ptR
    rw [R17 hlow, hlow 158 (by omega), hlow 151 (by omega)]
  have h3 := hW.1
  have h4 := hS.1
  by_cases hv : isS s (I 0 2) ∧ (w.toInt = -1 ∨ isS w (I 0 4))
  · rw [if_pos hv, if_pos (by rw [hlow 151 (by omega), hS.2.1, hW.2.1]; have h2 := hv.2; unfold isS at h2; exact ⟨hv.1, by omega⟩), e1]
    have h1 := hv.1
    have h2 := hv.2
    unfold isS at h1 h2
    exact pt_eq H (by omega) (by rcases h2 with q | q; exact Or.inl (by rw [i32_eq, i32_m1]; exact q); exact Or.inr ⟨q.1, by omega⟩)
  · rw [if_neg hv, if_neg (by rw [hlow 151 (by omega), hS.2.1, hW.2.1]; exact fun q => hv ⟨q.1, by have h2 := q.2; unfold isS; omega⟩)]
theorem ms_eq {I : Mem} (H : Rel I) {n : Nat} (hn : n < (I 0 16).toNatClampNeg) (bd : Int32) : msF I n bd = msR I n bd := by
  obtain ⟨hS, hW, hT, hB, hL, hC, hK_, hM, hO, hG, hH⟩ := id H
  have hI := hO.2.2 n hn
  have f0 : I (83 + 2 * n + 1) 0 = I 177 (7 * n) := hI.1 0 (by decide)
  unfold msF msR fA
  rw [hI.1 1 (by decide), hI.1 2 (by decide), hI.1 3 (by decide), hI.1 4 (by decide), hI.2.1, f0, hI.2.2.1, hI.2.2.2.1]
  rw [FF_RR H (by rw [← f0]; exact hI.2.2.2.2.1) (Or.inl rfl)]
theorem s_miss {I I1 I2 : Mem} (H : Rel I) {q_ bd r r' : Int32} (h1 : r = F_miss I q_ bd ∧ fr17 I I1) (h2 : r' = R_miss I1 q_ bd ∧ frR I1 I2) : r = r' ∧ Rel I2 := by
  obtain ⟨hS, hW, hT, hB, hL, hC, hK_, hM, hO, hG, hH⟩ := id H
  have hlow : ∀ a, 151 ≤ a → I1 a = I a := fun a ha => h1.2 a (by omega)
  refine ⟨?_, Rel_fr H (fun a a0 a1 a2 a3 a4 a5 a6 a7 a8 => (h2.2.1 a a7 a6).trans (h1.2 a a1)) (fun j => by rw [h2.2.1 0 (by decide) (by decide), h1.2 0 (by decide)]) (fun j _ _ => by rw [h2.2.1 27 (by decide) (by decide), h1.2 27 (by decide)]) (fun j j1 j2 _ _ => by rw [h2.2.2 j j1 j2, h1.2 151 (by decide)])⟩
  rw [h1.1, h2.1]
  have e1 : R_miss I1 q_ bd = R_miss I q_ bd := by
    unfold R_miss msR
    rw [R17 hlow, hlow 177 (by omega), hlow 151 (by omega)]
  rw [e1]
  unfold F_miss R_miss
  by_cases hv : (0 ≤ q_.toInt ∧ q_.toInt < (I 0 16).toInt) ∧ (-9 ≤ bd.toInt ∧ bd.toInt ≤ 9)
  · rw [if_pos hv, if_pos (by rw [hO.2.1]; exact hv)]
    exact ms_eq H (by rw [tn, tn]; have := hv.1; omega) bd
  · rw [if_neg hv, if_neg (by rw [hO.2.1]; exact hv)]
theorem rw_eq {I : Mem} (H : Rel I) (s : Int32) : ∀ n, n < (I 0 16).toNatClampNeg → rwF I s n = rwR I s n := by
  obtain ⟨hS, hW, hT, hB, hL, hC, hK_, hM, hO, hG, hH⟩ := id H
  intro n hn
  have f0 : I (83 + 2 * n + 1) 0 = I 177 (7 * n) := (hO.2.2 n hn).1 0 (by decide)
  show decide (I (83 + 2 * n + 1) 0 = s) = decide (I 177 (7 * n) = s)
  rw [f0]
theorem sm_eq {I : Mem} (H : Rel I) (s : Int32) : smF I s = smR I s := by
  funext bd
  unfold smF smR
  have hO := H.2.2.2.2.2.2.2.2.1
  rw [hO.2.1]
  exact sum_congr _ (rw_eq H s) (fun n hn _ => ms_eq H hn bd)
theorem s_explain {I I1 I2 : Mem} (H : Rel I) {s r r' : Int32} (h1 : r = F_explain I s ∧ fr17 I I1) (h2 : r' = R_explain I1 s ∧ frR I1 I2) : r = r' ∧ Rel I2 := by
  obtain ⟨hS, hW, hT, hB, hL, hC, hK_, hM, hO, hG, hH⟩ := id H
  have hlow : ∀ a, 151 ≤ a → I1 a = I a := fun a ha => h1.2 a (by omega)
  refine ⟨?_, Rel_fr H (fun a a0 a1 a2 a3 a4 a5 a6 a7 a8 => (h2.2.1 a a7 a6).trans (h1.2 a a1)) (fun j => by rw [h2.2.1 0 (by decide) (by decide), h1.2 0 (by decide)]) (fun j _ _ => by rw [h2.2.1 27 (by decide) (by decide), h1.2 27 (by decide)]) (fun j j1 j2 _ _ => by rw [h2.2.2 j j1 j2, h1.2 151 (by decide)])⟩
  rw [h1.1, h2.1]
  have e1 : R_explain I1 s = R_explain I s := by
    unfold R_explain smR msR rwR
    rw [R17 hlow, hlow 177 (by omega), hlow 151 (by omega)]
  rw [e1]
  unfold F_explain R_explain
  rw [exCR, sm_eq H, cnt_congr _ (rw_eq H s), hO.2.1]
  by_cases hv : isS s (I 0 2)
  · have hv2 : isS s (I 151 1) := by rw [hS.2.1]; exact hv
    rw [if_pos hv, if_pos hv2]
  · rw [if_neg hv, if_neg (by rw [hS.2.1]; exact hv)]
theorem s_sure {I I1 I2 : Mem} (H : Rel I) {s r r' : Int32} (h1 : r = F_sure I s ∧ fr17 I I1) (h2 : r' = R_sure I1 s ∧ frR I1 I2) : r = r' ∧ Rel I2 := by
  obtain ⟨hS, hW, hT, hB, hL, hC, hK_, hM, hO, hG, hH⟩ := id H
  have hlow : ∀ a, 151 ≤ a → I1 a = I a := fun a ha => h1.2 a (by omega)
  refine ⟨?_, Rel_fr H (fun a a0 a1 a2 a3 a4 a5 a6 a7 a8 => (h2.2.1 a a7 a6).trans (h1.2 a a1)) (fun j => by rw [h2.2.1 0 (by decide) (by decide), h1.2 0 (by decide)]) (fun j _ _ => by rw [h2.2.1 27 (by decide) (by decide), h1.2 27 (by decide)]) (fun j j1 j2 _ _ => by rw [h2.2.2 j j1 j2, h1.2 151 (by decide)])⟩
  rw [h1.1, h2.1]
  have e1 : R_sure I1 s = R_sure I s := by
    unfold R_sure smR msR rwR
    rw [R17 hlow, hlow 177 (by omega), hlow 151 (by omega)]
  rw [e1]
  unfold F_sure R_sure
  rw [exCR, sm_eq H, cnt_congr _ (rw_eq H s), hO.2.1]
  by_cases hv : isS s (I 0 2)
  · have hv2 : isS s (I 151 1) := by rw [hS.2.1]; exact hv
    rw [if_pos hv, if_pos hv2]
  · rw [if_neg hv, if_neg (by rw [hS.2.1]; exact hv)]
/-! the match -/
theorem fold_congr {step step' : Nat → Ms → Ms} : ∀ k, (∀ s, s < k → ∀ y, step s y = step' s y) → ∀ z, foldS step k z = foldS step' k z
  | 0, _, _ => rfl
  | k + 1, h, z => by rw [foldS_s, foldS_s, fold_congr k (fun s hs => h s (by omega)) z, h k (by omega)]
theorem mV_congr {Q Q' : Nat → Nat → Int} : ∀ (m c : Nat) (row : Nat → Int32) (fr : Nat) (pts : Int) (z : Ms), (∀ c', c ≤ c' → c' < c + m → ∀ s, s < 9 → Q c' s = Q' c' s) → mV Q m c row fr pts z = mV Q' m c row fr pts z
  | 0, c, row, fr, pts, z, _ => rfl
  | m + 1, c, row, fr, pts, z, h => by
    rw [mV_s, mV_s]
    refine fold_congr 9 (fun s hs y => ?_) z
    show (if fr.testBit s = true then _ else y) = (if fr.testBit s = true then _ else y)
    rw [h c (by omega) (by omega) s hs]
    split
    · exact mV_congr m (c + 1) _ _ _ y (fun c' h1 h2 => h c' (by omega) (by omega))
    · rfl
theorem bagN_congr {p q : Nat → Bool} : ∀ n, (∀ i, i < n → p i = q i) → bagN p n = bagN q n
  | 0, _ => rfl
  | n + 1, h => by
    show (if p n = true then bagN p n + 2 ^ n else bagN p n) = (if q n = true then bagN q n + 2 ^ n else bagN q n)
    rw [h n (by omega), bagN_congr n (fun i hi => h i (by omega))]
theorem atx_congr {p q : Nat → Bool} (h : ∀ i, i < 5 → p i = q i) (c : Nat) : atx p c = atx q c := by
  unfold atx
  refine fst1_congr 5 0 (fun k _ hk => ?_)
  rw [h k (by omega), cnt_congr k (fun i hi => h i (by omega))]
theorem zM_eq {I : Mem} (H : Rel I) : msA (zMF I) (zMR I) := by
  obtain ⟨hS, hW, hT, hB, hL, hC, hK_, hM, hO, hG, hH⟩ := id H
  have hmt := Rel_mt H
  have hbg := Rel_bg H
  have eM : cntP (mtF I) 5 = cntP (mtR I) 5 := cnt_congr 5 hmt
  have eB : bagN (bgF I) (I 0 2).toNatClampNeg = bagN (bgR I) (NR I) := by
    show _ = bagN (bgR I) (I 151 1).toNatClampNeg
    rw [hS.2.1]
    exact bagN_congr _ hbg
  have eQ : ∀ c', 0 ≤ c' → c' < 0 + cntP (mtR I) 5 → ∀ s, s < 9 → QF I c' s = QR I c' s := by
    intro c' _ hc' s hs
    obtain ⟨j, hj5, hjm, hjc⟩ := atx_ex (p := mtR I) (c := c') 5 (by omega)
    have ea : atx (mtR I) c' = j := by rw [← hjc]; exact atx_is hjm hj5
    show (ptF I (nI s) (I 26 (atx (mtF I) c'))).toInt = (ptR I (nI s) (I 172 (atx (mtR I) c'))).toInt
    have h9 := hM.1 j hj5
    rw [atx_congr hmt, ea, h9.1]
    have es := nI_tI (i := s) (by omega)
    have hjm2 := of_decide_eq_true hjm
    rw [Int32.lt_iff_toInt_lt, i32_m1] at hjm2
    rw [h9.1] at h9
    rw [pt_eq H (by rw [es]; omega) (by
      rcases Int.lt_or_le (I 172 j).toInt 0 with z | z
      · left
        rw [i32_eq, i32_m1]
        omega
      · exact Or.inr ⟨z, h9.2.2⟩)]
  unfold zMF zMR MR
  rw [eM, eB, mV_congr _ _ _ _ _ _ eQ]
  exact mV_ag (QR_bd I) _ _ _ _ _ _ _ (by omega) ⟨rfl, fun q => absurd q (by show ¬ (0 : Int) ≤ -1; omega)⟩
theorem zMR_low {I J : Mem} (h : ∀ a, 151 ≤ a → J a = I a) : zMR J = zMR I ∧ cntP (bgR J) (NR J) = cntP (bgR I) (NR I) ∧ MR J = MR I ∧ mtR J = mtR I := by
  have e1 : mtR J = mtR I := by
    funext i
    unfold mtR
    rw [h 172 (by omega)]
  have e2 : bgR J = bgR I := by
    funext i
    unfold bgR
    rw [h 160 (by omega)]
  have e3 : QR J = QR I := by
    unfold QR ptR
    rw [R17 h, h 158 (by omega), h 151 (by omega), h 172 (by omega), e1]
  refine ⟨?_, ?_, ?_, e1⟩
  · unfold zMR MR NR
    rw [e1, e2, e3, h 151 (by omega), h 176 (by omega)]
  · unfold NR
    rw [e2, h 151 (by omega)]
  · unfold MR
    rw [e1]
theorem s_best {I I1 I2 : Mem} (H : Rel I) {r r' : Int32} (h1 : r = F_best I ∧ frMM I I1) (h2 : r' = R_ord I1 ∧ frO I1 I2) : r = r' ∧ Rel I2 := by
  obtain ⟨hS, hW, hT, hB, hL, hC, hK_, hM, hO, hG, hH⟩ := id H
  have hlow : ∀ a, 151 ≤ a → I1 a = I a := fun a ha => h1.2.1 a (by omega) (by omega) (by omega) (by omega)
  refine ⟨?_, Rel_fr H (fun a a0 a1 a2 a3 a4 a5 a6 a7 a8 => (h2.2.1 a a6 a7 a8).trans (h1.2.1 a a1 a3 a4 (by omega))) (fun j => by rw [h2.2.1 0 (by decide) (by decide) (by decide), h1.2.1 0 (by decide) (by decide) (by decide) (by decide)]) (fun j j1 j4 => by rw [h2.2.1 27 (by decide) (by decide) (by decide), h1.2.2.1 j (by omega) (by omega)]) (fun j j1 j2 j3 j4 => by rw [h2.2.2 j j1 j2 j3 j4, hlow 151 (by omega)])⟩
  rw [h1.1, h2.1]
  obtain ⟨l1, l2, l3, l4⟩ := zMR_low hlow
  unfold F_best R_ord
  rw [l1, l2, l3]
  have e1 : cntP (mtF I) 5 = MR I := cnt_congr 5 (Rel_mt H)
  have e2 : cntP (bgF I) (I 0 2).toNatClampNeg = cntP (bgR I) (NR I) := by
    show _ = cntP (bgR I) (I 151 1).toNatClampNeg
    rw [hS.2.1]
    exact cnt_congr _ (Rel_bg H)
  rw [e1, e2, (zM_eq H).1]
theorem s_order {I I1 I2 : Mem} (H : Rel I) {i r r' : Int32} (h1 : r = F_order I i ∧ frMM I I1) (h2 : r' = R_order I1 i ∧ frO I1 I2) : r = r' ∧ Rel I2 := by
  obtain ⟨hS, hW, hT, hB, hL, hC, hK_, hM, hO, hG, hH⟩ := id H
  have hlow : ∀ a, 151 ≤ a → I1 a = I a := fun a ha => h1.2.1 a (by omega) (by omega) (by omega) (by omega)
  refine ⟨?_, Rel_fr H (fun a a0 a1 a2 a3 a4 a5 a6 a7 a8 => (h2.2.1 a a6 a7 a8).trans (h1.2.1 a a1 a3 a4 (by omega))) (fun j => by rw [h2.2.1 0 (by decide) (by decide) (by decide), h1.2.1 0 (by decide) (by decide) (by decide) (by decide)]) (fun j j1 j4 => by rw [h2.2.1 27 (by decide) (by decide) (by decide), h1.2.2.1 j (by omega) (by omega)]) (fun j j1 j2 j3 j4 => by rw [h2.2.2 j j1 j2 j3 j4, hlow 151 (by omega)])⟩
  rw [h1.1, h2.1]
  obtain ⟨l1, l2, l3, l4⟩ := zMR_low hlow
  unfold F_order R_order
  rw [l1, l2, l3, l4, hlow 172 (by omega)]
  have e1 : cntP (mtF I) 5 = MR I := cnt_congr 5 (Rel_mt H)
  have e2 : cntP (bgF I) (I 0 2).toNatClampNeg = cntP (bgR I) (NR I) := by
    show _ = cntP (bgR I) (I 151 1).toNatClampNeg
    rw [hS.2.1]
    exact cnt_congr _ (Rel_bg H)
  rw [e1, e2]
  by_cases hv : (0 ≤ i.toInt ∧ i.toInt ≤ 4) ∧ ¬ I 26 i.toNatClampNeg = -2
  · have hi5 : i.toNatClampNeg < 5 := by rw [tn]; have := hv.1; omega
    have h9 := hM.1 _ hi5
    have hv2 : (0 ≤ i.toInt ∧ i.toInt ≤ 4) ∧ ¬ I 172 i.toNatClampNeg = -2 := by rw [← h9.1]; exact hv
    rw [if_pos hv, if_pos hv2]
    by_cases hb : nI (cntP (bgR I) (NR I)) < nI (MR I)
    · rw [if_pos hb, if_pos hb]
    · rw [if_neg hb, if_neg hb, cnt_congr _ (fun k hk => Rel_mt H k (by omega))]
      have hn9 : NR I ≤ 9 := by show (I 151 1).toNatClampNeg ≤ 9; rw [hS.2.1, tn]; have := hS.1; omega
      have hM5 : MR I ≤ 5 := cntP_le (mtR I) 5
      have hb1 := cntP_le (bgR I) (NR I)
      have hpos : 0 ≤ (zMR I).1 := mV_pos (QR_bd I) (MR I) 0 (fun _ => 0) (bagN (bgR I) (NR I)) 0 (-1, I 176) (bag512 _ hn9) (by
        rw [pc_bag _ _ hn9]
        rw [Int32.lt_iff_toInt_lt, nI_tI (by omega), nI_tI (by omega)] at hb
        omega) (by omega)
      have hz := zM_eq H
      rw [hz.2 (by rw [hz.1]; exact hpos)]
  · have hv2 : ¬ ((0 ≤ i.toInt ∧ i.toInt ≤ 4) ∧ ¬ I 172 i.toNatClampNeg = -2) := fun q => hv ⟨q.1, by
      have hi5 : i.toNatClampNeg < 5 := by rw [tn]; have := q.1; omega
      rw [(hM.1 _ hi5).1]
      exact q.2⟩
    rw [if_neg hv, if_neg hv2]
