/-! CALL BY CALL, part 7: choose and fly -/
theorem chK_congr {f f' : Nat → Int32} {s : Int32} : ∀ k, (∀ j, j < k → f j = f' j) → ∀ z, chK f s k z = chK f' s k z
  | 0, _, _ => rfl
  | k + 1, h, z => by rw [chK_s, chK_s, h k (by omega), chK_congr k (fun j hj => h j (by omega)) z]
theorem chA_ag {may may' : Nat → Bool} {f f' : Nat → Nat → Int32} {z y : Sg} (h1 : z.1 = y.1) (h2 : ∀ q, q < 4 → z.2 q = y.2 q) : ∀ n, (∀ i, i < n → may i = may' i) → (∀ i, i < n → ∀ k, k < 48 → f i k = f' i k) → (chA may f n z).1 = (chA may' f' n y).1 ∧ ∀ q, q < 4 → (chA may f n z).2 q = (chA may' f' n y).2 q
  | 0, _, _ => ⟨h1, h2⟩
  | n + 1, hm, hf => by
    have ih := chA_ag (may := may) (may' := may') (f := f) (f' := f') h1 h2 n (fun i hi => hm i (by omega)) (fun i hi => hf i (by omega))
    have e := hm n (by omega)
    by_cases c : may n = true
    · rw [chA_t c, chA_t (by rw [← e]; exact c), chK_congr 48 (hf n (by omega))]
      exact chK_ag ih.1 ih.2 48
    · have c2 : may n = false := by revert c; cases may n <;> simp
      rw [chA_f c2, chA_f (by rw [← e]; exact c2)]
      exact ih
theorem chS_mono {n s l a st : Int32} {z : Sg} : z.1.toInt ≤ (chS n s l a st z).1.toInt ∧ n.toInt ≤ (chS n s l a st z).1.toInt := by
  unfold chS
  split
  · rename_i q
    rw [Int32.lt_iff_toInt_lt] at q
    exact ⟨by show z.1.toInt ≤ n.toInt; omega, Int.le_refl _⟩
  · rename_i q
    rw [Int32.lt_iff_toInt_lt] at q
    exact ⟨Int.le_refl _, by omega⟩
theorem chK_mono {f : Nat → Int32} {s : Int32} {z : Sg} : ∀ k, z.1.toInt ≤ (chK f s k z).1.toInt
  | 0 => Int.le_refl _
  | k + 1 => Int.le_trans (chK_mono k) chS_mono.1
theorem chA_pos {may : Nat → Bool} {f : Nat → Nat → Int32} (hf : ∀ i k, 0 ≤ (f i k).toInt) {z : Sg} : ∀ n, (∃ i, i < n ∧ may i = true) → 0 ≤ (chA may f n z).1.toInt
  | 0, h => by
    obtain ⟨i, hi, -⟩ := h
    omega
  | n + 1, h => by
    by_cases c : may n = true
    · rw [chA_t c, chK_s]
      exact Int.le_trans (hf n 47) chS_mono.2
    · have c2 : may n = false := by revert c; cases may n <;> simp
      rw [chA_f c2]
      obtain ⟨i, hi, hm⟩ := h
      refine chA_pos hf n ⟨i, ?_, hm⟩
      rcases Nat.lt_or_ge i n with q | q
      · exact q
      · rw [show i = n by omega, c2] at hm
        exact absurd hm (by decide)
theorem chA_none {may : Nat → Bool} {f : Nat → Nat → Int32} {z : Sg} : ∀ n, (∀ i, i < n → may i = false) → chA may f n z = z
  | 0, _ => rfl
  | n + 1, h => by rw [chA_f (h n (by omega)), chA_none n (fun i hi => h i (by omega))]
theorem bk_eq {I : Mem} (H : Rel I) {wb s : Int32} (hwb : setP wb (I 0 4)) (hs : 0 ≤ s.toInt ∧ s.toInt < 9) (k : Nat) : bkF I wb s k = bkR I wb s k := by
  obtain ⟨hS, hW, hT, hB, hL, hC, hK_, hM, hO, hG, hH⟩ := id H
  have hn : s.toNatClampNeg < 9 := by rw [tn]; omega
  have hW8 : (I 0 4).toNatClampNeg ≤ 8 := by rw [tn]; have := hW.1; omega
  have hp := pow256 hW8
  unfold bkF bkR
  have e1 : cntP (bpV (fun w => RR I s (I 158 s.toNatClampNeg) w (lnK k) (anK k) (stK k) 800) wb) 8 = cntP (bpV (fun w => RR I s (I 158 s.toNatClampNeg) w (lnK k) (anK k) (stK k) 800) wb) (I 0 4).toNatClampNeg := by
    have hz : ∀ d, (I 0 4).toNatClampNeg + d ≤ 8 → cntP (bpV (fun w => RR I s (I 158 s.toNatClampNeg) w (lnK k) (anK k) (stK k) 800) wb) ((I 0 4).toNatClampNeg + d) = cntP (bpV (fun w => RR I s (I 158 s.toNatClampNeg) w (lnK k) (anK k) (stK k) 800) wb) (I 0 4).toNatClampNeg := by
      intro d
      induction d with
      | zero => intro _; rfl
      | succ d ih =>
        intro hd
        rw [← Nat.add_assoc]
        show (if _ = true then _ else cntP _ ((I 0 4).toNatClampNeg + d)) = _
        rw [if_neg (by
          rw [Bool.and_eq_true, decide_eq_true_eq]
          intro q
          obtain ⟨b, hb, rfl⟩ : ∃ b, b < 2 ^ (I 0 4).toNatClampNeg ∧ wb = nI b := ⟨wb.toNatClampNeg, by have h2 := hwb.2; have h1 := hwb.1; rw [tn]; omega, (nI_ofx (Int.le_of_lt hwb.1)).symm⟩
          have h9 := (bitQ_all b (by omega) ((I 0 4).toNatClampNeg + d) (by omega)).mp q.1
          rw [Nat.testBit_lt_two_pow (Nat.lt_of_lt_of_le hb (Nat.pow_le_pow_right (by decide) (by omega)))] at h9
          exact absurd h9 (by decide))]
        exact ih (by omega)
    have := hz (8 - (I 0 4).toNatClampNeg) (by omega)
    rw [show (I 0 4).toNatClampNeg + (8 - (I 0 4).toNatClampNeg) = 8 by omega] at this
    exact this
  rw [e1, cnt_congr (I 0 4).toNatClampNeg (fun i hi => by
    have ei := nI_tI (i := i) (by omega)
    show (decide (bitQ wb i) && decide ((FF I s (I (41 + 2 * s.toNatClampNeg) 5) (nI i) (lnK k) (anK k) (stK k) 800).1 = 2)) = (decide (bitQ wb i) && decide ((RR I s (I 158 s.toNatClampNeg) (nI i) (lnK k) (anK k) (stK k) 800).1 = 2))
    rw [FF_RR H hs (Or.inr ⟨by rw [ei]; omega, by rw [ei]; omega⟩), (hS.2.2 _ hn).1.2.2.2.2.2])]
theorem Rel_ch {I I1 I2 : Mem} (H : Rel I) (hF : ∀ a, a ≠ 0 → a ≠ 17 → a ≠ 19 → a ≠ 20 → I1 a = I a) (h0 : ∀ j, j ≠ 11 → I1 0 j = I 0 j) (hfr : frC I1 I2) (hRC : RC I2) : Rel I2 := by
  obtain ⟨hS, hW, hT, hB, hL, hC, hK_, hM, hO, hG, hH⟩ := id H
  have hK : ∀ a, (a ≠ 0 ∧ a ≠ 17 ∧ a ≠ 19 ∧ a ≠ 20 ∧ a ≠ 167 ∧ a ≠ 151 ∧ a ≠ 169) → I2 a = I a := fun a ha => (hfr.1 a (by omega) (by omega) (by omega)).trans (hF a (by omega) (by omega) (by omega) (by omega))
  have h00 : ∀ j, j ≠ 11 → I2 0 j = I 0 j := fun j hj => by rw [hfr.1 0 (by decide) (by decide) (by decide)]; exact h0 j hj
  have h151 : ∀ j, (j ≠ 20 ∧ j ≠ 21 ∧ j ≠ 28) → I2 151 j = I 151 j := fun j hj => by rw [hfr.2 j hj.1 hj.2.1 hj.2.2, hF 151 (by decide) (by decide) (by decide) (by decide)]
  refine ⟨RS_of (fun a ha => hK a (by omega)) (h00 2 (by decide)) (h151 1 (by decide)) hS,
    RW_of (fun a ha => hK a (by omega)) (h00 4 (by decide)) (h151 10 (by decide)) hW,
    RT_of (fun a ha => hK a (by omega)) (h151 13 (by decide)) (h151 18 (by decide)) hT,
    RB_of (fun a ha => hK a (by omega)) hB,
    RLt_of (fun a ha => hK a (by omega)) (h151 22 (by decide)) (h151 23 (by decide)) (h151 24 (by decide)) (h151 25 (by decide)) hL,
    ?_,
    RK_of (fun a ha => hK a (by omega)) hK_,
    RM_of (fun a ha => hK a (by omega)) (fun j _ _ => by rw [hK 27 (by omega)]) (fun j j1 j2 => h151 j (by omega)) hM,
    RO_of (fun a ha => hK a (by omega)) (h00 16 (by decide)) (h151 42 (by decide)) hO,
    RG_of (fun a ha => hK a (by omega)) hG,
    RH_of (fun a ha => hK a (by omega)) hH⟩
  exact hRC
theorem s_choose {I I1 I2 : Mem} (H : Rel I) {so wb r r' : Int32} (h1 : ChF I so wb r I1) (h2 : ChR I1 so wb r' I2) : r = r' ∧ Rel I2 := by
  obtain ⟨hS, hW, hT, hB, hL, hC, hK_, hM, hO, hG, hH⟩ := id H
  have hN9 : (I 0 2).toNatClampNeg ≤ 9 := by rw [tn]; have := hS.1; omega
  rcases h1 with q | q | q
  · obtain ⟨q1, q2, q3⟩ := q
    rw [q3] at h2
    rcases h2 with z | z
    · rw [z.2.2]
      exact ⟨q2.trans z.2.1.symm, H⟩
    · exfalso
      apply q1
      rw [← hS.2.1, ← hW.2.1]
      exact z.1
  · obtain ⟨q1, q2, q3, q4⟩ := q
    rw [q4] at h2
    rcases h2 with z | z
    · exfalso
      apply z.1
      rw [hS.2.1, hW.2.1]
      exact q1
    · have hso : 0 ≤ so.toInt ∧ so.toInt < 512 := ⟨Int.le_of_lt q1.1.1, by have h9 := q1.1.2; have h8 := pow512 hN9; omega⟩
      have hno := (may_zero (p := bgF I) hso hN9 q1.1.2).mp q2
      have hz : zCR I so wb (I 151 1).toNatClampNeg = (-1, I 169) := by
        rw [hS.2.1]
        refine chA_none _ (fun i hi => ?_)
        have h9 := hno i hi
        show (decide (bitQ so i) && bgR I i) = false
        rw [← Rel_bg H i hi]
        exact h9
      rw [hz] at z
      refine ⟨by rw [q3, z.2.1, if_neg (by show ¬ (0 : Int32) ≤ -1; decide)], Rel_ch H (fun _ _ _ _ _ => rfl) (fun _ _ => rfl) z.2.2.2 ?_⟩
      have hfr := z.2.2.2
      have hC2 := z.2.2.1
      unfold RC
      rw [hC2.2.1 rfl, hfr.1 0 (by decide) (by decide) (by decide), hfr.1 20 (by decide) (by decide) (by decide)]
      exact ⟨hC.1, fun p hp => by rw [hC2.1 p hp]; exact hC.2 p hp⟩
  · obtain ⟨q1, q2, q3, q4, q5, q6, q7⟩ := q
    have hlow : ∀ a, 151 ≤ a → I1 a = I a := fun a ha => q6 a (by omega) (by omega) (by omega) (by omega)
    rcases h2 with z | z
    · exfalso
      apply z.1
      rw [hlow 151 (by omega), hS.2.1, hW.2.1]
      exact q1
    · have hso : 0 ≤ so.toInt ∧ so.toInt < 512 := ⟨Int.le_of_lt q1.1.1, by have h9 := q1.1.2; have h8 := pow512 hN9; omega⟩
      have hlo2 : zCR I1 so wb (I1 151 1).toNatClampNeg = zCR I so wb (I 0 2).toNatClampNeg := by
        unfold zCR mayR bgR bkR
        rw [R17 hlow, hlow 151 (by omega), hlow 158 (by omega), hlow 160 (by omega), hlow 169 (by omega), hS.2.1]
      have hag := chA_ag (may := mayF I so) (may' := mayR I so) (f := fun i => bkF I wb (nI i)) (f' := fun i => bkR I wb (nI i)) (z := (-1, I 20)) (y := (-1, I 169)) rfl hC.2 (I 0 2).toNatClampNeg (fun i hi => by
        show (decide (bitQ so i) && bgF I i) = (decide (bitQ so i) && bgR I i)
        rw [Rel_bg H i hi]) (fun i hi k _ => bk_eq H q1.2 (by have ei := nI_tI (i := i) (by omega); rw [ei]; omega) k)
      have hc8 : (I 0 4).toNatClampNeg ≤ 8 := by rw [tn]; have := hW.1; omega
      have hpos : 0 ≤ (zCF I so wb (I 0 2).toNatClampNeg).1.toInt := by
        refine chA_pos (fun i k => ?_) _ ?_
        · show 0 ≤ (nI _).toInt
          rw [nI_tI (by have := cntP_le (bpV (fun w => FF I (nI i) (I (41 + 2 * (nI i).toNatClampNeg) 5) w (lnK k) (anK k) (stK k) 800) wb) (I 0 4).toNatClampNeg; omega)]
          omega
        · refine Classical.byContradiction (fun q => q2 ((may_zero (p := bgF I) hso hN9 q1.1.2).mpr (fun i hi => ?_)))
          cases e : (decide (bitQ so i) && bgF I i)
          · rfl
          · exact absurd ⟨i, hi, e⟩ q
      rw [hlo2] at z
      have e1 : (zCF I so wb (I 0 2).toNatClampNeg).1 = (zCR I so wb (I 0 2).toNatClampNeg).1 := hag.1
      have hnn : 0 ≤ (zCR I so wb (I 0 2).toNatClampNeg).1 := by rw [← e1, Int32.le_iff_toInt_le, z32]; exact hpos
      have hne : ¬ (zCR I so wb (I 0 2).toNatClampNeg).1 = -1 := fun y => by rw [y] at hnn; exact absurd hnn (by decide)
      have hfr := z.2.2.2
      have hC2 := z.2.2.1
      refine ⟨by rw [q3, z.2.1, if_pos hnn, e1], Rel_ch H q6 q7 hfr ?_⟩
      unfold RC
      rw [hC2.2.2 hne, hfr.1 0 (by decide) (by decide) (by decide), hfr.1 20 (by decide) (by decide) (by decide), q5]
      exact ⟨Iff.rfl, fun p hp => by rw [hC2.1 p hp, q4 p hp]; exact hag.2 p hp⟩
theorem s_fly {I I1 I2 : Mem} (H : Rel I) {s l a st sp w r r' : Int32} (h1 : (thrF I s l a st sp w ∧ EndPost (takeM I 19 s l a st sp w) I1 15 19 (I (41 + 2 * s.toNatClampNeg) 5) r) ∨ (¬ thrF I s l a st sp w ∧ r = -1 ∧ I1 = I)) (h2 : (thrR I1 s l a st sp w ∧ ∃ J_ : Mem, FliesPost (upm I1 151 22 1) J_ s (I1 158 s.toNatClampNeg) l a st sp w r' ∧ I2 = upm (upm (upm (upm J_ 151 22 0) 151 25 1) 151 23 (J_ 151 20)) 151 24 (J_ 151 21)) ∨ (¬ thrR I1 s l a st sp w ∧ r' = -1 ∧ I2 = I1)) : r = r' ∧ Rel I2 := by
  obtain ⟨hS, hW, hT, hB, hL, hC, hK_, hM, hO, hG, hH⟩ := id H
  have h3 := hW.1
  have h4 := hS.1
  have hiff : thrF I s l a st sp w ↔ thrR I s l a st sp w := by
    unfold thrF thrR
    rw [hS.2.1, hW.2.1]
    unfold isS
    constructor
    · intro q
      exact ⟨q.1, q.2.1, by have := q.2.2; omega⟩
    · intro q
      exact ⟨q.1, q.2.1, by have := q.2.2; omega⟩
  rcases h1 with q | q
  · obtain ⟨hth, hE⟩ := q
    have hs9 : 0 ≤ s.toInt ∧ s.toInt < 9 := by have h1 := hth.1; unfold isS at h1; omega
    have hw9 : w = -1 ∨ (0 ≤ w.toInt ∧ w.toInt < 8) := by
      have h2 := hth.2.2
      unfold isS at h2
      rcases h2 with q | q
      · exact Or.inl (by rw [i32_eq, i32_m1]; exact q)
      · exact Or.inr ⟨q.1, by omega⟩
    have hn9 : s.toNatClampNeg < 9 := by rw [tn]; omega
    obtain ⟨e1, e2, e3, e4, e5, e6⟩ := end_all hE
    have ta := takeM_at I 19 s l a st sp w
    have tne : ∀ k, k ≠ 19 → takeM I 19 s l a st sp w k = I k := fun k hk => takeM_ne I _ _ _ _ _ _ hk
    have hfa : fA (takeM I 19 s l a st sp w) 19 (I (41 + 2 * s.toNatClampNeg) 5) = RR I s (I 158 s.toNatClampNeg) w l a st sp := by
      unfold fA
      rw [FF_congr (I := I) (J := takeM I 19 s l a st sp w) (fun k hk => tne k (by omega)) hT.1, ta.1, ta.2.1, ta.2.2.1, ta.2.2.2.1, ta.2.2.2.2.1, ta.2.2.2.2.2, (hS.2.2 _ hn9).1.2.2.2.2.2]
      exact FF_RR H hs9 hw9 _ _ _ _ _
    have hpr : prF (takeM I 19 s l a st sp w) (takeM I 19 s l a st sp w 19 0).toNatClampNeg (I (41 + 2 * s.toNatClampNeg) 5) (wiF (takeM I 19 s l a st sp w) 19) = prM I s (I 158 s.toNatClampNeg) w := by
      have hwf : wiF (takeM I 19 s l a st sp w) 19 = wiW w := by unfold wiF wiW; rw [ta.2.2.2.2.2]
      have hwb := wiW_bd w
      rw [hwf, ta.1]
      have e9 : prF (takeM I 19 s l a st sp w) s.toNatClampNeg (I (41 + 2 * s.toNatClampNeg) 5) (wiW w) = prF I s.toNatClampNeg (I (41 + 2 * s.toNatClampNeg) 5) (wiW w) := by
        unfold prF
        rw [tne (41 + 2 * s.toNatClampNeg) (by omega), tne (41 + 2 * s.toNatClampNeg + 1) (by omega), tne (wiW w + 1) (by omega), tne (wiW w + 2) (by omega)]
      rw [e9, (hS.2.2 _ hn9).1.2.2.2.2.2]
      exact prFM H hs9 hw9 _
    rw [hfa] at e1 e3 e4 e6
    rw [hpr, ta.2.1, ta.2.2.1, ta.2.2.2.1, ta.2.2.2.2.1] at e4
    have I1a : ∀ k, (k ≠ 15 ∧ k ≠ 16 ∧ k ≠ 19) → I1 k = I k := fun k hk => (e4.1 k hk.1 hk.2.1).trans (tne k hk.2.2)
    have hlow : ∀ k, 151 ≤ k → I1 k = I k := fun k hk => I1a k (by omega)
    rcases h2 with z | z
    · obtain ⟨-, J_, hJ, hI2⟩ := z
      rw [hlow 158 (by omega)] at hJ
      obtain ⟨d1, d2, d3, d4, d5⟩ := flies_all hJ
      have Jr : ∀ k, k ≠ 151 → upm I1 151 22 1 k = I1 k := fun k hk => upm_ne _ _ _ hk
      have J151 : ∀ j, j ≠ 22 → upm I1 151 22 1 151 j = I 151 j := fun j hj => by rw [upm_at, if_neg (fun q => hj q.2), hlow 151 (by omega)]
      have hRR : RR (upm I1 151 22 1) = RR I := RR_congr (fun k hk => (Jr k (by omega)).trans (hlow k (by omega))) (J151 13 (by decide)) (J151 18 (by decide))
      have hprM : prM (upm I1 151 22 1) s (I 158 s.toNatClampNeg) w = prM I s (I 158 s.toNatClampNeg) w := by
        unfold prM
        rw [Jr 153 (by decide), Jr 154 (by decide), Jr 155 (by decide), Jr 156 (by decide), Jr 157 (by decide), Jr 159 (by decide), Jr 161 (by decide), Jr 162 (by decide), hlow 153 (by omega), hlow 154 (by omega), hlow 155 (by omega), hlow 156 (by omega), hlow 157 (by omega), hlow 159 (by omega), hlow 161 (by omega), hlow 162 (by omega)]
      have htrM : trM (upm I1 151 22 1) = trM I := by
        unfold trM
        rw [Jr 163 (by decide), Jr 164 (by decide), Jr 165 (by decide), Jr 166 (by decide), hlow 163 (by omega), hlow 164 (by omega), hlow 165 (by omega), hlow 166 (by omega)]
      rw [hRR] at d1 d3 d4 d5
      rw [hprM] at d4
      rw [htrM, J151 13 (by decide)] at d5
      obtain ⟨N, hN⟩ : ∃ N, N = (RR I s (I 158 s.toNatClampNeg) w l a st sp).2.1 := ⟨_, rfl⟩
      have hvec : (RR I s (I 158 s.toNatClampNeg) w l a st sp).2.2 = vSeq (prM I s (I 158 s.toNatClampNeg) w) (v0of l a st sp) N := by rw [hN]; rfl
      rw [← hN] at e3 e4 d3 d4
      rw [hvec] at e6 d5
      generalize prM I s (I 158 s.toNatClampNeg) w = pr at *
      generalize v0of l a st sp = v0 at *
      have Ka : ∀ k, (k ≠ 151 ∧ k ≠ 167 ∧ k ≠ 168) → I2 k = I1 k := fun k hk => by
        rw [hI2, upm_ne _ _ _ hk.1, upm_ne _ _ _ hk.1, upm_ne _ _ _ hk.1, upm_ne _ _ _ hk.1, d4.1 k hk.2.1 hk.1 hk.2.2, Jr k hk.1]
      have hK : ∀ k, (k ≠ 15 ∧ k ≠ 16 ∧ k ≠ 19 ∧ k ≠ 151 ∧ k ≠ 167 ∧ k ≠ 168) → I2 k = I k := fun k hk => (Ka k (by omega)).trans (I1a k (by omega))
      have h0 : ∀ j, j = j → I2 0 j = I 0 j := fun j _ => by rw [hK 0 (by omega)]
      have h151 : ∀ j, (j ≠ 20 ∧ j ≠ 21 ∧ ¬ (22 ≤ j ∧ j ≤ 25)) → I2 151 j = I 151 j := fun j hj => by
        rw [hI2, upm_at, if_neg (fun q => by omega), upm_at, if_neg (fun q => by omega), upm_at, if_neg (fun q => by omega), upm_at, if_neg (fun q => by omega), d4.2.1 j hj.1 hj.2.1, J151 j (by omega)]
      have k22 : I2 151 22 = 0 := by rw [hI2]; simp [upm]
      have k23 : I2 151 23 = nI N := by rw [hI2, ← d4.2.2.1]; simp [upm]
      have k24 : I2 151 24 = J_ 151 21 := by rw [hI2]; simp [upm]
      have k25 : I2 151 25 = 1 := by rw [hI2]; simp [upm]
      have k168 : I2 168 = J_ 168 := by rw [hI2, upm_ne _ _ _ (by decide), upm_ne _ _ _ (by decide), upm_ne _ _ _ (by decide), upm_ne _ _ _ (by decide)]
      have k15 : ∀ j, I2 15 j = I1 15 j := fun j => by rw [Ka 15 (by omega)]
      have k16 : I2 16 = I1 16 := Ka 16 (by omega)
      have enN := nI_tn (i := N) (by omega)
      have etN := nI_tI (i := N) (by omega)
      have hpath := d4.2.2.2.2.2 (by rw [upm_eq]; decide)
      have htrail := e4.2.2.2.2 rfl
      refine ⟨e1.trans d1.symm, ?_⟩
      refine ⟨RS_of (fun a ha => hK a (by omega)) (h0 2 rfl) (h151 1 (by decide)) hS,
        RW_of (fun a ha => hK a (by omega)) (h0 4 rfl) (h151 10 (by decide)) hW,
        RT_of (fun a ha => hK a (by omega)) (h151 13 (by decide)) (h151 18 (by decide)) hT,
        RB_of (fun a ha => hK a (by omega)) hB,
        ?_,
        RC_of (fun a ha => hK a (by omega)) (h0 11 rfl) (h151 28 (by decide)) hC,
        RK_of (fun a ha => hK a (by omega)) hK_,
        RM_of (fun a ha => hK a (by omega)) (fun j _ _ => by rw [hK 27 (by omega)]) (fun j j1 j2 => h151 j (by omega)) hM,
        RO_of (fun a ha => hK a (by omega)) (h0 16 rfl) (h151 42 (by decide)) hO,
        RG_of (fun a ha => hK a (by omega)) hG,
        RH_of (fun a ha => hK a (by omega)) hH⟩
      unfold RLt
      rw [k22, k23, k24, k25, k168, k16, k15 8, k15 9, k15 10, k15 0, k15 1, e4.2.2.2.1, e5, e6, d5, enN, etN]
      refine ⟨rfl, rfl, ?_, ⟨fun q => absurd q e2, fun q => absurd q (by decide)⟩, by omega, fun _ => ⟨fun k hk => ?_, ?_, ?_⟩⟩
      · rw [hT.2.1]
        refine (hitV_T4 (fun t ht j hj => ?_)).symm
        have ht2 : t < (I 7 1).toNatClampNeg := ht
        rw [← trFM H t ht2 j hj]
        unfold trF
        rw [tne (9 + t) (by have := hT.1; rw [tn] at ht2; omega)]
      · have h9 := htrail (k / 8) (by omega) (k % 8) (by omega)
        have h8 := hpath (k / 8) (by omega) (k % 8) (by omega)
        rw [show 8 * (k / 8) + k % 8 = k by omega] at h9 h8
        rw [h9, h8]
      · have h8 := hpath N (by omega) 0 (by decide)
        rw [Nat.add_zero] at h8
        rw [e4.2.2.1 0 (by decide), h8]
      · have h8 := hpath N (by omega) 1 (by decide)
        rw [e4.2.2.1 1 (by decide), h8]
    · exfalso
      apply z.1
      have h9 := hiff.mp hth
      unfold thrR
      rw [hlow 151 (by omega)]
      exact h9
  · rw [q.2.2] at h2
    rcases h2 with z | z
    · exact absurd (hiff.mpr z.1) q.1
    · rw [z.2.2]
      exact ⟨q.2.1.trans z.2.1.symm, H⟩
