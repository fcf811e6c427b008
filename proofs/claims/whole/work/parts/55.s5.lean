/-! CALL BY CALL, part 5 -/
theorem fa_fi {I : Mem} (hH : RH I) {s l i n : Int32} (hv : (0 ≤ s.toInt ∧ s.toInt ≤ 3) ∧ (0 ≤ l.toInt ∧ l.toInt ≤ 2)) (hn : 0 ≤ n.toInt) : R_finds I s l i n = (if F_fault I s l = 0 then (if hasP (I (143 + 2 * s.toNatClampNeg) 1) i n then 0 else -13) else F_fault I s l) := by
  have hn4 : s.toNatClampNeg < 4 := by rw [tn]; have := hv.1; omega
  have hI := hH _ hn4
  have hlt := lane_lt hH hn4
  unfold R_finds F_fault
  rw [if_pos hv]
  by_cases h1 : I (143 + 2 * s.toNatClampNeg) 0 = -1
  · rw [if_pos (hlt.mpr h1), if_pos h1, if_neg (by decide)]
  · have hz3 : ¬ I 180 s.toNatClampNeg = -1 := fun q => h1 (by rw [hI.1]; exact q)
    have hsz := (hI.2.2.2.2 hz3).1
    rw [if_neg (fun q => h1 (hlt.mp q)), if_neg h1, hI.1]
    by_cases h2 : I 180 s.toNatClampNeg = l
    · rw [if_pos h2, if_pos h2, if_pos rfl, hsz]
      by_cases h3 : i.toInt < 0 ∨ (I 181 s.toNatClampNeg).toInt < i.toInt + n.toInt
      · rw [if_pos h3, if_neg (by unfold hasP; omega)]
      · rw [if_neg h3, if_pos (by unfold hasP; omega)]
    · rw [if_neg h2, if_neg h2, if_neg (by decide)]
theorem fault_v {I : Mem} {s l : Int32} (hv : ¬ ((0 ≤ s.toInt ∧ s.toInt ≤ 3) ∧ (0 ≤ l.toInt ∧ l.toInt ≤ 2))) : F_fault I s l = -1 := by
  unfold F_fault
  rw [if_neg hv]
theorem fault_neg {I : Mem} {s l : Int32} (h : ¬ F_fault I s l = 0) : (F_fault I s l).toInt < 0 := by
  unfold F_fault at h ⊢
  split at h
  · rename_i q
    rw [if_pos q]
    split at h
    · rename_i q2
      rw [if_pos q2]
      decide
    · rename_i q2
      rw [if_neg q2]
      split at h
      · exact absurd rfl h
      · rename_i q3
        rw [if_neg q3]
        decide
  · rename_i q
    rw [if_neg q]
    decide
theorem fault_ok {I : Mem} {s l : Int32} (h : F_fault I s l = 0) : ((0 ≤ s.toInt ∧ s.toInt ≤ 3) ∧ (0 ≤ l.toInt ∧ l.toInt ≤ 2)) ∧ ¬ I (143 + 2 * s.toNatClampNeg) 0 = -1 ∧ I (143 + 2 * s.toNatClampNeg) 0 = l := by
  unfold F_fault at h
  split at h
  · rename_i q
    split at h
    · exact absurd h (by decide)
    · rename_i q2
      split at h
      · rename_i q3
        exact ⟨q, q2, q3⟩
      · exact absurd h (by decide)
  · exact absurd h (by decide)
theorem s_item {I : Mem} (H : Rel I) {s l i v : Int32} : (F_item I s l i v).1 = (R_item (F_item I s l i v).2 s l i v).1 ∧ Rel (R_item (F_item I s l i v).2 s l i v).2 := by
  obtain ⟨hS, hW, hT, hB, hL, hC, hK_, hM, hO, hG, hH⟩ := id H
  unfold F_item
  by_cases hv : (0 ≤ s.toInt ∧ s.toInt ≤ 3) ∧ (0 ≤ l.toInt ∧ l.toInt ≤ 2)
  · have ff := fa_fi hH (i := i) (n := 1) hv (by decide)
    have hn4 : s.toNatClampNeg < 4 := by rw [tn]; have := hv.1; omega
    have hI := hH _ hn4
    by_cases hf : F_fault I s l = 0
    · rw [if_pos hf] at ff ⊢
      have fo := fault_ok hf
      have hz3 : ¬ I 180 s.toNatClampNeg = -1 := fun q => fo.2.1 (by rw [hI.1]; exact q)
      by_cases hp : hasP (I (143 + 2 * s.toNatClampNeg) 1) i 1
      · rw [if_pos hp] at ff ⊢
        dsimp only
        obtain ⟨J, hJd⟩ : ∃ J, J = upm I (143 + 2 * s.toNatClampNeg + 1) i.toNatClampNeg (laneV (I (143 + 2 * s.toNatClampNeg) 0) v) := ⟨_, rfl⟩
        rw [← hJd]
        have hlow : ∀ a, 151 ≤ a → J a = I a := fun a ha => by rw [hJd, upm_ne _ _ _ (by omega)]
        have ffJ : R_finds J s l i 1 = R_finds I s l i 1 := by unfold R_finds; rw [hlow 180 (by omega), hlow 181 (by omega)]
        unfold R_item
        rw [if_pos hv, if_neg (by rw [ffJ, ff]; decide)]
        refine ⟨rfl, ?_⟩
        dsimp only
        have hp2 := hp
        unfold hasP at hp2
        rw [i1] at hp2
        have hsz := hI.2.2.1
        have hi6 : i.toNatClampNeg < 60 := by rw [tn]; omega
        rw [fo.2.2] at hJd
        generalize s.toNatClampNeg = k at *
        generalize i.toNatClampNeg = c at *
        obtain ⟨K, hKd⟩ : ∃ K, K = upm J 182 (60 * k + c) (laneV l v) := ⟨_, rfl⟩
        rw [← hKd]
        have hK : ∀ a, (a ≠ 143 + 2 * k + 1 ∧ a ≠ 182) → K a = I a := fun a ha => by rw [hKd, upm_ne _ _ _ ha.2, hJd, upm_ne _ _ _ ha.1]
        have h0 : ∀ j, j = j → K 0 j = I 0 j := fun j _ => by rw [hK 0 (by omega)]
        have h151 : ∀ j, j = j → K 151 j = I 151 j := fun j _ => by rw [hK 151 (by omega)]
        refine ⟨RS_of (fun a ha => hK a (by omega)) (h0 2 rfl) (h151 1 rfl) hS,
          RW_of (fun a ha => hK a (by omega)) (h0 4 rfl) (h151 10 rfl) hW,
          RT_of (fun a ha => hK a (by omega)) (h151 13 rfl) (h151 18 rfl) hT,
          RB_of (fun a ha => hK a (by omega)) hB,
          RLt_of (fun a ha => hK a (by omega)) (h151 22 rfl) (h151 23 rfl) (h151 24 rfl) (h151 25 rfl) hL,
          RC_of (fun a ha => hK a (by omega)) (h0 11 rfl) (h151 28 rfl) hC,
          RK_of (fun a ha => hK a (by omega)) hK_,
          RM_of (fun a ha => hK a (by omega)) (fun j _ _ => by rw [hK 27 (by omega)]) (fun j j1 j2 => h151 j rfl) hM,
          RO_of (fun a ha => hK a (by omega)) (h0 16 rfl) (h151 42 rfl) hO,
          RG_of (fun a ha => hK a (by omega)) hG,
          ?_⟩
        intro m hm
        have hJ := hH m hm
        rw [hK (143 + 2 * m) (by omega), hK 180 (by omega), hK 181 (by omega)]
        refine ⟨hJ.1, hJ.2.1, hJ.2.2.1, hJ.2.2.2.1, fun q => ⟨(hJ.2.2.2.2 q).1, fun j hj => ?_⟩⟩
        have h9 := (hJ.2.2.2.2 q).2 j hj
        have k1 : K (143 + 2 * m + 1) j = (if m = k ∧ j = c then laneV l v else I (143 + 2 * m + 1) j) := by
          rw [hKd, upm_ne _ _ _ (by omega), hJd, upm_at]
          by_cases e : m = k ∧ j = c
          · rw [if_pos e, if_pos ⟨by omega, e.2⟩]
          · rw [if_neg e, if_neg (fun z => e (by omega))]
        have k2 : K 182 (60 * m + j) = (if m = k ∧ j = c then laneV l v else I 182 (60 * m + j)) := by
          rw [hKd, upm_at, hlow 182 (by omega)]
          by_cases e : m = k ∧ j = c
          · rw [if_pos e, if_pos ⟨rfl, by omega⟩]
          · rw [if_neg e, if_neg (fun z => e (by omega))]
        rw [k1, k2, h9]
      · rw [if_neg hp] at ff ⊢
        unfold R_item
        dsimp only
        rw [if_pos hv, if_pos (by rw [ff]; decide), ff]
        exact ⟨rfl, H⟩
    · rw [if_neg hf] at ff ⊢
      unfold R_item
      dsimp only
      rw [if_pos hv, if_pos (by rw [ff]; exact fault_neg hf), ff]
      exact ⟨rfl, H⟩
  · have hf := fault_v (I := I) hv
    rw [if_neg (by rw [hf]; decide), hf]
    unfold R_item
    dsimp only
    rw [if_neg hv]
    exact ⟨rfl, H⟩
theorem fi_own {I : Mem} {s i n : Int32} (h : ¬ (I 180 s.toNatClampNeg).toInt < 0) : (R_finds I s (I 180 s.toNatClampNeg) i n).toInt < 0 ↔ (i.toInt < 0 ∨ (I 181 s.toNatClampNeg).toInt < i.toInt + n.toInt) := by
  unfold R_finds
  rw [if_neg h, if_pos rfl]
  by_cases h3 : i.toInt < 0 ∨ (I 181 s.toNatClampNeg).toInt < i.toInt + n.toInt
  · rw [if_pos h3]
    exact ⟨fun _ => h3, fun _ => by decide⟩
  · rw [if_neg h3]
    exact ⟨fun q => absurd q (by decide), fun q => absurd q h3⟩
theorem s_copy {I : Mem} (H : Rel I) {f i t j n : Int32} : (F_copy I f i t j n).1 = (R_copy (F_copy I f i t j n).2 f i t j n).1 ∧ Rel (R_copy (F_copy I f i t j n).2 f i t j n).2 := by
  obtain ⟨hS, hW, hT, hB, hL, hC, hK_, hM, hO, hG, hH⟩ := id H
  unfold F_copy
  by_cases hv : (0 ≤ f.toInt ∧ f.toInt ≤ 3) ∧ (0 ≤ t.toInt ∧ t.toInt ≤ 3)
  · rw [if_pos hv]
    have hf4 : f.toNatClampNeg < 4 := by rw [tn]; have := hv.1; omega
    have ht4 : t.toNatClampNeg < 4 := by rw [tn]; have := hv.2; omega
    have hIf := hH _ hf4
    have hIt := hH _ ht4
    have lf := lane_lt hH hf4
    have lt := lane_lt hH ht4
    by_cases h1 : I (143 + 2 * f.toNatClampNeg) 0 = -1 ∨ I (143 + 2 * t.toNatClampNeg) 0 = -1
    · rw [if_pos h1]
      unfold R_copy
      dsimp only
      rw [if_pos hv, if_pos (h1.elim (fun q => Or.inl (lf.mpr q)) (fun q => Or.inr (lt.mpr q)))]
      exact ⟨rfl, H⟩
    · rw [if_neg h1]
      have h1f : ¬ (I 180 f.toNatClampNeg).toInt < 0 := fun q => h1 (Or.inl (lf.mp q))
      have h1t : ¬ (I 180 t.toNatClampNeg).toInt < 0 := fun q => h1 (Or.inr (lt.mp q))
      have n1f : ¬ I 180 f.toNatClampNeg = -1 := fun q => h1 (Or.inl (by rw [hIf.1]; exact q))
      have n1t : ¬ I 180 t.toNatClampNeg = -1 := fun q => h1 (Or.inr (by rw [hIt.1]; exact q))
      have szf := (hIf.2.2.2.2 n1f).1
      have szt := (hIt.2.2.2.2 n1t).1
      by_cases h2 : I (143 + 2 * f.toNatClampNeg) 0 = I (143 + 2 * t.toNatClampNeg) 0
      · rw [if_pos h2]
        have h2' : I 180 f.toNatClampNeg = I 180 t.toNatClampNeg := by rw [← hIf.1, ← hIt.1]; exact h2
        have bf := fi_own (i := i) (n := n) h1f
        have bt := fi_own (i := j) (n := n) h1t
        by_cases h3 : hasP (I (143 + 2 * f.toNatClampNeg) 1) i n ∧ hasP (I (143 + 2 * t.toNatClampNeg) 1) j n
        · rw [if_pos h3]
          dsimp only
          obtain ⟨J, hJd⟩ : ∃ J, J = cpM I (143 + 2 * f.toNatClampNeg + 1) (143 + 2 * t.toNatClampNeg + 1) i.toNatClampNeg j.toNatClampNeg n.toNatClampNeg := ⟨_, rfl⟩
          rw [← hJd]
          have hlow : ∀ a, 151 ≤ a → J a = I a := fun a ha => by rw [hJd, cpM_ne _ (by omega)]
          have efJ : R_finds J f (J 180 f.toNatClampNeg) i n = R_finds I f (I 180 f.toNatClampNeg) i n := by unfold R_finds; rw [hlow 180 (by omega), hlow 181 (by omega)]
          have etJ : R_finds J t (J 180 t.toNatClampNeg) j n = R_finds I t (I 180 t.toNatClampNeg) j n := by unfold R_finds; rw [hlow 180 (by omega), hlow 181 (by omega)]
          have hp := h3
          unfold hasP at hp
          rw [szf, szt] at hp
          have hb1 := hIf.2.2.2.1
          have hb2 := hIt.2.2.2.1
          have c1 : ¬ ((J 180 f.toNatClampNeg).toInt < 0 ∨ (J 180 t.toNatClampNeg).toInt < 0) := by rw [hlow 180 (by omega)]; exact fun q => q.elim h1f h1t
          have c2 : J 180 f.toNatClampNeg = J 180 t.toNatClampNeg := by rw [hlow 180 (by omega)]; exact h2'
          have c3 : ¬ (n.toInt < 0 ∨ (R_finds J f (J 180 f.toNatClampNeg) i n).toInt < 0 ∨ (R_finds J t (J 180 t.toNatClampNeg) j n).toInt < 0) := by
            rw [efJ, etJ, bf, bt]
            omega
          unfold R_copy
          rw [if_pos hv, if_neg c1, if_pos c2, if_neg c3]
          refine ⟨rfl, ?_⟩
          dsimp only
          have hin : i.toNatClampNeg + n.toNatClampNeg ≤ 60 := by rw [tn, tn]; omega
          have hjn : j.toNatClampNeg + n.toNatClampNeg ≤ 60 := by rw [tn, tn]; omega
          generalize f.toNatClampNeg = fk at *
          generalize t.toNatClampNeg = tk at *
          generalize i.toNatClampNeg = ic at *
          generalize j.toNatClampNeg = jc at *
          generalize n.toNatClampNeg = nc at *
          obtain ⟨K, hKd⟩ : ∃ K, K = cpR J fk ic tk jc nc := ⟨_, rfl⟩
          rw [← hKd]
          have hK : ∀ a, (a ≠ 143 + 2 * tk + 1 ∧ a ≠ 182 ∧ a ≠ 183) → K a = I a := fun a ha => by
            rw [hKd]
            unfold cpR
            rw [rowQ_ne _ _ _ _ (by omega), rowQ_ne _ _ _ _ (by omega), hJd, cpM_ne _ (by omega)]
          have h0 : ∀ j, j = j → K 0 j = I 0 j := fun j _ => by rw [hK 0 (by omega)]
          have h151 : ∀ j, j = j → K 151 j = I 151 j := fun j _ => by rw [hK 151 (by omega)]
          refine ⟨RS_of (fun a ha => hK a (by omega)) (h0 2 rfl) (h151 1 rfl) hS,
            RW_of (fun a ha => hK a (by omega)) (h0 4 rfl) (h151 10 rfl) hW,
            RT_of (fun a ha => hK a (by omega)) (h151 13 rfl) (h151 18 rfl) hT,
            RB_of (fun a ha => hK a (by omega)) hB,
            RLt_of (fun a ha => hK a (by omega)) (h151 22 rfl) (h151 23 rfl) (h151 24 rfl) (h151 25 rfl) hL,
            RC_of (fun a ha => hK a (by omega)) (h0 11 rfl) (h151 28 rfl) hC,
            RK_of (fun a ha => hK a (by omega)) hK_,
            RM_of (fun a ha => hK a (by omega)) (fun j _ _ => by rw [hK 27 (by omega)]) (fun j j1 j2 => h151 j rfl) hM,
            RO_of (fun a ha => hK a (by omega)) (h0 16 rfl) (h151 42 rfl) hO,
            RG_of (fun a ha => hK a (by omega)) hG,
            ?_⟩
          intro m hm
          have hJ := hH m hm
          rw [hK (143 + 2 * m) (by omega), hK 180 (by omega), hK 181 (by omega)]
          refine ⟨hJ.1, hJ.2.1, hJ.2.2.1, hJ.2.2.2.1, fun q => ⟨(hJ.2.2.2.2 q).1, fun b hb => ?_⟩⟩
          have k2 : K 182 (60 * m + b) = rowQ (rowQ J 183 0 (fun k => J 182 (60 * fk + ic + k)) nc) 182 (60 * tk + jc) (fun k => J 182 (60 * fk + ic + k)) nc 182 (60 * m + b) := by rw [hKd]; rfl
          have k1 : K (143 + 2 * m + 1) b = cpM I (143 + 2 * fk + 1) (143 + 2 * tk + 1) ic jc nc (143 + 2 * m + 1) b := by
            rw [hKd]
            unfold cpR
            rw [rowQ_ne _ _ _ _ (by omega), rowQ_ne _ _ _ _ (by omega), hJd]
          rw [k1, k2]
          by_cases e : m = tk ∧ jc ≤ b ∧ b < jc + nc
          · unfold cpM
            rw [if_pos ⟨by omega, e.2.1, e.2.2⟩, show 60 * m + b = (60 * tk + jc) + (b - jc) by omega, rowQ_in _ _ _ _ (show b - jc < nc by omega), hlow 182 (by omega), show 60 * fk + ic + (b - jc) = 60 * fk + (ic + (b - jc)) by omega]
            exact (hIf.2.2.2.2 n1f).2 _ (by omega)
          · unfold cpM
            rw [if_neg (fun z => e (by omega)), rowQ_out _ _ _ (by omega), rowQ_ne _ _ _ _ (by decide), hlow 182 (by omega)]
            exact (hJ.2.2.2.2 q).2 b hb
        · rw [if_neg h3]
          unfold R_copy
          dsimp only
          have c1 : ¬ ((I 180 f.toNatClampNeg).toInt < 0 ∨ (I 180 t.toNatClampNeg).toInt < 0) := fun q => q.elim h1f h1t
          have hsf := hIf.2.2.1
          have hst := hIt.2.2.1
          rw [if_pos hv, if_neg c1, if_pos h2', if_pos (by
            rw [bf, bt]
            unfold hasP at h3
            rw [szf, szt] at h3
            omega)]
          exact ⟨rfl, H⟩
      · rw [if_neg h2]
        unfold R_copy
        dsimp only
        have c1 : ¬ ((I 180 f.toNatClampNeg).toInt < 0 ∨ (I 180 t.toNatClampNeg).toInt < 0) := fun q => q.elim h1f h1t
        have h2' : ¬ I 180 f.toNatClampNeg = I 180 t.toNatClampNeg := by rw [← hIf.1, ← hIt.1]; exact h2
        rw [if_pos hv, if_neg c1, if_neg h2']
        exact ⟨rfl, H⟩
  · rw [if_neg hv]
    unfold R_copy
    dsimp only
    rw [if_neg hv]
    exact ⟨rfl, H⟩
theorem allB_congr {p q : Nat → Bool} : ∀ n, (∀ i, i < n → p i = q i) → allB p n = allB q n
  | 0, _ => rfl
  | n + 1, h => by
    show (allB p n && p n) = (allB q n && q n)
    rw [allB_congr n (fun i hi => h i (by omega)), h n (by omega)]
theorem s_rows {I : Mem} (H : Rel I) {s l i n : Int32} : (F_rows I s l i n).1 = (R_rows (F_rows I s l i n).2 s l i n).1 ∧ Rel (R_rows (F_rows I s l i n).2 s l i n).2 := by
  obtain ⟨hS, hW, hT, hB, hL, hC, hK_, hM, hO, hG, hH⟩ := id H
  unfold F_rows
  by_cases h8 : 0 ≤ n.toInt ∧ n.toInt ≤ 8
  · rw [if_pos h8]
    by_cases hv : (0 ≤ s.toInt ∧ s.toInt ≤ 3) ∧ (0 ≤ l.toInt ∧ l.toInt ≤ 2)
    · have hv3 : (0 ≤ s.toInt ∧ s.toInt ≤ 3) ∧ (0 ≤ l.toInt ∧ l.toInt ≤ 2) ∧ (0 ≤ n.toInt ∧ n.toInt ≤ 8) := ⟨hv.1, hv.2, h8⟩
      have hn7 := n7 h8
      have ff := fa_fi hH (i := i) (n := 7 * n) hv (by rw [hn7.2]; omega)
      have hn4 : s.toNatClampNeg < 4 := by rw [tn]; have := hv.1; omega
      have hI := hH _ hn4
      by_cases hf : F_fault I s l = 0
      · rw [if_pos hf] at ff ⊢
        have fo := fault_ok hf
        have hz3 : ¬ I 180 s.toNatClampNeg = -1 := fun q => fo.2.1 (by rw [hI.1]; exact q)
        have hit := (hI.2.2.2.2 hz3).2
        have e77 : n * 7 = 7 * n := Int32.mul_comm _ _
        rw [e77]
        by_cases hp : hasP (I (143 + 2 * s.toNatClampNeg) 1) i (7 * n)
        · rw [if_pos hp] at ff ⊢
          have hp2 := hp
          unfold hasP at hp2
          rw [hn7.2] at hp2
          have hsz := hI.2.2.1
          have hnn : (n.toNatClampNeg : Int) = n.toInt := tnI _ h8.1
          have hii : (i.toNatClampNeg : Int) = i.toInt := tnI _ (by omega)
          have hfe : ∀ k, k < n.toNatClampNeg → ∀ c, c < 7 → I (143 + 2 * s.toNatClampNeg + 1) (i.toNatClampNeg + 7 * k + c) = I 182 (60 * s.toNatClampNeg + i.toNatClampNeg + 7 * k + c) := fun k hk c hc => by
            rw [hit _ (by omega)]
            congr 1
            omega
          have hal : allB (fun k => rvA (I 0 2) (I (143 + 2 * s.toNatClampNeg + 1)) (i.toNatClampNeg + 7 * k)) n.toNatClampNeg = allB (fun k => rvA (I 151 1) (I 182) (60 * s.toNatClampNeg + i.toNatClampNeg + 7 * k)) n.toNatClampNeg := allB_congr _ (fun k hk => by
            have h0_ : I (143 + 2 * s.toNatClampNeg + 1) (i.toNatClampNeg + 7 * k) = I 182 (60 * s.toNatClampNeg + i.toNatClampNeg + 7 * k) := hfe k hk 0 (by decide)
            unfold rvA
            rw [hS.2.1, h0_, hfe k hk 1 (by decide), hfe k hk 2 (by decide), hfe k hk 3 (by decide), hfe k hk 4 (by decide), hfe k hk 5 (by decide), hfe k hk 6 (by decide)])
          by_cases ha : allB (fun k => rvA (I 0 2) (I (143 + 2 * s.toNatClampNeg + 1)) (i.toNatClampNeg + 7 * k)) n.toNatClampNeg = true
          · rw [if_pos ha]
            by_cases h30 : n.toInt ≤ 30 - (I 0 16).toInt
            · rw [if_pos h30]
              dsimp only
              have h16 := hO.1
              obtain ⟨J, hJd⟩ : ∃ J, J = addFs I (I (143 + 2 * s.toNatClampNeg + 1)) i.toNatClampNeg n.toNatClampNeg := ⟨_, rfl⟩
              rw [← hJd]
              have hJa : ∀ a, (a ≠ 0 ∧ ¬ (83 ≤ a ∧ a ≤ 142)) → J a = I a := fun a ha_ => by rw [hJd]; exact addFs_ne I _ _ h16.1 ha_.1 (by omega) _ (by omega)
              have ffJ : R_finds J s l i (7 * n) = R_finds I s l i (7 * n) := by unfold R_finds; rw [hJa 180 (by omega), hJa 181 (by omega)]
              unfold R_rows
              rw [if_pos hv3, if_neg (by rw [ffJ, ff]; decide), hJa 151 (by omega), hJa 182 (by omega), if_pos (hal.symm.trans ha), if_pos (by rw [hO.2.1]; omega), hO.2.1]
              refine ⟨rfl, ?_⟩
              dsimp only
              obtain ⟨K, hKd⟩ : ∃ K, K = addRs J (I 182) (60 * s.toNatClampNeg + i.toNatClampNeg) n.toNatClampNeg := ⟨_, rfl⟩
              rw [← hKd]
              have hK : ∀ a, (a ≠ 0 ∧ ¬ (83 ≤ a ∧ a ≤ 142) ∧ a ≠ 151 ∧ a ≠ 177) → K a = I a := fun a ha_ => by rw [hKd, addRs_ne _ _ _ (by omega) (by omega), hJa a (by omega)]
              have h0 : ∀ j, j ≠ 16 → K 0 j = I 0 j := fun j hj => by rw [hKd, addRs_ne _ _ _ (by omega) (by omega), hJd, addFs_0 _ _ _ hj]
              have h151 : ∀ j, j ≠ 42 → K 151 j = I 151 j := fun j hj => by rw [hKd, addRs_151 _ _ _ hj, hJa 151 (by omega)]
              have hvalid := (allB_iff _ _).mp ha
              have h9 := hS.1
              have ho2 := RO2_adds (I := I) (B := J) (f := I (143 + 2 * s.toNatClampNeg + 1)) (f' := I 182) (p := i.toNatClampNeg) (p' := 60 * s.toNatClampNeg + i.toNatClampNeg) (RO2_of hO (by rw [hJa 151 (by omega)]) (hJa 177 (by omega))) n.toNatClampNeg (by omega) hfe (fun k hk => by
                have h1 := of_decide_eq_true (hvalid k hk)
                have ec := tI_sub1 (x := I 0 2) (by omega)
                unfold rvX at h1
                rw [ec] at h1
                exact ⟨⟨h1.1.1, by have := h1.1.2; omega⟩, h1.2.1⟩)
              refine ⟨RS_of (fun a ha => hK a (by omega)) (h0 2 (by decide)) (h151 1 (by decide)) hS,
                RW_of (fun a ha => hK a (by omega)) (h0 4 (by decide)) (h151 10 (by decide)) hW,
                RT_of (fun a ha => hK a (by omega)) (h151 13 (by decide)) (h151 18 (by decide)) hT,
                RB_of (fun a ha => hK a (by omega)) hB,
                RLt_of (fun a ha => hK a (by omega)) (h151 22 (by decide)) (h151 23 (by decide)) (h151 24 (by decide)) (h151 25 (by decide)) hL,
                RC_of (fun a ha => hK a (by omega)) (h0 11 (by decide)) (h151 28 (by decide)) hC,
                RK_of (fun a ha => hK a (by omega)) hK_,
                RM_of (fun a ha => hK a (by omega)) (fun j _ _ => by rw [hK 27 (by omega)]) (fun j j1 j2 => h151 j (by omega)) hM,
                ?_,
                RG_of (fun a ha => hK a (by omega)) hG,
                RH_of (fun a ha => hK a (by omega)) hH⟩
              exact RO2_to ho2 (fun k hk => by rw [hKd, addRs_ne _ _ _ (by omega) (by omega), hJd]) (by rw [hKd]) (by rw [hKd])
            · rw [if_neg h30]
              unfold R_rows
              dsimp only
              rw [if_pos hv3, if_neg (by rw [ff]; decide), if_pos (hal.symm.trans ha), if_neg (by rw [hO.2.1]; omega)]
              exact ⟨rfl, H⟩
          · rw [if_neg ha]
            unfold R_rows
            dsimp only
            rw [if_pos hv3, if_neg (by rw [ff]; decide), if_neg (fun q => ha (hal.trans q))]
            exact ⟨rfl, H⟩
        · rw [if_neg hp] at ff ⊢
          unfold R_rows
          dsimp only
          rw [if_pos hv3, if_pos (by rw [ff]; decide), ff]
          exact ⟨rfl, H⟩
      · rw [if_neg hf] at ff ⊢
        unfold R_rows
        dsimp only
        rw [if_pos hv3, if_pos (by rw [ff]; exact fault_neg hf), ff]
        exact ⟨rfl, H⟩
    · have hf := fault_v (I := I) hv
      rw [if_neg (by rw [hf]; decide), hf]
      unfold R_rows
      dsimp only
      rw [if_neg (fun q => hv ⟨q.1, q.2.1⟩)]
      exact ⟨rfl, H⟩
  · rw [if_neg h8]
    unfold R_rows
    dsimp only
    rw [if_neg (fun q => h8 q.2.2)]
    exact ⟨rfl, H⟩
