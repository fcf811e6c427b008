/-! CALL BY CALL: both answer the same, and the relation is kept. Part 1 -/
theorem mkSt_at (I : Mem) (k : Nat) (w g l d h : Int32) : mkSt I k w g l d h k 0 = w ∧ mkSt I k w g l d h k 1 = g ∧ mkSt I k w g l d h k 2 = l ∧ mkSt I k w g l d h k 3 = d ∧ mkSt I k w g l d h k 4 = h ∧ mkSt I k w g l d h k 5 = I k 5 ∧ mkSt I k w g l d h k 6 = 1 := by
  refine ⟨?_, ?_, ?_, ?_, ?_, ?_, ?_⟩ <;> simp [mkSt, upm]
theorem isS_n {s c : Int32} {M : Nat} (h : isS s c) (hc : 0 ≤ c.toInt ∧ c.toInt ≤ M) : s.toNatClampNeg < c.toNatClampNeg ∧ s.toNatClampNeg < M := by
  have h1 := h.1
  have h2 := h.2
  rw [tn, tn]
  omega
theorem s_new {I : Mem} (H : Rel I) {w g l d h : Int32} (hh : 0 ≤ h.toInt) : (F_newStick I w g l d h).1 = (R_comes (F_newStick I w g l d h).2 w g l d h).1 ∧ Rel (R_comes (F_newStick I w g l d h).2 w g l d h).2 := by
  obtain ⟨hS, hW, hT, hB, hL, hC, hK_, hM, hO, hG, hH⟩ := id H
  unfold F_newStick
  by_cases hv : vSt w g l d
  · rw [if_pos hv]
    by_cases hf : 9 ≤ (I 0 2).toInt
    · rw [if_pos hf]
      have e9 : I 151 1 = 9 := by rw [hS.2.1, i32_eq, e9i]; have := hS.1; omega
      unfold R_comes
      rw [if_pos hv, if_pos e9]
      exact ⟨rfl, H⟩
    · rw [if_neg hf]
      have hn9 : (I 0 2).toNatClampNeg < 9 := by rw [tn]; have := hS.1; omega
      have ec : (I 0 2 + 1).toInt = (I 0 2).toInt + 1 := tI_add1 (by omega)
      have en : (I 0 2 + 1).toNatClampNeg = (I 0 2).toNatClampNeg + 1 := by rw [tn, tn, ec]; have := hS.1; omega
      show I 0 2 = (R_comes (upm (mkSt I (41 + 2 * (I 0 2).toNatClampNeg) w g l d h) 0 2 (I 0 2 + 1)) w g l d h).1 ∧ Rel (R_comes (upm (mkSt I (41 + 2 * (I 0 2).toNatClampNeg) w g l d h) 0 2 (I 0 2 + 1)) w g l d h).2
      have hJ1 : upm (mkSt I (41 + 2 * (I 0 2).toNatClampNeg) w g l d h) 0 2 (I 0 2 + 1) 151 1 = I 0 2 := by rw [upm_ne _ _ _ (by decide), mkSt_ne _ _ _ _ _ _ (by omega), hS.2.1]
      unfold R_comes
      rw [if_pos hv, hJ1, if_neg (fun q => by rw [q, e9i] at hf; omega)]
      refine ⟨rfl, ?_⟩
      generalize hn : (I 0 2).toNatClampNeg = n at *
      obtain ⟨K, hKd⟩ : ∃ K, K = upm (upm (upm (upm (upm (upm (upm (mkSt I (41 + 2 * n) w g l d h) 0 2 (I 0 2 + 1)) 154 n w) 155 n g) 156 n l) 157 n d) 153 n h) 151 1 (I 0 2 + 1) := ⟨_, rfl⟩
      show Rel (upm (upm (upm (upm (upm (upm (upm (mkSt I (41 + 2 * n) w g l d h) 0 2 (I 0 2 + 1)) 154 n w) 155 n g) 156 n l) 157 n d) 153 n h) 151 1 (I 0 2 + 1))
      rw [← hKd]
      have hK : ∀ a, (a ≠ 0 ∧ a ≠ 41 + 2 * n ∧ ¬ (153 ≤ a ∧ a ≤ 157) ∧ a ≠ 151) → K a = I a := fun a ha => by
        rw [hKd, upm_ne _ _ _ (by omega), upm_ne _ _ _ (by omega), upm_ne _ _ _ (by omega), upm_ne _ _ _ (by omega), upm_ne _ _ _ (by omega), upm_ne _ _ _ (by omega), upm_ne _ _ _ (by omega), mkSt_ne _ _ _ _ _ _ (by omega)]
      have h0 : ∀ j, j ≠ 2 → K 0 j = I 0 j := fun j hj => by
        rw [hKd, upm_ne _ _ _ (by omega), upm_ne _ _ _ (by omega), upm_ne _ _ _ (by omega), upm_ne _ _ _ (by omega), upm_ne _ _ _ (by omega), upm_ne _ _ _ (by omega), upm_at, if_neg (fun q => hj q.2), mkSt_ne _ _ _ _ _ _ (by omega)]
      have h151 : ∀ j, j ≠ 1 → K 151 j = I 151 j := fun j hj => by
        rw [hKd, upm_at, if_neg (fun q => hj q.2), upm_ne _ _ _ (by omega), upm_ne _ _ _ (by omega), upm_ne _ _ _ (by omega), upm_ne _ _ _ (by omega), upm_ne _ _ _ (by omega), upm_ne _ _ _ (by omega), mkSt_ne _ _ _ _ _ _ (by omega)]
      have h02 : K 0 2 = I 0 2 + 1 := by
        rw [hKd, upm_ne _ _ _ (by omega), upm_ne _ _ _ (by omega), upm_ne _ _ _ (by omega), upm_ne _ _ _ (by omega), upm_ne _ _ _ (by omega), upm_ne _ _ _ (by omega), upm_eq]
      have h1511 : K 151 1 = I 0 2 + 1 := by rw [hKd, upm_eq]
      have hk : K (41 + 2 * n) = mkSt I (41 + 2 * n) w g l d h (41 + 2 * n) := by
        rw [hKd, upm_ne _ _ _ (by omega), upm_ne _ _ _ (by omega), upm_ne _ _ _ (by omega), upm_ne _ _ _ (by omega), upm_ne _ _ _ (by omega), upm_ne _ _ _ (by omega), upm_ne _ _ _ (by omega)]
      have hr : ∀ m, K 154 m = (if m = n then w else I 154 m) ∧ K 155 m = (if m = n then g else I 155 m) ∧ K 156 m = (if m = n then l else I 156 m) ∧ K 157 m = (if m = n then d else I 157 m) ∧ K 153 m = (if m = n then h else I 153 m) := fun m => by
        rw [hKd]
        by_cases e : m = n
        · simp [upm, e]
        · simp [upm, e, mkSt]
          refine ⟨?_, ?_, ?_, ?_, ?_⟩ <;> (rw [if_neg, if_neg, if_neg, if_neg, if_neg, if_neg] <;> omega)
      have ma := mkSt_at I (41 + 2 * n) w g l d h
      refine ⟨?_,
        RW_of (fun a ha => hK a (by omega)) (h0 4 (by decide)) (h151 10 (by decide)) hW,
        RT_of (fun a ha => hK a (by omega)) (h151 13 (by decide)) (h151 18 (by decide)) hT,
        RB_of (fun a ha => hK a (by omega)) hB,
        RLt_of (fun a ha => hK a (by omega)) (h151 22 (by decide)) (h151 23 (by decide)) (h151 24 (by decide)) (h151 25 (by decide)) hL,
        RC_of (fun a ha => hK a (by omega)) (h0 11 (by decide)) (h151 28 (by decide)) hC,
        RK_of (fun a ha => hK a (by omega)) hK_,
        RM_of (fun a ha => hK a (by omega)) (fun j _ _ => by rw [hK 27 (by omega)]) (fun j j1 j2 => h151 j (by omega)) hM,
        RO_of (fun a ha => hK a (by omega)) (h0 16 (by decide)) (h151 42 (by decide)) hO,
        RG_of (fun a ha => hK a (by omega)) hG,
        RH_of (fun a ha => hK a (by omega)) hH⟩
      unfold RS
      rw [h02, h1511, ec, en]
      refine ⟨by have := hS.1; omega, rfl, fun m hm => ?_⟩
      have hI := hS.2.2 m hm
      have hrm := hr m
      by_cases e : m = n
      · rw [if_pos e, if_pos e, if_pos e, if_pos e, if_pos e] at hrm
        rw [hrm.1, hrm.2.1, hrm.2.2.1, hrm.2.2.2.1, hrm.2.2.2.2, e, hk, ma.1, ma.2.1, ma.2.2.1, ma.2.2.2.1, ma.2.2.2.2.1, ma.2.2.2.2.2.1, ma.2.2.2.2.2.2, hK 158 (by omega), hK 159 (by omega), hK 160 (by omega), hK (41 + 2 * n + 1) (by omega)]
        rw [e] at hI
        refine ⟨⟨rfl, rfl, rfl, rfl, rfl, hI.1.2.2.2.2.2⟩, hI.2.1, ?_, fun _ => Or.inl ⟨rfl, hI.2.2.2.2 (by omega)⟩, fun q => by omega⟩
        unfold StOk
        rw [hk, ma.2.2.1, ma.2.2.2.1, ma.2.2.2.2.1]
        have h3 := hv.2.2.1
        have h4 := hv.2.2.2
        omega
      · rw [if_neg e, if_neg e, if_neg e, if_neg e, if_neg e] at hrm
        unfold StOk
        rw [hrm.1, hrm.2.1, hrm.2.2.1, hrm.2.2.2.1, hrm.2.2.2.2, hK (41 + 2 * m) (by omega), hK (41 + 2 * m + 1) (by omega), hK 158 (by omega), hK 159 (by omega), hK 160 (by omega)]
        exact ⟨hI.1, hI.2.1, hI.2.2.1, fun q => hI.2.2.2.1 (by omega), fun q => hI.2.2.2.2 (by omega)⟩
  · rw [if_neg hv]
    unfold R_comes
    rw [if_neg hv]
    exact ⟨rfl, H⟩
theorem s_winged {I : Mem} (H : Rel I) {w g l d h : Int32} : (F_winged I w g l d h).1 = (R_winged (F_winged I w g l d h).2 w g l d h).1 ∧ Rel (R_winged (F_winged I w g l d h).2 w g l d h).2 := by
  unfold F_winged R_winged
  by_cases q : 1 ≤ h.toInt ∧ h.toInt ≤ 200
  · rw [if_pos q, if_pos q]
    exact s_new H (by omega)
  · rw [if_neg q, if_neg q]
    exact ⟨rfl, H⟩
theorem s_lift {I : Mem} (H : Rel I) {s b v : Int32} : (F_lift I s b v).1 = (R_lift (F_lift I s b v).2 s b v).1 ∧ Rel (R_lift (F_lift I s b v).2 s b v).2 := by
  obtain ⟨hS, hW, hT, hB, hL, hC, hK_, hM, hO, hG, hH⟩ := id H
  unfold F_lift
  by_cases hv : isS s (I 0 2) ∧ (0 ≤ b.toInt ∧ b.toInt ≤ 3) ∧ (0 ≤ v.toInt ∧ v.toInt ≤ 300)
  · rw [if_pos hv]
    have hn := isS_n (M := 9) hv.1 hS.1
    have hbn : b.toNatClampNeg < 4 := by rw [tn]; omega
    have ei := m4N (s := s) (b := b) hv.1.1 (by have := hS.1; have := hv.1.2; omega) hv.2.1
    unfold R_lift
    dsimp only
    rw [if_pos (by rw [upm_ne _ _ _ (by omega), hS.2.1]; exact hv), ei]
    refine ⟨by rw [upm_ne _ _ _ (by omega)]; exact (hS.2.2 _ hn.2).2.1 _ hbn, ?_⟩
    generalize s.toNatClampNeg = n at *
    generalize b.toNatClampNeg = c at *
    obtain ⟨K, hKd⟩ : ∃ K, K = upm (upm I (41 + 2 * n + 1) c v) 159 (4 * n + c) v := ⟨_, rfl⟩
    show Rel (upm (upm I (41 + 2 * n + 1) c v) 159 (4 * n + c) v)
    rw [← hKd]
    have hK : ∀ a, (a ≠ 41 + 2 * n + 1 ∧ a ≠ 159) → K a = I a := fun a ha => by rw [hKd, upm_ne _ _ _ (by omega), upm_ne _ _ _ (by omega)]
    have h0 : ∀ j, True → K 0 j = I 0 j := fun j _ => by rw [hK 0 (by omega)]
    have h151 : ∀ j, True → K 151 j = I 151 j := fun j _ => by rw [hK 151 (by omega)]
    refine ⟨?_,
      RW_of (fun a ha => hK a (by omega)) (h0 4 trivial) (h151 10 trivial) hW,
      RT_of (fun a ha => hK a (by omega)) (h151 13 trivial) (h151 18 trivial) hT,
      RB_of (fun a ha => hK a (by omega)) hB,
      RLt_of (fun a ha => hK a (by omega)) (h151 22 trivial) (h151 23 trivial) (h151 24 trivial) (h151 25 trivial) hL,
      RC_of (fun a ha => hK a (by omega)) (h0 11 trivial) (h151 28 trivial) hC,
      RK_of (fun a ha => hK a (by omega)) hK_,
      RM_of (fun a ha => hK a (by omega)) (fun j _ _ => by rw [hK 27 (by omega)]) (fun j j1 j2 => h151 j trivial) hM,
      RO_of (fun a ha => hK a (by omega)) (h0 16 trivial) (h151 42 trivial) hO,
      RG_of (fun a ha => hK a (by omega)) hG,
      RH_of (fun a ha => hK a (by omega)) hH⟩
    unfold RS
    rw [h0 2 trivial, h151 1 trivial]
    refine ⟨hS.1, hS.2.1, fun m hm => ?_⟩
    have hI := hS.2.2 m hm
    unfold StOk
    rw [hK (41 + 2 * m) (by omega), hK 153 (by omega), hK 154 (by omega), hK 155 (by omega), hK 156 (by omega), hK 157 (by omega), hK 158 (by omega), hK 160 (by omega)]
    refine ⟨hI.1, fun d hd => ?_, hI.2.2.1, hI.2.2.2.1, hI.2.2.2.2⟩
    rw [hKd]
    by_cases e : m = n ∧ d = c
    · rw [e.1, e.2, upm_ne _ _ _ (by omega), upm_eq, upm_eq]
    · rw [upm_ne _ _ _ (by omega), upm_at, if_neg (fun q => by omega), upm_at, if_neg (fun q => by omega), upm_ne _ _ _ (by omega)]
      exact hI.2.1 d hd
  · rw [if_neg hv]
    unfold R_lift
    dsimp only
    rw [if_neg (by rw [hS.2.1]; exact hv)]
    exact ⟨rfl, H⟩
theorem s_bend {I : Mem} (H : Rel I) {s v : Int32} : (F_bend I s v).1 = (R_bend (F_bend I s v).2 s v).1 ∧ Rel (R_bend (F_bend I s v).2 s v).2 := by
  obtain ⟨hS, hW, hT, hB, hL, hC, hK_, hM, hO, hG, hH⟩ := id H
  unfold F_bend
  by_cases hv : isS s (I 0 2) ∧ (-9 ≤ v.toInt ∧ v.toInt ≤ 9)
  · rw [if_pos hv]
    have hn := isS_n (M := 9) hv.1 hS.1
    unfold R_bend
    dsimp only
    rw [if_pos (by rw [upm_ne _ _ _ (by omega), hS.2.1]; exact hv)]
    refine ⟨by rw [upm_ne _ _ _ (by omega)]; exact (hS.2.2 _ hn.2).1.2.2.2.2.2, ?_⟩
    generalize s.toNatClampNeg = n at *
    obtain ⟨K, hKd⟩ : ∃ K, K = upm (upm I (41 + 2 * n) 5 v) 158 n v := ⟨_, rfl⟩
    show Rel (upm (upm I (41 + 2 * n) 5 v) 158 n v)
    rw [← hKd]
    have hK : ∀ a, (a ≠ 41 + 2 * n ∧ a ≠ 158) → K a = I a := fun a ha => by rw [hKd, upm_ne _ _ _ (by omega), upm_ne _ _ _ (by omega)]
    have h0 : ∀ j, True → K 0 j = I 0 j := fun j _ => by rw [hK 0 (by omega)]
    have h151 : ∀ j, True → K 151 j = I 151 j := fun j _ => by rw [hK 151 (by omega)]
    have hcell : ∀ m j, j ≠ 5 → K (41 + 2 * m) j = I (41 + 2 * m) j := fun m j hj => by rw [hKd, upm_ne _ _ _ (by omega), upm_at, if_neg (fun q => hj q.2)]
    refine ⟨?_,
      RW_of (fun a ha => (hK a (by omega))) (h0 4 trivial) (h151 10 trivial) hW,
      RT_of (fun a ha => (hK a (by omega))) (h151 13 trivial) (h151 18 trivial) hT,
      RB_of (fun a ha => (hK a (by omega))) hB,
      RLt_of (fun a ha => (hK a (by omega))) (h151 22 trivial) (h151 23 trivial) (h151 24 trivial) (h151 25 trivial) hL,
      RC_of (fun a ha => (hK a (by omega))) (h0 11 trivial) (h151 28 trivial) hC,
      RK_of (fun a ha => (hK a (by omega))) hK_,
      RM_of (fun a ha => (hK a (by omega))) (fun j _ _ => by rw [hK 27 (by omega)]) (fun j j1 j2 => h151 j trivial) hM,
      RO_of (fun a ha => (hK a (by omega))) (h0 16 trivial) (h151 42 trivial) hO,
      RG_of (fun a ha => (hK a (by omega))) hG,
      RH_of (fun a ha => (hK a (by omega))) hH⟩
    unfold RS
    rw [h0 2 trivial, h151 1 trivial]
    refine ⟨hS.1, hS.2.1, fun m hm => ?_⟩
    have hI := hS.2.2 m hm
    unfold StOk
    rw [hcell m 0 (by decide), hcell m 1 (by decide), hcell m 2 (by decide), hcell m 3 (by decide), hcell m 4 (by decide), hcell m 6 (by decide), hK (41 + 2 * m + 1) (by omega), hK 153 (by omega), hK 154 (by omega), hK 155 (by omega), hK 156 (by omega), hK 157 (by omega), hK 159 (by omega), hK 160 (by omega)]
    refine ⟨⟨hI.1.1, hI.1.2.1, hI.1.2.2.1, hI.1.2.2.2.1, hI.1.2.2.2.2.1, ?_⟩, hI.2.1, hI.2.2.1, hI.2.2.2.1, hI.2.2.2.2⟩
    rw [hKd]
    by_cases e : m = n
    · rw [e, upm_ne _ _ _ (by omega), upm_eq, upm_eq]
    · rw [upm_ne _ _ _ (by omega), upm_at, if_neg (fun q => by omega), upm_at, if_neg (fun q => by omega), upm_ne _ _ _ (by omega)]
      exact hI.1.2.2.2.2.2
  · rw [if_neg hv]
    unfold R_bend
    dsimp only
    rw [if_neg (by rw [hS.2.1]; exact hv)]
    exact ⟨rfl, H⟩
theorem s_lose {I : Mem} (H : Rel I) {s is : Int32} (his : is = 0 ∨ is = 1) : (F_lose I s is).1 = (R_lose (F_lose I s is).2 s is).1 ∧ Rel (R_lose (F_lose I s is).2 s is).2 := by
  obtain ⟨hS, hW, hT, hB, hL, hC, hK_, hM, hO, hG, hH⟩ := id H
  unfold F_lose
  by_cases hv : isS s (I 0 2)
  · rw [if_pos hv]
    have hn := isS_n (M := 9) hv hS.1
    have hb9 := (hS.2.2 _ hn.2).2.2.2.1 hn.1
    unfold R_lose
    dsimp only
    have hv2 : isS s (upm I (41 + 2 * s.toNatClampNeg) 6 (if is = 0 then 1 else 0) 151 1) := by rw [upm_ne _ _ _ (by omega), hS.2.1]; exact hv
    rw [if_pos hv2]
    have e_ : upm I (41 + 2 * s.toNatClampNeg) 6 (if is = 0 then 1 else 0) 160 s.toNatClampNeg = I 160 s.toNatClampNeg := by rw [upm_ne _ _ _ (by omega)]
    refine ⟨?_, ?_⟩
    · rcases hb9 with q | q
      · rw [if_neg (by rw [q.1]; decide)]
        show (1 : Int32) = if _ then 1 else 0
        rw [if_pos (e_.trans q.2)]
      · rw [if_pos q.1]
        show (0 : Int32) = if _ then 1 else 0
        rw [if_neg (by rw [e_, q.2]; decide)]
    clear e_
    generalize s.toNatClampNeg = n at *
    obtain ⟨K, hKd⟩ : ∃ K, K = upm (upm I (41 + 2 * n) 6 (if is = 0 then 1 else 0)) 160 n is := ⟨_, rfl⟩
    show Rel (upm (upm I (41 + 2 * n) 6 (if is = 0 then 1 else 0)) 160 n is)
    rw [← hKd]
    have hK : ∀ a, (a ≠ 41 + 2 * n ∧ a ≠ 160) → K a = I a := fun a ha => by rw [hKd, upm_ne _ _ _ (by omega), upm_ne _ _ _ (by omega)]
    have h0 : ∀ j, True → K 0 j = I 0 j := fun j _ => by rw [hK 0 (by omega)]
    have h151 : ∀ j, True → K 151 j = I 151 j := fun j _ => by rw [hK 151 (by omega)]
    have hcell : ∀ m j, j ≠ 6 → K (41 + 2 * m) j = I (41 + 2 * m) j := fun m j hj => by rw [hKd, upm_ne _ _ _ (by omega), upm_at, if_neg (fun q => hj q.2)]
    refine ⟨?_,
      RW_of (fun a ha => hK a (by omega)) (h0 4 trivial) (h151 10 trivial) hW,
      RT_of (fun a ha => hK a (by omega)) (h151 13 trivial) (h151 18 trivial) hT,
      RB_of (fun a ha => hK a (by omega)) hB,
      RLt_of (fun a ha => hK a (by omega)) (h151 22 trivial) (h151 23 trivial) (h151 24 trivial) (h151 25 trivial) hL,
      RC_of (fun a ha => hK a (by omega)) (h0 11 trivial) (h151 28 trivial) hC,
      RK_of (fun a ha => hK a (by omega)) hK_,
      RM_of (fun a ha => hK a (by omega)) (fun j _ _ => by rw [hK 27 (by omega)]) (fun j j1 j2 => h151 j trivial) hM,
      RO_of (fun a ha => hK a (by omega)) (h0 16 trivial) (h151 42 trivial) hO,
      RG_of (fun a ha => hK a (by omega)) hG,
      RH_of (fun a ha => hK a (by omega)) hH⟩
    unfold RS
    rw [h0 2 trivial, h151 1 trivial]
    refine ⟨hS.1, hS.2.1, fun m hm => ?_⟩
    have hI := hS.2.2 m hm
    unfold StOk
    rw [hcell m 0 (by decide), hcell m 1 (by decide), hcell m 2 (by decide), hcell m 3 (by decide), hcell m 4 (by decide), hcell m 5 (by decide), hK (41 + 2 * m + 1) (by omega), hK 153 (by omega), hK 154 (by omega), hK 155 (by omega), hK 156 (by omega), hK 157 (by omega), hK 158 (by omega), hK 159 (by omega)]
    refine ⟨hI.1, hI.2.1, hI.2.2.1, fun q => ?_, fun q => ?_⟩
    · rw [hKd]
      by_cases e : m = n
      · rw [e, upm_ne _ _ _ (by omega), upm_eq, upm_eq]
        rcases his with z | z <;> rw [z] <;> decide
      · rw [upm_ne _ _ _ (by omega), upm_at, if_neg (fun q => by omega), upm_at, if_neg (fun q => by omega), upm_ne _ _ _ (by omega)]
        exact hI.2.2.2.1 q
    · rw [hKd, upm_at, if_neg (fun z => by omega), upm_ne _ _ _ (by omega)]
      exact hI.2.2.2.2 q
  · rw [if_neg hv]
    unfold R_lose
    dsimp only
    rw [if_neg (by rw [hS.2.1]; exact hv)]
    exact ⟨rfl, H⟩
theorem s_told {I : Mem} (H : Rel I) (s t : Int32) : F_told I s t = R_told I s t := by
  obtain ⟨hS, hW, hT, hB, hL, hC, hK_, hM, hO, hG, hH⟩ := id H
  unfold F_told R_told
  rw [hS.2.1]
  by_cases hv : isS s (I 0 2)
  · rw [if_pos hv, if_pos hv]
    have hn := isS_n (M := 9) hv hS.1
    have hI := hS.2.2 _ hn.2
    have hb9 := hI.2.2.2.1 hn.1
    have hh := hI.2.2.1.2.2
    rw [hI.1.1, hI.1.2.1, hI.1.2.2.1, hI.1.2.2.2.1, hI.1.2.2.2.2.1]
    rw [hI.1.2.2.2.2.1] at hh
    generalize I 153 s.toNatClampNeg = ho at hh
    have e1 : b2i (¬ ho = 0) = (if 0 < ho then 1 else 0) := by
      by_cases q : ho = 0
      · rw [b2i_f (fun z => z q), q]
        decide
      · rw [b2i_t q, if_pos (by rw [Int32.lt_iff_toInt_lt, z32]; rw [i32_eq, z32] at q; omega)]
    have e2 : (if ho = 0 then (-4 : Int32) else ho) = (if 0 < ho then ho else -4) := by
      by_cases q : ho = 0
      · rw [if_pos q, q]
        decide
      · rw [if_neg q, if_pos (by rw [Int32.lt_iff_toInt_lt, z32]; rw [i32_eq, z32] at q; omega)]
    have e3 : (if I (41 + 2 * s.toNatClampNeg) 6 = 0 then (0 : Int32) else 1) = (if I 160 s.toNatClampNeg = 0 then 1 else 0) := by
      rcases hb9 with q | q <;> (rw [q.1, q.2]; decide)
    rw [e1, e2, e3]
  · rw [if_neg hv, if_neg hv]
