/-! THE FLIGHT as a function of its numbers. pr: 0 weight, 1 grip, 2 loss, 3 drag, 4 hover, 5 bend, 6.. lifts, 10.. the wind's speeds, 14.. where it blows to. v: x, y, height, climb, way, speed, spin, lean -/
def sinTab (d : Nat) : Int32 := ([0, 17, 35, 52, 70, 87, 105, 122, 139, 156, 174, 191, 208, 225, 242, 259, 276, 292, 309, 326, 342, 358, 375, 391, 407, 423, 438, 454, 469, 485, 500, 515, 530, 545, 559, 574, 588, 602, 616, 629, 643, 656, 669, 682, 695, 707, 719, 731, 743, 755, 766, 777, 788, 799, 809, 819, 829, 839, 848, 857, 866, 875, 883, 891, 899, 906, 914, 921, 927, 934, 940, 946, 951, 956, 961, 966, 970, 974, 978, 982, 985, 988, 990, 993, 995, 996, 998, 999, 999, 1000, 1000] : List Int32).getD d 0
def sinT (d : Int32) : Int32 := if 180 < d then -(sinTab (sX d).toNatClampNeg) else sinTab (sX d).toNatClampNeg
def cosT (d : Int32) : Int32 := sinT (if 270 ≤ d then d - 270 else d + 90)
theorem R_sine_T {I : Mem} (h : I 152 = sinTab) (d : Int32) : R_sine I d = sinT d := by unfold R_sine sinT; rw [h]
theorem R_cosine_T {I : Mem} (h : I 152 = sinTab) (d : Int32) : R_cosine I d = cosT d := by unfold R_cosine cosT; rw [R_sine_T h]
abbrev Vec : Type := Nat → Int32
def pC (pr v : Vec) : Int32 := heldI (v 3 + (liftV (pr (6 + (bandS (v 5)).toNatClampNeg)) (pr 4) (v 6) * cosT (v 7) / 1000 - pr 0) / 10) (-80) 80
def pW (pr v : Vec) : Int32 := wayR (v 4 + (pr 1 + pr 5) * v 6 * sinT (v 7) / 100000)
def pX (pr v : Vec) : Int32 := v 0 + v 5 * sinT (pW pr v / 100) / 1000 + pr (10 + (bandH (v 2 + pC pr v)).toNatClampNeg) * sinT (pr (14 + (bandH (v 2 + pC pr v)).toNatClampNeg)) / 1000
def pY (pr v : Vec) : Int32 := v 1 + v 5 * cosT (pW pr v / 100) / 1000 + pr (10 + (bandH (v 2 + pC pr v)).toNatClampNeg) * cosT (pr (14 + (bandH (v 2 + pC pr v)).toNatClampNeg)) / 1000
def pst (pr : Vec) (t : Int32) (v : Vec) : Vec := fun j => if j = 0 then pX pr v else if j = 1 then pY pr v else if j = 2 then v 2 + pC pr v else if j = 3 then pC pr v else if j = 4 then pW pr v else if j = 5 then heldI (v 5 - pr 3) 20 250 else if j = 6 then heldI (v 6 - pr 2) 0 1000 else if j = 7 then (if t - t / 4 * 4 = 0 then heldI (v 7 - 1) 0 90 else v 7) else v j
def vSeq (pr v0 : Vec) : Nat → Vec
  | 0 => v0
  | n + 1 => pst pr (nI (n + 1)) (vSeq pr v0 n)
def v0of (lean angle strength spin : Int32) : Vec := fun j => if j = 2 then 150 else if j = 4 then 100 * angle else if j = 5 then strength else if j = 6 then spin else if j = 7 then lean else 0
abbrev nearP (x y px py far : Int32) : Prop := ((x - px).toInt64 * (x - px).toInt64 + (y - py).toInt64 * (y - py).toInt64).toInt ≤ (far.toInt64 * far.toInt64).toInt
abbrev treeP (v : Vec) (T : Nat → Nat → Int32) (t : Nat) : Prop := nearP (v 0) (v 1) (T 0 t) (T 1 t) (T 2 t) ∧ (v 2).toInt ≤ (T 3 t).toInt
/-- the first of i, i + 1 .. i + m - 1 that is p; else i + m -/
def fst1 (p : Nat → Bool) : Nat → Nat → Nat
  | 0, i => i
  | m + 1, i => if p i = true then i else fst1 p m (i + 1)
theorem fst1_ge (p : Nat → Bool) : ∀ (m i : Nat), i ≤ fst1 p m i ∧ fst1 p m i ≤ i + m
  | 0, i => ⟨Nat.le_refl _, Nat.le_refl _⟩
  | m + 1, i => by
    unfold fst1
    split
    · omega
    · have := fst1_ge p m (i + 1)
      omega
theorem fst1_hit (p : Nat → Bool) : ∀ (m i : Nat), fst1 p m i < i + m → p (fst1 p m i) = true
  | 0, i, h => by unfold fst1 at h; omega
  | m + 1, i, h => by
    unfold fst1 at h ⊢
    split
    · assumption
    · rename_i q
      rw [if_neg q] at h
      exact fst1_hit p m (i + 1) (by omega)
theorem fst1_miss (p : Nat → Bool) : ∀ (m i k : Nat), i ≤ k → k < fst1 p m i → p k = false
  | 0, i, k, h1, h2 => by unfold fst1 at h2; omega
  | m + 1, i, k, h1, h2 => by
    unfold fst1 at h2
    split at h2
    · omega
    · rename_i q
      by_cases e : k = i
      · subst e
        simpa using q
      · exact fst1_miss p m (i + 1) k (by omega) h2
theorem fst1_eq (p : Nat → Bool) {m i n : Nat} (h1 : i ≤ n) (h2 : n < i + m) (hn : p n = true) (hm : ∀ k, i ≤ k → k < n → p k = false) : fst1 p m i = n := by
  have hg := fst1_ge p m i
  rcases Nat.lt_trichotomy (fst1 p m i) n with h | h | h
  · have := fst1_hit p m i (by omega)
    rw [hm _ hg.1 h] at this
    cases this
  · exact h
  · have := fst1_miss p m i n h1 h
    rw [hn] at this
    cases this
theorem fst1_none (p : Nat → Bool) {m i : Nat} (hm : ∀ k, i ≤ k → k < i + m → p k = false) : fst1 p m i = i + m := by
  have hg := fst1_ge p m i
  rcases Nat.lt_or_ge (fst1 p m i) (i + m) with h | h
  · have := fst1_hit p m i h
    rw [hm _ hg.1 h] at this
    cases this
  · omega
def hitN (v : Vec) (T : Nat → Nat → Int32) (n : Nat) : Nat := fst1 (fun t => decide (treeP v T t)) n 0
def endV (v : Vec) (tk : Int32) (T : Nat → Nat → Int32) (n : Nat) (ring : Int32) : Int32 := if hitN v T n < n then 3 else if (v 2).toInt ≤ 0 then 1 else if 20 ≤ tk.toInt ∧ nearP (v 0) (v 1) 0 0 ring ∧ (50 ≤ (v 2).toInt ∧ (v 2).toInt ≤ 250) then 2 else if tk.toInt = 400 then 4 else 0
def hitV (v : Vec) (T : Nat → Nat → Int32) (n : Nat) : Int32 := if hitN v T n < n then nI (hitN v T n) else -4
def prM (I : Mem) (s bd w : Int32) : Vec := fun j => if j = 0 then I 154 s.toNatClampNeg else if j = 1 then I 155 s.toNatClampNeg else if j = 2 then I 156 s.toNatClampNeg else if j = 3 then I 157 s.toNatClampNeg else if j = 4 then I 153 s.toNatClampNeg else if j = 5 then bd else if j < 10 then I 159 (4 * s.toNatClampNeg + (j - 6)) else if j < 14 then (if w < 0 then 0 else I 161 (4 * w.toNatClampNeg + (j - 10))) else if j < 18 then (if w < 0 then 0 else I 162 (4 * w.toNatClampNeg + (j - 14))) else 0
def trM (I : Mem) : Nat → Nat → Int32 := fun j t => if j = 0 then I 163 t else if j = 1 then I 164 t else if j = 2 then I 165 t else I 166 t
theorem m4N {s b : Int32} (h0 : 0 ≤ s.toInt) (h1 : s.toInt < 9) (hb : 0 ≤ b.toInt ∧ b.toInt ≤ 3) : (4 * s + b).toNatClampNeg = 4 * s.toNatClampNeg + b.toNatClampNeg := by
  have h := m4_tI (s := s) (b := b) (n := 9) h0 h1 hb (by omega)
  rw [tn, tn, tn, h]
  omega
theorem bS_lt (x : Int32) : (bandS x).toNatClampNeg < 4 := by
  have := bandS_bd x
  rw [tn]
  omega
theorem bH_lt (x : Int32) : (bandH x).toNatClampNeg < 4 := by
  have := bandH_bd x
  rw [tn]
  omega
theorem zmd (x : Int32) : (0 : Int32) * x / 1000 = 0 := by
  rw [Int32.zero_mul]
  decide
theorem prM_lift (I : Mem) (s bd w : Int32) {b : Nat} (hb : b < 4) : prM I s bd w (6 + b) = I 159 (4 * s.toNatClampNeg + b) := by
  unfold prM
  rw [if_neg (by omega), if_neg (by omega), if_neg (by omega), if_neg (by omega), if_neg (by omega), if_neg (by omega), if_pos (by omega)]
  congr 1
  omega
theorem prM_sp (I : Mem) (s bd w : Int32) {b : Nat} (hb : b < 4) : prM I s bd w (10 + b) = if w < 0 then 0 else I 161 (4 * w.toNatClampNeg + b) := by
  unfold prM
  rw [if_neg (by omega), if_neg (by omega), if_neg (by omega), if_neg (by omega), if_neg (by omega), if_neg (by omega), if_neg (by omega), if_pos (by omega)]
  rw [show 10 + b - 10 = b by omega]
theorem prM_to (I : Mem) (s bd w : Int32) {b : Nat} (hb : b < 4) : prM I s bd w (14 + b) = if w < 0 then 0 else I 162 (4 * w.toNatClampNeg + b) := by
  unfold prM
  rw [if_neg (by omega), if_neg (by omega), if_neg (by omega), if_neg (by omega), if_neg (by omega), if_neg (by omega), if_neg (by omega), if_neg (by omega), if_pos (by omega)]
  rw [show 14 + b - 14 = b by omega]
set_option maxHeartbeats 1000000 in
/-- what the reference's step does -/
theorem R_steps_is (J : Mem) (s bd w : Int32) (hT : J 152 = sinTab) (hs : 0 ≤ s.toInt ∧ s.toInt < 9) (hw : w.toInt < 8) :
    (∀ j, j < 8 → R_steps J s bd w 167 j = pst (prM J s bd w) (J 151 20 + 1) (J 167) j) ∧ (∀ a, a ≠ 167 → a ≠ 151 → R_steps J s bd w a = J a) ∧ (∀ j, R_steps J s bd w 151 j = if j = 20 then J 151 20 + 1 else J 151 j) := by
  unfold R_steps
  obtain ⟨M1, h1⟩ : ∃ M, M = rS1 J := ⟨_, rfl⟩
  obtain ⟨M2, h2⟩ : ∃ M, M = rS2 M1 s := ⟨_, rfl⟩
  obtain ⟨M3, h3⟩ : ∃ M, M = rS3 M2 := ⟨_, rfl⟩
  obtain ⟨M4, h4⟩ : ∃ M, M = rS4 M3 s bd := ⟨_, rfl⟩
  obtain ⟨M5, h5⟩ : ∃ M, M = rS5 M4 := ⟨_, rfl⟩
  obtain ⟨M6, h6⟩ : ∃ M, M = rS6 M5 := ⟨_, rfl⟩
  obtain ⟨M8, h8⟩ : ∃ M, M = rSw M6 w := ⟨_, rfl⟩
  obtain ⟨M9, h9⟩ : ∃ M, M = rS9 M8 s := ⟨_, rfl⟩
  obtain ⟨M10, h10⟩ : ∃ M, M = rS10 M9 s := ⟨_, rfl⟩
  rw [← h1, ← h2, ← h3, ← h4, ← h5, ← h6, ← h8, ← h9, ← h10]
  have o1 : ∀ a, a ≠ 167 → a ≠ 151 → M1 a = J a := fun a _ hb => by rw [h1]; exact upm_ne _ _ _ hb
  have o2 : ∀ a, a ≠ 167 → M2 a = M1 a := fun a ha => by rw [h2]; exact upm_ne _ _ _ ha
  have o3 : ∀ a, a ≠ 167 → M3 a = M2 a := fun a ha => by rw [h3]; exact upm_ne _ _ _ ha
  have o4 : ∀ a, a ≠ 167 → M4 a = M3 a := fun a ha => by rw [h4]; exact upm_ne _ _ _ ha
  have o5 : ∀ a, a ≠ 167 → M5 a = M4 a := fun a ha => by rw [h5]; exact upm_ne _ _ _ ha
  have o6 : ∀ a, a ≠ 167 → M6 a = M5 a := fun a ha => by rw [h6]; exact upm_ne _ _ _ ha
  have o8 : ∀ a, a ≠ 167 → M8 a = M6 a := fun a ha => by
    rw [h8]
    unfold rSw
    split
    · rfl
    · unfold rS8 rS7
      rw [upm_ne _ _ _ ha, upm_ne _ _ _ ha]
  have o9 : ∀ a, a ≠ 167 → M9 a = M8 a := fun a ha => by rw [h9]; exact upm_ne _ _ _ ha
  have o10 : ∀ a, a ≠ 167 → M10 a = M9 a := fun a ha => by rw [h10]; exact upm_ne _ _ _ ha
  have o11 : ∀ a, a ≠ 167 → rS11 M10 a = M10 a := fun a ha => upm_ne _ _ _ ha
  have s1 : M1 152 = sinTab := by rw [o1 _ (by decide) (by decide), hT]
  have s3 : M3 152 = sinTab := by rw [o3 _ (by decide), o2 _ (by decide), s1]
  have s4 : M4 152 = sinTab := by rw [o4 _ (by decide), s3]
  have s5 : M5 152 = sinTab := by rw [o5 _ (by decide), s4]
  have s6 : M6 152 = sinTab := by rw [o6 _ (by decide), s5]
  have j1 : M1 167 = J 167 := by rw [h1]; exact upm_ne _ _ _ (by decide)
  -- climb
  have eL : R_liftOf M1 s = liftV (prM J s bd w (6 + (bandS (J 167 5)).toNatClampNeg)) (prM J s bd w 4) (J 167 6) := by
    unfold R_liftOf
    rw [j1, o1 159 (by decide) (by decide), o1 153 (by decide) (by decide), prM_lift _ _ _ _ (bS_lt _), m4N hs.1 hs.2 (bandS_bd _)]
    rfl
  have c2 : M2 167 3 = pC (prM J s bd w) (J 167) := by
    rw [h2]
    unfold rS2
    rw [upm_eq, eL, R_cosine_T s1, j1, o1 154 (by decide) (by decide)]
    rfl
  have k2 : ∀ j, j ≠ 3 → M2 167 j = J 167 j := fun j hj => by
    rw [h2]
    unfold rS2
    rw [upm_at, if_neg (fun q => hj q.2), j1]
  have c3 : M3 167 2 = J 167 2 + pC (prM J s bd w) (J 167) := by
    rw [h3]
    unfold rS3
    rw [upm_eq, k2 2 (by decide), c2]
  have k3 : ∀ j, j ≠ 2 → M3 167 j = M2 167 j := fun j hj => by
    rw [h3]
    unfold rS3
    rw [upm_at, if_neg (fun q => hj q.2)]
  have r155 : M3 155 = J 155 := by rw [o3 _ (by decide), o2 _ (by decide), o1 _ (by decide) (by decide)]
  have c4 : M4 167 4 = pW (prM J s bd w) (J 167) := by
    rw [h4]
    unfold rS4
    rw [upm_eq, R_sine_T s3, k3 4 (by decide), k2 4 (by decide), k3 6 (by decide), k2 6 (by decide), k3 7 (by decide), k2 7 (by decide), r155]
    rfl
  have k4 : ∀ j, j ≠ 4 → M4 167 j = M3 167 j := fun j hj => by
    rw [h4]
    unfold rS4
    rw [upm_at, if_neg (fun q => hj q.2)]
  have c5 : M5 167 0 = J 167 0 + J 167 5 * sinT (pW (prM J s bd w) (J 167) / 100) / 1000 := by
    rw [h5]
    unfold rS5
    rw [upm_eq, R_sine_T s4, c4, k4 0 (by decide), k3 0 (by decide), k2 0 (by decide), k4 5 (by decide), k3 5 (by decide), k2 5 (by decide)]
  have k5 : ∀ j, j ≠ 0 → M5 167 j = M4 167 j := fun j hj => by
    rw [h5]
    unfold rS5
    rw [upm_at, if_neg (fun q => hj q.2)]
  have c6 : M6 167 1 = J 167 1 + J 167 5 * cosT (pW (prM J s bd w) (J 167) / 100) / 1000 := by
    rw [h6]
    unfold rS6
    rw [upm_eq, R_cosine_T s5, k5 4 (by decide), c4, k5 1 (by decide), k4 1 (by decide), k3 1 (by decide), k2 1 (by decide), k5 5 (by decide), k4 5 (by decide), k3 5 (by decide), k2 5 (by decide)]
  have k6 : ∀ j, j ≠ 1 → M6 167 j = M5 167 j := fun j hj => by
    rw [h6]
    unfold rS6
    rw [upm_at, if_neg (fun q => hj q.2)]
  have e62 : M6 167 2 = J 167 2 + pC (prM J s bd w) (J 167) := by rw [k6 2 (by decide), k5 2 (by decide), k4 2 (by decide), c3]
  have r161 : M6 161 = J 161 := by rw [o6 _ (by decide), o5 _ (by decide), o4 _ (by decide), o3 _ (by decide), o2 _ (by decide), o1 _ (by decide) (by decide)]
  have r162 : M6 162 = J 162 := by rw [o6 _ (by decide), o5 _ (by decide), o4 _ (by decide), o3 _ (by decide), o2 _ (by decide), o1 _ (by decide) (by decide)]
  have c8 : M8 167 0 = pX (prM J s bd w) (J 167) ∧ M8 167 1 = pY (prM J s bd w) (J 167) ∧ ∀ j, j ≠ 0 → j ≠ 1 → M8 167 j = M6 167 j := by
    unfold pX pY
    rw [h8, prM_sp _ _ _ _ (bH_lt _), prM_to _ _ _ _ (bH_lt _)]
    unfold rSw
    by_cases hw0 : w < 0
    · rw [if_pos hw0, if_pos hw0, if_pos hw0, zmd, zmd, Int32.add_zero, Int32.add_zero]
      exact ⟨by rw [k6 0 (by decide), c5], c6, fun _ _ _ => rfl⟩
    · rw [if_neg hw0, if_neg hw0, if_neg hw0]
      have hw1 : 0 ≤ w.toInt := by rw [Int32.lt_iff_toInt_lt, z32] at hw0; omega
      rw [m4N hw1 (by omega) (bandH_bd _), e62]
      refine ⟨?_, ?_, ?_⟩
      · unfold rS8 rS7
        rw [upm_at, if_neg (by decide), upm_eq, R_sine_T s6, k6 0 (by decide), c5, r161, r162]
      · unfold rS8
        have s7 : rS7 M6 (4 * w.toNatClampNeg + (bandH (J 167 2 + pC (prM J s bd w) (J 167))).toNatClampNeg) 152 = sinTab := by
          unfold rS7
          rw [upm_ne _ _ _ (by decide), s6]
        rw [upm_eq, R_cosine_T s7]
        unfold rS7
        rw [upm_at, if_neg (by decide), upm_ne _ _ _ (by decide), upm_ne _ _ _ (by decide), c6, r161, r162]
      · intro j hj0 hj1
        unfold rS8 rS7
        rw [upm_at, if_neg (fun q => hj1 q.2), upm_at, if_neg (fun q => hj0 q.2)]
  have q8 : ∀ j, j ≠ 0 → j ≠ 1 → j ≠ 2 → j ≠ 3 → j ≠ 4 → M8 167 j = J 167 j := fun j a0 a1 a2 a3 a4 => by
    rw [c8.2.2 j a0 a1, k6 j a1, k5 j a0, k4 j a4, k3 j a2, k2 j a3]
  have r156 : M8 156 = J 156 := by rw [o8 _ (by decide), o6 _ (by decide), o5 _ (by decide), o4 _ (by decide), o3 _ (by decide), o2 _ (by decide), o1 _ (by decide) (by decide)]
  have r157 : M9 157 = J 157 := by rw [o9 _ (by decide), o8 _ (by decide), o6 _ (by decide), o5 _ (by decide), o4 _ (by decide), o3 _ (by decide), o2 _ (by decide), o1 _ (by decide) (by decide)]
  have r151 : M10 151 = M1 151 := by rw [o10 _ (by decide), o9 _ (by decide), o8 _ (by decide), o6 _ (by decide), o5 _ (by decide), o4 _ (by decide), o3 _ (by decide), o2 _ (by decide)]
  have t151 : M1 151 20 = J 151 20 + 1 := by
    rw [h1]
    exact upm_eq _ _ _ _
  have c9 : M9 167 6 = heldI (J 167 6 - J 156 s.toNatClampNeg) 0 1000 := by
    rw [h9]
    unfold rS9
    rw [upm_eq, q8 6 (by decide) (by decide) (by decide) (by decide) (by decide), r156]
  have k9 : ∀ j, j ≠ 6 → M9 167 j = M8 167 j := fun j hj => by
    rw [h9]
    unfold rS9
    rw [upm_at, if_neg (fun q => hj q.2)]
  have c10 : M10 167 5 = heldI (J 167 5 - J 157 s.toNatClampNeg) 20 250 := by
    rw [h10]
    unfold rS10
    rw [upm_eq, k9 5 (by decide), q8 5 (by decide) (by decide) (by decide) (by decide) (by decide), r157]
  have k10 : ∀ j, j ≠ 5 → M10 167 j = M9 167 j := fun j hj => by
    rw [h10]
    unfold rS10
    rw [upm_at, if_neg (fun q => hj q.2)]
  have k11 : ∀ j, j ≠ 7 → rS11 M10 167 j = M10 167 j := fun j hj => by
    unfold rS11
    rw [upm_at, if_neg (fun q => hj q.2)]
  refine ⟨?_, ?_, ?_⟩
  · intro j hj
    rcases (show j = 0 ∨ j = 1 ∨ j = 2 ∨ j = 3 ∨ j = 4 ∨ j = 5 ∨ j = 6 ∨ j = 7 by omega) with rfl | rfl | rfl | rfl | rfl | rfl | rfl | rfl
    · rw [k11 _ (by decide), k10 _ (by decide), k9 _ (by decide), c8.1]
      rfl
    · rw [k11 _ (by decide), k10 _ (by decide), k9 _ (by decide), c8.2.1]
      rfl
    · rw [k11 _ (by decide), k10 _ (by decide), k9 _ (by decide), c8.2.2 2 (by decide) (by decide), e62]
      rfl
    · rw [k11 _ (by decide), k10 _ (by decide), k9 _ (by decide), c8.2.2 3 (by decide) (by decide), k6 3 (by decide), k5 3 (by decide), k4 3 (by decide), k3 3 (by decide), c2]
      rfl
    · rw [k11 _ (by decide), k10 _ (by decide), k9 _ (by decide), c8.2.2 4 (by decide) (by decide), k6 4 (by decide), k5 4 (by decide), c4]
      rfl
    · rw [k11 _ (by decide), c10]
      rfl
    · rw [k11 _ (by decide), k10 _ (by decide), c9]
      rfl
    · unfold rS11
      rw [upm_eq, k10 7 (by decide), k9 7 (by decide), q8 7 (by decide) (by decide) (by decide) (by decide) (by decide), r151, t151]
      rfl
  · intro a ha hb
    rw [o11 a ha, o10 a ha, o9 a ha, o8 a ha, o6 a ha, o5 a ha, o4 a ha, o3 a ha, o2 a ha, o1 a ha hb]
  · intro j
    rw [o11 151 (by decide), r151, h1]
    unfold rS1
    rw [upm_at]
    by_cases e : j = 20
    · rw [if_pos ⟨rfl, e⟩, if_pos e]
    · rw [if_neg (fun q => e q.2), if_neg e]
