/-! THE MATCH AS A PURE SEARCH -/
abbrev Ms : Type := Int × (Nat → Int32)
def foldS (step : Nat → Ms → Ms) : Nat → Ms → Ms
  | 0, z => z
  | k + 1, z => step k (foldS step k z)
theorem foldS_s (step : Nat → Ms → Ms) (k : Nat) (z : Ms) : foldS step (k + 1) z = step k (foldS step k z) := rfl
def updR (row : Nat → Int32) (c s : Nat) : Nat → Int32 := fun j => if j = c then nI s else row j
/-- m throws are left, c were thrown as row says; fr: the sticks that are free -/
def mV (Q : Nat → Nat → Int) : Nat → Nat → (Nat → Int32) → Nat → Int → Ms → Ms
  | 0, _, row, _, pts, z => if z.1 < pts then (pts, row) else z
  | m + 1, c, row, fr, pts, z => foldS (fun s y => if fr.testBit s = true then mV Q m (c + 1) (updR row c s) (fr - 2 ^ s) (pts + Q c s) y else y) 9 z
abbrev mStep (Q : Nat → Nat → Int) (m c : Nat) (row : Nat → Int32) (fr : Nat) (pts : Int) : Nat → Ms → Ms := fun s y => if fr.testBit s = true then mV Q m (c + 1) (updR row c s) (fr - 2 ^ s) (pts + Q c s) y else y
theorem mV_s (Q : Nat → Nat → Int) (m c : Nat) (row : Nat → Int32) (fr : Nat) (pts : Int) (z : Ms) : mV Q (m + 1) c row fr pts z = foldS (mStep Q m c row fr pts) 9 z := rfl
theorem mV_0 (Q : Nat → Nat → Int) (c : Nat) (row : Nat → Int32) (fr : Nat) (pts : Int) (z : Ms) : mV Q 0 c row fr pts z = if z.1 < pts then (pts, row) else z := rfl
theorem fold_id {step : Nat → Ms → Ms} {z : Ms} (h : ∀ s, step s z = z) : ∀ k, foldS step k z = z
  | 0 => rfl
  | k + 1 => by rw [foldS_s, fold_id h k, h]
theorem mV_prune {Q : Nat → Nat → Int} (hQ : ∀ c s, 0 ≤ Q c s ∧ Q c s ≤ 50) : ∀ (m c : Nat) (row : Nat → Int32) (fr : Nat) (pts : Int) (z : Ms), pts + 50 * (m : Int) ≤ z.1 → mV Q m c row fr pts z = z
  | 0, c, row, fr, pts, z, h => by
    rw [mV_0, if_neg (by omega)]
  | m + 1, c, row, fr, pts, z, h => by
    rw [mV_s]
    refine fold_id (fun s => ?_) 9
    show (if fr.testBit s = true then _ else z) = z
    have q := hQ c s
    split
    · exact mV_prune hQ m (c + 1) _ _ _ z (by omega)
    · rfl
theorem fold_mono {step : Nat → Ms → Ms} (h : ∀ s y, y.1 ≤ (step s y).1) (z : Ms) : ∀ k, z.1 ≤ (foldS step k z).1
  | 0 => Int.le_refl _
  | k + 1 => by
    rw [foldS_s]
    exact Int.le_trans (fold_mono h z k) (h k _)
theorem mV_mono (Q : Nat → Nat → Int) : ∀ (m c : Nat) (row : Nat → Int32) (fr : Nat) (pts : Int) (z : Ms), z.1 ≤ (mV Q m c row fr pts z).1
  | 0, c, row, fr, pts, z => by
    rw [mV_0]
    split
    · rename_i q
      exact Int.le_of_lt q
    · exact Int.le_refl _
  | m + 1, c, row, fr, pts, z => by
    rw [mV_s]
    refine fold_mono (fun s y => ?_) z 9
    show y.1 ≤ (if fr.testBit s = true then _ else y).1
    split
    · exact mV_mono Q m (c + 1) _ _ _ y
    · exact Int.le_refl _
theorem fold_bd {step : Nat → Ms → Ms} {B : Int} (h : ∀ s y, y.1 ≤ B → (step s y).1 ≤ B) (z : Ms) (hz : z.1 ≤ B) : ∀ k, (foldS step k z).1 ≤ B
  | 0 => hz
  | k + 1 => by
    rw [foldS_s]
    exact h k _ (fold_bd h z hz k)
theorem mV_bd {Q : Nat → Nat → Int} (hQ : ∀ c s, 0 ≤ Q c s ∧ Q c s ≤ 50) : ∀ (m c : Nat) (row : Nat → Int32) (fr : Nat) (pts : Int) (z : Ms), pts + 50 * (m : Int) ≤ 250 → z.1 ≤ 250 → (mV Q m c row fr pts z).1 ≤ 250
  | 0, c, row, fr, pts, z, h, hz => by
    rw [mV_0]
    split
    · show pts ≤ 250
      omega
    · exact hz
  | m + 1, c, row, fr, pts, z, h, hz => by
    rw [mV_s]
    refine fold_bd (B := 250) (fun s y hy => ?_) z hz 9
    show (if fr.testBit s = true then _ else y).1 ≤ 250
    have q := hQ c s
    split
    · exact mV_bd hQ m (c + 1) _ _ _ y (by omega) hy
    · exact hy
/-- the same points, and the same order once there are any -/
abbrev msA (z y : Ms) : Prop := z.1 = y.1 ∧ (0 ≤ z.1 → z.2 = y.2)
theorem fold_ag {step : Nat → Ms → Ms} (h : ∀ s z y, msA z y → msA (step s z) (step s y)) {z y : Ms} (hz : msA z y) : ∀ k, msA (foldS step k z) (foldS step k y)
  | 0 => hz
  | k + 1 => by
    rw [foldS_s, foldS_s]
    exact h k _ _ (fold_ag h hz k)
theorem mV_ag {Q : Nat → Nat → Int} (hQ : ∀ c s, 0 ≤ Q c s ∧ Q c s ≤ 50) : ∀ (m c : Nat) (row : Nat → Int32) (fr : Nat) (pts : Int) (z y : Ms), 0 ≤ pts → msA z y → msA (mV Q m c row fr pts z) (mV Q m c row fr pts y)
  | 0, c, row, fr, pts, z, y, hp, h => by
    rw [mV_0, mV_0, h.1]
    split
    · exact ⟨rfl, fun _ => rfl⟩
    · exact h
  | m + 1, c, row, fr, pts, z, y, hp, h => by
    rw [mV_s, mV_s]
    refine fold_ag (fun s z y h2 => ?_) h 9
    show msA (if fr.testBit s = true then _ else z) (if fr.testBit s = true then _ else y)
    have q := hQ c s
    split
    · exact mV_ag hQ m (c + 1) _ _ _ z y (by omega) h2
    · exact h2
theorem clrB : ∀ fr, fr < 512 → ∀ s, s < 9 → fr.testBit s = true → nI fr &&& ((1 : Int32) <<< (nI s &&& 31) ^^^ (-1)) = nI (fr - 2 ^ s) ∧ pcN (fr - 2 ^ s) + 1 = pcN fr := by decide +kernel
theorem clr_bit : ∀ fr, fr < 512 → ∀ s, s < 9 → fr.testBit s = true → ∀ t, t < 9 → (fr - 2 ^ s).testBit t = (fr.testBit t && decide (¬ t = s)) := by decide +kernel
theorem no_bit : ∀ fr, fr < 512 → (∀ s, s < 9 → fr.testBit s = false) → pcN fr = 0 := by decide +kernel
theorem fold_hit {step : Nat → Ms → Ms} (h : ∀ s y, y.1 ≤ (step s y).1) {s : Nat} (hs : ∀ y, 0 ≤ (step s y).1) (z : Ms) : ∀ k, s < k → 0 ≤ (foldS step k z).1
  | 0, q => absurd q (by omega)
  | k + 1, q => by
    rw [foldS_s]
    by_cases e : s = k
    · rw [← e]
      exact hs _
    · exact Int.le_trans (fold_hit h hs z k (by omega)) (h k _)
theorem mV_pos {Q : Nat → Nat → Int} (hQ : ∀ c s, 0 ≤ Q c s ∧ Q c s ≤ 50) : ∀ (m c : Nat) (row : Nat → Int32) (fr : Nat) (pts : Int) (z : Ms), fr < 512 → m ≤ pcN fr → 0 ≤ pts → 0 ≤ (mV Q m c row fr pts z).1
  | 0, c, row, fr, pts, z, hf, hm, hp => by
    rw [mV_0]
    split
    · exact hp
    · omega
  | m + 1, c, row, fr, pts, z, hf, hm, hp => by
    obtain ⟨s, hs, hb⟩ : ∃ s, s < 9 ∧ fr.testBit s = true := Classical.byContradiction (fun q => by
      have := no_bit fr hf (fun s hs => by
        cases e : fr.testBit s
        · rfl
        · exact absurd ⟨s, hs, e⟩ q)
      omega)
    rw [mV_s]
    refine fold_hit (s := s) (fun t y => ?_) (fun y => ?_) z 9 hs
    · show y.1 ≤ (if fr.testBit t = true then _ else y).1
      split
      · exact mV_mono Q m (c + 1) _ _ _ y
      · exact Int.le_refl _
    · show 0 ≤ (if fr.testBit s = true then _ else y).1
      have q := hQ c s
      have e := (clrB fr hf s hs hb).2
      rw [if_pos hb]
      exact mV_pos hQ m (c + 1) _ _ _ y (Nat.lt_of_le_of_lt (Nat.sub_le _ _) hf) (by omega) (by omega)
/-- sticks beyond the last one are never free -/
theorem fold_end {step : Nat → Ms → Ms} {n : Nat} (h : ∀ s, n ≤ s → s < 9 → ∀ y, step s y = y) (z : Ms) : ∀ d, n + d ≤ 9 → foldS step (n + d) z = foldS step n z
  | 0, _ => rfl
  | d + 1, q => by
    rw [← Nat.add_assoc, foldS_s, h (n + d) (by omega) (by omega), fold_end h z d (by omega)]
theorem bag_high (p : Nat → Bool) {n s : Nat} (hn : n ≤ 9) (h : n ≤ s) (hs : s < 9) : (bagN p n).testBit s = false := by
  rw [bag_bit p n hn s hs]
  simp
  omega
/-! the throws in their order -/
theorem cnt_lt {p : Nat → Bool} {j k : Nat} (h : p k = true) (hk : k < j) : cntP p k < cntP p j := by
  have e : cntP p (k + 1) = cntP p k + 1 := if_pos h
  have := cnt_le p (k + 1) (j - (k + 1))
  rw [show k + 1 + (j - (k + 1)) = j by omega] at this
  omega
def atx (p : Nat → Bool) (c : Nat) : Nat := fst1 (fun j => p j && decide (cntP p j = c)) 5 0
theorem atx_is {p : Nat → Bool} {j : Nat} (h : p j = true) (hj : j < 5) : atx p (cntP p j) = j :=
  fst1_eq _ (Nat.zero_le _) (by omega) (by simp [h]) (fun k _ hk => by
    cases e : p k
    · rfl
    · have := cnt_lt (j := j) e hk
      simp
      omega)
theorem atx_ex {p : Nat → Bool} {c : Nat} : ∀ n, c < cntP p n → ∃ j, j < n ∧ p j = true ∧ cntP p j = c
  | 0, h => absurd h (Nat.not_lt_zero _)
  | n + 1, h => by
    by_cases q : p n = true
    · have e : cntP p (n + 1) = cntP p n + 1 := if_pos q
      by_cases z : c = cntP p n
      · exact ⟨n, by omega, q, z.symm⟩
      · obtain ⟨j, h1, h2, h3⟩ := atx_ex (p := p) (c := c) n (by omega)
        exact ⟨j, by omega, h2, h3⟩
    · have e : cntP p (n + 1) = cntP p n := if_neg q
      obtain ⟨j, h1, h2, h3⟩ := atx_ex (p := p) (c := c) n (by omega)
      exact ⟨j, by omega, h2, h3⟩
theorem ptsP_bd (z : FlR) : 0 ≤ (ptsP z).toInt ∧ (ptsP z).toInt ≤ 50 := by
  unfold ptsP
  split
  · decide
  · split
    · unfold ptsD
      split
      · rw [nI_tI (by omega)]
        omega
      · decide
    · decide
abbrev QF (I : Mem) : Nat → Nat → Int := fun c s => (ptF I (nI s) (I 26 (atx (mtF I) c))).toInt
abbrev QR (I : Mem) : Nat → Nat → Int := fun c s => (ptR I (nI s) (I 172 (atx (mtR I) c))).toInt
theorem QF_bd (I : Mem) : ∀ c s, 0 ≤ QF I c s ∧ QF I c s ≤ 50 := fun _ _ => ptsP_bd _
theorem QR_bd (I : Mem) : ∀ c s, 0 ≤ QR I c s ∧ QR I c s ≤ 50 := fun _ _ => ptsP_bd _
theorem updR_eq (row : Nat → Int32) (c s : Nat) : updR row c s c = nI s := if_pos rfl
theorem updR_ne (row : Nat → Int32) {c j : Nat} (s : Nat) (h : j ≠ c) : updR row c s j = row j := if_neg h
theorem cnt_up (p : Nat → Bool) (i : Nat) : ∀ d, cntP p (i + d) ≤ cntP p i + d
  | 0 => Nat.le_refl _
  | d + 1 => by
    have ih := cnt_up p i d
    rw [← Nat.add_assoc]
    show (if p (i + d) = true then cntP p (i + d) + 1 else cntP p (i + d)) ≤ _
    split <;> omega
theorem cnt_up5 (p : Nat → Bool) {i : Nat} (h : i ≤ 5) : cntP p 5 ≤ cntP p i + (5 - i) := by
  have := cnt_up p i (5 - i)
  rw [show i + (5 - i) = 5 by omega] at this
  exact this
