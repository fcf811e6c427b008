/-! copy and rows of both -/
def F_copy (I : Mem) (f i t j n : Int32) : Int32 × Mem := if (0 ≤ f.toInt ∧ f.toInt ≤ 3) ∧ (0 ≤ t.toInt ∧ t.toInt ≤ 3) then (if I (143 + 2 * f.toNatClampNeg) 0 = -1 ∨ I (143 + 2 * t.toNatClampNeg) 0 = -1 then (-11, I) else if I (143 + 2 * f.toNatClampNeg) 0 = I (143 + 2 * t.toNatClampNeg) 0 then (if hasP (I (143 + 2 * f.toNatClampNeg) 1) i n ∧ hasP (I (143 + 2 * t.toNatClampNeg) 1) j n then (n, cpM I (143 + 2 * f.toNatClampNeg + 1) (143 + 2 * t.toNatClampNeg + 1) i.toNatClampNeg j.toNatClampNeg n.toNatClampNeg) else (-13, I)) else (-12, I)) else (-1, I)
def cpR (I : Mem) (f i t j n : Nat) : Mem := rowQ (rowQ I 183 0 (fun k => I 182 (60 * f + i + k)) n) 182 (60 * t + j) (fun k => I 182 (60 * f + i + k)) n
def R_copy (I : Mem) (f i t j n : Int32) : Int32 × Mem := if (0 ≤ f.toInt ∧ f.toInt ≤ 3) ∧ (0 ≤ t.toInt ∧ t.toInt ≤ 3) then (if (I 180 f.toNatClampNeg).toInt < 0 ∨ (I 180 t.toNatClampNeg).toInt < 0 then (-11, I) else if I 180 f.toNatClampNeg = I 180 t.toNatClampNeg then (if n.toInt < 0 ∨ (R_finds I f (I 180 f.toNatClampNeg) i n).toInt < 0 ∨ (R_finds I t (I 180 t.toNatClampNeg) j n).toInt < 0 then (-13, I) else (n, cpR I f.toNatClampNeg i.toNatClampNeg t.toNatClampNeg j.toNatClampNeg n.toNatClampNeg)) else (-12, I)) else (-1, I)
theorem m60w {s i : Int32} {k : Nat} (hs : 0 ≤ s.toInt ∧ s.toInt ≤ 3) (hi : 0 ≤ i.toInt) (hk : i.toInt + k < 60) : (60 * s + i + nI k).toInt = 60 * s.toInt + i.toInt + k ∧ (60 * s + i + nI k).toNatClampNeg = 60 * s.toNatClampNeg + i.toNatClampNeg + k := by
  have e1 := (m60v (s := s) (i := i) hs ⟨hi, by omega⟩).1
  have ek := nI_tI (i := k) (by omega)
  have e2 : (60 * s + i + nI k).toInt = 60 * s.toInt + i.toInt + k := by rw [tI_add (by rw [e1, ek]; omega) (by rw [e1, ek]; omega), e1, ek]
  refine ⟨e2, ?_⟩
  rw [tn, tn, tn, e2]
  omega
theorem m1y {x y : Int32} {m : Nat} (h : 0 ≤ x.toInt ∧ x.toInt ≤ 1000) (hy : y.toInt = m) (hm : m < 7) : (x + y).toInt = x.toInt + m ∧ (x + y).toNatClampNeg = x.toNatClampNeg + m := by
  have e2 : (x + y).toInt = x.toInt + m := by rw [tI_add (by rw [hy]; omega) (by rw [hy]; omega), hy]
  refine ⟨e2, ?_⟩
  rw [tn, tn, e2]
  omega
/-- a row of a throw that was seen, by its items -/
abbrev rvX (c s l a st sp x y : Int32) : Prop := (0 ≤ s.toInt ∧ s.toInt ≤ (c - 1).toInt) ∧ ((0 ≤ l.toInt ∧ l.toInt ≤ 90) ∧ (0 ≤ a.toInt ∧ a.toInt ≤ 359) ∧ (30 ≤ st.toInt ∧ st.toInt ≤ 250) ∧ (100 ≤ sp.toInt ∧ sp.toInt ≤ 1000)) ∧ (-9999 ≤ x.toInt ∧ x.toInt ≤ 9999) ∧ (-9999 ≤ y.toInt ∧ y.toInt ≤ 9999)
def rvA (c : Int32) (f : Nat → Int32) (o : Nat) : Bool := decide (rvX c (f o) (f (o + 1)) (f (o + 2)) (f (o + 3)) (f (o + 4)) (f (o + 5)) (f (o + 6)))
def allB (p : Nat → Bool) : Nat → Bool
  | 0 => true
  | i + 1 => allB p i && p i
theorem allB_iff (p : Nat → Bool) : ∀ n, allB p n = true ↔ ∀ i, i < n → p i = true
  | 0 => ⟨fun _ i h => absurd h (by omega), fun _ => rfl⟩
  | n + 1 => by
    have ih := allB_iff p n
    unfold allB
    rw [Bool.and_eq_true, ih]
    constructor
    · intro ⟨a, b⟩ i hi
      rcases Nat.lt_or_ge i n with q | q
      · exact a i q
      · rw [show i = n by omega]
        exact b
    · intro a
      exact ⟨fun i hi => a i (by omega), a n (by omega)⟩
theorem allB_no {p : Nat → Bool} {n i : Nat} (h : i < n) (hp : p i = false) : ¬ allB p n = true := fun q => by
  have := (allB_iff p n).mp q i h
  rw [hp] at this
  exact absurd this (by decide)
/-- n rows out of items f at o -/
def addFs (I : Mem) (f : Nat → Int32) (o : Nat) : Nat → Mem
  | 0 => I
  | r + 1 => addF (addFs I f o r) (f (o + 7 * r)) (f (o + 7 * r + 1)) (f (o + 7 * r + 2)) (f (o + 7 * r + 3)) (f (o + 7 * r + 4)) (f (o + 7 * r + 5)) (f (o + 7 * r + 6))
def addRs (I : Mem) (f : Nat → Int32) (o : Nat) : Nat → Mem
  | 0 => I
  | r + 1 => addR (addRs I f o r) (f (o + 7 * r)) (f (o + 7 * r + 1)) (f (o + 7 * r + 2)) (f (o + 7 * r + 3)) (f (o + 7 * r + 4)) (f (o + 7 * r + 5)) (f (o + 7 * r + 6))
theorem addF_16 (I : Mem) (s l a st sp x y : Int32) : addF I s l a st sp x y 0 16 = I 0 16 + 1 := by
  unfold addF
  rw [upm_eq]
theorem addF_0 (I : Mem) (s l a st sp x y : Int32) {j : Nat} (h : j ≠ 16) : addF I s l a st sp x y 0 j = I 0 j := by
  unfold addF
  rw [upm_at, if_neg (fun q => h q.2), upm_ne _ _ _ (by omega), upm_ne _ _ _ (by omega), takeM_ne _ _ _ _ _ _ _ (by omega)]
theorem addF_ne (I : Mem) (s l a st sp x y : Int32) {k : Nat} (h0 : k ≠ 0) (h1 : k ≠ 83 + 2 * (I 0 16).toNatClampNeg) (h2 : k ≠ 83 + 2 * (I 0 16).toNatClampNeg + 1) : addF I s l a st sp x y k = I k := by
  unfold addF
  rw [upm_ne _ _ _ h0, upm_ne _ _ _ h1, upm_ne _ _ _ h1, takeM_ne _ _ _ _ _ _ _ h2]
theorem addR_42 (I : Mem) (s l a st sp x y : Int32) : addR I s l a st sp x y 151 42 = I 151 42 + 1 := by
  unfold addR
  rw [upm_eq]
theorem addR_151 (I : Mem) (s l a st sp x y : Int32) {j : Nat} (h : j ≠ 42) : addR I s l a st sp x y 151 j = I 151 j := by
  unfold addR
  rw [upm_at, if_neg (fun q => h q.2)]
  repeat rw [upm_ne _ _ _ (show (151 : Nat) ≠ 177 by decide)]
theorem addR_ne (I : Mem) (s l a st sp x y : Int32) {k : Nat} (h0 : k ≠ 151) (h1 : k ≠ 177) : addR I s l a st sp x y k = I k := by
  unfold addR
  rw [upm_ne _ _ _ h0]
  repeat rw [upm_ne _ _ _ h1]
theorem addFs_16 (I : Mem) (f : Nat → Int32) (o : Nat) : ∀ r, addFs I f o r 0 16 = I 0 16 + nI r
  | 0 => by
    show I 0 16 = I 0 16 + 0
    rw [Int32.add_zero]
  | r + 1 => by
    show addF _ _ _ _ _ _ _ _ 0 16 = _
    rw [addF_16, addFs_16 I f o r, nI_succ, Int32.add_assoc]
theorem addRs_42 (I : Mem) (f : Nat → Int32) (o : Nat) : ∀ r, addRs I f o r 151 42 = I 151 42 + nI r
  | 0 => by
    show I 151 42 = I 151 42 + 0
    rw [Int32.add_zero]
  | r + 1 => by
    show addR _ _ _ _ _ _ _ _ 151 42 = _
    rw [addR_42, addRs_42 I f o r, nI_succ, Int32.add_assoc]
theorem tn_addn {x : Int32} {r : Nat} (h : 0 ≤ x.toInt) (h2 : x.toInt + r ≤ 1000) : (x + nI r).toInt = x.toInt + r ∧ (x + nI r).toNatClampNeg = x.toNatClampNeg + r := by
  have er := nI_tI (i := r) (by omega)
  have e2 : (x + nI r).toInt = x.toInt + r := by rw [tI_add (by rw [er]; omega) (by rw [er]; omega), er]
  refine ⟨e2, ?_⟩
  rw [tn, tn, e2]
  omega
theorem addFs_ne (I : Mem) (f : Nat → Int32) (o : Nat) (h16 : 0 ≤ (I 0 16).toInt) {k : Nat} (h0 : k ≠ 0) (hk : k < 83 ∨ 143 ≤ k) : ∀ r : Nat, (I 0 16).toInt + (r : Int) ≤ 30 → addFs I f o r k = I k
  | 0, _ => rfl
  | r + 1, h => by
    show addF _ _ _ _ _ _ _ _ k = _
    have e := addFs_16 I f o r
    have e2 := (tn_addn (x := I 0 16) (r := r) h16 (by omega)).2
    have e3 : (addFs I f o r 0 16).toNatClampNeg = (I 0 16).toNatClampNeg + r := by rw [e, e2]
    have e4 : ((I 0 16).toNatClampNeg : Int) = (I 0 16).toInt := tnI _ h16
    rw [addF_ne _ _ _ _ _ _ _ _ h0 (by rw [e3]; omega) (by rw [e3]; omega), addFs_ne I f o h16 h0 hk r (by omega)]
theorem addFs_0 (I : Mem) (f : Nat → Int32) (o : Nat) {j : Nat} (hj : j ≠ 16) : ∀ r, addFs I f o r 0 j = I 0 j
  | 0 => rfl
  | r + 1 => by
    show addF _ _ _ _ _ _ _ _ 0 j = _
    rw [addF_0 _ _ _ _ _ _ _ _ hj, addFs_0 I f o hj r]
theorem addRs_ne (I : Mem) (f : Nat → Int32) (o : Nat) {k : Nat} (h0 : k ≠ 151) (hk : k ≠ 177) : ∀ r, addRs I f o r k = I k
  | 0 => rfl
  | r + 1 => by
    show addR _ _ _ _ _ _ _ _ k = _
    rw [addR_ne _ _ _ _ _ _ _ _ h0 hk, addRs_ne I f o h0 hk r]
theorem addRs_151 (I : Mem) (f : Nat → Int32) (o : Nat) {j : Nat} (hj : j ≠ 42) : ∀ r, addRs I f o r 151 j = I 151 j
  | 0 => rfl
  | r + 1 => by
    show addR _ _ _ _ _ _ _ _ 151 j = _
    rw [addR_151 _ _ _ _ _ _ _ _ hj, addRs_151 I f o hj r]
def F_rows (I : Mem) (s l i n : Int32) : Int32 × Mem := if 0 ≤ n.toInt ∧ n.toInt ≤ 8 then (if F_fault I s l = 0 then (if hasP (I (143 + 2 * s.toNatClampNeg) 1) i (n * 7) then (if allB (fun k => rvA (I 0 2) (I (143 + 2 * s.toNatClampNeg + 1)) (i.toNatClampNeg + 7 * k)) n.toNatClampNeg = true then (if n.toInt ≤ 30 - (I 0 16).toInt then (I 0 16 + n, addFs I (I (143 + 2 * s.toNatClampNeg + 1)) i.toNatClampNeg n.toNatClampNeg) else (-3, I)) else (-2, I)) else (-13, I)) else (F_fault I s l, I)) else (-1, I)
def R_rows (I : Mem) (s l i n : Int32) : Int32 × Mem := if (0 ≤ s.toInt ∧ s.toInt ≤ 3) ∧ (0 ≤ l.toInt ∧ l.toInt ≤ 2) ∧ (0 ≤ n.toInt ∧ n.toInt ≤ 8) then (if (R_finds I s l i (7 * n)).toInt < 0 then (R_finds I s l i (7 * n), I) else if allB (fun k => rvA (I 151 1) (I 182) (60 * s.toNatClampNeg + i.toNatClampNeg + 7 * k)) n.toNatClampNeg = true then (if (I 151 42).toInt + n.toInt ≤ 30 then (I 151 42 + n, addRs I (I 182) (60 * s.toNatClampNeg + i.toNatClampNeg) n.toNatClampNeg) else (-3, I)) else (-2, I)) else (-1, I)
theorem m60p {s i : Int32} {k : Nat} (hs : 0 ≤ s.toInt ∧ s.toInt ≤ 3) (hi : 0 ≤ i.toInt) (hk : i.toInt + 7 * k + 6 < 60) : (60 * s + i + 7 * nI k).toInt = 60 * s.toInt + i.toInt + 7 * k ∧ (60 * s + i + 7 * nI k).toNatClampNeg = 60 * s.toNatClampNeg + i.toNatClampNeg + 7 * k := by
  have e1 := (m60v (s := s) (i := i) hs ⟨hi, by omega⟩).1
  have ek := (m7k (i := k) (by omega)).1
  have e2 : (60 * s + i + 7 * nI k).toInt = 60 * s.toInt + i.toInt + 7 * k := by rw [tI_add (by rw [e1, ek]; omega) (by rw [e1, ek]; omega), e1, ek]
  refine ⟨e2, ?_⟩
  rw [tn, tn, tn, e2]
  omega
theorem i7p {i : Int32} {k : Nat} (hi : 0 ≤ i.toInt) (hk : i.toInt + 7 * k + 6 < 60) : (i + nI k * 7).toInt = i.toInt + 7 * k ∧ (i + nI k * 7).toNatClampNeg = i.toNatClampNeg + 7 * k := by
  have ek : (nI k * 7).toInt = 7 * k := by rw [Int32.mul_comm]; exact (m7k (i := k) (by omega)).1
  have e2 : (i + nI k * 7).toInt = i.toInt + 7 * k := by rw [tI_add (by rw [ek]; omega) (by rw [ek]; omega), ek]
  refine ⟨e2, ?_⟩
  rw [tn, tn, e2]
  omega
theorem n7 {n : Int32} (h : 0 ≤ n.toInt ∧ n.toInt ≤ 8) : (n * 7).toInt = 7 * n.toInt ∧ (7 * n).toInt = 7 * n.toInt := by
  have e : (7 * n).toInt = 7 * n.toInt := by rw [tI_mul (by rw [e7i]; omega) (by rw [e7i]; omega), e7i]
  exact ⟨by rw [Int32.mul_comm]; exact e, e⟩
set_option maxRecDepth 100000 in
set_option maxHeartbeats 4000000 in
theorem c_X10_copy (E : En) (I : Mem) (f : Int32) (i : Int32) (t : Int32) (j : Int32) (n : Int32) (hz : ∀ n, n < 4 → 0 ≤ (I (143 + 2 * n) 1).toInt ∧ (I (143 + 2 * n) 1).toInt ≤ 60) : Ctr E yX10_copy cX10_copy 8 (some .int) 3 [.ref (E.1 0), .int f, .int i, .int t, .int j, .int n] I (qI (fun (r : Int32) (I1 : Mem) => r = (F_copy I f i t j n).1 ∧ (F_copy I f i t j n).2 = I1)) := by
  refine Ctr.openI (by decide) (Nat.le_of_ble_eq_true rfl) (fun g h hr => ?_)
  have h : Sem cX10_copy RX10 8 (rmL 3) E g := h
  show g I 0 [(0, .ref (E.1 0)), (1, .int f), (2, .int i), (3, .int t), (4, .int j), (5, .int n)] []
  refine r_iload_n (pc := 0) h dX10_copy_0 rfl ?_
  refine r_callSI (pc := 1) h dX10_copy_1 wm_X10_335 ca_X10_isSheet (c_X10_isSheet E _ _) rfl rfl (Nat.le_of_ble_eq_true rfl) (by decide) (fun r I1 hq => ?_)
  obtain ⟨rfl, rfl⟩ := hq
  refine r_if_eq (pc := 4) h 14 dX10_copy_4 (by decide) (fun c4 => ?_) (fun c4 => ?_)
  · refine r_iconst (v := -1) (pc := 14) h dX10_copy_14 (by decide) ?_
    exact hr _ _ _ _ dX10_copy_15 (rfl) (by unfold F_copy; rw [if_neg (by (try simp only [b2i_eq0] at *); (try simp only [Int32.reduceToInt, Int64.reduceToInt, Int32.toInt_toInt64] at *); omega)]; exact ⟨rfl, rfl⟩)
  · refine r_iload_n (pc := 7) h dX10_copy_7 rfl ?_
    refine r_callSI (pc := 8) h dX10_copy_8 wm_X10_335 ca_X10_isSheet (c_X10_isSheet E _ _) rfl rfl (Nat.le_of_ble_eq_true rfl) (by decide) (fun r I1 hq => ?_)
    obtain ⟨rfl, rfl⟩ := hq
    refine r_if_ne (pc := 11) h 16 dX10_copy_11 (by decide) (fun c11 => ?_) (fun c11 => ?_)
    · have hv : (0 ≤ f.toInt ∧ f.toInt ≤ 3) ∧ (0 ≤ t.toInt ∧ t.toInt ≤ 3) := by (try simp only [b2i_eq0] at *); (try simp only [Int32.reduceToInt, Int64.reduceToInt, Int32.toInt_toInt64] at *); omega
      have hnf : f.toNatClampNeg < 4 := by rw [tn]; omega
      have hnt : t.toNatClampNeg < 4 := by rw [tn]; omega
      refine r_aload_n (pc := 16) h dX10_copy_16 rfl ?_
      refine gf_X10_107 (pc := 17) h dX10_copy_17 ?_
      refine r_iload_n (pc := 20) h dX10_copy_20 rfl ?_
      refine r_aa40 (pc := 21) h dX10_copy_21 (vin (n := 4) (by omega) (by omega)) ?_
      refine r_astore (pc := 22) h dX10_copy_22 (by decide) ?_
      refine r_aload_n (pc := 24) h dX10_copy_24 rfl ?_
      refine gf_X10_107 (pc := 25) h dX10_copy_25 ?_
      refine r_iload_n (pc := 28) h dX10_copy_28 rfl ?_
      refine r_aa40 (pc := 29) h dX10_copy_29 (vin (n := 4) (by omega) (by omega)) ?_
      refine r_astore (pc := 30) h dX10_copy_30 (by decide) ?_
      refine r_aload (pc := 32) h dX10_copy_32 rfl ?_
      refine r_callVI (ci := 6) (pc := 34) h dX10_copy_34 wm_X10_345 ca_X6_isEmptyHanded rfl (c_X6_isEmptyHanded E _ _ (by omega) (kdSh _ hnf)) rfl rfl (Nat.le_of_ble_eq_true rfl) (by decide) (by decide) (by omega) (kdSh _ hnf) (fun r I1 hq => ?_)
      obtain ⟨rfl, rfl⟩ := hq
      refine r_if_ne (pc := 37) h 48 dX10_copy_37 (by decide) (fun c37 => ?_) (fun c37 => ?_)
      · refine r_bipush (v := -11) (pc := 48) h dX10_copy_48 (by decide) ?_
        exact hr _ _ _ _ dX10_copy_50 (rfl) (by unfold F_copy; rw [if_pos hv, if_pos (by first | exact Or.inr (b2i_ne c45) | exact Or.inl (b2i_ne c37))]; exact ⟨rfl, rfl⟩)
      · refine r_aload (pc := 40) h dX10_copy_40 rfl ?_
        refine r_callVI (ci := 6) (pc := 42) h dX10_copy_42 wm_X10_345 ca_X6_isEmptyHanded rfl (c_X6_isEmptyHanded E _ _ (by omega) (kdSh _ hnt)) rfl rfl (Nat.le_of_ble_eq_true rfl) (by decide) (by decide) (by omega) (kdSh _ hnt) (fun r I1 hq => ?_)
        obtain ⟨rfl, rfl⟩ := hq
        refine r_if_eq (pc := 45) h 51 dX10_copy_45 (by decide) (fun c45 => ?_) (fun c45 => ?_)
        · have hno : ¬ (I (143 + 2 * f.toNatClampNeg) 0 = -1 ∨ I (143 + 2 * t.toNatClampNeg) 0 = -1) := fun q => q.elim (b2i_eq0.mp c37) (b2i_eq0.mp c45)
          refine r_aload (pc := 51) h dX10_copy_51 rfl ?_
          refine gf_X10_354 (pc := 53) h dX10_copy_53 (by omega) (kdSh _ hnf) ?_
          refine r_aload (pc := 56) h dX10_copy_56 rfl ?_
          refine gf_X10_354 (pc := 58) h dX10_copy_58 (by omega) (kdSh _ hnt) ?_
          refine r_icmp_eq (pc := 61) h 67 dX10_copy_61 (by decide) (fun c61 => ?_) (fun c61 => ?_)
          · refine r_aload (pc := 67) h dX10_copy_67 rfl ?_
            refine r_iload_n (pc := 69) h dX10_copy_69 rfl ?_
            refine r_iload (pc := 70) h dX10_copy_70 rfl ?_
            refine r_callVI (ci := 6) (pc := 72) h dX10_copy_72 wm_X10_292 ca_X6_has rfl (c_X6_has E _ _ _ _ (by omega) (kdSh _ hnf) (hz _ hnf)) rfl rfl (Nat.le_of_ble_eq_true rfl) (by decide) (by decide) (by omega) (kdSh _ hnf) (fun r I1 hq => ?_)
            obtain ⟨rfl, rfl⟩ := hq
            refine r_if_eq (pc := 75) h 90 dX10_copy_75 (by decide) (fun c75 => ?_) (fun c75 => ?_)
            · refine r_bipush (v := -13) (pc := 90) h dX10_copy_90 (by decide) ?_
              exact hr _ _ _ _ dX10_copy_92 (rfl) (by unfold F_copy; rw [if_pos hv, if_neg hno, if_pos c61, if_neg (fun q => by first | exact (b2i_eq0.mp c75) q.1 | exact (b2i_eq0.mp c87) q.2)]; exact ⟨rfl, rfl⟩)
            · refine r_aload (pc := 78) h dX10_copy_78 rfl ?_
              refine r_iload (pc := 80) h dX10_copy_80 rfl ?_
              refine r_iload (pc := 82) h dX10_copy_82 rfl ?_
              refine r_callVI (ci := 6) (pc := 84) h dX10_copy_84 wm_X10_292 ca_X6_has rfl (c_X6_has E _ _ _ _ (by omega) (kdSh _ hnt) (hz _ hnt)) rfl rfl (Nat.le_of_ble_eq_true rfl) (by decide) (by decide) (by omega) (kdSh _ hnt) (fun r I1 hq => ?_)
              obtain ⟨rfl, rfl⟩ := hq
              refine r_if_ne (pc := 87) h 93 dX10_copy_87 (by decide) (fun c87 => ?_) (fun c87 => ?_)
              · have hA := b2i_ne c75
                have hB := b2i_ne c87
                have hzf := hz _ hnf
                have hzt := hz _ hnt
                have hAB : hasP (I (143 + 2 * f.toNatClampNeg) 1) i n ∧ hasP (I (143 + 2 * t.toNatClampNeg) 1) j n := ⟨hA, hB⟩
                unfold hasP at hA hB
                have ti_ := tnI i (by omega)
                have tj_ := tnI j (by omega)
                have tn_ := tnI n (by omega)
                refine r_aload (pc := 93) h dX10_copy_93 rfl ?_
                refine gf_X10_295 (pc := 95) h dX10_copy_95 (by omega) (kdSh _ hnf) (rfSi _ hnf) ?_
                refine r_iload_n (pc := 98) h dX10_copy_98 rfl ?_
                refine r_aload (pc := 99) h dX10_copy_99 rfl ?_
                refine gf_X10_295 (pc := 101) h dX10_copy_101 (by omega) (kdSh _ hnt) (rfSi _ hnt) ?_
                refine r_iload (pc := 104) h dX10_copy_104 rfl ?_
                refine r_iload (pc := 106) h dX10_copy_106 rfl ?_
                refine r_copy (pc := 108) h dX10_copy_108 wm_X10_cp (by omega) (kdSi _ hnf) (by omega) (kdSi _ hnt) (by rw [Int32.lt_iff_toInt_lt, z32]; omega) (by rw [Int32.lt_iff_toInt_lt, z32]; omega) (by rw [Int32.lt_iff_toInt_lt, z32]; omega) (by rw [lnSi _ hnf]; omega) (by rw [lnSi _ hnt]; omega) (by decide) (by decide) ?_
                refine r_iload (pc := 111) h dX10_copy_111 rfl ?_
                exact hr _ _ _ _ dX10_copy_113 (rfl) (by unfold F_copy; rw [if_pos hv, if_neg hno, if_pos c61, if_pos hAB]; exact ⟨rfl, rfl⟩)
              · refine r_bipush (v := -13) (pc := 90) h dX10_copy_90 (by decide) ?_
                exact hr _ _ _ _ dX10_copy_92 (rfl) (by unfold F_copy; rw [if_pos hv, if_neg hno, if_pos c61, if_neg (fun q => by first | exact (b2i_eq0.mp c75) q.1 | exact (b2i_eq0.mp c87) q.2)]; exact ⟨rfl, rfl⟩)
          · refine r_bipush (v := -12) (pc := 64) h dX10_copy_64 (by decide) ?_
            exact hr _ _ _ _ dX10_copy_66 (rfl) (by unfold F_copy; rw [if_pos hv, if_neg hno, if_neg c61]; exact ⟨rfl, rfl⟩)
        · refine r_bipush (v := -11) (pc := 48) h dX10_copy_48 (by decide) ?_
          exact hr _ _ _ _ dX10_copy_50 (rfl) (by unfold F_copy; rw [if_pos hv, if_pos (by first | exact Or.inr (b2i_ne c45) | exact Or.inl (b2i_ne c37))]; exact ⟨rfl, rfl⟩)
    · refine r_iconst (v := -1) (pc := 14) h dX10_copy_14 (by decide) ?_
      exact hr _ _ _ _ dX10_copy_15 (rfl) (by unfold F_copy; rw [if_neg (by (try simp only [b2i_eq0] at *); (try simp only [Int32.reduceToInt, Int64.reduceToInt, Int32.toInt_toInt64] at *); omega)]; exact ⟨rfl, rfl⟩)
set_option maxRecDepth 100000 in
set_option maxHeartbeats 4000000 in
theorem c_X11_copy (E : En) (I : Mem) (f : Int32) (i : Int32) (t : Int32) (j : Int32) (n : Int32) (hz : ∀ n, n < 4 → (I 181 n).toInt ≤ 60) : Ctr E yX11_copy cX11_copy 7 (some .int) 3 [.ref (E.1 151), .int f, .int i, .int t, .int j, .int n] I (qI (fun (r : Int32) (I1 : Mem) => r = (R_copy I f i t j n).1 ∧ (R_copy I f i t j n).2 = I1)) := by
  refine Ctr.openI (by decide) (Nat.le_of_ble_eq_true rfl) (fun g h hr => ?_)
  have h : Sem cX11_copy RX11 7 (rmL 3) E g := h
  show g I 0 [(0, .ref (E.1 151)), (1, .int f), (2, .int i), (3, .int t), (4, .int j), (5, .int n)] []
  refine r_iload_n (pc := 0) h dX11_copy_0 rfl ?_
  refine r_callSI (pc := 1) h dX11_copy_1 wm_X11_334 ca_X11_isSheet (c_X11_isSheet E _ _) rfl rfl (Nat.le_of_ble_eq_true rfl) (by decide) (fun r I1 hq => ?_)
  obtain ⟨rfl, rfl⟩ := hq
  refine r_if_eq (pc := 4) h 14 dX11_copy_4 (by decide) (fun c4 => ?_) (fun c4 => ?_)
  · refine r_iconst (v := -1) (pc := 14) h dX11_copy_14 (by decide) ?_
    exact hr _ _ _ _ dX11_copy_15 (rfl) (by unfold R_copy; rw [if_neg (by (try simp only [b2i_eq0] at *); (try simp only [Int32.reduceToInt, Int64.reduceToInt, Int32.toInt_toInt64] at *); omega)]; exact ⟨rfl, rfl⟩)
  · refine r_iload_n (pc := 7) h dX11_copy_7 rfl ?_
    refine r_callSI (pc := 8) h dX11_copy_8 wm_X11_334 ca_X11_isSheet (c_X11_isSheet E _ _) rfl rfl (Nat.le_of_ble_eq_true rfl) (by decide) (fun r I1 hq => ?_)
    obtain ⟨rfl, rfl⟩ := hq
    refine r_if_ne (pc := 11) h 16 dX11_copy_11 (by decide) (fun c11 => ?_) (fun c11 => ?_)
    · have hv : (0 ≤ f.toInt ∧ f.toInt ≤ 3) ∧ (0 ≤ t.toInt ∧ t.toInt ≤ 3) := by (try simp only [b2i_eq0] at *); (try simp only [Int32.reduceToInt, Int64.reduceToInt, Int32.toInt_toInt64] at *); omega
      have hnf : f.toNatClampNeg < 4 := by rw [tn]; omega
      have hnt : t.toNatClampNeg < 4 := by rw [tn]; omega
      refine r_aload_n (pc := 16) h dX11_copy_16 rfl ?_
      refine gf_X11_111 (pc := 17) h dX11_copy_17 ?_
      refine r_iload_n (pc := 20) h dX11_copy_20 rfl ?_
      refine r_iald (pc := 21) h dX11_copy_21 (by decide) (by decide) (vin (n := 4) (by omega) (by omega)) ?_
      refine r_if_lt (pc := 22) h 34 dX11_copy_22 (by decide) (fun c22 => ?_) (fun c22 => ?_)
      · refine r_bipush (v := -11) (pc := 34) h dX11_copy_34 (by decide) ?_
        exact hr _ _ _ _ dX11_copy_36 (rfl) (by unfold R_copy; rw [if_pos hv, if_pos (by first | (left; rw [Int32.lt_iff_toInt_lt, z32] at c22; exact c22) | (right; rw [Int32.le_iff_toInt_le, z32] at c31; omega))]; exact ⟨rfl, rfl⟩)
      · refine r_aload_n (pc := 25) h dX11_copy_25 rfl ?_
        refine gf_X11_111 (pc := 26) h dX11_copy_26 ?_
        refine r_iload_n (pc := 29) h dX11_copy_29 rfl ?_
        refine r_iald (pc := 30) h dX11_copy_30 (by decide) (by decide) (vin (n := 4) (by omega) (by omega)) ?_
        refine r_if_ge (pc := 31) h 37 dX11_copy_31 (by decide) (fun c31 => ?_) (fun c31 => ?_)
        · have hno : ¬ ((I 180 f.toNatClampNeg).toInt < 0 ∨ (I 180 t.toNatClampNeg).toInt < 0) := fun q => by
            rw [Int32.lt_iff_toInt_lt, z32] at c22
            rw [Int32.le_iff_toInt_le, z32] at c31
            omega
          refine r_aload_n (pc := 37) h dX11_copy_37 rfl ?_
          refine gf_X11_111 (pc := 38) h dX11_copy_38 ?_
          refine r_iload_n (pc := 41) h dX11_copy_41 rfl ?_
          refine r_iald (pc := 42) h dX11_copy_42 (by decide) (by decide) (vin (n := 4) (by omega) (by omega)) ?_
          refine r_aload_n (pc := 43) h dX11_copy_43 rfl ?_
          refine gf_X11_111 (pc := 44) h dX11_copy_44 ?_
          refine r_iload_n (pc := 47) h dX11_copy_47 rfl ?_
          refine r_iald (pc := 48) h dX11_copy_48 (by decide) (by decide) (vin (n := 4) (by omega) (by omega)) ?_
          refine r_icmp_eq (pc := 49) h 55 dX11_copy_49 (by decide) (fun c49 => ?_) (fun c49 => ?_)
          · refine r_iload (pc := 55) h dX11_copy_55 rfl ?_
            refine r_if_lt (pc := 57) h 95 dX11_copy_57 (by decide) (fun c57 => ?_) (fun c57 => ?_)
            · refine r_bipush (v := -13) (pc := 95) h dX11_copy_95 (by decide) ?_
              exact hr _ _ _ _ dX11_copy_97 (rfl) (by unfold R_copy; rw [if_pos hv, if_neg hno, if_pos c49, if_pos (by first | (right; right; rw [Int32.le_iff_toInt_le, z32] at c92; omega) | (right; left; rw [Int32.lt_iff_toInt_lt, z32] at c74; exact c74) | (left; rw [Int32.lt_iff_toInt_lt, z32] at c57; exact c57))]; exact ⟨rfl, rfl⟩)
            · refine r_aload_n (pc := 60) h dX11_copy_60 rfl ?_
              refine r_iload_n (pc := 61) h dX11_copy_61 rfl ?_
              refine r_aload_n (pc := 62) h dX11_copy_62 rfl ?_
              refine gf_X11_111 (pc := 63) h dX11_copy_63 ?_
              refine r_iload_n (pc := 66) h dX11_copy_66 rfl ?_
              refine r_iald (pc := 67) h dX11_copy_67 (by decide) (by decide) (vin (n := 4) (by omega) (by omega)) ?_
              refine r_iload_n (pc := 68) h dX11_copy_68 rfl ?_
              refine r_iload (pc := 69) h dX11_copy_69 rfl ?_
              refine r_callVI (ci := 11) (pc := 71) h dX11_copy_71 wm_X11_340 ca_X11_finds rfl (c_X11_finds E _ _ _ _ _ hv.1) rfl rfl (Nat.le_of_ble_eq_true rfl) (by decide) (by decide) (by decide) (by decide) (fun r I1 hq => ?_)
              obtain ⟨rfl, rfl⟩ := hq
              refine r_if_lt (pc := 74) h 95 dX11_copy_74 (by decide) (fun c74 => ?_) (fun c74 => ?_)
              · refine r_bipush (v := -13) (pc := 95) h dX11_copy_95 (by decide) ?_
                exact hr _ _ _ _ dX11_copy_97 (rfl) (by unfold R_copy; rw [if_pos hv, if_neg hno, if_pos c49, if_pos (by first | (right; right; rw [Int32.le_iff_toInt_le, z32] at c92; omega) | (right; left; rw [Int32.lt_iff_toInt_lt, z32] at c74; exact c74) | (left; rw [Int32.lt_iff_toInt_lt, z32] at c57; exact c57))]; exact ⟨rfl, rfl⟩)
              · refine r_aload_n (pc := 77) h dX11_copy_77 rfl ?_
                refine r_iload_n (pc := 78) h dX11_copy_78 rfl ?_
                refine r_aload_n (pc := 79) h dX11_copy_79 rfl ?_
                refine gf_X11_111 (pc := 80) h dX11_copy_80 ?_
                refine r_iload_n (pc := 83) h dX11_copy_83 rfl ?_
                refine r_iald (pc := 84) h dX11_copy_84 (by decide) (by decide) (vin (n := 4) (by omega) (by omega)) ?_
                refine r_iload (pc := 85) h dX11_copy_85 rfl ?_
                refine r_iload (pc := 87) h dX11_copy_87 rfl ?_
                refine r_callVI (ci := 11) (pc := 89) h dX11_copy_89 wm_X11_340 ca_X11_finds rfl (c_X11_finds E _ _ _ _ _ hv.2) rfl rfl (Nat.le_of_ble_eq_true rfl) (by decide) (by decide) (by decide) (by decide) (fun r I1 hq => ?_)
                obtain ⟨rfl, rfl⟩ := hq
                refine r_if_ge (pc := 92) h 98 dX11_copy_92 (by decide) (fun c92 => ?_) (fun c92 => ?_)
                · have hfa : ¬ n.toInt < 0 := by rw [Int32.lt_iff_toInt_lt, z32] at c57; exact c57
                  have hfb : ¬ (R_finds I f (I 180 f.toNatClampNeg) i n).toInt < 0 := by rw [Int32.lt_iff_toInt_lt, z32] at c74; exact c74
                  have hfc : ¬ (R_finds I t (I 180 t.toNatClampNeg) j n).toInt < 0 := by rw [Int32.le_iff_toInt_le, z32] at c92; omega
                  have hf1 := finds0 hfb
                  have hf2 := finds0 hfc
                  have hz1 := hz _ hnf
                  have hz2 := hz _ hnt
                  have hNn : (n.toNatClampNeg : Int) = n.toInt := tnI _ (by omega)
                  have hN6 : n.toNatClampNeg ≤ 60 := by omega
                  refine r_iconst (v := 0) (pc := 98) h dX11_copy_98 (by decide) ?_
                  refine r_istore (pc := 99) h dX11_copy_99 (by decide) ?_
                  have loop101 : ∀ (m q_ : Nat), q_ ≤ n.toNatClampNeg → n.toNatClampNeg + 1 ≤ q_ + m → g (rowQ I 183 0 (fun k => I 182 (60 * f.toNatClampNeg + i.toNatClampNeg + k)) q_) 101 [(0, .ref (E.1 151)), (1, .int f), (2, .int i), (3, .int t), (4, .int j), (5, .int n), (6, .int (nI q_))] [] := by
                    intro m
                    induction m with
                    | zero =>
                      intro q_ h1 h2
                      omega
                    | succ m ih =>
                      intro q_ hi_ him_
                      have ei := nI_tI (i := q_) (by omega)
                      refine r_iload (pc := 101) h dX11_copy_101 rfl ?_
                      refine r_iload (pc := 103) h dX11_copy_103 rfl ?_
                      refine r_icmp_ge (pc := 105) h 135 dX11_copy_105 (by decide) (fun c105 => ?_) (fun c105 => ?_)
                      · have hge : q_ = n.toNatClampNeg := by rw [Int32.le_iff_toInt_le, ei] at c105; omega
                        subst hge
                        refine r_iconst (v := 0) (pc := 135) h dX11_copy_135 (by decide) ?_
                        refine r_istore (pc := 136) h dX11_copy_136 (by decide) ?_
                        have loop138 : ∀ (m q_ : Nat), q_ ≤ n.toNatClampNeg → n.toNatClampNeg + 1 ≤ q_ + m → g (rowQ (rowQ I 183 0 (fun k => I 182 (60 * f.toNatClampNeg + i.toNatClampNeg + k)) n.toNatClampNeg) 182 (60 * t.toNatClampNeg + j.toNatClampNeg) (fun k => I 182 (60 * f.toNatClampNeg + i.toNatClampNeg + k)) q_) 138 [(0, .ref (E.1 151)), (1, .int f), (2, .int i), (3, .int t), (4, .int j), (5, .int n), (6, .int (nI q_))] [] := by
                          intro m
                          induction m with
                          | zero =>
                            intro q_ h1 h2
                            omega
                          | succ m ih =>
                            intro q_ hi_ him_
                            have ei := nI_tI (i := q_) (by omega)
                            refine r_iload (pc := 138) h dX11_copy_138 rfl ?_
                            refine r_iload (pc := 140) h dX11_copy_140 rfl ?_
                            refine r_icmp_ge (pc := 142) h 173 dX11_copy_142 (by decide) (fun c142 => ?_) (fun c142 => ?_)
                            · have hge : q_ = n.toNatClampNeg := by rw [Int32.le_iff_toInt_le, ei] at c142; omega
                              subst hge
                              refine r_iload (pc := 173) h dX11_copy_173 rfl ?_
                              exact hr _ _ _ _ dX11_copy_175 (rfl) (by unfold R_copy cpR; rw [if_pos hv, if_neg hno, if_pos c49, if_neg (fun q => q.elim hfa (fun q => q.elim hfb hfc))]; exact ⟨rfl, rfl⟩)
                            · have hlt : q_ < n.toNatClampNeg := by rw [Int32.le_iff_toInt_le, ei] at c142; omega
                              have hw2 := m60w (s := t) (i := j) (k := q_) hv.2 hf2.1 (by omega)
                              refine r_aload_n (pc := 145) h dX11_copy_145 rfl ?_
                              refine gf_X11_117 (pc := 146) h dX11_copy_146 ?_
                              refine r_bipush (v := 60) (pc := 149) h dX11_copy_149 (by decide) ?_
                              refine r_iload_n (pc := 151) h dX11_copy_151 rfl ?_
                              refine r_imul (pc := 152) h dX11_copy_152 ?_
                              refine r_iload (pc := 153) h dX11_copy_153 rfl ?_
                              refine r_iadd (pc := 155) h dX11_copy_155 ?_
                              refine r_iload (pc := 156) h dX11_copy_156 rfl ?_
                              refine r_iadd (pc := 158) h dX11_copy_158 ?_
                              refine r_aload_n (pc := 159) h dX11_copy_159 rfl ?_
                              refine gf_X11_120 (pc := 160) h dX11_copy_160 ?_
                              refine r_iload (pc := 163) h dX11_copy_163 rfl ?_
                              refine r_ialdL (j := q_) (pc := 165) h dX11_copy_165 (by decide) (by decide) (nI_tn (by omega)) (vinI (n := 60) (by omega) (by omega)) ?_
                              rw [rowQ_ne _ _ _ _ (show (183 : Nat) ≠ 182 by decide), show rowQ I 183 0 (fun k => I 182 (60 * f.toNatClampNeg + i.toNatClampNeg + k)) n.toNatClampNeg 183 q_ = I 182 (60 * f.toNatClampNeg + i.toNatClampNeg + q_) from by
                                have e_ := rowQ_in I 183 0 (i := n.toNatClampNeg) (j := q_) (fun k => I 182 (60 * f.toNatClampNeg + i.toNatClampNeg + k)) hlt
                                rw [Nat.zero_add] at e_
                                exact e_]
                              refine r_iastL (j := 60 * t.toNatClampNeg + j.toNatClampNeg + q_) (pc := 166) h dX11_copy_166 (by decide) (by decide) (hw2.2) (vin (n := 240) (by rw [hw2.1]; omega) (by rw [hw2.1]; omega)) ?_
                              refine r_iinc (v := 1) (pc := 167) h dX11_copy_167 rfl (by decide) (by decide) ?_
                              refine r_goto (pc := 170) h 138 dX11_copy_170 (by decide) ?_
                              rw [← nI_succ]
                              rw [show upm (rowQ (rowQ I 183 0 (fun k => I 182 (60 * f.toNatClampNeg + i.toNatClampNeg + k)) n.toNatClampNeg) 182 (60 * t.toNatClampNeg + j.toNatClampNeg) (fun k => I 182 (60 * f.toNatClampNeg + i.toNatClampNeg + k)) q_) 182 (60 * t.toNatClampNeg + j.toNatClampNeg + q_) (I 182 (60 * f.toNatClampNeg + i.toNatClampNeg + q_)) = (rowQ (rowQ I 183 0 (fun k => I 182 (60 * f.toNatClampNeg + i.toNatClampNeg + k)) n.toNatClampNeg) 182 (60 * t.toNatClampNeg + j.toNatClampNeg) (fun k => I 182 (60 * f.toNatClampNeg + i.toNatClampNeg + k)) (q_ + 1)) by
                                rw [← rowQ_step]]
                              exact r_at h [(0, .ref (E.1 151)), (1, .int f), (2, .int i), (3, .int t), (4, .int j), (5, .int n), (6, .int (nI (q_ + 1)))] ⟨rfl, rfl, rfl, rfl, rfl, rfl, rfl, trivial⟩ (ih (q_ + 1) (by omega) (by omega))
                        have h0 := loop138 (n.toNatClampNeg + 1) 0 (by omega) (by omega)
                        rw [rowQ_0] at h0
                        exact r_at h [(0, .ref (E.1 151)), (1, .int f), (2, .int i), (3, .int t), (4, .int j), (5, .int n), (6, .int (nI 0))] ⟨rfl, rfl, rfl, rfl, rfl, rfl, rfl, trivial⟩ h0
                      · have hlt : q_ < n.toNatClampNeg := by rw [Int32.le_iff_toInt_le, ei] at c105; omega
                        have hw1 := m60w (s := f) (i := i) (k := q_) hv.1 hf1.1 (by omega)
                        refine r_aload_n (pc := 108) h dX11_copy_108 rfl ?_
                        refine gf_X11_120 (pc := 109) h dX11_copy_109 ?_
                        refine r_iload (pc := 112) h dX11_copy_112 rfl ?_
                        refine r_aload_n (pc := 114) h dX11_copy_114 rfl ?_
                        refine gf_X11_117 (pc := 115) h dX11_copy_115 ?_
                        refine r_bipush (v := 60) (pc := 118) h dX11_copy_118 (by decide) ?_
                        refine r_iload_n (pc := 120) h dX11_copy_120 rfl ?_
                        refine r_imul (pc := 121) h dX11_copy_121 ?_
                        refine r_iload_n (pc := 122) h dX11_copy_122 rfl ?_
                        refine r_iadd (pc := 123) h dX11_copy_123 ?_
                        refine r_iload (pc := 124) h dX11_copy_124 rfl ?_
                        refine r_iadd (pc := 126) h dX11_copy_126 ?_
                        refine r_ialdL (j := 60 * f.toNatClampNeg + i.toNatClampNeg + q_) (pc := 127) h dX11_copy_127 (by decide) (by decide) (hw1.2) (vin (n := 240) (by rw [hw1.1]; omega) (by rw [hw1.1]; omega)) ?_
                        rw [rowQ_ne _ _ _ _ (show (182 : Nat) ≠ 183 by decide)]
                        refine r_iastL (j := q_) (pc := 128) h dX11_copy_128 (by decide) (by decide) (nI_tn (by omega)) (vinI (n := 60) (by omega) (by omega)) ?_
                        refine r_iinc (v := 1) (pc := 129) h dX11_copy_129 rfl (by decide) (by decide) ?_
                        refine r_goto (pc := 132) h 101 dX11_copy_132 (by decide) ?_
                        rw [← nI_succ]
                        rw [show upm (rowQ I 183 0 (fun k => I 182 (60 * f.toNatClampNeg + i.toNatClampNeg + k)) q_) 183 q_ (I 182 (60 * f.toNatClampNeg + i.toNatClampNeg + q_)) = (rowQ I 183 0 (fun k => I 182 (60 * f.toNatClampNeg + i.toNatClampNeg + k)) (q_ + 1)) by
                          rw [← rowQ_step, Nat.zero_add]]
                        exact r_at h [(0, .ref (E.1 151)), (1, .int f), (2, .int i), (3, .int t), (4, .int j), (5, .int n), (6, .int (nI (q_ + 1)))] ⟨rfl, rfl, rfl, rfl, rfl, rfl, rfl, trivial⟩ (ih (q_ + 1) (by omega) (by omega))
                  have h0 := loop101 (n.toNatClampNeg + 1) 0 (by omega) (by omega)
                  rw [rowQ_0] at h0
                  exact r_at h [(0, .ref (E.1 151)), (1, .int f), (2, .int i), (3, .int t), (4, .int j), (5, .int n), (6, .int (nI 0))] ⟨rfl, rfl, rfl, rfl, rfl, rfl, rfl, trivial⟩ h0
                · refine r_bipush (v := -13) (pc := 95) h dX11_copy_95 (by decide) ?_
                  exact hr _ _ _ _ dX11_copy_97 (rfl) (by unfold R_copy; rw [if_pos hv, if_neg hno, if_pos c49, if_pos (by first | (right; right; rw [Int32.le_iff_toInt_le, z32] at c92; omega) | (right; left; rw [Int32.lt_iff_toInt_lt, z32] at c74; exact c74) | (left; rw [Int32.lt_iff_toInt_lt, z32] at c57; exact c57))]; exact ⟨rfl, rfl⟩)
          · refine r_bipush (v := -12) (pc := 52) h dX11_copy_52 (by decide) ?_
            exact hr _ _ _ _ dX11_copy_54 (rfl) (by unfold R_copy; rw [if_pos hv, if_neg hno, if_neg c49]; exact ⟨rfl, rfl⟩)
        · refine r_bipush (v := -11) (pc := 34) h dX11_copy_34 (by decide) ?_
          exact hr _ _ _ _ dX11_copy_36 (rfl) (by unfold R_copy; rw [if_pos hv, if_pos (by first | (left; rw [Int32.lt_iff_toInt_lt, z32] at c22; exact c22) | (right; rw [Int32.le_iff_toInt_le, z32] at c31; omega))]; exact ⟨rfl, rfl⟩)
    · refine r_iconst (v := -1) (pc := 14) h dX11_copy_14 (by decide) ?_
      exact hr _ _ _ _ dX11_copy_15 (rfl) (by unfold R_copy; rw [if_neg (by (try simp only [b2i_eq0] at *); (try simp only [Int32.reduceToInt, Int64.reduceToInt, Int32.toInt_toInt64] at *); omega)]; exact ⟨rfl, rfl⟩)
set_option maxRecDepth 100000 in
set_option maxHeartbeats 4000000 in
theorem c_X10_holdsRow (E : En) (I : Mem) (it : Nat) (i : Int32) (hit : it < 184) (hkt : kd it = 12) (hlt_ : ln it = 60) (hi : 0 ≤ i.toInt ∧ i.toInt + 6 < 60) : Ctr E yX10_holdsRow cX10_holdsRow 3 (some .boolean) 6 [.ref (E.1 0), .ref (E.1 it), .int i] I (qI (fun (r : Int32) (I1 : Mem) => r = b2i (rvX (I 0 2) (I it (i.toNatClampNeg)) (I it (i.toNatClampNeg + 1)) (I it (i.toNatClampNeg + 2)) (I it (i.toNatClampNeg + 3)) (I it (i.toNatClampNeg + 4)) (I it (i.toNatClampNeg + 5)) (I it (i.toNatClampNeg + 6))) ∧ I = I1)) := by
  refine Ctr.openI (by decide) (Nat.le_of_ble_eq_true rfl) (fun g h hr => ?_)
  have h : Sem cX10_holdsRow RX10 3 (rmL 6) E g := h
  show g I 0 [(0, .ref (E.1 0)), (1, .ref (E.1 it)), (2, .int i)] []
  refine r_aload_n (pc := 0) h dX10_holdsRow_0 rfl ?_
  refine r_aload_n (pc := 1) h dX10_holdsRow_1 rfl ?_
  refine r_iload_n (pc := 2) h dX10_holdsRow_2 rfl ?_
  refine r_ialdL (j := i.toNatClampNeg) (pc := 3) h dX10_holdsRow_3 hit hkt (rfl) (by rw [hlt_]; exact vin (by omega) (by omega)) ?_
  refine r_aload_n (pc := 4) h dX10_holdsRow_4 rfl ?_
  refine r_iload_n (pc := 5) h dX10_holdsRow_5 rfl ?_
  refine r_iconst (v := 1) (pc := 6) h dX10_holdsRow_6 (by decide) ?_
  refine r_iadd (pc := 7) h dX10_holdsRow_7 ?_
  refine r_ialdL (j := i.toNatClampNeg + 1) (pc := 8) h dX10_holdsRow_8 hit hkt ((m1y (x := i) (y := 1) (m := 1) ⟨by omega, by omega⟩ (by decide) (by decide)).2) (by rw [hlt_]; exact vin (by rw [(m1y (x := i) (y := 1) (m := 1) ⟨by omega, by omega⟩ (by decide) (by decide)).1]; omega) (by rw [(m1y (x := i) (y := 1) (m := 1) ⟨by omega, by omega⟩ (by decide) (by decide)).1]; omega)) ?_
  refine r_aload_n (pc := 9) h dX10_holdsRow_9 rfl ?_
  refine r_iload_n (pc := 10) h dX10_holdsRow_10 rfl ?_
  refine r_iconst (v := 2) (pc := 11) h dX10_holdsRow_11 (by decide) ?_
  refine r_iadd (pc := 12) h dX10_holdsRow_12 ?_
  refine r_ialdL (j := i.toNatClampNeg + 2) (pc := 13) h dX10_holdsRow_13 hit hkt ((m1y (x := i) (y := 2) (m := 2) ⟨by omega, by omega⟩ (by decide) (by decide)).2) (by rw [hlt_]; exact vin (by rw [(m1y (x := i) (y := 2) (m := 2) ⟨by omega, by omega⟩ (by decide) (by decide)).1]; omega) (by rw [(m1y (x := i) (y := 2) (m := 2) ⟨by omega, by omega⟩ (by decide) (by decide)).1]; omega)) ?_
  refine r_aload_n (pc := 14) h dX10_holdsRow_14 rfl ?_
  refine r_iload_n (pc := 15) h dX10_holdsRow_15 rfl ?_
  refine r_iconst (v := 3) (pc := 16) h dX10_holdsRow_16 (by decide) ?_
  refine r_iadd (pc := 17) h dX10_holdsRow_17 ?_
  refine r_ialdL (j := i.toNatClampNeg + 3) (pc := 18) h dX10_holdsRow_18 hit hkt ((m1y (x := i) (y := 3) (m := 3) ⟨by omega, by omega⟩ (by decide) (by decide)).2) (by rw [hlt_]; exact vin (by rw [(m1y (x := i) (y := 3) (m := 3) ⟨by omega, by omega⟩ (by decide) (by decide)).1]; omega) (by rw [(m1y (x := i) (y := 3) (m := 3) ⟨by omega, by omega⟩ (by decide) (by decide)).1]; omega)) ?_
  refine r_aload_n (pc := 19) h dX10_holdsRow_19 rfl ?_
  refine r_iload_n (pc := 20) h dX10_holdsRow_20 rfl ?_
  refine r_iconst (v := 4) (pc := 21) h dX10_holdsRow_21 (by decide) ?_
  refine r_iadd (pc := 22) h dX10_holdsRow_22 ?_
  refine r_ialdL (j := i.toNatClampNeg + 4) (pc := 23) h dX10_holdsRow_23 hit hkt ((m1y (x := i) (y := 4) (m := 4) ⟨by omega, by omega⟩ (by decide) (by decide)).2) (by rw [hlt_]; exact vin (by rw [(m1y (x := i) (y := 4) (m := 4) ⟨by omega, by omega⟩ (by decide) (by decide)).1]; omega) (by rw [(m1y (x := i) (y := 4) (m := 4) ⟨by omega, by omega⟩ (by decide) (by decide)).1]; omega)) ?_
  refine r_aload_n (pc := 24) h dX10_holdsRow_24 rfl ?_
  refine r_iload_n (pc := 25) h dX10_holdsRow_25 rfl ?_
  refine r_iconst (v := 5) (pc := 26) h dX10_holdsRow_26 (by decide) ?_
  refine r_iadd (pc := 27) h dX10_holdsRow_27 ?_
  refine r_ialdL (j := i.toNatClampNeg + 5) (pc := 28) h dX10_holdsRow_28 hit hkt ((m1y (x := i) (y := 5) (m := 5) ⟨by omega, by omega⟩ (by decide) (by decide)).2) (by rw [hlt_]; exact vin (by rw [(m1y (x := i) (y := 5) (m := 5) ⟨by omega, by omega⟩ (by decide) (by decide)).1]; omega) (by rw [(m1y (x := i) (y := 5) (m := 5) ⟨by omega, by omega⟩ (by decide) (by decide)).1]; omega)) ?_
  refine r_aload_n (pc := 29) h dX10_holdsRow_29 rfl ?_
  refine r_iload_n (pc := 30) h dX10_holdsRow_30 rfl ?_
  refine r_bipush (v := 6) (pc := 31) h dX10_holdsRow_31 (by decide) ?_
  refine r_iadd (pc := 33) h dX10_holdsRow_33 ?_
  refine r_ialdL (j := i.toNatClampNeg + 6) (pc := 34) h dX10_holdsRow_34 hit hkt ((m1y (x := i) (y := 6) (m := 6) ⟨by omega, by omega⟩ (by decide) (by decide)).2) (by rw [hlt_]; exact vin (by rw [(m1y (x := i) (y := 6) (m := 6) ⟨by omega, by omega⟩ (by decide) (by decide)).1]; omega) (by rw [(m1y (x := i) (y := 6) (m := 6) ⟨by omega, by omega⟩ (by decide) (by decide)).1]; omega)) ?_
  refine r_callVI (ci := 10) (pc := 35) h dX10_holdsRow_35 wm_X10_268 ca_X10_isRow rfl (c_X10_isRow E _ _ _ _ _ _ _ _) rfl rfl (Nat.le_of_ble_eq_true rfl) (by decide) (by decide) (by decide) (by decide) (fun r I1 hq => ?_)
  obtain ⟨rfl, rfl⟩ := hq
  exact hr _ _ _ _ dX10_holdsRow_38 (by first | rfl | decide | exact b2i_nar) (⟨rfl, rfl⟩)
set_option maxRecDepth 100000 in
set_option maxHeartbeats 4000000 in
theorem c_X10_addRowFrom (E : En) (I : Mem) (it : Nat) (i : Int32) (hit : it < 184) (hkt : kd it = 12) (hlt_ : ln it = 60) (hi : 0 ≤ i.toInt ∧ i.toInt + 6 < 60) (hr9 : 0 ≤ (I 0 16).toInt ∧ (I 0 16).toInt < 30) : Ctr E yX10_addRowFrom cX10_addRowFrom 3 none 3 [.ref (E.1 0), .ref (E.1 it), .int i] I (qV (fun I1 : Mem => I1 = addF I (I it (i.toNatClampNeg)) (I it (i.toNatClampNeg + 1)) (I it (i.toNatClampNeg + 2)) (I it (i.toNatClampNeg + 3)) (I it (i.toNatClampNeg + 4)) (I it (i.toNatClampNeg + 5)) (I it (i.toNatClampNeg + 6)))) := by
  refine Ctr.openV (by decide) (Nat.le_of_ble_eq_true rfl) (fun g h hr => ?_)
  have h : Sem cX10_addRowFrom RX10 3 (rmL 3) E g := h
  show g I 0 [(0, .ref (E.1 0)), (1, .ref (E.1 it)), (2, .int i)] []
  refine r_aload_n (pc := 0) h dX10_addRowFrom_0 rfl ?_
  refine r_aload_n (pc := 1) h dX10_addRowFrom_1 rfl ?_
  refine r_iload_n (pc := 2) h dX10_addRowFrom_2 rfl ?_
  refine r_ialdL (j := i.toNatClampNeg) (pc := 3) h dX10_addRowFrom_3 hit hkt (rfl) (by rw [hlt_]; exact vin (by omega) (by omega)) ?_
  refine r_aload_n (pc := 4) h dX10_addRowFrom_4 rfl ?_
  refine r_iload_n (pc := 5) h dX10_addRowFrom_5 rfl ?_
  refine r_iconst (v := 1) (pc := 6) h dX10_addRowFrom_6 (by decide) ?_
  refine r_iadd (pc := 7) h dX10_addRowFrom_7 ?_
  refine r_ialdL (j := i.toNatClampNeg + 1) (pc := 8) h dX10_addRowFrom_8 hit hkt ((m1y (x := i) (y := 1) (m := 1) ⟨by omega, by omega⟩ (by decide) (by decide)).2) (by rw [hlt_]; exact vin (by rw [(m1y (x := i) (y := 1) (m := 1) ⟨by omega, by omega⟩ (by decide) (by decide)).1]; omega) (by rw [(m1y (x := i) (y := 1) (m := 1) ⟨by omega, by omega⟩ (by decide) (by decide)).1]; omega)) ?_
  refine r_aload_n (pc := 9) h dX10_addRowFrom_9 rfl ?_
  refine r_iload_n (pc := 10) h dX10_addRowFrom_10 rfl ?_
  refine r_iconst (v := 2) (pc := 11) h dX10_addRowFrom_11 (by decide) ?_
  refine r_iadd (pc := 12) h dX10_addRowFrom_12 ?_
  refine r_ialdL (j := i.toNatClampNeg + 2) (pc := 13) h dX10_addRowFrom_13 hit hkt ((m1y (x := i) (y := 2) (m := 2) ⟨by omega, by omega⟩ (by decide) (by decide)).2) (by rw [hlt_]; exact vin (by rw [(m1y (x := i) (y := 2) (m := 2) ⟨by omega, by omega⟩ (by decide) (by decide)).1]; omega) (by rw [(m1y (x := i) (y := 2) (m := 2) ⟨by omega, by omega⟩ (by decide) (by decide)).1]; omega)) ?_
  refine r_aload_n (pc := 14) h dX10_addRowFrom_14 rfl ?_
  refine r_iload_n (pc := 15) h dX10_addRowFrom_15 rfl ?_
  refine r_iconst (v := 3) (pc := 16) h dX10_addRowFrom_16 (by decide) ?_
  refine r_iadd (pc := 17) h dX10_addRowFrom_17 ?_
  refine r_ialdL (j := i.toNatClampNeg + 3) (pc := 18) h dX10_addRowFrom_18 hit hkt ((m1y (x := i) (y := 3) (m := 3) ⟨by omega, by omega⟩ (by decide) (by decide)).2) (by rw [hlt_]; exact vin (by rw [(m1y (x := i) (y := 3) (m := 3) ⟨by omega, by omega⟩ (by decide) (by decide)).1]; omega) (by rw [(m1y (x := i) (y := 3) (m := 3) ⟨by omega, by omega⟩ (by decide) (by decide)).1]; omega)) ?_
  refine r_aload_n (pc := 19) h dX10_addRowFrom_19 rfl ?_
  refine r_iload_n (pc := 20) h dX10_addRowFrom_20 rfl ?_
  refine r_iconst (v := 4) (pc := 21) h dX10_addRowFrom_21 (by decide) ?_
  refine r_iadd (pc := 22) h dX10_addRowFrom_22 ?_
  refine r_ialdL (j := i.toNatClampNeg + 4) (pc := 23) h dX10_addRowFrom_23 hit hkt ((m1y (x := i) (y := 4) (m := 4) ⟨by omega, by omega⟩ (by decide) (by decide)).2) (by rw [hlt_]; exact vin (by rw [(m1y (x := i) (y := 4) (m := 4) ⟨by omega, by omega⟩ (by decide) (by decide)).1]; omega) (by rw [(m1y (x := i) (y := 4) (m := 4) ⟨by omega, by omega⟩ (by decide) (by decide)).1]; omega)) ?_
  refine r_aload_n (pc := 24) h dX10_addRowFrom_24 rfl ?_
  refine r_iload_n (pc := 25) h dX10_addRowFrom_25 rfl ?_
  refine r_iconst (v := 5) (pc := 26) h dX10_addRowFrom_26 (by decide) ?_
  refine r_iadd (pc := 27) h dX10_addRowFrom_27 ?_
  refine r_ialdL (j := i.toNatClampNeg + 5) (pc := 28) h dX10_addRowFrom_28 hit hkt ((m1y (x := i) (y := 5) (m := 5) ⟨by omega, by omega⟩ (by decide) (by decide)).2) (by rw [hlt_]; exact vin (by rw [(m1y (x := i) (y := 5) (m := 5) ⟨by omega, by omega⟩ (by decide) (by decide)).1]; omega) (by rw [(m1y (x := i) (y := 5) (m := 5) ⟨by omega, by omega⟩ (by decide) (by decide)).1]; omega)) ?_
  refine r_aload_n (pc := 29) h dX10_addRowFrom_29 rfl ?_
  refine r_iload_n (pc := 30) h dX10_addRowFrom_30 rfl ?_
  refine r_bipush (v := 6) (pc := 31) h dX10_addRowFrom_31 (by decide) ?_
  refine r_iadd (pc := 33) h dX10_addRowFrom_33 ?_
  refine r_ialdL (j := i.toNatClampNeg + 6) (pc := 34) h dX10_addRowFrom_34 hit hkt ((m1y (x := i) (y := 6) (m := 6) ⟨by omega, by omega⟩ (by decide) (by decide)).2) (by rw [hlt_]; exact vin (by rw [(m1y (x := i) (y := 6) (m := 6) ⟨by omega, by omega⟩ (by decide) (by decide)).1]; omega) (by rw [(m1y (x := i) (y := 6) (m := 6) ⟨by omega, by omega⟩ (by decide) (by decide)).1]; omega)) ?_
  refine r_callVV (ci := 10) (pc := 35) h dX10_addRowFrom_35 wm_X10_272 ca_X10_addRow rfl (c_X10_addRow E _ _ _ _ _ _ _ _ hr9) rfl rfl (Nat.le_of_ble_eq_true rfl) (by decide) (by decide) (by decide) (by decide) (fun I1 hq => ?_)
  subst hq
  exact hr _ _ _ dX10_addRowFrom_38 (rfl)
set_option maxRecDepth 100000 in
set_option maxHeartbeats 4000000 in
theorem c_X10_rows (E : En) (I : Mem) (s : Int32) (l : Int32) (i : Int32) (n : Int32) (hz : ∀ n, n < 4 → 0 ≤ (I (143 + 2 * n) 1).toInt ∧ (I (143 + 2 * n) 1).toInt ≤ 60) (hr9 : 0 ≤ (I 0 16).toInt ∧ (I 0 16).toInt ≤ 30) : Ctr E yX10_rows cX10_rows 8 (some .int) 7 [.ref (E.1 0), .int s, .int l, .int i, .int n] I (qI (fun (r : Int32) (I1 : Mem) => r = (F_rows I s l i n).1 ∧ (F_rows I s l i n).2 = I1)) := by
  refine Ctr.openI (by decide) (Nat.le_of_ble_eq_true rfl) (fun g h hr => ?_)
  have h : Sem cX10_rows RX10 8 (rmL 7) E g := h
  show g I 0 [(0, .ref (E.1 0)), (1, .int s), (2, .int l), (3, .int i), (4, .int n)] []
  refine r_iload (pc := 0) h dX10_rows_0 rfl ?_
  refine r_iconst (v := 0) (pc := 2) h dX10_rows_2 (by decide) ?_
  refine r_bipush (v := 8) (pc := 3) h dX10_rows_3 (by decide) ?_
  refine r_callSI (pc := 5) h dX10_rows_5 wm_X10_118 ca_X10_within (c_X10_within E _ _ _ _) rfl rfl (Nat.le_of_ble_eq_true rfl) (by decide) (fun r I1 hq => ?_)
  obtain ⟨rfl, rfl⟩ := hq
  refine r_if_ne (pc := 8) h 13 dX10_rows_8 (by decide) (fun c8 => ?_) (fun c8 => ?_)
  · have hn8 : 0 ≤ n.toInt ∧ n.toInt ≤ 8 := by (try simp only [b2i_eq0] at *); (try simp only [Int32.reduceToInt, Int64.reduceToInt, Int32.toInt_toInt64] at *); omega
    refine r_aload_n (pc := 13) h dX10_rows_13 rfl ?_
    refine r_iload_n (pc := 14) h dX10_rows_14 rfl ?_
    refine r_iload_n (pc := 15) h dX10_rows_15 rfl ?_
    refine r_callVI (ci := 10) (pc := 16) h dX10_rows_16 wm_X10_289 ca_X10_faultOf rfl (c_X10_faultOf E _ _ _) rfl rfl (Nat.le_of_ble_eq_true rfl) (by decide) (by decide) (by decide) (by decide) (fun r I1 hq => ?_)
    obtain ⟨rfl, rfl⟩ := hq
    refine r_istore (pc := 19) h dX10_rows_19 (by decide) ?_
    refine r_iload (pc := 21) h dX10_rows_21 rfl ?_
    refine r_if_eq (pc := 23) h 29 dX10_rows_23 (by decide) (fun c23 => ?_) (fun c23 => ?_)
    · have hv := fault0 c23
      have hns : s.toNatClampNeg < 4 := by rw [tn]; omega
      have hzs := hz _ hns
      have hn7 := n7 hn8
      have hNn : (n.toNatClampNeg : Int) = n.toInt := tnI _ hn8.1
      have hN6 : n.toNatClampNeg ≤ 8 := by omega
      refine r_aload_n (pc := 29) h dX10_rows_29 rfl ?_
      refine gf_X10_107 (pc := 30) h dX10_rows_30 ?_
      refine r_iload_n (pc := 33) h dX10_rows_33 rfl ?_
      refine r_aa40 (pc := 34) h dX10_rows_34 (vin (n := 4) (by omega) (by omega)) ?_
      refine r_astore (pc := 35) h dX10_rows_35 (by decide) ?_
      refine r_aload (pc := 37) h dX10_rows_37 rfl ?_
      refine r_iload_n (pc := 39) h dX10_rows_39 rfl ?_
      refine r_iload (pc := 40) h dX10_rows_40 rfl ?_
      refine r_bipush (v := 7) (pc := 42) h dX10_rows_42 (by decide) ?_
      refine r_imul (pc := 44) h dX10_rows_44 ?_
      refine r_callVI (ci := 6) (pc := 45) h dX10_rows_45 wm_X10_292 ca_X6_has rfl (c_X6_has E _ _ _ _ (by omega) (kdSh _ hns) hzs) rfl rfl (Nat.le_of_ble_eq_true rfl) (by decide) (by decide) (by omega) (kdSh _ hns) (fun r I1 hq => ?_)
      obtain ⟨rfl, rfl⟩ := hq
      refine r_if_ne (pc := 48) h 54 dX10_rows_48 (by decide) (fun c48 => ?_) (fun c48 => ?_)
      · have hha : hasP (I (143 + 2 * s.toNatClampNeg) 1) i (n * 7) := b2i_ne c48
        have hh2 := hha
        unfold hasP at hh2
        rw [hn7.1] at hh2
        have hti := tnI i (by omega)
        refine r_iconst (v := 0) (pc := 54) h dX10_rows_54 (by decide) ?_
        refine r_istore (pc := 55) h dX10_rows_55 (by decide) ?_
        have loop57 : ∀ (m q_ : Nat), q_ ≤ n.toNatClampNeg → n.toNatClampNeg + 1 ≤ q_ + m → (∀ z, z < q_ → (fun k => rvA (I 0 2) (I (143 + 2 * s.toNatClampNeg + 1)) (i.toNatClampNeg + 7 * k)) z = true) → g I 57 [(0, .ref (E.1 0)), (3, .int i), (4, .int n), (6, .ref (E.1 (143 + 2 * s.toNatClampNeg))), (7, .int (nI q_))] [] := by
          intro m
          induction m with
          | zero =>
            intro q_ h1 h2
            omega
          | succ m ih =>
            intro q_ hi_ him_ hall_
            have ei := nI_tI (i := q_) (by omega)
            refine r_iload (pc := 57) h dX10_rows_57 rfl ?_
            refine r_iload (pc := 59) h dX10_rows_59 rfl ?_
            refine r_icmp_ge (pc := 61) h 92 dX10_rows_61 (by decide) (fun c61 => ?_) (fun c61 => ?_)
            · have hge : q_ = n.toNatClampNeg := by rw [Int32.le_iff_toInt_le, ei] at c61; omega
              have hall3 : allB (fun k => rvA (I 0 2) (I (143 + 2 * s.toNatClampNeg + 1)) (i.toNatClampNeg + 7 * k)) n.toNatClampNeg = true := (allB_iff _ _).mpr (by rw [← hge]; exact hall_)
              have e30_ : (30 - I 0 16).toInt = 30 - (I 0 16).toInt := by rw [tI_sub (by rw [e30]; omega) (by rw [e30]; omega), e30]
              refine r_iload (pc := 92) h dX10_rows_92 rfl ?_
              refine r_bipush (v := 30) (pc := 94) h dX10_rows_94 (by decide) ?_
              refine r_aload_n (pc := 96) h dX10_rows_96 rfl ?_
              refine gf_X10_95 (pc := 97) h dX10_rows_97 ?_
              refine r_isub (pc := 100) h dX10_rows_100 ?_
              refine r_icmp_le (pc := 101) h 107 dX10_rows_101 (by decide) (fun c101 => ?_) (fun c101 => ?_)
              · have hle : n.toInt ≤ 30 - (I 0 16).toInt := by rw [Int32.le_iff_toInt_le, e30_] at c101; exact c101
                refine r_iconst (v := 0) (pc := 107) h dX10_rows_107 (by decide) ?_
                refine r_istore (pc := 108) h dX10_rows_108 (by decide) ?_
                have loop110 : ∀ (m q_ : Nat), q_ ≤ n.toNatClampNeg → n.toNatClampNeg + 1 ≤ q_ + m → g (addFs I (I (143 + 2 * s.toNatClampNeg + 1)) i.toNatClampNeg q_) 110 [(0, .ref (E.1 0)), (3, .int i), (4, .int n), (6, .ref (E.1 (143 + 2 * s.toNatClampNeg))), (7, .int (nI q_))] [] := by
                  intro m
                  induction m with
                  | zero =>
                    intro q_ h1 h2
                    omega
                  | succ m ih =>
                    intro q_ hi_ him_
                    have ei := nI_tI (i := q_) (by omega)
                    refine r_iload (pc := 110) h dX10_rows_110 rfl ?_
                    refine r_iload (pc := 112) h dX10_rows_112 rfl ?_
                    refine r_icmp_ge (pc := 114) h 139 dX10_rows_114 (by decide) (fun c114 => ?_) (fun c114 => ?_)
                    · have hge : q_ = n.toNatClampNeg := by rw [Int32.le_iff_toInt_le, ei] at c114; omega
                      subst hge
                      refine r_aload_n (pc := 139) h dX10_rows_139 rfl ?_
                      refine gf_X10_95 (pc := 140) h dX10_rows_140 ?_
                      exact hr _ _ _ _ dX10_rows_143 (rfl) (by unfold F_rows; rw [if_pos hn8, if_pos c23, if_pos hha, if_pos hall3, if_pos hle]; exact ⟨by rw [addFs_16, nI_ofx hn8.1], rfl⟩)
                    · have hlt : q_ < n.toNatClampNeg := by rw [Int32.le_iff_toInt_le, ei] at c114; omega
                      have hp7 := i7p (i := i) (k := q_) (by omega) (by omega)
                      have hJi : (addFs I (I (143 + 2 * s.toNatClampNeg + 1)) i.toNatClampNeg q_) (143 + 2 * s.toNatClampNeg + 1) = I (143 + 2 * s.toNatClampNeg + 1) := addFs_ne I _ _ hr9.1 (by omega) (by omega) q_ (by omega)
                      have hJ16 := (tn_addn (x := I 0 16) (r := q_) hr9.1 (by omega)).1
                      refine r_aload_n (pc := 117) h dX10_rows_117 rfl ?_
                      refine r_aload (pc := 118) h dX10_rows_118 rfl ?_
                      refine gf_X10_295 (pc := 120) h dX10_rows_120 (by omega) (kdSh _ hns) (rfSi _ hns) ?_
                      refine r_iload_n (pc := 123) h dX10_rows_123 rfl ?_
                      refine r_iload (pc := 124) h dX10_rows_124 rfl ?_
                      refine r_bipush (v := 7) (pc := 126) h dX10_rows_126 (by decide) ?_
                      refine r_imul (pc := 128) h dX10_rows_128 ?_
                      refine r_iadd (pc := 129) h dX10_rows_129 ?_
                      refine r_callVV (ci := 10) (pc := 130) h dX10_rows_130 wm_X10_302 ca_X10_addRowFrom rfl (c_X10_addRowFrom E _ _ _ (by omega) (kdSi _ hns) (lnSi _ hns) (by rw [hp7.1]; omega) (by rw [addFs_16, hJ16]; omega)) rfl rfl (Nat.le_of_ble_eq_true rfl) (by decide) (by decide) (by decide) (by decide) (fun I1 hq => ?_)
                      rw [hJi, hp7.2] at hq
                      subst hq
                      refine r_iinc (v := 1) (pc := 133) h dX10_rows_133 rfl (by decide) (by decide) ?_
                      refine r_goto (pc := 136) h 110 dX10_rows_136 (by decide) ?_
                      rw [← nI_succ]
                      
                      exact r_at h [(0, .ref (E.1 0)), (3, .int i), (4, .int n), (6, .ref (E.1 (143 + 2 * s.toNatClampNeg))), (7, .int (nI (q_ + 1)))] ⟨rfl, rfl, rfl, rfl, rfl, trivial⟩ (ih (q_ + 1) (by omega) (by omega))
                have h0 := loop110 (n.toNatClampNeg + 1) 0 (by omega) (by omega)
                exact r_at h [(0, .ref (E.1 0)), (3, .int i), (4, .int n), (6, .ref (E.1 (143 + 2 * s.toNatClampNeg))), (7, .int (nI 0))] ⟨rfl, rfl, rfl, rfl, rfl, trivial⟩ h0
              · refine r_bipush (v := -3) (pc := 104) h dX10_rows_104 (by decide) ?_
                exact hr _ _ _ _ dX10_rows_106 (rfl) (by unfold F_rows; rw [if_pos hn8, if_pos c23, if_pos hha, if_pos hall3, if_neg (by rw [Int32.le_iff_toInt_le, e30_] at c101; exact c101)]; exact ⟨rfl, rfl⟩)
            · have hlt : q_ < n.toNatClampNeg := by rw [Int32.le_iff_toInt_le, ei] at c61; omega
              have hp7 := i7p (i := i) (k := q_) (by omega) (by omega)
              refine r_aload_n (pc := 64) h dX10_rows_64 rfl ?_
              refine r_aload (pc := 65) h dX10_rows_65 rfl ?_
              refine gf_X10_295 (pc := 67) h dX10_rows_67 (by omega) (kdSh _ hns) (rfSi _ hns) ?_
              refine r_iload_n (pc := 70) h dX10_rows_70 rfl ?_
              refine r_iload (pc := 71) h dX10_rows_71 rfl ?_
              refine r_bipush (v := 7) (pc := 73) h dX10_rows_73 (by decide) ?_
              refine r_imul (pc := 75) h dX10_rows_75 ?_
              refine r_iadd (pc := 76) h dX10_rows_76 ?_
              refine r_callVI (ci := 10) (pc := 77) h dX10_rows_77 wm_X10_298 ca_X10_holdsRow rfl (c_X10_holdsRow E _ _ _ (by omega) (kdSi _ hns) (lnSi _ hns) (by rw [hp7.1]; omega)) rfl rfl (Nat.le_of_ble_eq_true rfl) (by decide) (by decide) (by decide) (by decide) (fun r I1 hq => ?_)
              obtain ⟨rfl, rfl⟩ := hq
              rw [hp7.2]
              refine r_if_ne (pc := 80) h 86 dX10_rows_80 (by decide) (fun c80 => ?_) (fun c80 => ?_)
              · refine r_iinc (v := 1) (pc := 86) h dX10_rows_86 rfl (by decide) (by decide) ?_
                refine r_goto (pc := 89) h 57 dX10_rows_89 (by decide) ?_
                rw [← nI_succ]
                have hall2_ : ∀ z, z < q_ + 1 → (fun k => rvA (I 0 2) (I (143 + 2 * s.toNatClampNeg + 1)) (i.toNatClampNeg + 7 * k)) z = true := fun z hz_ => by
                  by_cases e_ : z = q_
                  · rw [e_]
                    exact decide_eq_true (b2i_ne c80)
                  · exact hall_ z (by omega)
                exact r_at h [(0, .ref (E.1 0)), (3, .int i), (4, .int n), (6, .ref (E.1 (143 + 2 * s.toNatClampNeg))), (7, .int (nI (q_ + 1)))] ⟨rfl, rfl, rfl, rfl, rfl, trivial⟩ (ih (q_ + 1) (by omega) (by omega) hall2_)
              · refine r_bipush (v := -2) (pc := 83) h dX10_rows_83 (by decide) ?_
                exact hr _ _ _ _ dX10_rows_85 (rfl) (by unfold F_rows; rw [if_pos hn8, if_pos c23, if_pos hha, if_neg (allB_no hlt (decide_eq_false (b2i_eq0.mp c80)))]; exact ⟨rfl, rfl⟩)
        have h0 := loop57 (n.toNatClampNeg + 1) 0 (by omega) (by omega) (fun z hz_ => absurd hz_ (by omega))
        exact r_at h [(0, .ref (E.1 0)), (3, .int i), (4, .int n), (6, .ref (E.1 (143 + 2 * s.toNatClampNeg))), (7, .int (nI 0))] ⟨rfl, rfl, rfl, rfl, rfl, trivial⟩ h0
      · refine r_bipush (v := -13) (pc := 51) h dX10_rows_51 (by decide) ?_
        exact hr _ _ _ _ dX10_rows_53 (rfl) (by unfold F_rows; rw [if_pos hn8, if_pos c23, if_neg (b2i_eq0.mp c48)]; exact ⟨rfl, rfl⟩)
    · refine r_iload (pc := 26) h dX10_rows_26 rfl ?_
      exact hr _ _ _ _ dX10_rows_28 (rfl) (by unfold F_rows; rw [if_pos hn8, if_neg c23]; exact ⟨rfl, rfl⟩)
  · refine r_iconst (v := -1) (pc := 11) h dX10_rows_11 (by decide) ?_
    exact hr _ _ _ _ dX10_rows_12 (rfl) (by unfold F_rows; rw [if_neg (by (try simp only [b2i_eq0] at *); (try simp only [Int32.reduceToInt, Int64.reduceToInt, Int32.toInt_toInt64] at *); omega)]; exact ⟨rfl, rfl⟩)
set_option maxRecDepth 100000 in
set_option maxHeartbeats 4000000 in
theorem c_X11_rows (E : En) (I : Mem) (s : Int32) (l : Int32) (i : Int32) (n : Int32) (hz : ∀ n, n < 4 → (I 181 n).toInt ≤ 60) (hr9 : 0 ≤ (I 151 42).toInt ∧ (I 151 42).toInt ≤ 30) : Ctr E yX11_rows cX11_rows 9 (some .int) 4 [.ref (E.1 151), .int s, .int l, .int i, .int n] I (qI (fun (r : Int32) (I1 : Mem) => r = (R_rows I s l i n).1 ∧ (R_rows I s l i n).2 = I1)) := by
  refine Ctr.openI (by decide) (Nat.le_of_ble_eq_true rfl) (fun g h hr => ?_)
  have h : Sem cX11_rows RX11 9 (rmL 4) E g := h
  show g I 0 [(0, .ref (E.1 151)), (1, .int s), (2, .int l), (3, .int i), (4, .int n)] []
  refine r_iload_n (pc := 0) h dX11_rows_0 rfl ?_
  refine r_callSI (pc := 1) h dX11_rows_1 wm_X11_334 ca_X11_isSheet (c_X11_isSheet E _ _) rfl rfl (Nat.le_of_ble_eq_true rfl) (by decide) (fun r I1 hq => ?_)
  obtain ⟨rfl, rfl⟩ := hq
  refine r_if_eq (pc := 4) h 27 dX11_rows_4 (by decide) (fun c4 => ?_) (fun c4 => ?_)
  · refine r_iconst (v := -1) (pc := 27) h dX11_rows_27 (by decide) ?_
    exact hr _ _ _ _ dX11_rows_28 (rfl) (by unfold R_rows; rw [if_neg (by (try simp only [b2i_eq0] at *); (try simp only [Int32.reduceToInt, Int64.reduceToInt, Int32.toInt_toInt64] at *); omega)]; exact ⟨rfl, rfl⟩)
  · refine r_iload_n (pc := 7) h dX11_rows_7 rfl ?_
    refine r_callSI (pc := 8) h dX11_rows_8 wm_X11_337 ca_X11_isLane (c_X11_isLane E _ _) rfl rfl (Nat.le_of_ble_eq_true rfl) (by decide) (fun r I1 hq => ?_)
    obtain ⟨rfl, rfl⟩ := hq
    refine r_if_eq (pc := 11) h 27 dX11_rows_11 (by decide) (fun c11 => ?_) (fun c11 => ?_)
    · refine r_iconst (v := -1) (pc := 27) h dX11_rows_27 (by decide) ?_
      exact hr _ _ _ _ dX11_rows_28 (rfl) (by unfold R_rows; rw [if_neg (by (try simp only [b2i_eq0] at *); (try simp only [Int32.reduceToInt, Int64.reduceToInt, Int32.toInt_toInt64] at *); omega)]; exact ⟨rfl, rfl⟩)
    · refine r_iload (pc := 14) h dX11_rows_14 rfl ?_
      refine r_i2l (pc := 16) h dX11_rows_16 ?_
      refine r_lconst (v := 0) (pc := 17) h dX11_rows_17 (by decide) ?_
      refine r_ldc2 (pc := 18) h dX11_rows_18 wc_X11_344 ?_
      refine r_callSI (pc := 21) h dX11_rows_21 wm_X11_127 ca_X11_in (c_X11_in E _ _ _ _) rfl rfl (Nat.le_of_ble_eq_true rfl) (by decide) (fun r I1 hq => ?_)
      obtain ⟨rfl, rfl⟩ := hq
      refine r_if_ne (pc := 24) h 29 dX11_rows_24 (by decide) (fun c24 => ?_) (fun c24 => ?_)
      · have hv : (0 ≤ s.toInt ∧ s.toInt ≤ 3) ∧ (0 ≤ l.toInt ∧ l.toInt ≤ 2) ∧ (0 ≤ n.toInt ∧ n.toInt ≤ 8) := by (try simp only [b2i_eq0] at *); (try simp only [Int32.reduceToInt, Int64.reduceToInt, Int32.toInt_toInt64] at *); omega
        have hns : s.toNatClampNeg < 4 := by rw [tn]; omega
        have hzs := hz _ hns
        have hn7 := n7 hv.2.2
        have hNn : (n.toNatClampNeg : Int) = n.toInt := tnI _ hv.2.2.1
        have hN6 : n.toNatClampNeg ≤ 8 := by omega
        refine r_aload_n (pc := 29) h dX11_rows_29 rfl ?_
        refine r_iload_n (pc := 30) h dX11_rows_30 rfl ?_
        refine r_iload_n (pc := 31) h dX11_rows_31 rfl ?_
        refine r_iload_n (pc := 32) h dX11_rows_32 rfl ?_
        refine r_bipush (v := 7) (pc := 33) h dX11_rows_33 (by decide) ?_
        refine r_iload (pc := 35) h dX11_rows_35 rfl ?_
        refine r_imul (pc := 37) h dX11_rows_37 ?_
        refine r_callVI (ci := 11) (pc := 38) h dX11_rows_38 wm_X11_340 ca_X11_finds rfl (c_X11_finds E _ _ _ _ _ hv.1) rfl rfl (Nat.le_of_ble_eq_true rfl) (by decide) (by decide) (by decide) (by decide) (fun r I1 hq => ?_)
        obtain ⟨rfl, rfl⟩ := hq
        refine r_istore (pc := 41) h dX11_rows_41 (by decide) ?_
        refine r_iload (pc := 43) h dX11_rows_43 rfl ?_
        refine r_if_ge (pc := 45) h 51 dX11_rows_45 (by decide) (fun c45 => ?_) (fun c45 => ?_)
        · have hfb : ¬ (R_finds I s l i (7 * n)).toInt < 0 := by rw [Int32.le_iff_toInt_le, z32] at c45; omega
          have hf := finds0 hfb
          rw [hn7.2] at hf
          have hti := tnI i (by omega)
          refine r_bipush (v := 60) (pc := 51) h dX11_rows_51 (by decide) ?_
          refine r_iload_n (pc := 53) h dX11_rows_53 rfl ?_
          refine r_imul (pc := 54) h dX11_rows_54 ?_
          refine r_iload_n (pc := 55) h dX11_rows_55 rfl ?_
          refine r_iadd (pc := 56) h dX11_rows_56 ?_
          refine r_istore (pc := 57) h dX11_rows_57 (by decide) ?_
          refine r_iconst (v := 0) (pc := 59) h dX11_rows_59 (by decide) ?_
          refine r_istore (pc := 60) h dX11_rows_60 (by decide) ?_
          have loop62 : ∀ (m q_ : Nat), q_ ≤ n.toNatClampNeg → n.toNatClampNeg + 1 ≤ q_ + m → (∀ z, z < q_ → (fun k => rvA (I 151 1) (I 182) (60 * s.toNatClampNeg + i.toNatClampNeg + 7 * k)) z = true) → g I 62 [(0, .ref (E.1 151)), (4, .int n), (6, .int (60 * s + i)), (7, .int (nI q_))] [] := by
            intro m
            induction m with
            | zero =>
              intro q_ h1 h2
              omega
            | succ m ih =>
              intro q_ hi_ him_ hall_
              have ei := nI_tI (i := q_) (by omega)
              refine r_iload (pc := 62) h dX11_rows_62 rfl ?_
              refine r_iload (pc := 64) h dX11_rows_64 rfl ?_
              refine r_icmp_ge (pc := 66) h 164 dX11_rows_66 (by decide) (fun c66 => ?_) (fun c66 => ?_)
              · have hge : q_ = n.toNatClampNeg := by rw [Int32.le_iff_toInt_le, ei] at c66; omega
                have hall3 : allB (fun k => rvA (I 151 1) (I 182) (60 * s.toNatClampNeg + i.toNatClampNeg + 7 * k)) n.toNatClampNeg = true := (allB_iff _ _).mpr (by rw [← hge]; exact hall_)
                have e30_ : (I 151 42 + n).toInt = (I 151 42).toInt + n.toInt := tI_add (by omega) (by omega)
                refine r_aload_n (pc := 164) h dX11_rows_164 rfl ?_
                refine gf_X11_300 (pc := 165) h dX11_rows_165 ?_
                refine r_iload (pc := 168) h dX11_rows_168 rfl ?_
                refine r_iadd (pc := 170) h dX11_rows_170 ?_
                refine r_bipush (v := 30) (pc := 171) h dX11_rows_171 (by decide) ?_
                refine r_icmp_le (pc := 173) h 179 dX11_rows_173 (by decide) (fun c173 => ?_) (fun c173 => ?_)
                · have hle : (I 151 42).toInt + n.toInt ≤ 30 := by rw [Int32.le_iff_toInt_le, e30_, e30] at c173; exact c173
                  refine r_iconst (v := 0) (pc := 179) h dX11_rows_179 (by decide) ?_
                  refine r_istore (pc := 180) h dX11_rows_180 (by decide) ?_
                  have loop182 : ∀ (m q_ : Nat), q_ ≤ n.toNatClampNeg → n.toNatClampNeg + 1 ≤ q_ + m → g (addRs I (I 182) (60 * s.toNatClampNeg + i.toNatClampNeg) q_) 182 [(0, .ref (E.1 151)), (4, .int n), (6, .int (60 * s + i)), (7, .int (nI q_))] [] := by
                    intro m
                    induction m with
                    | zero =>
                      intro q_ h1 h2
                      omega
                    | succ m ih =>
                      intro q_ hi_ him_
                      have ei := nI_tI (i := q_) (by omega)
                      refine r_iload (pc := 182) h dX11_rows_182 rfl ?_
                      refine r_iload (pc := 184) h dX11_rows_184 rfl ?_
                      refine r_icmp_ge (pc := 186) h 271 dX11_rows_186 (by decide) (fun c186 => ?_) (fun c186 => ?_)
                      · have hge : q_ = n.toNatClampNeg := by rw [Int32.le_iff_toInt_le, ei] at c186; omega
                        subst hge
                        refine r_aload_n (pc := 271) h dX11_rows_271 rfl ?_
                        refine gf_X11_300 (pc := 272) h dX11_rows_272 ?_
                        exact hr _ _ _ _ dX11_rows_275 (rfl) (by unfold R_rows; rw [if_pos hv, if_neg hfb, if_pos hall3, if_pos hle]; exact ⟨by rw [addRs_42, nI_ofx hv.2.2.1], rfl⟩)
                      · have hlt : q_ < n.toNatClampNeg := by rw [Int32.le_iff_toInt_le, ei] at c186; omega
                        have hp7 := m60p (s := s) (i := i) (k := q_) hv.1 (by omega) (by omega)
                        have hJ16 := (tn_addn (x := I 151 42) (r := q_) hr9.1 (by omega)).1
                        have hJi : (addRs I (I 182) (60 * s.toNatClampNeg + i.toNatClampNeg) q_) 182 = I 182 := addRs_ne I _ _ (by decide) (by decide) q_
                        refine r_iload (pc := 189) h dX11_rows_189 rfl ?_
                        refine r_bipush (v := 7) (pc := 191) h dX11_rows_191 (by decide) ?_
                        refine r_iload (pc := 193) h dX11_rows_193 rfl ?_
                        refine r_imul (pc := 195) h dX11_rows_195 ?_
                        refine r_iadd (pc := 196) h dX11_rows_196 ?_
                        refine r_istore (pc := 197) h dX11_rows_197 (by decide) ?_
                        refine r_aload_n (pc := 199) h dX11_rows_199 rfl ?_
                        refine r_aload_n (pc := 200) h dX11_rows_200 rfl ?_
                        refine gf_X11_117 (pc := 201) h dX11_rows_201 ?_
                        refine r_iload (pc := 204) h dX11_rows_204 rfl ?_
                        refine r_ialdL (j := 60 * s.toNatClampNeg + i.toNatClampNeg + 7 * q_) (pc := 206) h dX11_rows_206 (by decide) (by decide) (hp7.2) (vin (n := 240) (by rw [hp7.1]; omega) (by rw [hp7.1]; omega)) ?_
                        refine r_aload_n (pc := 207) h dX11_rows_207 rfl ?_
                        refine gf_X11_117 (pc := 208) h dX11_rows_208 ?_
                        refine r_iload (pc := 211) h dX11_rows_211 rfl ?_
                        refine r_iconst (v := 1) (pc := 213) h dX11_rows_213 (by decide) ?_
                        refine r_iadd (pc := 214) h dX11_rows_214 ?_
                        refine r_ialdL (j := 60 * s.toNatClampNeg + i.toNatClampNeg + 7 * q_ + 1) (pc := 215) h dX11_rows_215 (by decide) (by decide) ((m1y (x := 60 * s + i + 7 * nI q_) (y := 1) (m := 1) (by rw [hp7.1]; omega) (by decide) (by decide)).2.trans (by rw [hp7.2])) (vin (n := 240) (by rw [(m1y (x := 60 * s + i + 7 * nI q_) (y := 1) (m := 1) (by rw [hp7.1]; omega) (by decide) (by decide)).1, hp7.1]; omega) (by rw [(m1y (x := 60 * s + i + 7 * nI q_) (y := 1) (m := 1) (by rw [hp7.1]; omega) (by decide) (by decide)).1, hp7.1]; omega)) ?_
                        refine r_aload_n (pc := 216) h dX11_rows_216 rfl ?_
                        refine gf_X11_117 (pc := 217) h dX11_rows_217 ?_
                        refine r_iload (pc := 220) h dX11_rows_220 rfl ?_
                        refine r_iconst (v := 2) (pc := 222) h dX11_rows_222 (by decide) ?_
                        refine r_iadd (pc := 223) h dX11_rows_223 ?_
                        refine r_ialdL (j := 60 * s.toNatClampNeg + i.toNatClampNeg + 7 * q_ + 2) (pc := 224) h dX11_rows_224 (by decide) (by decide) ((m1y (x := 60 * s + i + 7 * nI q_) (y := 2) (m := 2) (by rw [hp7.1]; omega) (by decide) (by decide)).2.trans (by rw [hp7.2])) (vin (n := 240) (by rw [(m1y (x := 60 * s + i + 7 * nI q_) (y := 2) (m := 2) (by rw [hp7.1]; omega) (by decide) (by decide)).1, hp7.1]; omega) (by rw [(m1y (x := 60 * s + i + 7 * nI q_) (y := 2) (m := 2) (by rw [hp7.1]; omega) (by decide) (by decide)).1, hp7.1]; omega)) ?_
                        refine r_aload_n (pc := 225) h dX11_rows_225 rfl ?_
                        refine gf_X11_117 (pc := 226) h dX11_rows_226 ?_
                        refine r_iload (pc := 229) h dX11_rows_229 rfl ?_
                        refine r_iconst (v := 3) (pc := 231) h dX11_rows_231 (by decide) ?_
                        refine r_iadd (pc := 232) h dX11_rows_232 ?_
                        refine r_ialdL (j := 60 * s.toNatClampNeg + i.toNatClampNeg + 7 * q_ + 3) (pc := 233) h dX11_rows_233 (by decide) (by decide) ((m1y (x := 60 * s + i + 7 * nI q_) (y := 3) (m := 3) (by rw [hp7.1]; omega) (by decide) (by decide)).2.trans (by rw [hp7.2])) (vin (n := 240) (by rw [(m1y (x := 60 * s + i + 7 * nI q_) (y := 3) (m := 3) (by rw [hp7.1]; omega) (by decide) (by decide)).1, hp7.1]; omega) (by rw [(m1y (x := 60 * s + i + 7 * nI q_) (y := 3) (m := 3) (by rw [hp7.1]; omega) (by decide) (by decide)).1, hp7.1]; omega)) ?_
                        refine r_aload_n (pc := 234) h dX11_rows_234 rfl ?_
                        refine gf_X11_117 (pc := 235) h dX11_rows_235 ?_
                        refine r_iload (pc := 238) h dX11_rows_238 rfl ?_
                        refine r_iconst (v := 4) (pc := 240) h dX11_rows_240 (by decide) ?_
                        refine r_iadd (pc := 241) h dX11_rows_241 ?_
                        refine r_ialdL (j := 60 * s.toNatClampNeg + i.toNatClampNeg + 7 * q_ + 4) (pc := 242) h dX11_rows_242 (by decide) (by decide) ((m1y (x := 60 * s + i + 7 * nI q_) (y := 4) (m := 4) (by rw [hp7.1]; omega) (by decide) (by decide)).2.trans (by rw [hp7.2])) (vin (n := 240) (by rw [(m1y (x := 60 * s + i + 7 * nI q_) (y := 4) (m := 4) (by rw [hp7.1]; omega) (by decide) (by decide)).1, hp7.1]; omega) (by rw [(m1y (x := 60 * s + i + 7 * nI q_) (y := 4) (m := 4) (by rw [hp7.1]; omega) (by decide) (by decide)).1, hp7.1]; omega)) ?_
                        refine r_aload_n (pc := 243) h dX11_rows_243 rfl ?_
                        refine gf_X11_117 (pc := 244) h dX11_rows_244 ?_
                        refine r_iload (pc := 247) h dX11_rows_247 rfl ?_
                        refine r_iconst (v := 5) (pc := 249) h dX11_rows_249 (by decide) ?_
                        refine r_iadd (pc := 250) h dX11_rows_250 ?_
                        refine r_ialdL (j := 60 * s.toNatClampNeg + i.toNatClampNeg + 7 * q_ + 5) (pc := 251) h dX11_rows_251 (by decide) (by decide) ((m1y (x := 60 * s + i + 7 * nI q_) (y := 5) (m := 5) (by rw [hp7.1]; omega) (by decide) (by decide)).2.trans (by rw [hp7.2])) (vin (n := 240) (by rw [(m1y (x := 60 * s + i + 7 * nI q_) (y := 5) (m := 5) (by rw [hp7.1]; omega) (by decide) (by decide)).1, hp7.1]; omega) (by rw [(m1y (x := 60 * s + i + 7 * nI q_) (y := 5) (m := 5) (by rw [hp7.1]; omega) (by decide) (by decide)).1, hp7.1]; omega)) ?_
                        refine r_aload_n (pc := 252) h dX11_rows_252 rfl ?_
                        refine gf_X11_117 (pc := 253) h dX11_rows_253 ?_
                        refine r_iload (pc := 256) h dX11_rows_256 rfl ?_
                        refine r_bipush (v := 6) (pc := 258) h dX11_rows_258 (by decide) ?_
                        refine r_iadd (pc := 260) h dX11_rows_260 ?_
                        refine r_ialdL (j := 60 * s.toNatClampNeg + i.toNatClampNeg + 7 * q_ + 6) (pc := 261) h dX11_rows_261 (by decide) (by decide) ((m1y (x := 60 * s + i + 7 * nI q_) (y := 6) (m := 6) (by rw [hp7.1]; omega) (by decide) (by decide)).2.trans (by rw [hp7.2])) (vin (n := 240) (by rw [(m1y (x := 60 * s + i + 7 * nI q_) (y := 6) (m := 6) (by rw [hp7.1]; omega) (by decide) (by decide)).1, hp7.1]; omega) (by rw [(m1y (x := 60 * s + i + 7 * nI q_) (y := 6) (m := 6) (by rw [hp7.1]; omega) (by decide) (by decide)).1, hp7.1]; omega)) ?_
                        rw [hJi]
                        refine r_callVV (ci := 11) (pc := 262) h dX11_rows_262 wm_X11_307 ca_X11_put rfl (c_X11_put E _ _ _ _ _ _ _ _ (by rw [addRs_42, hJ16]; omega)) rfl rfl (Nat.le_of_ble_eq_true rfl) (by decide) (by decide) (by decide) (by decide) (fun I1 hq => ?_)
                        subst hq
                        refine r_iinc (v := 1) (pc := 265) h dX11_rows_265 rfl (by decide) (by decide) ?_
                        refine r_goto (pc := 268) h 182 dX11_rows_268 (by decide) ?_
                        rw [← nI_succ]
                        
                        exact r_at h [(0, .ref (E.1 151)), (4, .int n), (6, .int (60 * s + i)), (7, .int (nI (q_ + 1)))] ⟨rfl, rfl, rfl, rfl, trivial⟩ (ih (q_ + 1) (by omega) (by omega))
                  have h0 := loop182 (n.toNatClampNeg + 1) 0 (by omega) (by omega)
                  exact r_at h [(0, .ref (E.1 151)), (4, .int n), (6, .int (60 * s + i)), (7, .int (nI 0))] ⟨rfl, rfl, rfl, rfl, trivial⟩ h0
                · refine r_bipush (v := -3) (pc := 176) h dX11_rows_176 (by decide) ?_
                  exact hr _ _ _ _ dX11_rows_178 (rfl) (by unfold R_rows; rw [if_pos hv, if_neg hfb, if_pos hall3, if_neg (by rw [Int32.le_iff_toInt_le, e30_, e30] at c173; exact c173)]; exact ⟨rfl, rfl⟩)
              · have hlt : q_ < n.toNatClampNeg := by rw [Int32.le_iff_toInt_le, ei] at c66; omega
                have hp7 := m60p (s := s) (i := i) (k := q_) hv.1 (by omega) (by omega)
                refine r_iload (pc := 69) h dX11_rows_69 rfl ?_
                refine r_bipush (v := 7) (pc := 71) h dX11_rows_71 (by decide) ?_
                refine r_iload (pc := 73) h dX11_rows_73 rfl ?_
                refine r_imul (pc := 75) h dX11_rows_75 ?_
                refine r_iadd (pc := 76) h dX11_rows_76 ?_
                refine r_istore (pc := 77) h dX11_rows_77 (by decide) ?_
                refine r_aload_n (pc := 79) h dX11_rows_79 rfl ?_
                refine r_aload_n (pc := 80) h dX11_rows_80 rfl ?_
                refine gf_X11_117 (pc := 81) h dX11_rows_81 ?_
                refine r_iload (pc := 84) h dX11_rows_84 rfl ?_
                refine r_ialdL (j := 60 * s.toNatClampNeg + i.toNatClampNeg + 7 * q_) (pc := 86) h dX11_rows_86 (by decide) (by decide) (hp7.2) (vin (n := 240) (by rw [hp7.1]; omega) (by rw [hp7.1]; omega)) ?_
                refine r_i2l (pc := 87) h dX11_rows_87 ?_
                refine r_aload_n (pc := 88) h dX11_rows_88 rfl ?_
                refine gf_X11_117 (pc := 89) h dX11_rows_89 ?_
                refine r_iload (pc := 92) h dX11_rows_92 rfl ?_
                refine r_iconst (v := 1) (pc := 94) h dX11_rows_94 (by decide) ?_
                refine r_iadd (pc := 95) h dX11_rows_95 ?_
                refine r_ialdL (j := 60 * s.toNatClampNeg + i.toNatClampNeg + 7 * q_ + 1) (pc := 96) h dX11_rows_96 (by decide) (by decide) ((m1y (x := 60 * s + i + 7 * nI q_) (y := 1) (m := 1) (by rw [hp7.1]; omega) (by decide) (by decide)).2.trans (by rw [hp7.2])) (vin (n := 240) (by rw [(m1y (x := 60 * s + i + 7 * nI q_) (y := 1) (m := 1) (by rw [hp7.1]; omega) (by decide) (by decide)).1, hp7.1]; omega) (by rw [(m1y (x := 60 * s + i + 7 * nI q_) (y := 1) (m := 1) (by rw [hp7.1]; omega) (by decide) (by decide)).1, hp7.1]; omega)) ?_
                refine r_i2l (pc := 97) h dX11_rows_97 ?_
                refine r_aload_n (pc := 98) h dX11_rows_98 rfl ?_
                refine gf_X11_117 (pc := 99) h dX11_rows_99 ?_
                refine r_iload (pc := 102) h dX11_rows_102 rfl ?_
                refine r_iconst (v := 2) (pc := 104) h dX11_rows_104 (by decide) ?_
                refine r_iadd (pc := 105) h dX11_rows_105 ?_
                refine r_ialdL (j := 60 * s.toNatClampNeg + i.toNatClampNeg + 7 * q_ + 2) (pc := 106) h dX11_rows_106 (by decide) (by decide) ((m1y (x := 60 * s + i + 7 * nI q_) (y := 2) (m := 2) (by rw [hp7.1]; omega) (by decide) (by decide)).2.trans (by rw [hp7.2])) (vin (n := 240) (by rw [(m1y (x := 60 * s + i + 7 * nI q_) (y := 2) (m := 2) (by rw [hp7.1]; omega) (by decide) (by decide)).1, hp7.1]; omega) (by rw [(m1y (x := 60 * s + i + 7 * nI q_) (y := 2) (m := 2) (by rw [hp7.1]; omega) (by decide) (by decide)).1, hp7.1]; omega)) ?_
                refine r_i2l (pc := 107) h dX11_rows_107 ?_
                refine r_aload_n (pc := 108) h dX11_rows_108 rfl ?_
                refine gf_X11_117 (pc := 109) h dX11_rows_109 ?_
                refine r_iload (pc := 112) h dX11_rows_112 rfl ?_
                refine r_iconst (v := 3) (pc := 114) h dX11_rows_114 (by decide) ?_
                refine r_iadd (pc := 115) h dX11_rows_115 ?_
                refine r_ialdL (j := 60 * s.toNatClampNeg + i.toNatClampNeg + 7 * q_ + 3) (pc := 116) h dX11_rows_116 (by decide) (by decide) ((m1y (x := 60 * s + i + 7 * nI q_) (y := 3) (m := 3) (by rw [hp7.1]; omega) (by decide) (by decide)).2.trans (by rw [hp7.2])) (vin (n := 240) (by rw [(m1y (x := 60 * s + i + 7 * nI q_) (y := 3) (m := 3) (by rw [hp7.1]; omega) (by decide) (by decide)).1, hp7.1]; omega) (by rw [(m1y (x := 60 * s + i + 7 * nI q_) (y := 3) (m := 3) (by rw [hp7.1]; omega) (by decide) (by decide)).1, hp7.1]; omega)) ?_
                refine r_i2l (pc := 117) h dX11_rows_117 ?_
                refine r_aload_n (pc := 118) h dX11_rows_118 rfl ?_
                refine gf_X11_117 (pc := 119) h dX11_rows_119 ?_
                refine r_iload (pc := 122) h dX11_rows_122 rfl ?_
                refine r_iconst (v := 4) (pc := 124) h dX11_rows_124 (by decide) ?_
                refine r_iadd (pc := 125) h dX11_rows_125 ?_
                refine r_ialdL (j := 60 * s.toNatClampNeg + i.toNatClampNeg + 7 * q_ + 4) (pc := 126) h dX11_rows_126 (by decide) (by decide) ((m1y (x := 60 * s + i + 7 * nI q_) (y := 4) (m := 4) (by rw [hp7.1]; omega) (by decide) (by decide)).2.trans (by rw [hp7.2])) (vin (n := 240) (by rw [(m1y (x := 60 * s + i + 7 * nI q_) (y := 4) (m := 4) (by rw [hp7.1]; omega) (by decide) (by decide)).1, hp7.1]; omega) (by rw [(m1y (x := 60 * s + i + 7 * nI q_) (y := 4) (m := 4) (by rw [hp7.1]; omega) (by decide) (by decide)).1, hp7.1]; omega)) ?_
                refine r_i2l (pc := 127) h dX11_rows_127 ?_
                refine r_aload_n (pc := 128) h dX11_rows_128 rfl ?_
                refine gf_X11_117 (pc := 129) h dX11_rows_129 ?_
                refine r_iload (pc := 132) h dX11_rows_132 rfl ?_
                refine r_iconst (v := 5) (pc := 134) h dX11_rows_134 (by decide) ?_
                refine r_iadd (pc := 135) h dX11_rows_135 ?_
                refine r_ialdL (j := 60 * s.toNatClampNeg + i.toNatClampNeg + 7 * q_ + 5) (pc := 136) h dX11_rows_136 (by decide) (by decide) ((m1y (x := 60 * s + i + 7 * nI q_) (y := 5) (m := 5) (by rw [hp7.1]; omega) (by decide) (by decide)).2.trans (by rw [hp7.2])) (vin (n := 240) (by rw [(m1y (x := 60 * s + i + 7 * nI q_) (y := 5) (m := 5) (by rw [hp7.1]; omega) (by decide) (by decide)).1, hp7.1]; omega) (by rw [(m1y (x := 60 * s + i + 7 * nI q_) (y := 5) (m := 5) (by rw [hp7.1]; omega) (by decide) (by decide)).1, hp7.1]; omega)) ?_
                refine r_i2l (pc := 137) h dX11_rows_137 ?_
                refine r_aload_n (pc := 138) h dX11_rows_138 rfl ?_
                refine gf_X11_117 (pc := 139) h dX11_rows_139 ?_
                refine r_iload (pc := 142) h dX11_rows_142 rfl ?_
                refine r_bipush (v := 6) (pc := 144) h dX11_rows_144 (by decide) ?_
                refine r_iadd (pc := 146) h dX11_rows_146 ?_
                refine r_ialdL (j := 60 * s.toNatClampNeg + i.toNatClampNeg + 7 * q_ + 6) (pc := 147) h dX11_rows_147 (by decide) (by decide) ((m1y (x := 60 * s + i + 7 * nI q_) (y := 6) (m := 6) (by rw [hp7.1]; omega) (by decide) (by decide)).2.trans (by rw [hp7.2])) (vin (n := 240) (by rw [(m1y (x := 60 * s + i + 7 * nI q_) (y := 6) (m := 6) (by rw [hp7.1]; omega) (by decide) (by decide)).1, hp7.1]; omega) (by rw [(m1y (x := 60 * s + i + 7 * nI q_) (y := 6) (m := 6) (by rw [hp7.1]; omega) (by decide) (by decide)).1, hp7.1]; omega)) ?_
                refine r_i2l (pc := 148) h dX11_rows_148 ?_
                refine r_callVI (ci := 11) (pc := 149) h dX11_rows_149 wm_X11_303 ca_X11_isRow rfl (c_X11_isRow E _ _ _ _ _ _ _ _) rfl rfl (Nat.le_of_ble_eq_true rfl) (by decide) (by decide) (by decide) (by decide) (fun r I1 hq => ?_)
                obtain ⟨rfl, rfl⟩ := hq
                refine r_if_ne (pc := 152) h 158 dX11_rows_152 (by decide) (fun c152 => ?_) (fun c152 => ?_)
                · refine r_iinc (v := 1) (pc := 158) h dX11_rows_158 rfl (by decide) (by decide) ?_
                  refine r_goto (pc := 161) h 62 dX11_rows_161 (by decide) ?_
                  rw [← nI_succ]
                  have hall2_ : ∀ z, z < q_ + 1 → (fun k => rvA (I 151 1) (I 182) (60 * s.toNatClampNeg + i.toNatClampNeg + 7 * k)) z = true := fun z hz_ => by
                    by_cases e_ : z = q_
                    · rw [e_]
                      exact decide_eq_true (by have h9_ := b2i_ne c152; simpa only [Int32.toInt_toInt64] using h9_)
                    · exact hall_ z (by omega)
                  exact r_at h [(0, .ref (E.1 151)), (4, .int n), (6, .int (60 * s + i)), (7, .int (nI (q_ + 1)))] ⟨rfl, rfl, rfl, rfl, trivial⟩ (ih (q_ + 1) (by omega) (by omega) hall2_)
                · refine r_bipush (v := -2) (pc := 155) h dX11_rows_155 (by decide) ?_
                  exact hr _ _ _ _ dX11_rows_157 (rfl) (by unfold R_rows; rw [if_pos hv, if_neg hfb, if_neg (allB_no hlt (decide_eq_false (by have h9_ := b2i_eq0.mp c152; simpa only [Int32.toInt_toInt64] using h9_)))]; exact ⟨rfl, rfl⟩)
          have h0 := loop62 (n.toNatClampNeg + 1) 0 (by omega) (by omega) (fun z hz_ => absurd hz_ (by omega))
          exact r_at h [(0, .ref (E.1 151)), (4, .int n), (6, .int (60 * s + i)), (7, .int (nI 0))] ⟨rfl, rfl, rfl, rfl, trivial⟩ h0
        · refine r_iload (pc := 48) h dX11_rows_48 rfl ?_
          exact hr _ _ _ _ dX11_rows_50 (rfl) (by unfold R_rows; rw [if_pos hv, if_pos (by rw [Int32.le_iff_toInt_le, z32] at c45; omega)]; exact ⟨rfl, rfl⟩)
      · refine r_iconst (v := -1) (pc := 27) h dX11_rows_27 (by decide) ?_
        exact hr _ _ _ _ dX11_rows_28 (rfl) (by unfold R_rows; rw [if_neg (by (try simp only [b2i_eq0] at *); (try simp only [Int32.reduceToInt, Int64.reduceToInt, Int32.toInt_toInt64] at *); omega)]; exact ⟨rfl, rfl⟩)
