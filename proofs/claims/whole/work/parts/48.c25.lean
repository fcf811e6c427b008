/-! the match of the reference -/
def isF (A : Bool) (f : Nat → Bool) (i : Nat) : Bool := A && allB f i
theorem isF_s (A : Bool) (f : Nat → Bool) (i : Nat) : isF A f (i + 1) = (isF A f i && f i) := by
  unfold isF
  show (A && (allB f i && f i)) = _
  rw [Bool.and_assoc]
abbrev rwN (I : Mem) (s : Nat) : Nat → Bool := fun i => decide (¬ I 175 i = nI s)
def sQ (I : Mem) : Nat → Int32
  | 0 => 0
  | i + 1 => sQ I i + I 174 (9 * i + (I 175 i).toNatClampNeg)
abbrev frK (I J : Mem) : Prop := (∀ a, a ≠ 151 → a ≠ 176 → J a = I a) ∧ (∀ j, j ≠ 41 → J 151 j = I 151 j)
theorem m9n {c : Nat} {x : Int32} (hc : c < 5) (hx : 0 ≤ x.toInt ∧ x.toInt < 9) : (9 * nI c + x).toInt = 9 * c + x.toInt ∧ (9 * nI c + x).toNatClampNeg = 9 * c + x.toNatClampNeg := by
  have ec := nI_tI (i := c) (by omega)
  have e1 : (9 * nI c).toInt = 9 * c := by rw [tI_mul (by rw [e9i, ec]; omega) (by rw [e9i, ec]; omega), e9i, ec]
  have e2 : (9 * nI c + x).toInt = 9 * c + x.toInt := by rw [tI_add (by rw [e1]; omega) (by rw [e1]; omega), e1]
  refine ⟨e2, ?_⟩
  rw [tn, tn, e2]
  omega
def sR (Q : Nat → Nat → Int) (row : Nat → Int32) : Nat → Int
  | 0 => 0
  | i + 1 => sR Q row i + Q i (row i).toNatClampNeg
theorem sR_congr {Q : Nat → Nat → Int} {row row' : Nat → Int32} : ∀ i, (∀ c, c < i → row c = row' c) → sR Q row i = sR Q row' i
  | 0, _ => rfl
  | i + 1, h => by
    show sR Q row i + _ = sR Q row' i + _
    rw [sR_congr i (fun c hc => h c (by omega)), h i (by omega)]
theorem sR_bd {Q : Nat → Nat → Int} (hQ : ∀ c s, 0 ≤ Q c s ∧ Q c s ≤ 50) (row : Nat → Int32) : ∀ i : Nat, 0 ≤ sR Q row i ∧ sR Q row i ≤ 50 * (i : Int)
  | 0 => by
    show (0 : Int) ≤ 0 ∧ (0 : Int) ≤ _
    omega
  | i + 1 => by
    have ih := sR_bd hQ row i
    have q := hQ i (row i).toNatClampNeg
    show 0 ≤ sR Q row i + _ ∧ sR Q row i + _ ≤ _
    omega
theorem sQ_sR {I : Mem} {Q : Nat → Nat → Int} (hQ : ∀ c s, 0 ≤ Q c s ∧ Q c s ≤ 50) : ∀ i : Nat, i ≤ 5 → (∀ c, c < i → (I 174 (9 * c + (I 175 c).toNatClampNeg)).toInt = Q c (I 175 c).toNatClampNeg) → (sQ I i).toInt = sR Q (I 175) i
  | 0, _, _ => by
    show (0 : Int32).toInt = 0
    decide
  | i + 1, hi, h => by
    have ih := sQ_sR hQ i (by omega) (fun c hc => h c (by omega))
    have hb := sR_bd hQ (I 175) i
    have q := hQ i (I 175 i).toNatClampNeg
    have e := h i (by omega)
    show (sQ I i + I 174 (9 * i + (I 175 i).toNatClampNeg)).toInt = sR Q (I 175) i + Q i (I 175 i).toNatClampNeg
    rw [tI_add (by omega) (by omega), ih, e]
def CmpP (I I1 : Mem) (M : Nat) : Prop := ((I 151 41 < sQ I M ∧ I1 151 41 = sQ I M ∧ (∀ c, c < M → I1 176 c = I 175 c) ∧ frK I I1) ∨ ((¬ I 151 41 < sQ I M) ∧ I1 = I))
abbrev frO (I J : Mem) : Prop := (∀ a, a ≠ 151 → a ≠ 167 → ¬ (173 ≤ a ∧ a ≤ 176) → J a = I a) ∧ (∀ j, j ≠ 20 → j ≠ 21 → j ≠ 36 → j ≠ 41 → J 151 j = I 151 j)
theorem frO_RR {I J : Mem} (h : frO I J) : RR J = RR I := RR_congr (fun a ha => h.1 a (by omega) (by omega) (by omega)) (h.2 13 (by decide) (by decide) (by decide) (by decide)) (h.2 18 (by decide) (by decide) (by decide) (by decide))
theorem frO_ok {I J : Mem} (h : frO I J) (hF : FlOkR I) : FlOkR J := by
  refine ⟨?_, ?_, ?_⟩
  · rw [h.1 162 (by decide) (by decide) (by decide)]
    exact hF.1
  · rw [h.2 13 (by decide) (by decide) (by decide) (by decide)]
    exact hF.2.1
  · rw [h.1 152 (by decide) (by decide) (by decide)]
    exact hF.2.2
theorem frO_pt {I J : Mem} (h : frO I J) (s w : Int32) : ptR J s w = ptR I s w := by
  unfold ptR
  rw [frO_RR h, h.1 158 (by decide) (by decide) (by decide), h.2 32 (by decide) (by decide) (by decide) (by decide), h.2 33 (by decide) (by decide) (by decide) (by decide), h.2 34 (by decide) (by decide) (by decide) (by decide), h.2 35 (by decide) (by decide) (by decide) (by decide)]
theorem frO_man {I J : Mem} (h : frO I J) (hm : manOkR I) : manOkR J := by
  unfold manOkR
  rw [h.2 32 (by decide) (by decide) (by decide) (by decide), h.2 34 (by decide) (by decide) (by decide) (by decide), h.2 35 (by decide) (by decide) (by decide) (by decide)]
  exact hm
theorem frO_w {I J : Mem} (h : frO I J) (hm : RwOk I) : RwOk J := by
  unfold RwOk
  rw [h.1 161 (by decide) (by decide) (by decide)]
  exact hm
abbrev MR (I : Mem) : Nat := cntP (mtR I) 5
abbrev NR (I : Mem) : Nat := (I 151 1).toNatClampNeg
abbrev zMR (I : Mem) : Ms := mV (QR I) (MR I) 0 (fun _ => 0) (bagN (bgR I) (NR I)) 0 (-1, I 176)
def R_ord (I : Mem) : Int32 := if nI (MR I) = 0 then -2 else if nI (cntP (bgR I) (NR I)) < nI (MR I) then -4 else Int32.ofInt (zMR I).1
abbrev thA (I J : Mem) (i : Nat) : Prop := ∀ j, j < i → mtR I j = true → J 173 (cntP (mtR I) j) = nI j
def OrP (I I1 : Mem) (r : Int32) : Prop := r = R_ord I ∧ frO I I1 ∧ (¬ nI (MR I) = 0 → ¬ nI (cntP (bgR I) (NR I)) < nI (MR I) → (∀ c, c < MR I → I1 176 c = (zMR I).2 c) ∧ thA I I1 5)
/-- within the search: A is the memory where it began -/
def DI (A J : Mem) (M d : Nat) (row : Nat → Int32) (z : Ms) : Prop := (∀ a, a ≠ 151 → a ≠ 175 → a ≠ 176 → J a = A a) ∧ (∀ j, j ≠ 41 → J 151 j = A 151 j) ∧ (J 151 41).toInt = z.1 ∧ (-1 ≤ z.1 ∧ z.1 ≤ 250) ∧ (∀ c, c < M → J 176 c = z.2 c) ∧ (∀ c, c < d → J 175 c = row c)
theorem DI_row {A J : Mem} {M d e : Nat} {row : Nat → Int32} {z : Ms} {v : Int32} (h : DI A J M d row z) (he : d ≤ e) : DI A (upm J 175 e v) M d row z := by
  obtain ⟨h1, h2, h3, h4, h5, h6⟩ := h
  refine ⟨fun a a1 a2 a3 => by rw [upm_ne _ _ _ a2]; exact h1 a a1 a2 a3, fun j hj => by rw [upm_ne _ _ _ (by decide)]; exact h2 j hj, by rw [upm_ne _ _ _ (by decide)]; exact h3, h4, fun c hc => by rw [upm_ne _ _ _ (by decide)]; exact h5 c hc, fun c hc => by rw [upm_at, if_neg (fun q => by omega)]; exact h6 c hc⟩
theorem DI_up {A J : Mem} {M d s : Nat} {row : Nat → Int32} {z : Ms} (h : DI A J M d row z) (hs : J 175 d = nI s) : DI A J M (d + 1) (updR row d s) z := by
  obtain ⟨h1, h2, h3, h4, h5, h6⟩ := h
  refine ⟨h1, h2, h3, h4, h5, fun c hc => ?_⟩
  by_cases e : c = d
  · rw [e, hs, updR_eq]
  · rw [updR_ne _ _ e]
    exact h6 c (by omega)
theorem DI_dn {A J : Mem} {M d s : Nat} {row : Nat → Int32} {z : Ms} (h : DI A J M (d + 1) (updR row d s) z) : DI A J M d row z := by
  obtain ⟨h1, h2, h3, h4, h5, h6⟩ := h
  refine ⟨h1, h2, h3, h4, h5, fun c hc => ?_⟩
  rw [h6 c (by omega), updR_ne _ _ (by omega)]
theorem DI_at {A J : Mem} {M d s : Nat} {row : Nat → Int32} {z : Ms} (h : DI A J M (d + 1) (updR row d s) z) : J 175 d = nI s := by
  rw [h.2.2.2.2.2 d (by omega), updR_eq]
theorem nI_p1m1 (s : Nat) : nI (s + 1) + (-1) = nI s := by
  rw [nI_m1 (by omega)]
  rfl
theorem nI_inj {a c : Nat} (ha : a < 1000000) (hc : c < 1000000) (h : nI a = nI c) : a = c := by
  have h1 := nI_tI ha
  have h2 := nI_tI hc
  rw [h, h2] at h1
  omega
/-- which sticks are free -/
abbrev frI (A : Mem) (n d : Nat) (row : Nat → Int32) (fr : Nat) : Prop := fr < 512 ∧ (∀ s, s < n → (fr.testBit s = true ↔ (A 160 s = 0 ∧ ∀ i, i < d → ¬ row i = nI s))) ∧ (∀ s, n ≤ s → s < 9 → fr.testBit s = false)
theorem frI_up {A : Mem} {n d s fr : Nat} {row : Nat → Int32} (hn : n ≤ 9) (hs : s < n) (h : frI A n d row fr) (hb : fr.testBit s = true) : frI A n (d + 1) (updR row d s) (fr - 2 ^ s) := by
  obtain ⟨h1, h2, h3⟩ := h
  refine ⟨Nat.lt_of_le_of_lt (Nat.sub_le _ _) h1, fun t ht => ?_, fun t ht ht9 => ?_⟩
  · rw [clr_bit fr h1 s (by omega) hb t (by omega), Bool.and_eq_true, decide_eq_true_eq, h2 t ht]
    constructor
    · intro ⟨⟨a, c⟩, e⟩
      refine ⟨a, fun i hi => ?_⟩
      by_cases q : i = d
      · rw [q, updR_eq]
        intro z
        exact e (nI_inj (by omega) (by omega) z).symm
      · rw [updR_ne _ _ q]
        exact c i (by omega)
    · intro ⟨a, c⟩
      refine ⟨⟨a, fun i hi => ?_⟩, fun e => ?_⟩
      · have := c i (by omega)
        rw [updR_ne _ _ (by omega)] at this
        exact this
      · have := c d (by omega)
        rw [updR_eq, e] at this
        exact this rfl
  · rw [clr_bit fr h1 s (by omega) hb t ht9, h3 t ht ht9]
    rfl
theorem mStep_end {A : Mem} {Q : Nat → Nat → Int} {m n d fr : Nat} {row : Nat → Int32} {pts : Int} (hn : n ≤ 9) (h : frI A n d row fr) (z : Ms) : mV Q (m + 1) d row fr pts z = foldS (mStep Q m d row fr pts) n z := by
  rw [mV_s]
  have e := fold_end (step := mStep Q m d row fr pts) (n := n) (fun s hs hs9 y => by
    show (if fr.testBit s = true then _ else y) = y
    rw [h.2.2 s hs hs9]
    rfl) z (9 - n) (by omega)
  rw [show n + (9 - n) = 9 by omega] at e
  exact e
set_option maxRecDepth 100000 in
set_option maxHeartbeats 1000000 in
theorem c_X11_isFree (E : En) (I : Mem) (dv : Int32) (sv : Int32) (d s : Nat) (hd : d < 5) (hs : s < 9) (hdv : dv = nI d) (hsv : sv = nI s) : Ctr E yX11_isFree cX11_isFree 5 (some .boolean) 1 [.ref (E.1 151), .int dv, .int sv] I (qI (fun (r : Int32) (I1 : Mem) => r = b2i ((isF (decide (I 160 s = 0)) (rwN I s) d) = true) ∧ I = I1)) := by
  refine Ctr.openI (by decide) (Nat.le_of_ble_eq_true rfl) (fun g h hr => ?_)
  have h : Sem cX11_isFree RX11 5 (rmL 1) E g := h
  show g I 0 [(0, .ref (E.1 151)), (1, .int dv), (2, .int sv)] []
  subst hdv
  subst hsv
  have ed := nI_tI (i := d) (by omega)
  refine r_aload_n (pc := 0) h dX11_isFree_0 rfl ?_
  refine gf_X11_34 (pc := 1) h dX11_isFree_1 ?_
  refine r_iload_n (pc := 4) h dX11_isFree_4 rfl ?_
  refine r_zaldL (j := s) (pc := 5) h dX11_isFree_5 (by decide) (by decide) (nI_tn (by omega)) (vinI (n := 9) (by omega) (by omega)) ?_
  refine r_if_ne (pc := 6) h 13 dX11_isFree_6 (by decide) (fun c6 => ?_) (fun c6 => ?_)
  · refine r_iconst (v := 0) (pc := 13) h dX11_isFree_13 (by decide) ?_
    refine r_istore_n (pc := 14) h dX11_isFree_14 (by decide) ?_
    refine r_iconst (v := 0) (pc := 15) h dX11_isFree_15 (by decide) ?_
    refine r_istore (pc := 16) h dX11_isFree_16 (by decide) ?_
    have loop18 : ∀ (m i : Nat), i ≤ d → d + 1 ≤ i + m → g I 18 [(0, .ref (E.1 151)), (1, .int (nI d)), (2, .int (nI s)), (3, .int (b2i ((isF (decide (I 160 s = 0)) (rwN I s) i) = true))), (4, .int (nI i))] [] := by
      intro m
      induction m with
      | zero =>
        intro i h1 h2
        omega
      | succ m ih =>
        intro i hi him
        have ei := nI_tI (i := i) (by omega)
        refine r_iload (pc := 18) h dX11_isFree_18 rfl ?_
        refine r_iload_n (pc := 20) h dX11_isFree_20 rfl ?_
        refine r_icmp_ge (pc := 21) h 51 dX11_isFree_21 (by decide) (fun c21 => ?_) (fun c21 => ?_)
        · have hge : i = d := by rw [Int32.le_iff_toInt_le, ei, ed] at c21; omega
          refine r_iload_n (pc := 51) h dX11_isFree_51 rfl ?_
          exact hr _ _ _ _ dX11_isFree_52 (by first | rfl | decide | exact b2i_nar) (⟨by rw [hge], rfl⟩)
        · have hlt : i < d := by rw [Int32.le_iff_toInt_le, ei, ed] at c21; omega
          refine r_iload_n (pc := 24) h dX11_isFree_24 rfl ?_
          refine r_if_eq (pc := 25) h 43 dX11_isFree_25 (by decide) (fun c25 => ?_) (fun c25 => ?_)
          · refine r_iconst (v := 0) (pc := 43) h dX11_isFree_43 (by decide) ?_
            refine r_istore_n (pc := 44) h dX11_isFree_44 (by decide) ?_
            refine r_iinc (v := 1) (pc := 45) h dX11_isFree_45 rfl (by decide) (by decide) ?_
            refine r_goto (pc := 48) h 18 dX11_isFree_48 (by decide) ?_
            rw [← nI_succ i]
            first
            | (have e9_ : b2i ((isF (decide (I 160 s = 0)) (rwN I s) (i + 1)) = true) = 1 := b2i_t (by rw [isF_s, Bool.and_eq_true]; exact ⟨b2i_ne c25, decide_eq_true c36⟩)
               exact r_at h [(0, .ref (E.1 151)), (1, .int (nI d)), (2, .int (nI s)), (3, .int (b2i ((isF (decide (I 160 s = 0)) (rwN I s) (i + 1)) = true))), (4, .int (nI (i + 1)))] ⟨rfl, rfl, rfl, by rw [e9_]; rfl, rfl, trivial⟩ (ih (i + 1) (by omega) (by omega)))
            | (have e9_ : b2i ((isF (decide (I 160 s = 0)) (rwN I s) (i + 1)) = true) = 0 := b2i_f (by rw [isF_s, Bool.and_eq_true]; exact fun q_ => (of_decide_eq_true q_.2) c36)
               exact r_at h [(0, .ref (E.1 151)), (1, .int (nI d)), (2, .int (nI s)), (3, .int (b2i ((isF (decide (I 160 s = 0)) (rwN I s) (i + 1)) = true))), (4, .int (nI (i + 1)))] ⟨rfl, rfl, rfl, by rw [e9_]; rfl, rfl, trivial⟩ (ih (i + 1) (by omega) (by omega)))
            | (have e9_ : b2i ((isF (decide (I 160 s = 0)) (rwN I s) (i + 1)) = true) = 0 := b2i_f (by rw [isF_s, Bool.and_eq_true]; exact fun q_ => (b2i_eq0.mp c25) q_.1)
               exact r_at h [(0, .ref (E.1 151)), (1, .int (nI d)), (2, .int (nI s)), (3, .int (b2i ((isF (decide (I 160 s = 0)) (rwN I s) (i + 1)) = true))), (4, .int (nI (i + 1)))] ⟨rfl, rfl, rfl, by rw [e9_]; rfl, rfl, trivial⟩ (ih (i + 1) (by omega) (by omega)))
          · refine r_aload_n (pc := 28) h dX11_isFree_28 rfl ?_
            refine gf_X11_96 (pc := 29) h dX11_isFree_29 ?_
            refine r_iload (pc := 32) h dX11_isFree_32 rfl ?_
            refine r_ialdL (j := i) (pc := 34) h dX11_isFree_34 (by decide) (by decide) (nI_tn (by omega)) (vinI (n := 5) (by omega) (by omega)) ?_
            refine r_iload_n (pc := 35) h dX11_isFree_35 rfl ?_
            refine r_icmp_eq (pc := 36) h 43 dX11_isFree_36 (by decide) (fun c36 => ?_) (fun c36 => ?_)
            · refine r_iconst (v := 0) (pc := 43) h dX11_isFree_43 (by decide) ?_
              refine r_istore_n (pc := 44) h dX11_isFree_44 (by decide) ?_
              refine r_iinc (v := 1) (pc := 45) h dX11_isFree_45 rfl (by decide) (by decide) ?_
              refine r_goto (pc := 48) h 18 dX11_isFree_48 (by decide) ?_
              rw [← nI_succ i]
              first
              | (have e9_ : b2i ((isF (decide (I 160 s = 0)) (rwN I s) (i + 1)) = true) = 1 := b2i_t (by rw [isF_s, Bool.and_eq_true]; exact ⟨b2i_ne c25, decide_eq_true c36⟩)
                 exact r_at h [(0, .ref (E.1 151)), (1, .int (nI d)), (2, .int (nI s)), (3, .int (b2i ((isF (decide (I 160 s = 0)) (rwN I s) (i + 1)) = true))), (4, .int (nI (i + 1)))] ⟨rfl, rfl, rfl, by rw [e9_]; rfl, rfl, trivial⟩ (ih (i + 1) (by omega) (by omega)))
              | (have e9_ : b2i ((isF (decide (I 160 s = 0)) (rwN I s) (i + 1)) = true) = 0 := b2i_f (by rw [isF_s, Bool.and_eq_true]; exact fun q_ => (of_decide_eq_true q_.2) c36)
                 exact r_at h [(0, .ref (E.1 151)), (1, .int (nI d)), (2, .int (nI s)), (3, .int (b2i ((isF (decide (I 160 s = 0)) (rwN I s) (i + 1)) = true))), (4, .int (nI (i + 1)))] ⟨rfl, rfl, rfl, by rw [e9_]; rfl, rfl, trivial⟩ (ih (i + 1) (by omega) (by omega)))
              | (have e9_ : b2i ((isF (decide (I 160 s = 0)) (rwN I s) (i + 1)) = true) = 0 := b2i_f (by rw [isF_s, Bool.and_eq_true]; exact fun q_ => (b2i_eq0.mp c25) q_.1)
                 exact r_at h [(0, .ref (E.1 151)), (1, .int (nI d)), (2, .int (nI s)), (3, .int (b2i ((isF (decide (I 160 s = 0)) (rwN I s) (i + 1)) = true))), (4, .int (nI (i + 1)))] ⟨rfl, rfl, rfl, by rw [e9_]; rfl, rfl, trivial⟩ (ih (i + 1) (by omega) (by omega)))
            · refine r_iconst (v := 1) (pc := 39) h dX11_isFree_39 (by decide) ?_
              refine r_goto (pc := 40) h 44 dX11_isFree_40 (by decide) ?_
              refine r_istore_n (pc := 44) h dX11_isFree_44 (by decide) ?_
              refine r_iinc (v := 1) (pc := 45) h dX11_isFree_45 rfl (by decide) (by decide) ?_
              refine r_goto (pc := 48) h 18 dX11_isFree_48 (by decide) ?_
              rw [← nI_succ i]
              first
              | (have e9_ : b2i ((isF (decide (I 160 s = 0)) (rwN I s) (i + 1)) = true) = 1 := b2i_t (by rw [isF_s, Bool.and_eq_true]; exact ⟨b2i_ne c25, decide_eq_true c36⟩)
                 exact r_at h [(0, .ref (E.1 151)), (1, .int (nI d)), (2, .int (nI s)), (3, .int (b2i ((isF (decide (I 160 s = 0)) (rwN I s) (i + 1)) = true))), (4, .int (nI (i + 1)))] ⟨rfl, rfl, rfl, by rw [e9_]; rfl, rfl, trivial⟩ (ih (i + 1) (by omega) (by omega)))
              | (have e9_ : b2i ((isF (decide (I 160 s = 0)) (rwN I s) (i + 1)) = true) = 0 := b2i_f (by rw [isF_s, Bool.and_eq_true]; exact fun q_ => (of_decide_eq_true q_.2) c36)
                 exact r_at h [(0, .ref (E.1 151)), (1, .int (nI d)), (2, .int (nI s)), (3, .int (b2i ((isF (decide (I 160 s = 0)) (rwN I s) (i + 1)) = true))), (4, .int (nI (i + 1)))] ⟨rfl, rfl, rfl, by rw [e9_]; rfl, rfl, trivial⟩ (ih (i + 1) (by omega) (by omega)))
              | (have e9_ : b2i ((isF (decide (I 160 s = 0)) (rwN I s) (i + 1)) = true) = 0 := b2i_f (by rw [isF_s, Bool.and_eq_true]; exact fun q_ => (b2i_eq0.mp c25) q_.1)
                 exact r_at h [(0, .ref (E.1 151)), (1, .int (nI d)), (2, .int (nI s)), (3, .int (b2i ((isF (decide (I 160 s = 0)) (rwN I s) (i + 1)) = true))), (4, .int (nI (i + 1)))] ⟨rfl, rfl, rfl, by rw [e9_]; rfl, rfl, trivial⟩ (ih (i + 1) (by omega) (by omega)))
    first
    | (have e9_ : b2i ((isF (decide (I 160 s = 0)) (rwN I s) 0) = true) = 1 := b2i_t (by show (decide (I 160 s = 0) && true) = true; rw [decide_eq_true c6]; rfl)
       exact r_at h [(0, .ref (E.1 151)), (1, .int (nI d)), (2, .int (nI s)), (3, .int (b2i ((isF (decide (I 160 s = 0)) (rwN I s) 0) = true))), (4, .int (nI 0))] ⟨rfl, rfl, rfl, by rw [e9_]; rfl, rfl, trivial⟩ (loop18 (d + 1) 0 (by omega) (by omega)))
    | (have e9_ : b2i ((isF (decide (I 160 s = 0)) (rwN I s) 0) = true) = 0 := b2i_f (by show ¬ (decide (I 160 s = 0) && true) = true; rw [decide_eq_false c6]; decide)
       exact r_at h [(0, .ref (E.1 151)), (1, .int (nI d)), (2, .int (nI s)), (3, .int (b2i ((isF (decide (I 160 s = 0)) (rwN I s) 0) = true))), (4, .int (nI 0))] ⟨rfl, rfl, rfl, by rw [e9_]; rfl, rfl, trivial⟩ (loop18 (d + 1) 0 (by omega) (by omega)))
  · refine r_iconst (v := 1) (pc := 9) h dX11_isFree_9 (by decide) ?_
    refine r_goto (pc := 10) h 14 dX11_isFree_10 (by decide) ?_
    refine r_istore_n (pc := 14) h dX11_isFree_14 (by decide) ?_
    refine r_iconst (v := 0) (pc := 15) h dX11_isFree_15 (by decide) ?_
    refine r_istore (pc := 16) h dX11_isFree_16 (by decide) ?_
    have loop18 : ∀ (m i : Nat), i ≤ d → d + 1 ≤ i + m → g I 18 [(0, .ref (E.1 151)), (1, .int (nI d)), (2, .int (nI s)), (3, .int (b2i ((isF (decide (I 160 s = 0)) (rwN I s) i) = true))), (4, .int (nI i))] [] := by
      intro m
      induction m with
      | zero =>
        intro i h1 h2
        omega
      | succ m ih =>
        intro i hi him
        have ei := nI_tI (i := i) (by omega)
        refine r_iload (pc := 18) h dX11_isFree_18 rfl ?_
        refine r_iload_n (pc := 20) h dX11_isFree_20 rfl ?_
        refine r_icmp_ge (pc := 21) h 51 dX11_isFree_21 (by decide) (fun c21 => ?_) (fun c21 => ?_)
        · have hge : i = d := by rw [Int32.le_iff_toInt_le, ei, ed] at c21; omega
          refine r_iload_n (pc := 51) h dX11_isFree_51 rfl ?_
          exact hr _ _ _ _ dX11_isFree_52 (by first | rfl | decide | exact b2i_nar) (⟨by rw [hge], rfl⟩)
        · have hlt : i < d := by rw [Int32.le_iff_toInt_le, ei, ed] at c21; omega
          refine r_iload_n (pc := 24) h dX11_isFree_24 rfl ?_
          refine r_if_eq (pc := 25) h 43 dX11_isFree_25 (by decide) (fun c25 => ?_) (fun c25 => ?_)
          · refine r_iconst (v := 0) (pc := 43) h dX11_isFree_43 (by decide) ?_
            refine r_istore_n (pc := 44) h dX11_isFree_44 (by decide) ?_
            refine r_iinc (v := 1) (pc := 45) h dX11_isFree_45 rfl (by decide) (by decide) ?_
            refine r_goto (pc := 48) h 18 dX11_isFree_48 (by decide) ?_
            rw [← nI_succ i]
            first
            | (have e9_ : b2i ((isF (decide (I 160 s = 0)) (rwN I s) (i + 1)) = true) = 1 := b2i_t (by rw [isF_s, Bool.and_eq_true]; exact ⟨b2i_ne c25, decide_eq_true c36⟩)
               exact r_at h [(0, .ref (E.1 151)), (1, .int (nI d)), (2, .int (nI s)), (3, .int (b2i ((isF (decide (I 160 s = 0)) (rwN I s) (i + 1)) = true))), (4, .int (nI (i + 1)))] ⟨rfl, rfl, rfl, by rw [e9_]; rfl, rfl, trivial⟩ (ih (i + 1) (by omega) (by omega)))
            | (have e9_ : b2i ((isF (decide (I 160 s = 0)) (rwN I s) (i + 1)) = true) = 0 := b2i_f (by rw [isF_s, Bool.and_eq_true]; exact fun q_ => (of_decide_eq_true q_.2) c36)
               exact r_at h [(0, .ref (E.1 151)), (1, .int (nI d)), (2, .int (nI s)), (3, .int (b2i ((isF (decide (I 160 s = 0)) (rwN I s) (i + 1)) = true))), (4, .int (nI (i + 1)))] ⟨rfl, rfl, rfl, by rw [e9_]; rfl, rfl, trivial⟩ (ih (i + 1) (by omega) (by omega)))
            | (have e9_ : b2i ((isF (decide (I 160 s = 0)) (rwN I s) (i + 1)) = true) = 0 := b2i_f (by rw [isF_s, Bool.and_eq_true]; exact fun q_ => (b2i_eq0.mp c25) q_.1)
               exact r_at h [(0, .ref (E.1 151)), (1, .int (nI d)), (2, .int (nI s)), (3, .int (b2i ((isF (decide (I 160 s = 0)) (rwN I s) (i + 1)) = true))), (4, .int (nI (i + 1)))] ⟨rfl, rfl, rfl, by rw [e9_]; rfl, rfl, trivial⟩ (ih (i + 1) (by omega) (by omega)))
          · refine r_aload_n (pc := 28) h dX11_isFree_28 rfl ?_
            refine gf_X11_96 (pc := 29) h dX11_isFree_29 ?_
            refine r_iload (pc := 32) h dX11_isFree_32 rfl ?_
            refine r_ialdL (j := i) (pc := 34) h dX11_isFree_34 (by decide) (by decide) (nI_tn (by omega)) (vinI (n := 5) (by omega) (by omega)) ?_
            refine r_iload_n (pc := 35) h dX11_isFree_35 rfl ?_
            refine r_icmp_eq (pc := 36) h 43 dX11_isFree_36 (by decide) (fun c36 => ?_) (fun c36 => ?_)
            · refine r_iconst (v := 0) (pc := 43) h dX11_isFree_43 (by decide) ?_
              refine r_istore_n (pc := 44) h dX11_isFree_44 (by decide) ?_
              refine r_iinc (v := 1) (pc := 45) h dX11_isFree_45 rfl (by decide) (by decide) ?_
              refine r_goto (pc := 48) h 18 dX11_isFree_48 (by decide) ?_
              rw [← nI_succ i]
              first
              | (have e9_ : b2i ((isF (decide (I 160 s = 0)) (rwN I s) (i + 1)) = true) = 1 := b2i_t (by rw [isF_s, Bool.and_eq_true]; exact ⟨b2i_ne c25, decide_eq_true c36⟩)
                 exact r_at h [(0, .ref (E.1 151)), (1, .int (nI d)), (2, .int (nI s)), (3, .int (b2i ((isF (decide (I 160 s = 0)) (rwN I s) (i + 1)) = true))), (4, .int (nI (i + 1)))] ⟨rfl, rfl, rfl, by rw [e9_]; rfl, rfl, trivial⟩ (ih (i + 1) (by omega) (by omega)))
              | (have e9_ : b2i ((isF (decide (I 160 s = 0)) (rwN I s) (i + 1)) = true) = 0 := b2i_f (by rw [isF_s, Bool.and_eq_true]; exact fun q_ => (of_decide_eq_true q_.2) c36)
                 exact r_at h [(0, .ref (E.1 151)), (1, .int (nI d)), (2, .int (nI s)), (3, .int (b2i ((isF (decide (I 160 s = 0)) (rwN I s) (i + 1)) = true))), (4, .int (nI (i + 1)))] ⟨rfl, rfl, rfl, by rw [e9_]; rfl, rfl, trivial⟩ (ih (i + 1) (by omega) (by omega)))
              | (have e9_ : b2i ((isF (decide (I 160 s = 0)) (rwN I s) (i + 1)) = true) = 0 := b2i_f (by rw [isF_s, Bool.and_eq_true]; exact fun q_ => (b2i_eq0.mp c25) q_.1)
                 exact r_at h [(0, .ref (E.1 151)), (1, .int (nI d)), (2, .int (nI s)), (3, .int (b2i ((isF (decide (I 160 s = 0)) (rwN I s) (i + 1)) = true))), (4, .int (nI (i + 1)))] ⟨rfl, rfl, rfl, by rw [e9_]; rfl, rfl, trivial⟩ (ih (i + 1) (by omega) (by omega)))
            · refine r_iconst (v := 1) (pc := 39) h dX11_isFree_39 (by decide) ?_
              refine r_goto (pc := 40) h 44 dX11_isFree_40 (by decide) ?_
              refine r_istore_n (pc := 44) h dX11_isFree_44 (by decide) ?_
              refine r_iinc (v := 1) (pc := 45) h dX11_isFree_45 rfl (by decide) (by decide) ?_
              refine r_goto (pc := 48) h 18 dX11_isFree_48 (by decide) ?_
              rw [← nI_succ i]
              first
              | (have e9_ : b2i ((isF (decide (I 160 s = 0)) (rwN I s) (i + 1)) = true) = 1 := b2i_t (by rw [isF_s, Bool.and_eq_true]; exact ⟨b2i_ne c25, decide_eq_true c36⟩)
                 exact r_at h [(0, .ref (E.1 151)), (1, .int (nI d)), (2, .int (nI s)), (3, .int (b2i ((isF (decide (I 160 s = 0)) (rwN I s) (i + 1)) = true))), (4, .int (nI (i + 1)))] ⟨rfl, rfl, rfl, by rw [e9_]; rfl, rfl, trivial⟩ (ih (i + 1) (by omega) (by omega)))
              | (have e9_ : b2i ((isF (decide (I 160 s = 0)) (rwN I s) (i + 1)) = true) = 0 := b2i_f (by rw [isF_s, Bool.and_eq_true]; exact fun q_ => (of_decide_eq_true q_.2) c36)
                 exact r_at h [(0, .ref (E.1 151)), (1, .int (nI d)), (2, .int (nI s)), (3, .int (b2i ((isF (decide (I 160 s = 0)) (rwN I s) (i + 1)) = true))), (4, .int (nI (i + 1)))] ⟨rfl, rfl, rfl, by rw [e9_]; rfl, rfl, trivial⟩ (ih (i + 1) (by omega) (by omega)))
              | (have e9_ : b2i ((isF (decide (I 160 s = 0)) (rwN I s) (i + 1)) = true) = 0 := b2i_f (by rw [isF_s, Bool.and_eq_true]; exact fun q_ => (b2i_eq0.mp c25) q_.1)
                 exact r_at h [(0, .ref (E.1 151)), (1, .int (nI d)), (2, .int (nI s)), (3, .int (b2i ((isF (decide (I 160 s = 0)) (rwN I s) (i + 1)) = true))), (4, .int (nI (i + 1)))] ⟨rfl, rfl, rfl, by rw [e9_]; rfl, rfl, trivial⟩ (ih (i + 1) (by omega) (by omega)))
    first
    | (have e9_ : b2i ((isF (decide (I 160 s = 0)) (rwN I s) 0) = true) = 1 := b2i_t (by show (decide (I 160 s = 0) && true) = true; rw [decide_eq_true c6]; rfl)
       exact r_at h [(0, .ref (E.1 151)), (1, .int (nI d)), (2, .int (nI s)), (3, .int (b2i ((isF (decide (I 160 s = 0)) (rwN I s) 0) = true))), (4, .int (nI 0))] ⟨rfl, rfl, rfl, by rw [e9_]; rfl, rfl, trivial⟩ (loop18 (d + 1) 0 (by omega) (by omega)))
    | (have e9_ : b2i ((isF (decide (I 160 s = 0)) (rwN I s) 0) = true) = 0 := b2i_f (by show ¬ (decide (I 160 s = 0) && true) = true; rw [decide_eq_false c6]; decide)
       exact r_at h [(0, .ref (E.1 151)), (1, .int (nI d)), (2, .int (nI s)), (3, .int (b2i ((isF (decide (I 160 s = 0)) (rwN I s) 0) = true))), (4, .int (nI 0))] ⟨rfl, rfl, rfl, by rw [e9_]; rfl, rfl, trivial⟩ (loop18 (d + 1) 0 (by omega) (by omega)))
set_option maxRecDepth 100000 in
set_option maxHeartbeats 1000000 in
theorem c_X11_compares (E : En) (I : Mem)  (M : Nat) (hM : I 151 36 = nI M) (hM5 : M ≤ 5) (hrw : ∀ c, c < M → 0 ≤ (I 175 c).toInt ∧ (I 175 c).toInt < 9) : Ctr E yX11_compares cX11_compares 3 none 1 [.ref (E.1 151)] I (qV (fun I1 : Mem => CmpP I I1 M)) := by
  refine Ctr.openV (by decide) (Nat.le_of_ble_eq_true rfl) (fun g h hr => ?_)
  have h : Sem cX11_compares RX11 3 (rmL 1) E g := h
  show g I 0 [(0, .ref (E.1 151))] []
  have eM := nI_tI (i := M) (by omega)
  refine r_iconst (v := 0) (pc := 0) h dX11_compares_0 (by decide) ?_
  refine r_istore_n (pc := 1) h dX11_compares_1 (by decide) ?_
  refine r_iconst (v := 0) (pc := 2) h dX11_compares_2 (by decide) ?_
  refine r_istore_n (pc := 3) h dX11_compares_3 (by decide) ?_
  have loop4 : ∀ (m i : Nat), i ≤ M → M + 1 ≤ i + m → g I 4 [(0, .ref (E.1 151)), (1, .int (sQ I i)), (2, .int (nI i))] [] := by
    intro m
    induction m with
    | zero =>
      intro i h1 h2
      omega
    | succ m ih =>
      intro i hi him
      have ei := nI_tI (i := i) (by omega)
      refine r_iload_n (pc := 4) h dX11_compares_4 rfl ?_
      refine r_aload_n (pc := 5) h dX11_compares_5 rfl ?_
      refine gf_X11_277 (pc := 6) h dX11_compares_6 ?_
      rw [hM]
      refine r_icmp_ge (pc := 9) h 37 dX11_compares_9 (by decide) (fun c9 => ?_) (fun c9 => ?_)
      · have hge : i = M := by rw [Int32.le_iff_toInt_le, ei, eM] at c9; omega
        rw [hge]
        refine r_iload_n (pc := 37) h dX11_compares_37 rfl ?_
        refine r_aload_n (pc := 38) h dX11_compares_38 rfl ?_
        refine gf_X11_280 (pc := 39) h dX11_compares_39 ?_
        refine r_icmp_le (pc := 42) h 78 dX11_compares_42 (by decide) (fun c42 => ?_) (fun c42 => ?_)
        · first
          | exact hr _ _ _ dX11_compares_78 (Or.inr ⟨Int32.not_lt.mpr c42, rfl⟩)
          | (have hge2 : i = M := by rw [Int32.le_iff_toInt_le, ei, eM] at c57; omega
             refine hr _ _ _ dX11_compares_78 (Or.inl ⟨Int32.not_le.mp c42, by rw [rowQ_ne _ _ _ _ (by decide), upm_eq], fun c hc_ => ?_, fun a a1 a2 => by rw [rowQ_ne _ _ _ _ a2, upm_ne _ _ _ a1], fun j hj_ => by rw [rowQ_ne _ _ _ _ (by decide), upm_at, if_neg (fun q_ => hj_ q_.2)]⟩)
             rw [hge2]
             have e_ := rowQ_in (upm I 151 41 (sQ I M)) 176 0 (i := M) (j := c) (I 175) hc_
             rw [Nat.zero_add] at e_
             exact e_)
        · refine r_aload_n (pc := 45) h dX11_compares_45 rfl ?_
          refine r_iload_n (pc := 46) h dX11_compares_46 rfl ?_
          refine pf_X11_280 (pc := 47) h dX11_compares_47 ?_
          refine r_iconst (v := 0) (pc := 50) h dX11_compares_50 (by decide) ?_
          refine r_istore_n (pc := 51) h dX11_compares_51 (by decide) ?_
          have loop52 : ∀ (m i : Nat), i ≤ M → M + 1 ≤ i + m → g (rowQ (upm I 151 41 (sQ I M)) 176 0 (I 175) i) 52 [(0, .ref (E.1 151)), (2, .int (nI i))] [] := by
            intro m
            induction m with
            | zero =>
              intro i h1 h2
              omega
            | succ m ih =>
              intro i hi him
              have ei := nI_tI (i := i) (by omega)
              have hJ36 : (rowQ (upm I 151 41 (sQ I M)) 176 0 (I 175) i) 151 36 = nI M := by rw [rowQ_ne _ _ _ _ (by decide), upm_at, if_neg (by decide)]; exact hM
              refine r_iload_n (pc := 52) h dX11_compares_52 rfl ?_
              refine r_aload_n (pc := 53) h dX11_compares_53 rfl ?_
              refine gf_X11_277 (pc := 54) h dX11_compares_54 ?_
              rw [hJ36]
              refine r_icmp_ge (pc := 57) h 78 dX11_compares_57 (by decide) (fun c57 => ?_) (fun c57 => ?_)
              · first
                | exact hr _ _ _ dX11_compares_78 (Or.inr ⟨Int32.not_lt.mpr c42, rfl⟩)
                | (have hge2 : i = M := by rw [Int32.le_iff_toInt_le, ei, eM] at c57; omega
                   refine hr _ _ _ dX11_compares_78 (Or.inl ⟨Int32.not_le.mp c42, by rw [rowQ_ne _ _ _ _ (by decide), upm_eq], fun c hc_ => ?_, fun a a1 a2 => by rw [rowQ_ne _ _ _ _ a2, upm_ne _ _ _ a1], fun j hj_ => by rw [rowQ_ne _ _ _ _ (by decide), upm_at, if_neg (fun q_ => hj_ q_.2)]⟩)
                   rw [hge2]
                   have e_ := rowQ_in (upm I 151 41 (sQ I M)) 176 0 (i := M) (j := c) (I 175) hc_
                   rw [Nat.zero_add] at e_
                   exact e_)
              · have hlt : i < M := by rw [Int32.le_iff_toInt_le, ei, eM] at c57; omega
                refine r_aload_n (pc := 60) h dX11_compares_60 rfl ?_
                refine gf_X11_99 (pc := 61) h dX11_compares_61 ?_
                refine r_iload_n (pc := 64) h dX11_compares_64 rfl ?_
                refine r_aload_n (pc := 65) h dX11_compares_65 rfl ?_
                refine gf_X11_96 (pc := 66) h dX11_compares_66 ?_
                refine r_iload_n (pc := 69) h dX11_compares_69 rfl ?_
                refine r_ialdL (j := i) (pc := 70) h dX11_compares_70 (by decide) (by decide) (nI_tn (by omega)) (vinI (n := 5) (by omega) (by omega)) ?_
                rw [rowQ_ne _ _ _ _ (show (175 : Nat) ≠ 176 by decide), upm_ne _ _ _ (show (175 : Nat) ≠ 151 by decide)]
                refine r_iastL (j := i) (pc := 71) h dX11_compares_71 (by decide) (by decide) (nI_tn (by omega)) (vinI (n := 5) (by omega) (by omega)) ?_
                refine r_iinc (v := 1) (pc := 72) h dX11_compares_72 rfl (by decide) (by decide) ?_
                refine r_goto (pc := 75) h 52 dX11_compares_75 (by decide) ?_
                rw [← nI_succ i, show upm (rowQ (upm I 151 41 (sQ I M)) 176 0 (I 175) i) 176 i (I 175 i) = (rowQ (upm I 151 41 (sQ I M)) 176 0 (I 175) (i + 1)) by
                  rw [← rowQ_step, Nat.zero_add]]
                exact r_at h [(0, .ref (E.1 151)), (2, .int (nI (i + 1)))] ⟨rfl, rfl, trivial⟩ (ih (i + 1) (by omega) (by omega))
          have h0 := loop52 (M + 1) 0 (by omega) (by omega)
          rw [rowQ_0] at h0
          exact r_at h [(0, .ref (E.1 151)), (2, .int (nI 0))] ⟨rfl, rfl, trivial⟩ h0
      · have hlt : i < M := by rw [Int32.le_iff_toInt_le, ei, eM] at c9; omega
        refine r_iload_n (pc := 12) h dX11_compares_12 rfl ?_
        refine r_aload_n (pc := 13) h dX11_compares_13 rfl ?_
        refine gf_X11_93 (pc := 14) h dX11_compares_14 ?_
        refine r_bipush (v := 9) (pc := 17) h dX11_compares_17 (by decide) ?_
        refine r_iload_n (pc := 19) h dX11_compares_19 rfl ?_
        refine r_imul (pc := 20) h dX11_compares_20 ?_
        refine r_aload_n (pc := 21) h dX11_compares_21 rfl ?_
        refine gf_X11_96 (pc := 22) h dX11_compares_22 ?_
        refine r_iload_n (pc := 25) h dX11_compares_25 rfl ?_
        refine r_ialdL (j := i) (pc := 26) h dX11_compares_26 (by decide) (by decide) (nI_tn (by omega)) (vinI (n := 5) (by omega) (by omega)) ?_
        refine r_iadd (pc := 27) h dX11_compares_27 ?_
        refine r_ialdL (j := 9 * i + (I 175 i).toNatClampNeg) (pc := 28) h dX11_compares_28 (by decide) (by decide) ((m9n (by omega) (hrw i hlt)).2) (vin (n := 45) (by rw [(m9n (by omega) (hrw i hlt)).1]; have := hrw i hlt; omega) (by rw [(m9n (by omega) (hrw i hlt)).1]; have := hrw i hlt; omega)) ?_
        refine r_iadd (pc := 29) h dX11_compares_29 ?_
        refine r_istore_n (pc := 30) h dX11_compares_30 (by decide) ?_
        refine r_iinc (v := 1) (pc := 31) h dX11_compares_31 rfl (by decide) (by decide) ?_
        refine r_goto (pc := 34) h 4 dX11_compares_34 (by decide) ?_
        rw [← nI_succ i]
        exact r_at h [(0, .ref (E.1 151)), (1, .int (sQ I (i + 1))), (2, .int (nI (i + 1)))] ⟨rfl, rfl, rfl, trivial⟩ (ih (i + 1) (by omega) (by omega))
  exact r_at h [(0, .ref (E.1 151)), (1, .int (sQ I 0)), (2, .int (nI 0))] ⟨rfl, rfl, rfl, trivial⟩ (loop4 (M + 1) 0 (by omega) (by omega))
