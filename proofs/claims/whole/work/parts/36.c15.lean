/-! next and row of both -/
def nxP (f : Nat → Int32) : Nat → Int32 × Int32
  | 0 => (-4, 0)
  | i + 1 => if (nxP f i).2 < f i then (nI i, f i) else nxP f i
theorem nx_gt {f : Nat → Int32} {i : Nat} (h : (nxP f i).2 < f i) : nxP f (i + 1) = (nI i, f i) := if_pos h
theorem nx_le {f : Nat → Int32} {i : Nat} (h : ¬ (nxP f i).2 < f i) : nxP f (i + 1) = nxP f i := if_neg h
abbrev grF (I : Mem) : Nat → Int32 := fun p => I 38 p * I 39 p
abbrev grR (I : Mem) : Nat → Int32 := fun p => I 178 p * I 179 p
abbrev rowV (x y : Int32) : Prop := (-9999 ≤ x.toInt ∧ x.toInt ≤ 9999) ∧ (-9999 ≤ y.toInt ∧ y.toInt ≤ 9999)
def addF (I : Mem) (s l a st sp x y : Int32) : Mem := upm (upm (upm (takeM I (83 + 2 * (I 0 16).toNatClampNeg + 1) s l a st sp (-1)) (83 + 2 * (I 0 16).toNatClampNeg) 1 x) (83 + 2 * (I 0 16).toNatClampNeg) 2 y) 0 16 (I 0 16 + 1)
def F_row (I : Mem) (s l a st sp x y : Int32) : Int32 × Mem := if isS s (I 0 2) ∧ styP l a st sp ∧ rowV x y then (if 30 ≤ (I 0 16).toInt then (-3, I) else (I 0 16, addF I s l a st sp x y)) else (-1, I)
theorem e25 : (25 : Int32).toInt = 25 := by decide
theorem e30 : (30 : Int32).toInt = 30 := by decide
set_option maxRecDepth 100000 in
set_option maxHeartbeats 4000000 in
theorem c_X2_likeliest (E : En) (I : Mem)   : Ctr E yX2_likeliest cX2_likeliest 4 (some .int) 1 [.ref (E.1 37)] I (qI (fun (r : Int32) (I1 : Mem) => r = (nxP (grF I) 25).1 ∧ I = I1)) := by
  refine Ctr.openI (by decide) (Nat.le_of_ble_eq_true rfl) (fun g h hr => ?_)
  have h : Sem cX2_likeliest RX2 4 (rmL 1) E g := h
  show g I 0 [(0, .ref (E.1 37))] []
  refine r_bipush (v := -4) (pc := 0) h dX2_likeliest_0 (by decide) ?_
  refine r_istore_n (pc := 2) h dX2_likeliest_2 (by decide) ?_
  refine r_iconst (v := 0) (pc := 3) h dX2_likeliest_3 (by decide) ?_
  refine r_istore_n (pc := 4) h dX2_likeliest_4 (by decide) ?_
  refine r_iconst (v := 0) (pc := 5) h dX2_likeliest_5 (by decide) ?_
  refine r_istore_n (pc := 6) h dX2_likeliest_6 (by decide) ?_
  have loop7 : ∀ (m i : Nat), i ≤ 25 → 26 ≤ i + m → g I 7 [(0, .ref (E.1 37)), (1, .int (nxP (grF I) i).1), (2, .int (nxP (grF I) i).2), (3, .int (nI i))] [] := by
    intro m
    induction m with
    | zero =>
      intro i h1 h2
      omega
    | succ m ih =>
      intro i hi him
      have ei := nI_tI (i := i) (by omega)
      refine r_iload_n (pc := 7) h dX2_likeliest_7 rfl ?_
      refine r_bipush (v := 25) (pc := 8) h dX2_likeliest_8 (by decide) ?_
      refine r_icmp_ge (pc := 10) h 52 dX2_likeliest_10 (by decide) (fun c10 => ?_) (fun c10 => ?_)
      · have hge : i = 25 := by rw [Int32.le_iff_toInt_le, ei, e25] at c10; omega
        refine r_iload_n (pc := 52) h dX2_likeliest_52 rfl ?_
        exact hr _ _ _ _ dX2_likeliest_53 (rfl) (⟨by rw [hge], rfl⟩)
      · have hlt : i < 25 := by rw [Int32.le_iff_toInt_le, ei, e25] at c10; omega
        refine r_aload_n (pc := 13) h dX2_likeliest_13 rfl ?_
        refine gf_X2_11 (pc := 14) h dX2_likeliest_14 ?_
        refine r_iload_n (pc := 17) h dX2_likeliest_17 rfl ?_
        refine r_ialdL (j := i) (pc := 18) h dX2_likeliest_18 (by decide) (by decide) (nI_tn (by omega)) (vinI (n := 25) (by omega) (by omega)) ?_
        refine r_aload_n (pc := 19) h dX2_likeliest_19 rfl ?_
        refine gf_X2_15 (pc := 20) h dX2_likeliest_20 ?_
        refine r_iload_n (pc := 23) h dX2_likeliest_23 rfl ?_
        refine r_ialdL (j := i) (pc := 24) h dX2_likeliest_24 (by decide) (by decide) (nI_tn (by omega)) (vinI (n := 25) (by omega) (by omega)) ?_
        refine r_imul (pc := 25) h dX2_likeliest_25 ?_
        refine r_iload_n (pc := 26) h dX2_likeliest_26 rfl ?_
        refine r_icmp_le (pc := 27) h 46 dX2_likeliest_27 (by decide) (fun c27 => ?_) (fun c27 => ?_)
        · refine r_iinc (v := 1) (pc := 46) h dX2_likeliest_46 rfl (by decide) (by decide) ?_
          refine r_goto (pc := 49) h 7 dX2_likeliest_49 (by decide) ?_
          rw [← nI_succ]
          first
          | (have e9_ : nxP (grF I) (i + 1) = nxP (grF I) i := nx_le (fun q => by
              rw [Int32.lt_iff_toInt_lt] at q
              rw [Int32.le_iff_toInt_le] at c27
              have q : (nxP (grF I) i).2.toInt < (I 38 i * I 39 i).toInt := q
              omega)
             exact r_at h [(0, .ref (E.1 37)), (1, .int (nxP (grF I) (i + 1)).1), (2, .int (nxP (grF I) (i + 1)).2), (3, .int (nI (i + 1)))] ⟨rfl, by rw [e9_]; rfl, by rw [e9_]; rfl, rfl, trivial⟩ (ih (i + 1) (by omega) (by omega)))
          | (have e9_ : nxP (grF I) (i + 1) = (nI i, grF I i) := nx_gt (by
              rw [Int32.lt_iff_toInt_lt]
              rw [Int32.le_iff_toInt_le] at c27
              show (nxP (grF I) i).2.toInt < (I 38 i * I 39 i).toInt
              omega)
             exact r_at h [(0, .ref (E.1 37)), (1, .int (nxP (grF I) (i + 1)).1), (2, .int (nxP (grF I) (i + 1)).2), (3, .int (nI (i + 1)))] ⟨rfl, by rw [e9_]; rfl, by rw [e9_]; rfl, rfl, trivial⟩ (ih (i + 1) (by omega) (by omega)))
        · refine r_aload_n (pc := 30) h dX2_likeliest_30 rfl ?_
          refine gf_X2_11 (pc := 31) h dX2_likeliest_31 ?_
          refine r_iload_n (pc := 34) h dX2_likeliest_34 rfl ?_
          refine r_ialdL (j := i) (pc := 35) h dX2_likeliest_35 (by decide) (by decide) (nI_tn (by omega)) (vinI (n := 25) (by omega) (by omega)) ?_
          refine r_aload_n (pc := 36) h dX2_likeliest_36 rfl ?_
          refine gf_X2_15 (pc := 37) h dX2_likeliest_37 ?_
          refine r_iload_n (pc := 40) h dX2_likeliest_40 rfl ?_
          refine r_ialdL (j := i) (pc := 41) h dX2_likeliest_41 (by decide) (by decide) (nI_tn (by omega)) (vinI (n := 25) (by omega) (by omega)) ?_
          refine r_imul (pc := 42) h dX2_likeliest_42 ?_
          refine r_istore_n (pc := 43) h dX2_likeliest_43 (by decide) ?_
          refine r_iload_n (pc := 44) h dX2_likeliest_44 rfl ?_
          refine r_istore_n (pc := 45) h dX2_likeliest_45 (by decide) ?_
          refine r_iinc (v := 1) (pc := 46) h dX2_likeliest_46 rfl (by decide) (by decide) ?_
          refine r_goto (pc := 49) h 7 dX2_likeliest_49 (by decide) ?_
          rw [← nI_succ]
          first
          | (have e9_ : nxP (grF I) (i + 1) = nxP (grF I) i := nx_le (fun q => by
              rw [Int32.lt_iff_toInt_lt] at q
              rw [Int32.le_iff_toInt_le] at c27
              have q : (nxP (grF I) i).2.toInt < (I 38 i * I 39 i).toInt := q
              omega)
             exact r_at h [(0, .ref (E.1 37)), (1, .int (nxP (grF I) (i + 1)).1), (2, .int (nxP (grF I) (i + 1)).2), (3, .int (nI (i + 1)))] ⟨rfl, by rw [e9_]; rfl, by rw [e9_]; rfl, rfl, trivial⟩ (ih (i + 1) (by omega) (by omega)))
          | (have e9_ : nxP (grF I) (i + 1) = (nI i, grF I i) := nx_gt (by
              rw [Int32.lt_iff_toInt_lt]
              rw [Int32.le_iff_toInt_le] at c27
              show (nxP (grF I) i).2.toInt < (I 38 i * I 39 i).toInt
              omega)
             exact r_at h [(0, .ref (E.1 37)), (1, .int (nxP (grF I) (i + 1)).1), (2, .int (nxP (grF I) (i + 1)).2), (3, .int (nI (i + 1)))] ⟨rfl, by rw [e9_]; rfl, by rw [e9_]; rfl, rfl, trivial⟩ (ih (i + 1) (by omega) (by omega)))
  have h0 := loop7 26 0 (by omega) (by omega)
  exact r_at h [(0, .ref (E.1 37)), (1, .int (-4)), (2, .int 0), (3, .int (nI 0))] ⟨rfl, rfl, rfl, rfl, trivial⟩ h0
set_option maxRecDepth 100000 in
set_option maxHeartbeats 4000000 in
theorem c_X10_next (E : En) (I : Mem)   : Ctr E yX10_next cX10_next 1 (some .int) 2 [.ref (E.1 0)] I (qI (fun (r : Int32) (I1 : Mem) => r = (nxP (grF I) 25).1 ∧ I = I1)) := by
  refine Ctr.openI (by decide) (Nat.le_of_ble_eq_true rfl) (fun g h hr => ?_)
  have h : Sem cX10_next RX10 1 (rmL 2) E g := h
  show g I 0 [(0, .ref (E.1 0))] []
  refine r_aload_n (pc := 0) h dX10_next_0 rfl ?_
  refine gf_X10_101 (pc := 1) h dX10_next_1 ?_
  refine r_callVI (ci := 2) (pc := 4) h dX10_next_4 wm_X10_326 ca_X2_likeliest rfl (c_X2_likeliest E _) rfl rfl (Nat.le_of_ble_eq_true rfl) (by decide) (by decide) (by decide) (by decide) (fun r I1 hq => ?_)
  obtain ⟨rfl, rfl⟩ := hq
  exact hr _ _ _ _ dX10_next_7 (rfl) (⟨rfl, rfl⟩)
set_option maxRecDepth 100000 in
set_option maxHeartbeats 4000000 in
theorem c_X11_next (E : En) (I : Mem)   : Ctr E yX11_next cX11_next 5 (some .int) 1 [.ref (E.1 151)] I (qI (fun (r : Int32) (I1 : Mem) => r = (nxP (grR I) 25).1 ∧ I = I1)) := by
  refine Ctr.openI (by decide) (Nat.le_of_ble_eq_true rfl) (fun g h hr => ?_)
  have h : Sem cX11_next RX11 5 (rmL 1) E g := h
  show g I 0 [(0, .ref (E.1 151))] []
  refine r_bipush (v := -4) (pc := 0) h dX11_next_0 (by decide) ?_
  refine r_istore_n (pc := 2) h dX11_next_2 (by decide) ?_
  refine r_iconst (v := 0) (pc := 3) h dX11_next_3 (by decide) ?_
  refine r_istore_n (pc := 4) h dX11_next_4 (by decide) ?_
  refine r_iconst (v := 0) (pc := 5) h dX11_next_5 (by decide) ?_
  refine r_istore_n (pc := 6) h dX11_next_6 (by decide) ?_
  have loop7 : ∀ (m i : Nat), i ≤ 25 → 26 ≤ i + m → g I 7 [(0, .ref (E.1 151)), (1, .int (nxP (grR I) i).1), (2, .int (nxP (grR I) i).2), (3, .int (nI i))] [] := by
    intro m
    induction m with
    | zero =>
      intro i h1 h2
      omega
    | succ m ih =>
      intro i hi him
      have ei := nI_tI (i := i) (by omega)
      refine r_iload_n (pc := 7) h dX11_next_7 rfl ?_
      refine r_bipush (v := 25) (pc := 8) h dX11_next_8 (by decide) ?_
      refine r_icmp_ge (pc := 10) h 59 dX11_next_10 (by decide) (fun c10 => ?_) (fun c10 => ?_)
      · have hge : i = 25 := by rw [Int32.le_iff_toInt_le, ei, e25] at c10; omega
        refine r_iload_n (pc := 59) h dX11_next_59 rfl ?_
        exact hr _ _ _ _ dX11_next_60 (rfl) (⟨by rw [hge], rfl⟩)
      · have hlt : i < 25 := by rw [Int32.le_iff_toInt_le, ei, e25] at c10; omega
        refine r_aload_n (pc := 13) h dX11_next_13 rfl ?_
        refine gf_X11_105 (pc := 14) h dX11_next_14 ?_
        refine r_iload_n (pc := 17) h dX11_next_17 rfl ?_
        refine r_ialdL (j := i) (pc := 18) h dX11_next_18 (by decide) (by decide) (nI_tn (by omega)) (vinI (n := 25) (by omega) (by omega)) ?_
        refine r_aload_n (pc := 19) h dX11_next_19 rfl ?_
        refine gf_X11_108 (pc := 20) h dX11_next_20 ?_
        refine r_iload_n (pc := 23) h dX11_next_23 rfl ?_
        refine r_ialdL (j := i) (pc := 24) h dX11_next_24 (by decide) (by decide) (nI_tn (by omega)) (vinI (n := 25) (by omega) (by omega)) ?_
        refine r_imul (pc := 25) h dX11_next_25 ?_
        refine r_istore (pc := 26) h dX11_next_26 (by decide) ?_
        refine r_iload (pc := 28) h dX11_next_28 rfl ?_
        refine r_iload_n (pc := 30) h dX11_next_30 rfl ?_
        refine r_icmp_le (pc := 31) h 38 dX11_next_31 (by decide) (fun c31 => ?_) (fun c31 => ?_)
        · refine r_iload_n (pc := 38) h dX11_next_38 rfl ?_
          refine r_istore_n (pc := 39) h dX11_next_39 (by decide) ?_
          refine r_iload (pc := 40) h dX11_next_40 rfl ?_
          refine r_iload_n (pc := 42) h dX11_next_42 rfl ?_
          refine r_icmp_le (pc := 43) h 51 dX11_next_43 (by decide) (fun c43 => ?_) (fun c43 => ?_)
          · refine r_iload_n (pc := 51) h dX11_next_51 rfl ?_
            refine r_istore_n (pc := 52) h dX11_next_52 (by decide) ?_
            refine r_iinc (v := 1) (pc := 53) h dX11_next_53 rfl (by decide) (by decide) ?_
            refine r_goto (pc := 56) h 7 dX11_next_56 (by decide) ?_
            rw [← nI_succ]
            first
            | exact absurd c31 c43
            | exact absurd c43 c31
            | (have e9_ : nxP (grR I) (i + 1) = nxP (grR I) i := nx_le (fun q => by
                rw [Int32.lt_iff_toInt_lt] at q
                rw [Int32.le_iff_toInt_le] at c31
                have q : (nxP (grR I) i).2.toInt < (I 178 i * I 179 i).toInt := q
                omega)
               exact r_at h [(0, .ref (E.1 151)), (1, .int (nxP (grR I) (i + 1)).1), (2, .int (nxP (grR I) (i + 1)).2), (3, .int (nI (i + 1)))] ⟨rfl, by rw [e9_]; rfl, by rw [e9_]; rfl, rfl, trivial⟩ (ih (i + 1) (by omega) (by omega)))
            | (have e9_ : nxP (grR I) (i + 1) = (nI i, grR I i) := nx_gt (by
                rw [Int32.lt_iff_toInt_lt]
                rw [Int32.le_iff_toInt_le] at c31
                show (nxP (grR I) i).2.toInt < (I 178 i * I 179 i).toInt
                omega)
               exact r_at h [(0, .ref (E.1 151)), (1, .int (nxP (grR I) (i + 1)).1), (2, .int (nxP (grR I) (i + 1)).2), (3, .int (nI (i + 1)))] ⟨rfl, by rw [e9_]; rfl, by rw [e9_]; rfl, rfl, trivial⟩ (ih (i + 1) (by omega) (by omega)))
          · refine r_iload (pc := 46) h dX11_next_46 rfl ?_
            refine r_goto (pc := 48) h 52 dX11_next_48 (by decide) ?_
            refine r_istore_n (pc := 52) h dX11_next_52 (by decide) ?_
            refine r_iinc (v := 1) (pc := 53) h dX11_next_53 rfl (by decide) (by decide) ?_
            refine r_goto (pc := 56) h 7 dX11_next_56 (by decide) ?_
            rw [← nI_succ]
            first
            | exact absurd c31 c43
            | exact absurd c43 c31
            | (have e9_ : nxP (grR I) (i + 1) = nxP (grR I) i := nx_le (fun q => by
                rw [Int32.lt_iff_toInt_lt] at q
                rw [Int32.le_iff_toInt_le] at c31
                have q : (nxP (grR I) i).2.toInt < (I 178 i * I 179 i).toInt := q
                omega)
               exact r_at h [(0, .ref (E.1 151)), (1, .int (nxP (grR I) (i + 1)).1), (2, .int (nxP (grR I) (i + 1)).2), (3, .int (nI (i + 1)))] ⟨rfl, by rw [e9_]; rfl, by rw [e9_]; rfl, rfl, trivial⟩ (ih (i + 1) (by omega) (by omega)))
            | (have e9_ : nxP (grR I) (i + 1) = (nI i, grR I i) := nx_gt (by
                rw [Int32.lt_iff_toInt_lt]
                rw [Int32.le_iff_toInt_le] at c31
                show (nxP (grR I) i).2.toInt < (I 178 i * I 179 i).toInt
                omega)
               exact r_at h [(0, .ref (E.1 151)), (1, .int (nxP (grR I) (i + 1)).1), (2, .int (nxP (grR I) (i + 1)).2), (3, .int (nI (i + 1)))] ⟨rfl, by rw [e9_]; rfl, by rw [e9_]; rfl, rfl, trivial⟩ (ih (i + 1) (by omega) (by omega)))
        · refine r_iload_n (pc := 34) h dX11_next_34 rfl ?_
          refine r_goto (pc := 35) h 39 dX11_next_35 (by decide) ?_
          refine r_istore_n (pc := 39) h dX11_next_39 (by decide) ?_
          refine r_iload (pc := 40) h dX11_next_40 rfl ?_
          refine r_iload_n (pc := 42) h dX11_next_42 rfl ?_
          refine r_icmp_le (pc := 43) h 51 dX11_next_43 (by decide) (fun c43 => ?_) (fun c43 => ?_)
          · refine r_iload_n (pc := 51) h dX11_next_51 rfl ?_
            refine r_istore_n (pc := 52) h dX11_next_52 (by decide) ?_
            refine r_iinc (v := 1) (pc := 53) h dX11_next_53 rfl (by decide) (by decide) ?_
            refine r_goto (pc := 56) h 7 dX11_next_56 (by decide) ?_
            rw [← nI_succ]
            first
            | exact absurd c31 c43
            | exact absurd c43 c31
            | (have e9_ : nxP (grR I) (i + 1) = nxP (grR I) i := nx_le (fun q => by
                rw [Int32.lt_iff_toInt_lt] at q
                rw [Int32.le_iff_toInt_le] at c31
                have q : (nxP (grR I) i).2.toInt < (I 178 i * I 179 i).toInt := q
                omega)
               exact r_at h [(0, .ref (E.1 151)), (1, .int (nxP (grR I) (i + 1)).1), (2, .int (nxP (grR I) (i + 1)).2), (3, .int (nI (i + 1)))] ⟨rfl, by rw [e9_]; rfl, by rw [e9_]; rfl, rfl, trivial⟩ (ih (i + 1) (by omega) (by omega)))
            | (have e9_ : nxP (grR I) (i + 1) = (nI i, grR I i) := nx_gt (by
                rw [Int32.lt_iff_toInt_lt]
                rw [Int32.le_iff_toInt_le] at c31
                show (nxP (grR I) i).2.toInt < (I 178 i * I 179 i).toInt
                omega)
               exact r_at h [(0, .ref (E.1 151)), (1, .int (nxP (grR I) (i + 1)).1), (2, .int (nxP (grR I) (i + 1)).2), (3, .int (nI (i + 1)))] ⟨rfl, by rw [e9_]; rfl, by rw [e9_]; rfl, rfl, trivial⟩ (ih (i + 1) (by omega) (by omega)))
          · refine r_iload (pc := 46) h dX11_next_46 rfl ?_
            refine r_goto (pc := 48) h 52 dX11_next_48 (by decide) ?_
            refine r_istore_n (pc := 52) h dX11_next_52 (by decide) ?_
            refine r_iinc (v := 1) (pc := 53) h dX11_next_53 rfl (by decide) (by decide) ?_
            refine r_goto (pc := 56) h 7 dX11_next_56 (by decide) ?_
            rw [← nI_succ]
            first
            | exact absurd c31 c43
            | exact absurd c43 c31
            | (have e9_ : nxP (grR I) (i + 1) = nxP (grR I) i := nx_le (fun q => by
                rw [Int32.lt_iff_toInt_lt] at q
                rw [Int32.le_iff_toInt_le] at c31
                have q : (nxP (grR I) i).2.toInt < (I 178 i * I 179 i).toInt := q
                omega)
               exact r_at h [(0, .ref (E.1 151)), (1, .int (nxP (grR I) (i + 1)).1), (2, .int (nxP (grR I) (i + 1)).2), (3, .int (nI (i + 1)))] ⟨rfl, by rw [e9_]; rfl, by rw [e9_]; rfl, rfl, trivial⟩ (ih (i + 1) (by omega) (by omega)))
            | (have e9_ : nxP (grR I) (i + 1) = (nI i, grR I i) := nx_gt (by
                rw [Int32.lt_iff_toInt_lt]
                rw [Int32.le_iff_toInt_le] at c31
                show (nxP (grR I) i).2.toInt < (I 178 i * I 179 i).toInt
                omega)
               exact r_at h [(0, .ref (E.1 151)), (1, .int (nxP (grR I) (i + 1)).1), (2, .int (nxP (grR I) (i + 1)).2), (3, .int (nI (i + 1)))] ⟨rfl, by rw [e9_]; rfl, by rw [e9_]; rfl, rfl, trivial⟩ (ih (i + 1) (by omega) (by omega)))
  have h0 := loop7 26 0 (by omega) (by omega)
  exact r_at h [(0, .ref (E.1 151)), (1, .int (-4)), (2, .int 0), (3, .int (nI 0))] ⟨rfl, rfl, rfl, rfl, trivial⟩ h0
set_option maxRecDepth 100000 in
set_option maxHeartbeats 4000000 in
theorem c_X10_addRow (E : En) (I : Mem) (s : Int32) (l : Int32) (a : Int32) (st : Int32) (sp : Int32) (x : Int32) (y : Int32) (hr9 : 0 ≤ (I 0 16).toInt ∧ (I 0 16).toInt < 30) : Ctr E yX10_addRow cX10_addRow 9 none 2 [.ref (E.1 0), .int s, .int l, .int a, .int st, .int sp, .int x, .int y] I (qV (fun I1 : Mem => I1 = addF I s l a st sp x y)) := by
  refine Ctr.openV (by decide) (Nat.le_of_ble_eq_true rfl) (fun g h hr => ?_)
  have h : Sem cX10_addRow RX10 9 (rmL 2) E g := h
  show g I 0 [(0, .ref (E.1 0)), (1, .int s), (2, .int l), (3, .int a), (4, .int st), (5, .int sp), (6, .int x), (7, .int y)] []
  have hn : (I 0 16).toNatClampNeg < 30 := by rw [tn]; omega
  refine r_aload_n (pc := 0) h dX10_addRow_0 rfl ?_
  refine gf_X10_91 (pc := 1) h dX10_addRow_1 ?_
  refine r_aload_n (pc := 4) h dX10_addRow_4 rfl ?_
  refine gf_X10_95 (pc := 5) h dX10_addRow_5 ?_
  refine r_aa36 (pc := 8) h dX10_addRow_8 (vin (n := 30) (by omega) (by omega)) ?_
  refine r_astore (pc := 9) h dX10_addRow_9 (by decide) ?_
  refine r_aload (pc := 11) h dX10_addRow_11 rfl ?_
  refine gf_X10_424 (pc := 13) h dX10_addRow_13 (by omega) (kdRo _ hn) (rfRa _ hn) ?_
  refine r_iload_n (pc := 16) h dX10_addRow_16 rfl ?_
  refine r_iload_n (pc := 17) h dX10_addRow_17 rfl ?_
  refine r_iload_n (pc := 18) h dX10_addRow_18 rfl ?_
  refine r_iload (pc := 19) h dX10_addRow_19 rfl ?_
  refine r_iload (pc := 21) h dX10_addRow_21 rfl ?_
  refine r_iconst (v := -1) (pc := 23) h dX10_addRow_23 (by decide) ?_
  refine r_callVV (ci := 0) (pc := 24) h dX10_addRow_24 wm_X10_188 ca_X0_take rfl (c_X0_take E _ _ _ _ _ _ _ _ (by omega) (kdRa _ hn)) rfl rfl (Nat.le_of_ble_eq_true rfl) (by decide) (by decide) (by omega) (kdRa _ hn) (fun I1 hq => ?_)
  subst hq
  refine r_aload (pc := 27) h dX10_addRow_27 rfl ?_
  refine r_iload (pc := 29) h dX10_addRow_29 rfl ?_
  refine pf_X10_427 (pc := 31) h dX10_addRow_31 (by omega) (kdRo _ hn) ?_
  refine r_aload (pc := 34) h dX10_addRow_34 rfl ?_
  refine r_iload (pc := 36) h dX10_addRow_36 rfl ?_
  refine pf_X10_428 (pc := 38) h dX10_addRow_38 (by omega) (kdRo _ hn) ?_
  refine r_aload_n (pc := 41) h dX10_addRow_41 rfl ?_
  refine r_dup (pc := 42) h dX10_addRow_42 rfl ?_
  refine gf_X10_95 (pc := 43) h dX10_addRow_43 ?_
  refine r_iconst (v := 1) (pc := 46) h dX10_addRow_46 (by decide) ?_
  refine r_iadd (pc := 47) h dX10_addRow_47 ?_
  refine pf_X10_95 (pc := 48) h dX10_addRow_48 ?_
  exact hr _ _ _ dX10_addRow_51 (by unfold addF; rw [upm_ne _ _ _ (show (0 : Nat) ≠ 83 + 2 * (I 0 16).toNatClampNeg by omega), upm_ne _ _ _ (show (0 : Nat) ≠ 83 + 2 * (I 0 16).toNatClampNeg by omega), takeM_ne _ _ _ _ _ _ _ (show (0 : Nat) ≠ 83 + 2 * (I 0 16).toNatClampNeg + 1 by omega)])
set_option maxRecDepth 100000 in
set_option maxHeartbeats 4000000 in
theorem c_X10_row (E : En) (I : Mem) (s : Int32) (l : Int32) (a : Int32) (st : Int32) (sp : Int32) (x : Int32) (y : Int32) (hc : 0 ≤ (I 0 2).toInt ∧ (I 0 2).toInt ≤ 9) (hcw : 0 ≤ (I 0 4).toInt ∧ (I 0 4).toInt ≤ 8) (hr9 : 0 ≤ (I 0 16).toInt ∧ (I 0 16).toInt ≤ 30) : Ctr E yX10_row cX10_row 8 (some .int) 6 [.ref (E.1 0), .int s, .int l, .int a, .int st, .int sp, .int x, .int y] I (qI (fun (r : Int32) (I1 : Mem) => r = (F_row I s l a st sp x y).1 ∧ (F_row I s l a st sp x y).2 = I1)) := by
  refine Ctr.openI (by decide) (Nat.le_of_ble_eq_true rfl) (fun g h hr => ?_)
  have h : Sem cX10_row RX10 8 (rmL 6) E g := h
  show g I 0 [(0, .ref (E.1 0)), (1, .int s), (2, .int l), (3, .int a), (4, .int st), (5, .int sp), (6, .int x), (7, .int y)] []
  have ec : (I 0 2 - 1).toInt = (I 0 2).toInt - 1 := tI_sub1 (by omega)
  refine r_aload_n (pc := 0) h dX10_row_0 rfl ?_
  refine r_iload_n (pc := 1) h dX10_row_1 rfl ?_
  refine r_iload_n (pc := 2) h dX10_row_2 rfl ?_
  refine r_iload_n (pc := 3) h dX10_row_3 rfl ?_
  refine r_iload (pc := 4) h dX10_row_4 rfl ?_
  refine r_iload (pc := 6) h dX10_row_6 rfl ?_
  refine r_iload (pc := 8) h dX10_row_8 rfl ?_
  refine r_iload (pc := 10) h dX10_row_10 rfl ?_
  refine r_callVI (ci := 10) (pc := 12) h dX10_row_12 wm_X10_268 ca_X10_isRow rfl (c_X10_isRow E _ _ _ _ _ _ _ _) rfl rfl (Nat.le_of_ble_eq_true rfl) (by decide) (by decide) (by decide) (by decide) (fun r I1 hq => ?_)
  obtain ⟨rfl, rfl⟩ := hq
  refine r_if_ne (pc := 15) h 20 dX10_row_15 (by decide) (fun c15 => ?_) (fun c15 => ?_)
  · have hv : isS s (I 0 2) ∧ styP l a st sp ∧ rowV x y := by (try simp only [b2i_eq0] at *); (try simp only [Int32.reduceToInt, Int64.reduceToInt, Int32.toInt_toInt64] at *); omega
    refine r_aload_n (pc := 20) h dX10_row_20 rfl ?_
    refine gf_X10_95 (pc := 21) h dX10_row_21 ?_
    refine r_bipush (v := 30) (pc := 24) h dX10_row_24 (by decide) ?_
    refine r_icmp_lt (pc := 26) h 32 dX10_row_26 (by decide) (fun c26 => ?_) (fun c26 => ?_)
    · refine r_aload_n (pc := 32) h dX10_row_32 rfl ?_
      refine r_iload_n (pc := 33) h dX10_row_33 rfl ?_
      refine r_iload_n (pc := 34) h dX10_row_34 rfl ?_
      refine r_iload_n (pc := 35) h dX10_row_35 rfl ?_
      refine r_iload (pc := 36) h dX10_row_36 rfl ?_
      refine r_iload (pc := 38) h dX10_row_38 rfl ?_
      refine r_iload (pc := 40) h dX10_row_40 rfl ?_
      refine r_iload (pc := 42) h dX10_row_42 rfl ?_
      refine r_callVV (ci := 10) (pc := 44) h dX10_row_44 wm_X10_272 ca_X10_addRow rfl (c_X10_addRow E _ _ _ _ _ _ _ _ ⟨hr9.1, by rw [Int32.lt_iff_toInt_lt, e30] at c26; exact c26⟩) rfl rfl (Nat.le_of_ble_eq_true rfl) (by decide) (by decide) (by decide) (by decide) (fun I1 hq => ?_)
      subst hq
      refine r_aload_n (pc := 47) h dX10_row_47 rfl ?_
      refine gf_X10_95 (pc := 48) h dX10_row_48 ?_
      refine r_iconst (v := 1) (pc := 51) h dX10_row_51 (by decide) ?_
      refine r_isub (pc := 52) h dX10_row_52 ?_
      exact hr _ _ _ _ dX10_row_53 (rfl) (by unfold F_row; rw [if_pos hv, if_neg (by rw [Int32.lt_iff_toInt_lt, e30] at c26; omega)]; refine ⟨?_, rfl⟩; unfold addF; rw [upm_eq]; exact add1_sub1 _)
    · refine r_bipush (v := -3) (pc := 29) h dX10_row_29 (by decide) ?_
      exact hr _ _ _ _ dX10_row_31 (rfl) (by unfold F_row; rw [if_pos hv, if_pos (by rw [Int32.lt_iff_toInt_lt, e30] at c26; omega)]; exact ⟨rfl, rfl⟩)
  · refine r_iconst (v := -1) (pc := 18) h dX10_row_18 (by decide) ?_
    exact hr _ _ _ _ dX10_row_19 (rfl) (by unfold F_row; rw [if_neg (by (try simp only [b2i_eq0] at *); (try simp only [Int32.reduceToInt, Int64.reduceToInt, Int32.toInt_toInt64] at *); omega)]; exact ⟨rfl, rfl⟩)
