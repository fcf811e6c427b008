/-! THE LAYOUT: each cell by its id -/
def pmT : List Nat := [0, 1, 2, 3, 4, 5, 6, 7, 8, 9, 10, 11, 12, 13, 14, 15, 16, 17, 18, 19, 20, 21, 22, 23, 24, 25, 26, 27, 28, 29, 30, 31, 32, 33, 34, 35, 36, 37, 38, 39, 40, 41, 42, 43, 44, 45, 46, 47, 48, 49, 50, 51, 52, 53, 54, 55, 56, 57, 58, 59, 60, 61, 62, 63, 64, 65, 66, 67, 68, 69, 70, 71, 72, 73, 74, 75, 76, 77, 78, 79, 80, 81, 82, 83, 84, 85, 86, 87, 88, 89, 90, 91, 92, 93, 94, 95, 96, 97, 98, 99, 100, 101, 102, 103, 104, 105, 106, 107, 108, 109, 110, 111, 112, 113, 114, 115, 116, 117, 118, 119, 120, 121, 122, 123, 124, 125, 126, 127, 128, 129, 130, 131, 132, 133, 134, 135, 136, 137, 138, 139, 140, 141, 142, 143, 144, 145, 146, 147, 148, 149, 150, 151, 152, 153, 154, 155, 156, 157, 158, 159, 160, 161, 162, 163, 164, 165, 166, 167, 168, 169, 170, 171, 172, 173, 174, 175, 176, 177, 178, 179, 180, 181, 182, 183]
def pmF (k : Nat) : Nat := pmT.getD k 0
theorem pmF_inj : ∀ i, i < 184 → ∀ j, j < 184 → pmF i = pmF j → i = j := by decide +kernel
theorem pmF_lt : ∀ i, i < 184 → pmF i < 184 := by decide +kernel
abbrev mkE (sz : Nat) (D : va_G) (cA : Nat → ClassId) (t1 t2 : Nat) : En := (fun k => sz + pmF k, D, cA, t1, t2)
def sameC : va_E → va_E → Prop
  | .inl (c, n, .inl f), .inl (c2, n2, .inl f2) => c = c2 ∧ n = n2 ∧ ∀ j, j < n → f j = f2 j
  | .inl (c, n, .inr (.inr (.inr (.inr f)))), .inl (c2, n2, .inr (.inr (.inr (.inr f2)))) => c = c2 ∧ n = n2 ∧ ∀ j, j < n → f j = f2 j
  | .inr o, .inr o2 => o = o2
  | _, _ => False
theorem arrV_same {c : ClassId} {n : Nat} {f f2 : Nat → Value} (h : ∀ j, j < n → f j = f2 j) : arrV c n f = arrV c n f2 := by
  unfold arrV
  refine congrArg (fun q => ({ cls := c, slots := q, vm := .none } : Cell)) ?_
  refine congrArg Array.ofFn (funext fun j => ?_)
  exact h j.val j.isLt
theorem sameC_at {D : va_G} {cl : List vw_C} {a : Nat} {H : Heap} : ∀ {x y : va_E}, sameC x y → va_at D cl (a, x) H → va_at D cl (a, y) H
  | .inl (c, n, .inl f), .inl (c2, n2, .inl f2), h, hx => by
    obtain ⟨rfl, rfl, h3⟩ := h
    have hx : H[a]? = some (vp_cell c (n, .inl f)) := hx
    show H[a]? = some (vp_cell c (n, .inl f2))
    rw [hx, vp_cell_i, vp_cell_i, arrV_same (fun j hj => by rw [h3 j hj])]
  | .inl (c, n, .inr (.inr (.inr (.inr f)))), .inl (c2, n2, .inr (.inr (.inr (.inr f2)))), h, hx => by
    obtain ⟨rfl, rfl, h3⟩ := h
    have hx : H[a]? = some (vp_cell c (n, .inr (.inr (.inr (.inr f))))) := hx
    show H[a]? = some (vp_cell c (n, .inr (.inr (.inr (.inr f2)))))
    rw [hx, vp_cell_q, vp_cell_q, arrV_same (fun j hj => by rw [h3 j hj])]
  | .inr o, .inr o2, h, hx => by
    have e : o = o2 := h
    subst e
    exact hx
theorem lt_c2 {P : Nat → Prop} (h0 : P 0) (h1 : P 1) : ∀ j, j < 2 → P j
  | 0, _ => h0
  | 1, _ => h1
  | j + 2, h => absurd h (by omega)
abbrev allW (E : En) (sz : Nat) : va_W := bagW E (sz + 0) (sz + (0 + 1)) ++ modelW E (sz + 151) (sz + (151 + 1))
abbrev atL (sz : Nat) (D : va_G) (cA : Nat → ClassId) (t1 t2 k : Nat) : Prop := ∃ x : va_E, (allW (mkE sz D cA t1 t2) sz)[pmF k]? = some (sz + pmF k, x) ∧ sameC x (ent (mkE sz D cA t1 t2) mem0 k)
theorem la_0 (sz : Nat) (D : va_G) (cA : Nat → ClassId) (t1 t2 : Nat) : atL sz D cA t1 t2 0 := ⟨_, rfl, rfl⟩
theorem la_1 (sz : Nat) (D : va_G) (cA : Nat → ClassId) (t1 t2 : Nat) : atL sz D cA t1 t2 1 := ⟨_, rfl, ⟨rfl, rfl, fun _ _ => rfl⟩⟩
theorem la_2 (sz : Nat) (D : va_G) (cA : Nat → ClassId) (t1 t2 : Nat) : atL sz D cA t1 t2 2 := by
  refine ⟨_, rfl, rfl, rfl, fun j hj => ?_⟩
  have e : ∀ j, j < 9 → pmF (rf 2 j) = 41 + 2 * j := by decide +kernel
  show upTo _ 9 j = some (sz + pmF (rf 2 j))
  unfold upTo
  rw [if_pos hj, e j hj]
  refine congrArg some ?_
  dsimp only
  omega
theorem la_3 (sz : Nat) (D : va_G) (cA : Nat → ClassId) (t1 t2 : Nat) : atL sz D cA t1 t2 3 := by
  refine ⟨_, rfl, rfl, rfl, fun j hj => ?_⟩
  have e : ∀ j, j < 8 → pmF (rf 3 j) = 59 + 3 * j := by decide +kernel
  show upTo _ 8 j = some (sz + pmF (rf 3 j))
  unfold upTo
  rw [if_pos hj, e j hj]
  refine congrArg some ?_
  dsimp only
  omega
theorem la_4 (sz : Nat) (D : va_G) (cA : Nat → ClassId) (t1 t2 : Nat) : atL sz D cA t1 t2 4 := ⟨_, rfl, rfl⟩
theorem la_5 (sz : Nat) (D : va_G) (cA : Nat → ClassId) (t1 t2 : Nat) : atL sz D cA t1 t2 5 := ⟨_, rfl, ⟨rfl, rfl, fun _ _ => rfl⟩⟩
theorem la_6 (sz : Nat) (D : va_G) (cA : Nat → ClassId) (t1 t2 : Nat) : atL sz D cA t1 t2 6 := ⟨_, rfl, ⟨rfl, rfl, fun _ _ => rfl⟩⟩
theorem la_7 (sz : Nat) (D : va_G) (cA : Nat → ClassId) (t1 t2 : Nat) : atL sz D cA t1 t2 7 := ⟨_, rfl, rfl⟩
theorem la_8 (sz : Nat) (D : va_G) (cA : Nat → ClassId) (t1 t2 : Nat) : atL sz D cA t1 t2 8 := by
  refine ⟨_, rfl, rfl, rfl, fun j hj => ?_⟩
  have e : ∀ j, j < 6 → pmF (rf 8 j) = 9 + 1 * j := by decide +kernel
  show upTo _ 6 j = some (sz + pmF (rf 8 j))
  unfold upTo
  rw [if_pos hj, e j hj]
  refine congrArg some ?_
  dsimp only
  omega
theorem la_9 (sz : Nat) (D : va_G) (cA : Nat → ClassId) (t1 t2 : Nat) : atL sz D cA t1 t2 9 := ⟨_, rfl, rfl⟩
theorem la_10 (sz : Nat) (D : va_G) (cA : Nat → ClassId) (t1 t2 : Nat) : atL sz D cA t1 t2 10 := ⟨_, rfl, rfl⟩
theorem la_11 (sz : Nat) (D : va_G) (cA : Nat → ClassId) (t1 t2 : Nat) : atL sz D cA t1 t2 11 := ⟨_, rfl, rfl⟩
theorem la_12 (sz : Nat) (D : va_G) (cA : Nat → ClassId) (t1 t2 : Nat) : atL sz D cA t1 t2 12 := ⟨_, rfl, rfl⟩
theorem la_13 (sz : Nat) (D : va_G) (cA : Nat → ClassId) (t1 t2 : Nat) : atL sz D cA t1 t2 13 := ⟨_, rfl, rfl⟩
theorem la_14 (sz : Nat) (D : va_G) (cA : Nat → ClassId) (t1 t2 : Nat) : atL sz D cA t1 t2 14 := ⟨_, rfl, rfl⟩
theorem la_15 (sz : Nat) (D : va_G) (cA : Nat → ClassId) (t1 t2 : Nat) : atL sz D cA t1 t2 15 := ⟨_, rfl, rfl⟩
theorem la_16 (sz : Nat) (D : va_G) (cA : Nat → ClassId) (t1 t2 : Nat) : atL sz D cA t1 t2 16 := ⟨_, rfl, ⟨rfl, rfl, fun _ _ => rfl⟩⟩
theorem la_17 (sz : Nat) (D : va_G) (cA : Nat → ClassId) (t1 t2 : Nat) : atL sz D cA t1 t2 17 := ⟨_, rfl, rfl⟩
theorem la_18 (sz : Nat) (D : va_G) (cA : Nat → ClassId) (t1 t2 : Nat) : atL sz D cA t1 t2 18 := ⟨_, rfl, ⟨rfl, rfl, fun _ _ => rfl⟩⟩
theorem la_19 (sz : Nat) (D : va_G) (cA : Nat → ClassId) (t1 t2 : Nat) : atL sz D cA t1 t2 19 := ⟨_, rfl, rfl⟩
theorem la_20 (sz : Nat) (D : va_G) (cA : Nat → ClassId) (t1 t2 : Nat) : atL sz D cA t1 t2 20 := ⟨_, rfl, ⟨rfl, rfl, fun _ _ => rfl⟩⟩
theorem la_21 (sz : Nat) (D : va_G) (cA : Nat → ClassId) (t1 t2 : Nat) : atL sz D cA t1 t2 21 := ⟨_, rfl, ⟨rfl, rfl, lt_c2 rfl rfl⟩⟩
theorem la_22 (sz : Nat) (D : va_G) (cA : Nat → ClassId) (t1 t2 : Nat) : atL sz D cA t1 t2 22 := ⟨_, rfl, rfl⟩
theorem la_23 (sz : Nat) (D : va_G) (cA : Nat → ClassId) (t1 t2 : Nat) : atL sz D cA t1 t2 23 := ⟨_, rfl, rfl⟩
theorem la_24 (sz : Nat) (D : va_G) (cA : Nat → ClassId) (t1 t2 : Nat) : atL sz D cA t1 t2 24 := ⟨_, rfl, ⟨rfl, rfl, lt_c2 rfl rfl⟩⟩
theorem la_25 (sz : Nat) (D : va_G) (cA : Nat → ClassId) (t1 t2 : Nat) : atL sz D cA t1 t2 25 := ⟨_, rfl, rfl⟩
theorem la_26 (sz : Nat) (D : va_G) (cA : Nat → ClassId) (t1 t2 : Nat) : atL sz D cA t1 t2 26 := ⟨_, rfl, ⟨rfl, rfl, fun _ _ => rfl⟩⟩
theorem la_27 (sz : Nat) (D : va_G) (cA : Nat → ClassId) (t1 t2 : Nat) : atL sz D cA t1 t2 27 := ⟨_, rfl, rfl⟩
theorem la_28 (sz : Nat) (D : va_G) (cA : Nat → ClassId) (t1 t2 : Nat) : atL sz D cA t1 t2 28 := by
  refine ⟨_, rfl, rfl, rfl, fun j hj => ?_⟩
  have e : ∀ j, j < 5 → pmF (rf 28 j) = 29 + 1 * j := by decide +kernel
  show upTo _ 5 j = some (sz + pmF (rf 28 j))
  unfold upTo
  rw [if_pos hj, e j hj]
  refine congrArg some ?_
  dsimp only
  omega
theorem la_29 (sz : Nat) (D : va_G) (cA : Nat → ClassId) (t1 t2 : Nat) : atL sz D cA t1 t2 29 := ⟨_, rfl, ⟨rfl, rfl, fun _ _ => rfl⟩⟩
theorem la_30 (sz : Nat) (D : va_G) (cA : Nat → ClassId) (t1 t2 : Nat) : atL sz D cA t1 t2 30 := ⟨_, rfl, ⟨rfl, rfl, fun _ _ => rfl⟩⟩
theorem la_31 (sz : Nat) (D : va_G) (cA : Nat → ClassId) (t1 t2 : Nat) : atL sz D cA t1 t2 31 := ⟨_, rfl, ⟨rfl, rfl, fun _ _ => rfl⟩⟩
theorem la_32 (sz : Nat) (D : va_G) (cA : Nat → ClassId) (t1 t2 : Nat) : atL sz D cA t1 t2 32 := ⟨_, rfl, ⟨rfl, rfl, fun _ _ => rfl⟩⟩
theorem la_33 (sz : Nat) (D : va_G) (cA : Nat → ClassId) (t1 t2 : Nat) : atL sz D cA t1 t2 33 := ⟨_, rfl, ⟨rfl, rfl, fun _ _ => rfl⟩⟩
theorem la_34 (sz : Nat) (D : va_G) (cA : Nat → ClassId) (t1 t2 : Nat) : atL sz D cA t1 t2 34 := ⟨_, rfl, ⟨rfl, rfl, fun _ _ => rfl⟩⟩
theorem la_35 (sz : Nat) (D : va_G) (cA : Nat → ClassId) (t1 t2 : Nat) : atL sz D cA t1 t2 35 := ⟨_, rfl, ⟨rfl, rfl, fun _ _ => rfl⟩⟩
theorem la_36 (sz : Nat) (D : va_G) (cA : Nat → ClassId) (t1 t2 : Nat) : atL sz D cA t1 t2 36 := by
  refine ⟨_, rfl, rfl, rfl, fun j hj => ?_⟩
  have e : ∀ j, j < 30 → pmF (rf 36 j) = 83 + 2 * j := by decide +kernel
  show upTo _ 30 j = some (sz + pmF (rf 36 j))
  unfold upTo
  rw [if_pos hj, e j hj]
  refine congrArg some ?_
  dsimp only
  omega
theorem la_37 (sz : Nat) (D : va_G) (cA : Nat → ClassId) (t1 t2 : Nat) : atL sz D cA t1 t2 37 := ⟨_, rfl, rfl⟩
theorem la_38 (sz : Nat) (D : va_G) (cA : Nat → ClassId) (t1 t2 : Nat) : atL sz D cA t1 t2 38 := ⟨_, rfl, ⟨rfl, rfl, fun _ _ => rfl⟩⟩
theorem la_39 (sz : Nat) (D : va_G) (cA : Nat → ClassId) (t1 t2 : Nat) : atL sz D cA t1 t2 39 := ⟨_, rfl, ⟨rfl, rfl, fun _ _ => rfl⟩⟩
theorem la_40 (sz : Nat) (D : va_G) (cA : Nat → ClassId) (t1 t2 : Nat) : atL sz D cA t1 t2 40 := by
  refine ⟨_, rfl, rfl, rfl, fun j hj => ?_⟩
  have e : ∀ j, j < 4 → pmF (rf 40 j) = 143 + 2 * j := by decide +kernel
  show upTo _ 4 j = some (sz + pmF (rf 40 j))
  unfold upTo
  rw [if_pos hj, e j hj]
  refine congrArg some ?_
  dsimp only
  omega
theorem la_41 (sz : Nat) (D : va_G) (cA : Nat → ClassId) (t1 t2 : Nat) : atL sz D cA t1 t2 41 := ⟨_, rfl, rfl⟩
theorem la_42 (sz : Nat) (D : va_G) (cA : Nat → ClassId) (t1 t2 : Nat) : atL sz D cA t1 t2 42 := ⟨_, rfl, ⟨rfl, rfl, fun _ _ => rfl⟩⟩
theorem la_43 (sz : Nat) (D : va_G) (cA : Nat → ClassId) (t1 t2 : Nat) : atL sz D cA t1 t2 43 := ⟨_, rfl, rfl⟩
theorem la_44 (sz : Nat) (D : va_G) (cA : Nat → ClassId) (t1 t2 : Nat) : atL sz D cA t1 t2 44 := ⟨_, rfl, ⟨rfl, rfl, fun _ _ => rfl⟩⟩
theorem la_45 (sz : Nat) (D : va_G) (cA : Nat → ClassId) (t1 t2 : Nat) : atL sz D cA t1 t2 45 := ⟨_, rfl, rfl⟩
theorem la_46 (sz : Nat) (D : va_G) (cA : Nat → ClassId) (t1 t2 : Nat) : atL sz D cA t1 t2 46 := ⟨_, rfl, ⟨rfl, rfl, fun _ _ => rfl⟩⟩
theorem la_47 (sz : Nat) (D : va_G) (cA : Nat → ClassId) (t1 t2 : Nat) : atL sz D cA t1 t2 47 := ⟨_, rfl, rfl⟩
theorem la_48 (sz : Nat) (D : va_G) (cA : Nat → ClassId) (t1 t2 : Nat) : atL sz D cA t1 t2 48 := ⟨_, rfl, ⟨rfl, rfl, fun _ _ => rfl⟩⟩
theorem la_49 (sz : Nat) (D : va_G) (cA : Nat → ClassId) (t1 t2 : Nat) : atL sz D cA t1 t2 49 := ⟨_, rfl, rfl⟩
theorem la_50 (sz : Nat) (D : va_G) (cA : Nat → ClassId) (t1 t2 : Nat) : atL sz D cA t1 t2 50 := ⟨_, rfl, ⟨rfl, rfl, fun _ _ => rfl⟩⟩
theorem la_51 (sz : Nat) (D : va_G) (cA : Nat → ClassId) (t1 t2 : Nat) : atL sz D cA t1 t2 51 := ⟨_, rfl, rfl⟩
theorem la_52 (sz : Nat) (D : va_G) (cA : Nat → ClassId) (t1 t2 : Nat) : atL sz D cA t1 t2 52 := ⟨_, rfl, ⟨rfl, rfl, fun _ _ => rfl⟩⟩
theorem la_53 (sz : Nat) (D : va_G) (cA : Nat → ClassId) (t1 t2 : Nat) : atL sz D cA t1 t2 53 := ⟨_, rfl, rfl⟩
theorem la_54 (sz : Nat) (D : va_G) (cA : Nat → ClassId) (t1 t2 : Nat) : atL sz D cA t1 t2 54 := ⟨_, rfl, ⟨rfl, rfl, fun _ _ => rfl⟩⟩
theorem la_55 (sz : Nat) (D : va_G) (cA : Nat → ClassId) (t1 t2 : Nat) : atL sz D cA t1 t2 55 := ⟨_, rfl, rfl⟩
theorem la_56 (sz : Nat) (D : va_G) (cA : Nat → ClassId) (t1 t2 : Nat) : atL sz D cA t1 t2 56 := ⟨_, rfl, ⟨rfl, rfl, fun _ _ => rfl⟩⟩
theorem la_57 (sz : Nat) (D : va_G) (cA : Nat → ClassId) (t1 t2 : Nat) : atL sz D cA t1 t2 57 := ⟨_, rfl, rfl⟩
theorem la_58 (sz : Nat) (D : va_G) (cA : Nat → ClassId) (t1 t2 : Nat) : atL sz D cA t1 t2 58 := ⟨_, rfl, ⟨rfl, rfl, fun _ _ => rfl⟩⟩
theorem la_59 (sz : Nat) (D : va_G) (cA : Nat → ClassId) (t1 t2 : Nat) : atL sz D cA t1 t2 59 := ⟨_, rfl, rfl⟩
theorem la_60 (sz : Nat) (D : va_G) (cA : Nat → ClassId) (t1 t2 : Nat) : atL sz D cA t1 t2 60 := ⟨_, rfl, ⟨rfl, rfl, fun _ _ => rfl⟩⟩
theorem la_61 (sz : Nat) (D : va_G) (cA : Nat → ClassId) (t1 t2 : Nat) : atL sz D cA t1 t2 61 := ⟨_, rfl, ⟨rfl, rfl, fun _ _ => rfl⟩⟩
theorem la_62 (sz : Nat) (D : va_G) (cA : Nat → ClassId) (t1 t2 : Nat) : atL sz D cA t1 t2 62 := ⟨_, rfl, rfl⟩
theorem la_63 (sz : Nat) (D : va_G) (cA : Nat → ClassId) (t1 t2 : Nat) : atL sz D cA t1 t2 63 := ⟨_, rfl, ⟨rfl, rfl, fun _ _ => rfl⟩⟩
theorem la_64 (sz : Nat) (D : va_G) (cA : Nat → ClassId) (t1 t2 : Nat) : atL sz D cA t1 t2 64 := ⟨_, rfl, ⟨rfl, rfl, fun _ _ => rfl⟩⟩
theorem la_65 (sz : Nat) (D : va_G) (cA : Nat → ClassId) (t1 t2 : Nat) : atL sz D cA t1 t2 65 := ⟨_, rfl, rfl⟩
theorem la_66 (sz : Nat) (D : va_G) (cA : Nat → ClassId) (t1 t2 : Nat) : atL sz D cA t1 t2 66 := ⟨_, rfl, ⟨rfl, rfl, fun _ _ => rfl⟩⟩
theorem la_67 (sz : Nat) (D : va_G) (cA : Nat → ClassId) (t1 t2 : Nat) : atL sz D cA t1 t2 67 := ⟨_, rfl, ⟨rfl, rfl, fun _ _ => rfl⟩⟩
theorem la_68 (sz : Nat) (D : va_G) (cA : Nat → ClassId) (t1 t2 : Nat) : atL sz D cA t1 t2 68 := ⟨_, rfl, rfl⟩
theorem la_69 (sz : Nat) (D : va_G) (cA : Nat → ClassId) (t1 t2 : Nat) : atL sz D cA t1 t2 69 := ⟨_, rfl, ⟨rfl, rfl, fun _ _ => rfl⟩⟩
theorem la_70 (sz : Nat) (D : va_G) (cA : Nat → ClassId) (t1 t2 : Nat) : atL sz D cA t1 t2 70 := ⟨_, rfl, ⟨rfl, rfl, fun _ _ => rfl⟩⟩
theorem la_71 (sz : Nat) (D : va_G) (cA : Nat → ClassId) (t1 t2 : Nat) : atL sz D cA t1 t2 71 := ⟨_, rfl, rfl⟩
theorem la_72 (sz : Nat) (D : va_G) (cA : Nat → ClassId) (t1 t2 : Nat) : atL sz D cA t1 t2 72 := ⟨_, rfl, ⟨rfl, rfl, fun _ _ => rfl⟩⟩
theorem la_73 (sz : Nat) (D : va_G) (cA : Nat → ClassId) (t1 t2 : Nat) : atL sz D cA t1 t2 73 := ⟨_, rfl, ⟨rfl, rfl, fun _ _ => rfl⟩⟩
theorem la_74 (sz : Nat) (D : va_G) (cA : Nat → ClassId) (t1 t2 : Nat) : atL sz D cA t1 t2 74 := ⟨_, rfl, rfl⟩
theorem la_75 (sz : Nat) (D : va_G) (cA : Nat → ClassId) (t1 t2 : Nat) : atL sz D cA t1 t2 75 := ⟨_, rfl, ⟨rfl, rfl, fun _ _ => rfl⟩⟩
theorem la_76 (sz : Nat) (D : va_G) (cA : Nat → ClassId) (t1 t2 : Nat) : atL sz D cA t1 t2 76 := ⟨_, rfl, ⟨rfl, rfl, fun _ _ => rfl⟩⟩
theorem la_77 (sz : Nat) (D : va_G) (cA : Nat → ClassId) (t1 t2 : Nat) : atL sz D cA t1 t2 77 := ⟨_, rfl, rfl⟩
theorem la_78 (sz : Nat) (D : va_G) (cA : Nat → ClassId) (t1 t2 : Nat) : atL sz D cA t1 t2 78 := ⟨_, rfl, ⟨rfl, rfl, fun _ _ => rfl⟩⟩
theorem la_79 (sz : Nat) (D : va_G) (cA : Nat → ClassId) (t1 t2 : Nat) : atL sz D cA t1 t2 79 := ⟨_, rfl, ⟨rfl, rfl, fun _ _ => rfl⟩⟩
theorem la_80 (sz : Nat) (D : va_G) (cA : Nat → ClassId) (t1 t2 : Nat) : atL sz D cA t1 t2 80 := ⟨_, rfl, rfl⟩
theorem la_81 (sz : Nat) (D : va_G) (cA : Nat → ClassId) (t1 t2 : Nat) : atL sz D cA t1 t2 81 := ⟨_, rfl, ⟨rfl, rfl, fun _ _ => rfl⟩⟩
theorem la_82 (sz : Nat) (D : va_G) (cA : Nat → ClassId) (t1 t2 : Nat) : atL sz D cA t1 t2 82 := ⟨_, rfl, ⟨rfl, rfl, fun _ _ => rfl⟩⟩
theorem la_83 (sz : Nat) (D : va_G) (cA : Nat → ClassId) (t1 t2 : Nat) : atL sz D cA t1 t2 83 := ⟨_, rfl, rfl⟩
theorem la_84 (sz : Nat) (D : va_G) (cA : Nat → ClassId) (t1 t2 : Nat) : atL sz D cA t1 t2 84 := ⟨_, rfl, rfl⟩
theorem la_85 (sz : Nat) (D : va_G) (cA : Nat → ClassId) (t1 t2 : Nat) : atL sz D cA t1 t2 85 := ⟨_, rfl, rfl⟩
theorem la_86 (sz : Nat) (D : va_G) (cA : Nat → ClassId) (t1 t2 : Nat) : atL sz D cA t1 t2 86 := ⟨_, rfl, rfl⟩
theorem la_87 (sz : Nat) (D : va_G) (cA : Nat → ClassId) (t1 t2 : Nat) : atL sz D cA t1 t2 87 := ⟨_, rfl, rfl⟩
theorem la_88 (sz : Nat) (D : va_G) (cA : Nat → ClassId) (t1 t2 : Nat) : atL sz D cA t1 t2 88 := ⟨_, rfl, rfl⟩
theorem la_89 (sz : Nat) (D : va_G) (cA : Nat → ClassId) (t1 t2 : Nat) : atL sz D cA t1 t2 89 := ⟨_, rfl, rfl⟩
theorem la_90 (sz : Nat) (D : va_G) (cA : Nat → ClassId) (t1 t2 : Nat) : atL sz D cA t1 t2 90 := ⟨_, rfl, rfl⟩
theorem la_91 (sz : Nat) (D : va_G) (cA : Nat → ClassId) (t1 t2 : Nat) : atL sz D cA t1 t2 91 := ⟨_, rfl, rfl⟩
theorem la_92 (sz : Nat) (D : va_G) (cA : Nat → ClassId) (t1 t2 : Nat) : atL sz D cA t1 t2 92 := ⟨_, rfl, rfl⟩
theorem la_93 (sz : Nat) (D : va_G) (cA : Nat → ClassId) (t1 t2 : Nat) : atL sz D cA t1 t2 93 := ⟨_, rfl, rfl⟩
theorem la_94 (sz : Nat) (D : va_G) (cA : Nat → ClassId) (t1 t2 : Nat) : atL sz D cA t1 t2 94 := ⟨_, rfl, rfl⟩
theorem la_95 (sz : Nat) (D : va_G) (cA : Nat → ClassId) (t1 t2 : Nat) : atL sz D cA t1 t2 95 := ⟨_, rfl, rfl⟩
theorem la_96 (sz : Nat) (D : va_G) (cA : Nat → ClassId) (t1 t2 : Nat) : atL sz D cA t1 t2 96 := ⟨_, rfl, rfl⟩
theorem la_97 (sz : Nat) (D : va_G) (cA : Nat → ClassId) (t1 t2 : Nat) : atL sz D cA t1 t2 97 := ⟨_, rfl, rfl⟩
theorem la_98 (sz : Nat) (D : va_G) (cA : Nat → ClassId) (t1 t2 : Nat) : atL sz D cA t1 t2 98 := ⟨_, rfl, rfl⟩
theorem la_99 (sz : Nat) (D : va_G) (cA : Nat → ClassId) (t1 t2 : Nat) : atL sz D cA t1 t2 99 := ⟨_, rfl, rfl⟩
theorem la_100 (sz : Nat) (D : va_G) (cA : Nat → ClassId) (t1 t2 : Nat) : atL sz D cA t1 t2 100 := ⟨_, rfl, rfl⟩
theorem la_101 (sz : Nat) (D : va_G) (cA : Nat → ClassId) (t1 t2 : Nat) : atL sz D cA t1 t2 101 := ⟨_, rfl, rfl⟩
theorem la_102 (sz : Nat) (D : va_G) (cA : Nat → ClassId) (t1 t2 : Nat) : atL sz D cA t1 t2 102 := ⟨_, rfl, rfl⟩
theorem la_103 (sz : Nat) (D : va_G) (cA : Nat → ClassId) (t1 t2 : Nat) : atL sz D cA t1 t2 103 := ⟨_, rfl, rfl⟩
theorem la_104 (sz : Nat) (D : va_G) (cA : Nat → ClassId) (t1 t2 : Nat) : atL sz D cA t1 t2 104 := ⟨_, rfl, rfl⟩
theorem la_105 (sz : Nat) (D : va_G) (cA : Nat → ClassId) (t1 t2 : Nat) : atL sz D cA t1 t2 105 := ⟨_, rfl, rfl⟩
theorem la_106 (sz : Nat) (D : va_G) (cA : Nat → ClassId) (t1 t2 : Nat) : atL sz D cA t1 t2 106 := ⟨_, rfl, rfl⟩
theorem la_107 (sz : Nat) (D : va_G) (cA : Nat → ClassId) (t1 t2 : Nat) : atL sz D cA t1 t2 107 := ⟨_, rfl, rfl⟩
theorem la_108 (sz : Nat) (D : va_G) (cA : Nat → ClassId) (t1 t2 : Nat) : atL sz D cA t1 t2 108 := ⟨_, rfl, rfl⟩
theorem la_109 (sz : Nat) (D : va_G) (cA : Nat → ClassId) (t1 t2 : Nat) : atL sz D cA t1 t2 109 := ⟨_, rfl, rfl⟩
theorem la_110 (sz : Nat) (D : va_G) (cA : Nat → ClassId) (t1 t2 : Nat) : atL sz D cA t1 t2 110 := ⟨_, rfl, rfl⟩
theorem la_111 (sz : Nat) (D : va_G) (cA : Nat → ClassId) (t1 t2 : Nat) : atL sz D cA t1 t2 111 := ⟨_, rfl, rfl⟩
theorem la_112 (sz : Nat) (D : va_G) (cA : Nat → ClassId) (t1 t2 : Nat) : atL sz D cA t1 t2 112 := ⟨_, rfl, rfl⟩
theorem la_113 (sz : Nat) (D : va_G) (cA : Nat → ClassId) (t1 t2 : Nat) : atL sz D cA t1 t2 113 := ⟨_, rfl, rfl⟩
theorem la_114 (sz : Nat) (D : va_G) (cA : Nat → ClassId) (t1 t2 : Nat) : atL sz D cA t1 t2 114 := ⟨_, rfl, rfl⟩
theorem la_115 (sz : Nat) (D : va_G) (cA : Nat → ClassId) (t1 t2 : Nat) : atL sz D cA t1 t2 115 := ⟨_, rfl, rfl⟩
theorem la_116 (sz : Nat) (D : va_G) (cA : Nat → ClassId) (t1 t2 : Nat) : atL sz D cA t1 t2 116 := ⟨_, rfl, rfl⟩
theorem la_117 (sz : Nat) (D : va_G) (cA : Nat → ClassId) (t1 t2 : Nat) : atL sz D cA t1 t2 117 := ⟨_, rfl, rfl⟩
theorem la_118 (sz : Nat) (D : va_G) (cA : Nat → ClassId) (t1 t2 : Nat) : atL sz D cA t1 t2 118 := ⟨_, rfl, rfl⟩
theorem la_119 (sz : Nat) (D : va_G) (cA : Nat → ClassId) (t1 t2 : Nat) : atL sz D cA t1 t2 119 := ⟨_, rfl, rfl⟩
theorem la_120 (sz : Nat) (D : va_G) (cA : Nat → ClassId) (t1 t2 : Nat) : atL sz D cA t1 t2 120 := ⟨_, rfl, rfl⟩
theorem la_121 (sz : Nat) (D : va_G) (cA : Nat → ClassId) (t1 t2 : Nat) : atL sz D cA t1 t2 121 := ⟨_, rfl, rfl⟩
theorem la_122 (sz : Nat) (D : va_G) (cA : Nat → ClassId) (t1 t2 : Nat) : atL sz D cA t1 t2 122 := ⟨_, rfl, rfl⟩
theorem la_123 (sz : Nat) (D : va_G) (cA : Nat → ClassId) (t1 t2 : Nat) : atL sz D cA t1 t2 123 := ⟨_, rfl, rfl⟩
theorem la_124 (sz : Nat) (D : va_G) (cA : Nat → ClassId) (t1 t2 : Nat) : atL sz D cA t1 t2 124 := ⟨_, rfl, rfl⟩
theorem la_125 (sz : Nat) (D : va_G) (cA : Nat → ClassId) (t1 t2 : Nat) : atL sz D cA t1 t2 125 := ⟨_, rfl, rfl⟩
theorem la_126 (sz : Nat) (D : va_G) (cA : Nat → ClassId) (t1 t2 : Nat) : atL sz D cA t1 t2 126 := ⟨_, rfl, rfl⟩
theorem la_127 (sz : Nat) (D : va_G) (cA : Nat → ClassId) (t1 t2 : Nat) : atL sz D cA t1 t2 127 := ⟨_, rfl, rfl⟩
theorem la_128 (sz : Nat) (D : va_G) (cA : Nat → ClassId) (t1 t2 : Nat) : atL sz D cA t1 t2 128 := ⟨_, rfl, rfl⟩
theorem la_129 (sz : Nat) (D : va_G) (cA : Nat → ClassId) (t1 t2 : Nat) : atL sz D cA t1 t2 129 := ⟨_, rfl, rfl⟩
theorem la_130 (sz : Nat) (D : va_G) (cA : Nat → ClassId) (t1 t2 : Nat) : atL sz D cA t1 t2 130 := ⟨_, rfl, rfl⟩
theorem la_131 (sz : Nat) (D : va_G) (cA : Nat → ClassId) (t1 t2 : Nat) : atL sz D cA t1 t2 131 := ⟨_, rfl, rfl⟩
theorem la_132 (sz : Nat) (D : va_G) (cA : Nat → ClassId) (t1 t2 : Nat) : atL sz D cA t1 t2 132 := ⟨_, rfl, rfl⟩
theorem la_133 (sz : Nat) (D : va_G) (cA : Nat → ClassId) (t1 t2 : Nat) : atL sz D cA t1 t2 133 := ⟨_, rfl, rfl⟩
theorem la_134 (sz : Nat) (D : va_G) (cA : Nat → ClassId) (t1 t2 : Nat) : atL sz D cA t1 t2 134 := ⟨_, rfl, rfl⟩
theorem la_135 (sz : Nat) (D : va_G) (cA : Nat → ClassId) (t1 t2 : Nat) : atL sz D cA t1 t2 135 := ⟨_, rfl, rfl⟩
theorem la_136 (sz : Nat) (D : va_G) (cA : Nat → ClassId) (t1 t2 : Nat) : atL sz D cA t1 t2 136 := ⟨_, rfl, rfl⟩
theorem la_137 (sz : Nat) (D : va_G) (cA : Nat → ClassId) (t1 t2 : Nat) : atL sz D cA t1 t2 137 := ⟨_, rfl, rfl⟩
theorem la_138 (sz : Nat) (D : va_G) (cA : Nat → ClassId) (t1 t2 : Nat) : atL sz D cA t1 t2 138 := ⟨_, rfl, rfl⟩
theorem la_139 (sz : Nat) (D : va_G) (cA : Nat → ClassId) (t1 t2 : Nat) : atL sz D cA t1 t2 139 := ⟨_, rfl, rfl⟩
theorem la_140 (sz : Nat) (D : va_G) (cA : Nat → ClassId) (t1 t2 : Nat) : atL sz D cA t1 t2 140 := ⟨_, rfl, rfl⟩
theorem la_141 (sz : Nat) (D : va_G) (cA : Nat → ClassId) (t1 t2 : Nat) : atL sz D cA t1 t2 141 := ⟨_, rfl, rfl⟩
theorem la_142 (sz : Nat) (D : va_G) (cA : Nat → ClassId) (t1 t2 : Nat) : atL sz D cA t1 t2 142 := ⟨_, rfl, rfl⟩
theorem la_143 (sz : Nat) (D : va_G) (cA : Nat → ClassId) (t1 t2 : Nat) : atL sz D cA t1 t2 143 := ⟨_, rfl, rfl⟩
theorem la_144 (sz : Nat) (D : va_G) (cA : Nat → ClassId) (t1 t2 : Nat) : atL sz D cA t1 t2 144 := ⟨_, rfl, ⟨rfl, rfl, fun _ _ => rfl⟩⟩
theorem la_145 (sz : Nat) (D : va_G) (cA : Nat → ClassId) (t1 t2 : Nat) : atL sz D cA t1 t2 145 := ⟨_, rfl, rfl⟩
theorem la_146 (sz : Nat) (D : va_G) (cA : Nat → ClassId) (t1 t2 : Nat) : atL sz D cA t1 t2 146 := ⟨_, rfl, ⟨rfl, rfl, fun _ _ => rfl⟩⟩
theorem la_147 (sz : Nat) (D : va_G) (cA : Nat → ClassId) (t1 t2 : Nat) : atL sz D cA t1 t2 147 := ⟨_, rfl, rfl⟩
theorem la_148 (sz : Nat) (D : va_G) (cA : Nat → ClassId) (t1 t2 : Nat) : atL sz D cA t1 t2 148 := ⟨_, rfl, ⟨rfl, rfl, fun _ _ => rfl⟩⟩
theorem la_149 (sz : Nat) (D : va_G) (cA : Nat → ClassId) (t1 t2 : Nat) : atL sz D cA t1 t2 149 := ⟨_, rfl, rfl⟩
theorem la_150 (sz : Nat) (D : va_G) (cA : Nat → ClassId) (t1 t2 : Nat) : atL sz D cA t1 t2 150 := ⟨_, rfl, ⟨rfl, rfl, fun _ _ => rfl⟩⟩
theorem la_151 (sz : Nat) (D : va_G) (cA : Nat → ClassId) (t1 t2 : Nat) : atL sz D cA t1 t2 151 := ⟨_, rfl, rfl⟩
theorem la_152 (sz : Nat) (D : va_G) (cA : Nat → ClassId) (t1 t2 : Nat) : atL sz D cA t1 t2 152 := ⟨_, rfl, ⟨rfl, rfl, fun _ _ => rfl⟩⟩
theorem la_153 (sz : Nat) (D : va_G) (cA : Nat → ClassId) (t1 t2 : Nat) : atL sz D cA t1 t2 153 := ⟨_, rfl, ⟨rfl, rfl, fun _ _ => rfl⟩⟩
theorem la_154 (sz : Nat) (D : va_G) (cA : Nat → ClassId) (t1 t2 : Nat) : atL sz D cA t1 t2 154 := ⟨_, rfl, ⟨rfl, rfl, fun _ _ => rfl⟩⟩
theorem la_155 (sz : Nat) (D : va_G) (cA : Nat → ClassId) (t1 t2 : Nat) : atL sz D cA t1 t2 155 := ⟨_, rfl, ⟨rfl, rfl, fun _ _ => rfl⟩⟩
theorem la_156 (sz : Nat) (D : va_G) (cA : Nat → ClassId) (t1 t2 : Nat) : atL sz D cA t1 t2 156 := ⟨_, rfl, ⟨rfl, rfl, fun _ _ => rfl⟩⟩
theorem la_157 (sz : Nat) (D : va_G) (cA : Nat → ClassId) (t1 t2 : Nat) : atL sz D cA t1 t2 157 := ⟨_, rfl, ⟨rfl, rfl, fun _ _ => rfl⟩⟩
theorem la_158 (sz : Nat) (D : va_G) (cA : Nat → ClassId) (t1 t2 : Nat) : atL sz D cA t1 t2 158 := ⟨_, rfl, ⟨rfl, rfl, fun _ _ => rfl⟩⟩
theorem la_159 (sz : Nat) (D : va_G) (cA : Nat → ClassId) (t1 t2 : Nat) : atL sz D cA t1 t2 159 := ⟨_, rfl, ⟨rfl, rfl, fun _ _ => rfl⟩⟩
theorem la_160 (sz : Nat) (D : va_G) (cA : Nat → ClassId) (t1 t2 : Nat) : atL sz D cA t1 t2 160 := ⟨_, rfl, ⟨rfl, rfl, fun _ _ => rfl⟩⟩
theorem la_161 (sz : Nat) (D : va_G) (cA : Nat → ClassId) (t1 t2 : Nat) : atL sz D cA t1 t2 161 := ⟨_, rfl, ⟨rfl, rfl, fun _ _ => rfl⟩⟩
theorem la_162 (sz : Nat) (D : va_G) (cA : Nat → ClassId) (t1 t2 : Nat) : atL sz D cA t1 t2 162 := ⟨_, rfl, ⟨rfl, rfl, fun _ _ => rfl⟩⟩
theorem la_163 (sz : Nat) (D : va_G) (cA : Nat → ClassId) (t1 t2 : Nat) : atL sz D cA t1 t2 163 := ⟨_, rfl, ⟨rfl, rfl, fun _ _ => rfl⟩⟩
theorem la_164 (sz : Nat) (D : va_G) (cA : Nat → ClassId) (t1 t2 : Nat) : atL sz D cA t1 t2 164 := ⟨_, rfl, ⟨rfl, rfl, fun _ _ => rfl⟩⟩
theorem la_165 (sz : Nat) (D : va_G) (cA : Nat → ClassId) (t1 t2 : Nat) : atL sz D cA t1 t2 165 := ⟨_, rfl, ⟨rfl, rfl, fun _ _ => rfl⟩⟩
theorem la_166 (sz : Nat) (D : va_G) (cA : Nat → ClassId) (t1 t2 : Nat) : atL sz D cA t1 t2 166 := ⟨_, rfl, ⟨rfl, rfl, fun _ _ => rfl⟩⟩
theorem la_167 (sz : Nat) (D : va_G) (cA : Nat → ClassId) (t1 t2 : Nat) : atL sz D cA t1 t2 167 := ⟨_, rfl, ⟨rfl, rfl, fun _ _ => rfl⟩⟩
theorem la_168 (sz : Nat) (D : va_G) (cA : Nat → ClassId) (t1 t2 : Nat) : atL sz D cA t1 t2 168 := ⟨_, rfl, ⟨rfl, rfl, fun _ _ => rfl⟩⟩
theorem la_169 (sz : Nat) (D : va_G) (cA : Nat → ClassId) (t1 t2 : Nat) : atL sz D cA t1 t2 169 := ⟨_, rfl, ⟨rfl, rfl, fun _ _ => rfl⟩⟩
theorem la_170 (sz : Nat) (D : va_G) (cA : Nat → ClassId) (t1 t2 : Nat) : atL sz D cA t1 t2 170 := ⟨_, rfl, ⟨rfl, rfl, fun _ _ => rfl⟩⟩
theorem la_171 (sz : Nat) (D : va_G) (cA : Nat → ClassId) (t1 t2 : Nat) : atL sz D cA t1 t2 171 := ⟨_, rfl, ⟨rfl, rfl, fun _ _ => rfl⟩⟩
theorem la_172 (sz : Nat) (D : va_G) (cA : Nat → ClassId) (t1 t2 : Nat) : atL sz D cA t1 t2 172 := ⟨_, rfl, ⟨rfl, rfl, fun _ _ => rfl⟩⟩
theorem la_173 (sz : Nat) (D : va_G) (cA : Nat → ClassId) (t1 t2 : Nat) : atL sz D cA t1 t2 173 := ⟨_, rfl, ⟨rfl, rfl, fun _ _ => rfl⟩⟩
theorem la_174 (sz : Nat) (D : va_G) (cA : Nat → ClassId) (t1 t2 : Nat) : atL sz D cA t1 t2 174 := ⟨_, rfl, ⟨rfl, rfl, fun _ _ => rfl⟩⟩
theorem la_175 (sz : Nat) (D : va_G) (cA : Nat → ClassId) (t1 t2 : Nat) : atL sz D cA t1 t2 175 := ⟨_, rfl, ⟨rfl, rfl, fun _ _ => rfl⟩⟩
theorem la_176 (sz : Nat) (D : va_G) (cA : Nat → ClassId) (t1 t2 : Nat) : atL sz D cA t1 t2 176 := ⟨_, rfl, ⟨rfl, rfl, fun _ _ => rfl⟩⟩
theorem la_177 (sz : Nat) (D : va_G) (cA : Nat → ClassId) (t1 t2 : Nat) : atL sz D cA t1 t2 177 := ⟨_, rfl, ⟨rfl, rfl, fun _ _ => rfl⟩⟩
theorem la_178 (sz : Nat) (D : va_G) (cA : Nat → ClassId) (t1 t2 : Nat) : atL sz D cA t1 t2 178 := ⟨_, rfl, ⟨rfl, rfl, fun _ _ => rfl⟩⟩
theorem la_179 (sz : Nat) (D : va_G) (cA : Nat → ClassId) (t1 t2 : Nat) : atL sz D cA t1 t2 179 := ⟨_, rfl, ⟨rfl, rfl, fun _ _ => rfl⟩⟩
theorem la_180 (sz : Nat) (D : va_G) (cA : Nat → ClassId) (t1 t2 : Nat) : atL sz D cA t1 t2 180 := ⟨_, rfl, ⟨rfl, rfl, fun _ _ => rfl⟩⟩
theorem la_181 (sz : Nat) (D : va_G) (cA : Nat → ClassId) (t1 t2 : Nat) : atL sz D cA t1 t2 181 := ⟨_, rfl, ⟨rfl, rfl, fun _ _ => rfl⟩⟩
theorem la_182 (sz : Nat) (D : va_G) (cA : Nat → ClassId) (t1 t2 : Nat) : atL sz D cA t1 t2 182 := ⟨_, rfl, ⟨rfl, rfl, fun _ _ => rfl⟩⟩
theorem la_183 (sz : Nat) (D : va_G) (cA : Nat → ClassId) (t1 t2 : Nat) : atL sz D cA t1 t2 183 := ⟨_, rfl, ⟨rfl, rfl, fun _ _ => rfl⟩⟩
theorem la_all (sz : Nat) (D : va_G) (cA : Nat → ClassId) (t1 t2 : Nat) : ∀ k, k < 184 → atL sz D cA t1 t2 k
  | 0, _ => la_0 sz D cA t1 t2
  | 1, _ => la_1 sz D cA t1 t2
  | 2, _ => la_2 sz D cA t1 t2
  | 3, _ => la_3 sz D cA t1 t2
  | 4, _ => la_4 sz D cA t1 t2
  | 5, _ => la_5 sz D cA t1 t2
  | 6, _ => la_6 sz D cA t1 t2
  | 7, _ => la_7 sz D cA t1 t2
  | 8, _ => la_8 sz D cA t1 t2
  | 9, _ => la_9 sz D cA t1 t2
  | 10, _ => la_10 sz D cA t1 t2
  | 11, _ => la_11 sz D cA t1 t2
  | 12, _ => la_12 sz D cA t1 t2
  | 13, _ => la_13 sz D cA t1 t2
  | 14, _ => la_14 sz D cA t1 t2
  | 15, _ => la_15 sz D cA t1 t2
  | 16, _ => la_16 sz D cA t1 t2
  | 17, _ => la_17 sz D cA t1 t2
  | 18, _ => la_18 sz D cA t1 t2
  | 19, _ => la_19 sz D cA t1 t2
  | 20, _ => la_20 sz D cA t1 t2
  | 21, _ => la_21 sz D cA t1 t2
  | 22, _ => la_22 sz D cA t1 t2
  | 23, _ => la_23 sz D cA t1 t2
  | 24, _ => la_24 sz D cA t1 t2
  | 25, _ => la_25 sz D cA t1 t2
  | 26, _ => la_26 sz D cA t1 t2
  | 27, _ => la_27 sz D cA t1 t2
  | 28, _ => la_28 sz D cA t1 t2
  | 29, _ => la_29 sz D cA t1 t2
  | 30, _ => la_30 sz D cA t1 t2
  | 31, _ => la_31 sz D cA t1 t2
  | 32, _ => la_32 sz D cA t1 t2
  | 33, _ => la_33 sz D cA t1 t2
  | 34, _ => la_34 sz D cA t1 t2
  | 35, _ => la_35 sz D cA t1 t2
  | 36, _ => la_36 sz D cA t1 t2
  | 37, _ => la_37 sz D cA t1 t2
  | 38, _ => la_38 sz D cA t1 t2
  | 39, _ => la_39 sz D cA t1 t2
  | 40, _ => la_40 sz D cA t1 t2
  | 41, _ => la_41 sz D cA t1 t2
  | 42, _ => la_42 sz D cA t1 t2
  | 43, _ => la_43 sz D cA t1 t2
  | 44, _ => la_44 sz D cA t1 t2
  | 45, _ => la_45 sz D cA t1 t2
  | 46, _ => la_46 sz D cA t1 t2
  | 47, _ => la_47 sz D cA t1 t2
  | 48, _ => la_48 sz D cA t1 t2
  | 49, _ => la_49 sz D cA t1 t2
  | 50, _ => la_50 sz D cA t1 t2
  | 51, _ => la_51 sz D cA t1 t2
  | 52, _ => la_52 sz D cA t1 t2
  | 53, _ => la_53 sz D cA t1 t2
  | 54, _ => la_54 sz D cA t1 t2
  | 55, _ => la_55 sz D cA t1 t2
  | 56, _ => la_56 sz D cA t1 t2
  | 57, _ => la_57 sz D cA t1 t2
  | 58, _ => la_58 sz D cA t1 t2
  | 59, _ => la_59 sz D cA t1 t2
  | 60, _ => la_60 sz D cA t1 t2
  | 61, _ => la_61 sz D cA t1 t2
  | 62, _ => la_62 sz D cA t1 t2
  | 63, _ => la_63 sz D cA t1 t2
  | 64, _ => la_64 sz D cA t1 t2
  | 65, _ => la_65 sz D cA t1 t2
  | 66, _ => la_66 sz D cA t1 t2
  | 67, _ => la_67 sz D cA t1 t2
  | 68, _ => la_68 sz D cA t1 t2
  | 69, _ => la_69 sz D cA t1 t2
  | 70, _ => la_70 sz D cA t1 t2
  | 71, _ => la_71 sz D cA t1 t2
  | 72, _ => la_72 sz D cA t1 t2
  | 73, _ => la_73 sz D cA t1 t2
  | 74, _ => la_74 sz D cA t1 t2
  | 75, _ => la_75 sz D cA t1 t2
  | 76, _ => la_76 sz D cA t1 t2
  | 77, _ => la_77 sz D cA t1 t2
  | 78, _ => la_78 sz D cA t1 t2
  | 79, _ => la_79 sz D cA t1 t2
  | 80, _ => la_80 sz D cA t1 t2
  | 81, _ => la_81 sz D cA t1 t2
  | 82, _ => la_82 sz D cA t1 t2
  | 83, _ => la_83 sz D cA t1 t2
  | 84, _ => la_84 sz D cA t1 t2
  | 85, _ => la_85 sz D cA t1 t2
  | 86, _ => la_86 sz D cA t1 t2
  | 87, _ => la_87 sz D cA t1 t2
  | 88, _ => la_88 sz D cA t1 t2
  | 89, _ => la_89 sz D cA t1 t2
  | 90, _ => la_90 sz D cA t1 t2
  | 91, _ => la_91 sz D cA t1 t2
  | 92, _ => la_92 sz D cA t1 t2
  | 93, _ => la_93 sz D cA t1 t2
  | 94, _ => la_94 sz D cA t1 t2
  | 95, _ => la_95 sz D cA t1 t2
  | 96, _ => la_96 sz D cA t1 t2
  | 97, _ => la_97 sz D cA t1 t2
  | 98, _ => la_98 sz D cA t1 t2
  | 99, _ => la_99 sz D cA t1 t2
  | 100, _ => la_100 sz D cA t1 t2
  | 101, _ => la_101 sz D cA t1 t2
  | 102, _ => la_102 sz D cA t1 t2
  | 103, _ => la_103 sz D cA t1 t2
  | 104, _ => la_104 sz D cA t1 t2
  | 105, _ => la_105 sz D cA t1 t2
  | 106, _ => la_106 sz D cA t1 t2
  | 107, _ => la_107 sz D cA t1 t2
  | 108, _ => la_108 sz D cA t1 t2
  | 109, _ => la_109 sz D cA t1 t2
  | 110, _ => la_110 sz D cA t1 t2
  | 111, _ => la_111 sz D cA t1 t2
  | 112, _ => la_112 sz D cA t1 t2
  | 113, _ => la_113 sz D cA t1 t2
  | 114, _ => la_114 sz D cA t1 t2
  | 115, _ => la_115 sz D cA t1 t2
  | 116, _ => la_116 sz D cA t1 t2
  | 117, _ => la_117 sz D cA t1 t2
  | 118, _ => la_118 sz D cA t1 t2
  | 119, _ => la_119 sz D cA t1 t2
  | 120, _ => la_120 sz D cA t1 t2
  | 121, _ => la_121 sz D cA t1 t2
  | 122, _ => la_122 sz D cA t1 t2
  | 123, _ => la_123 sz D cA t1 t2
  | 124, _ => la_124 sz D cA t1 t2
  | 125, _ => la_125 sz D cA t1 t2
  | 126, _ => la_126 sz D cA t1 t2
  | 127, _ => la_127 sz D cA t1 t2
  | 128, _ => la_128 sz D cA t1 t2
  | 129, _ => la_129 sz D cA t1 t2
  | 130, _ => la_130 sz D cA t1 t2
  | 131, _ => la_131 sz D cA t1 t2
  | 132, _ => la_132 sz D cA t1 t2
  | 133, _ => la_133 sz D cA t1 t2
  | 134, _ => la_134 sz D cA t1 t2
  | 135, _ => la_135 sz D cA t1 t2
  | 136, _ => la_136 sz D cA t1 t2
  | 137, _ => la_137 sz D cA t1 t2
  | 138, _ => la_138 sz D cA t1 t2
  | 139, _ => la_139 sz D cA t1 t2
  | 140, _ => la_140 sz D cA t1 t2
  | 141, _ => la_141 sz D cA t1 t2
  | 142, _ => la_142 sz D cA t1 t2
  | 143, _ => la_143 sz D cA t1 t2
  | 144, _ => la_144 sz D cA t1 t2
  | 145, _ => la_145 sz D cA t1 t2
  | 146, _ => la_146 sz D cA t1 t2
  | 147, _ => la_147 sz D cA t1 t2
  | 148, _ => la_148 sz D cA t1 t2
  | 149, _ => la_149 sz D cA t1 t2
  | 150, _ => la_150 sz D cA t1 t2
  | 151, _ => la_151 sz D cA t1 t2
  | 152, _ => la_152 sz D cA t1 t2
  | 153, _ => la_153 sz D cA t1 t2
  | 154, _ => la_154 sz D cA t1 t2
  | 155, _ => la_155 sz D cA t1 t2
  | 156, _ => la_156 sz D cA t1 t2
  | 157, _ => la_157 sz D cA t1 t2
  | 158, _ => la_158 sz D cA t1 t2
  | 159, _ => la_159 sz D cA t1 t2
  | 160, _ => la_160 sz D cA t1 t2
  | 161, _ => la_161 sz D cA t1 t2
  | 162, _ => la_162 sz D cA t1 t2
  | 163, _ => la_163 sz D cA t1 t2
  | 164, _ => la_164 sz D cA t1 t2
  | 165, _ => la_165 sz D cA t1 t2
  | 166, _ => la_166 sz D cA t1 t2
  | 167, _ => la_167 sz D cA t1 t2
  | 168, _ => la_168 sz D cA t1 t2
  | 169, _ => la_169 sz D cA t1 t2
  | 170, _ => la_170 sz D cA t1 t2
  | 171, _ => la_171 sz D cA t1 t2
  | 172, _ => la_172 sz D cA t1 t2
  | 173, _ => la_173 sz D cA t1 t2
  | 174, _ => la_174 sz D cA t1 t2
  | 175, _ => la_175 sz D cA t1 t2
  | 176, _ => la_176 sz D cA t1 t2
  | 177, _ => la_177 sz D cA t1 t2
  | 178, _ => la_178 sz D cA t1 t2
  | 179, _ => la_179 sz D cA t1 t2
  | 180, _ => la_180 sz D cA t1 t2
  | 181, _ => la_181 sz D cA t1 t2
  | 182, _ => la_182 sz D cA t1 t2
  | 183, _ => la_183 sz D cA t1 t2
  | k + 184, h => absurd h (by omega)
theorem to_wl {sz : Nat} {D : va_G} {cA : Nat → ClassId} {t1 t2 : Nat} {A : Nat → Prop} {H : Heap} (hP : va_P D vwCl (allW (mkE sz D cA t1 t2) sz) H) (hD : va_D A (allW (mkE sz D cA t1 t2) sz)) : va_P D vwCl (wl (mkE sz D cA t1 t2) mem0) H ∧ va_D A (wl (mkE sz D cA t1 t2) mem0) := by
  have key : ∀ (k : Nat) (q : Nat × va_E), (wl (mkE sz D cA t1 t2) mem0)[k]? = some q → k < 184 ∧ q = (sz + pmF k, ent (mkE sz D cA t1 t2) mem0 k) := by
    intro k q hq
    have hk : k < 184 := by
      have := (List.getElem?_eq_some_iff.mp hq).1
      simpa [wl] using this
    exact ⟨hk, (Option.some.inj ((wl_get (mkE sz D cA t1 t2) mem0 hk).symm.trans hq)).symm⟩
  refine ⟨fun k q hq => ?_, ⟨fun i j x y hi hj hxy => ?_, fun k q hq => ?_⟩⟩
  · obtain ⟨hk, rfl⟩ := key k q hq
    obtain ⟨x, h1, h2⟩ := la_all sz D cA t1 t2 k hk
    exact sameC_at h2 (hP _ _ h1)
  · obtain ⟨hi2, rfl⟩ := key i x hi
    obtain ⟨hj2, rfl⟩ := key j y hj
    have e : sz + pmF i = sz + pmF j := hxy
    exact pmF_inj i hi2 j hj2 (by omega)
  · obtain ⟨hk, rfl⟩ := key k q hq
    obtain ⟨x, h1, -⟩ := la_all sz D cA t1 t2 k hk
    have hh := hD.2 _ _ h1
    exact hh
