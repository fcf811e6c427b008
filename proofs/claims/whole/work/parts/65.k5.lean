/-! loops that make objects; grass and meadow -/
theorem ix_l {Wb Y : va_W} {k i : Nat} {x e : Nat × va_E} (hne : k ≠ i) (h : Wb[i]? = some x) : (Wb.set k e ++ Y)[i]? = some x := by
  have hl := (List.getElem?_eq_some_iff.mp h).1
  rw [List.getElem?_append_left (by rw [List.length_set]; exact hl), List.getElem?_set_ne hne]
  exact h
theorem ix_k {Wb Y : va_W} {k : Nat} {x e : Nat × va_E} (h : Wb[k]? = some x) : (Wb.set k e ++ Y)[k]? = some e := by
  have hl := (List.getElem?_eq_some_iff.mp h).1
  rw [List.getElem?_append_left (by rw [List.length_set]; exact hl), List.getElem?_set_self hl]
theorem top_new {X : va_W} {sz n : Nat} {e : va_E} : topAt (X ++ [(sz + n, e)]) sz (n + 1) := Or.inr ⟨X.length, e, by simp⟩
def manyC (f : Nat → va_W) (i : Nat) : va_W := (List.range i).flatMap f
theorem manyC_succ (f : Nat → va_W) (i : Nat) : manyC f (i + 1) = manyC f i ++ f i := by
  unfold manyC
  rw [List.range_succ, List.flatMap_append]
  simp
def upTo (F : Nat → Nat) (i : Nat) : Nat → Option Nat := fun j => if j < i then some (F j) else none
theorem upTo_step (F : Nat → Nat) (i : Nat) : va_up (upTo F i) i (some (F i)) = upTo F (i + 1) := by
  funext j
  by_cases e : j = i
  · subst e
    simp [va_up, upTo]
  · by_cases h : j < i
    · simp [va_up, upTo, e, h, Nat.lt_succ_of_lt h]
    · simp [va_up, upTo, e, h, show ¬ j < i + 1 by omega]
abbrev rfA (cA : ClassId) (n : Nat) (f : Nat → Option Nat) : va_E := .inl (cA, n, .inr (.inr (.inr (.inr f))))
theorem loop_end {Wb : va_W} {k a0 : Nat} {x : Nat × va_E} {cA : ClassId} {n i : Nat} {F : Nat → Nat} {f : Nat → va_W} (h : Wb[k]? = some x) : ((Wb.set k (a0, rfA cA n (upTo F i)) ++ manyC f i) ++ f i).set k (a0, rfA cA n (va_up (upTo F i) i (some (F i)))) = Wb.set k (a0, rfA cA n (upTo F (i + 1))) ++ manyC f (i + 1) := by
  have hl := (List.getElem?_eq_some_iff.mp h).1
  rw [upTo_step, manyC_succ, List.append_assoc, List.set_append_left _ _ (by rw [List.length_set]; exact hl), List.set_set]
theorem top_many {Wb : va_W} {k a0 sz n1 M : Nat} {x0 e : va_E} {f : Nat → va_W} (hk : Wb[k]? = some (a0, x0)) (ht : topAt Wb sz n1) (hf : ∀ j, ∃ (q : Nat) (x : va_E), (f j)[q]? = some (sz + (n1 + M * (j + 1)) - 1, x)) : ∀ i, topAt (Wb.set k (a0, e) ++ manyC f i) sz (n1 + M * i)
  | 0 => by
    have em : manyC f 0 = [] := rfl
    rw [em, List.append_nil, Nat.mul_zero, Nat.add_zero]
    rcases ht with h | ⟨k2, x, h⟩
    · exact Or.inl h
    · by_cases ek : k = k2
      · subst ek
        have hl := (List.getElem?_eq_some_iff.mp hk).1
        have e1 : a0 = sz + n1 - 1 := congrArg Prod.fst (Option.some.inj (hk.symm.trans h))
        exact Or.inr ⟨k, e, by rw [List.getElem?_set_self hl, e1]⟩
      · exact Or.inr ⟨k2, x, by rw [List.getElem?_set_ne ek]; exact h⟩
  | i + 1 => by
    obtain ⟨q, x, h⟩ := hf i
    rw [manyC_succ, ← List.append_assoc]
    refine Or.inr ⟨(Wb.set k (a0, e) ++ manyC f i).length + q, x, ?_⟩
    rw [List.getElem?_append_right (by omega), Nat.add_sub_cancel_left]
    exact h
theorem List.set_getElem?_same {α : Type} {l : List α} {k : Nat} {x : α} (h : l[k]? = some x) : l.set k x = l := by
  apply List.ext_getElem?
  intro i
  by_cases e : k = i
  · subst e
    rw [List.getElem?_set_self (List.getElem?_eq_some_iff.mp h).1, h]
  · rw [List.getElem?_set_ne e]
def cs_tree (E : En) (sz n1 j : Nat) : va_W := [((sz + (n1 + 1 * j)), .inr (8, [.int 0, .int 0, .int 0, .int 0]))]
set_option maxRecDepth 100000 in
set_option maxHeartbeats 1000000 in
theorem lp_tree {R : Room} {E : En} {sn : SN} {sz : Nat} {g : WT} (h : Smw cX4_init RX4 2 R E sn sz true g) {a a0 n1 n2 k : Nat} {Wb : va_W} {fs : List Value} (h0 : Wb[0]? = some (a, .inr (4, fs))) (hf : fs[0]? = some (.ref a0)) (hk : Wb[k]? = some (a0, rfA (E.2.2.1 18) 6 (fun _ => none))) (hk0 : k ≠ 0) (ht : topAt Wb sz n1) (hR : n1 + 6 ≤ R.cells ∧ n2 + 24 ≤ R.slots) (hF : 3 ≤ R.frames ∧ 192 ≤ R.locals)
    (kk : g (Wb.set k (a0, rfA (E.2.2.1 18) 6 (upTo (fun j => sz + (n1 + 1 * j)) 6)) ++ manyC (cs_tree E sz n1) 6) (n1 + 6) (n2 + 24) 52 [(0, .ref a), (1, .int (nI 6))] []) : g Wb n1 n2 27 [(0, .ref a), (1, .int (nI 0))] [] := by
  have hcs : ∀ j, ∃ (q : Nat) (x : va_E), (cs_tree E sz n1 j)[q]? = some (sz + (n1 + 1 * (j + 1)) - 1, x) := fun j => ⟨0, _, by
    simp only [cs_tree]
    refine congrArg some (Prod.ext ?_ rfl)
    show _ = sz + (n1 + 1 * (j + 1)) - 1
    omega⟩
  have loop : ∀ (m i : Nat), i ≤ 6 → 6 + 1 ≤ i + m → g (Wb.set k (a0, rfA (E.2.2.1 18) 6 (upTo (fun j => sz + (n1 + 1 * j)) i)) ++ manyC (cs_tree E sz n1) i) (n1 + 1 * i) (n2 + 4 * i) 27 [(0, .ref a), (1, .int (nI i))] [] := by
    intro m
    induction m with
    | zero =>
      intro i h1 h2
      omega
    | succ m ih =>
      intro i hi him
      have ei := nI_tI (i := i) (by omega)
      refine w_iload_n (pc := 27) h dX4_init_27 rfl ?_
      refine w_bipush (v := 6) (pc := 28) h dX4_init_28 (by decide) ?_
      refine w_icmp_ge (pc := 30) h 52 dX4_init_30 (by decide) (fun c7 => ?_) (fun c7 => ?_)
      · have hge : i = 6 := by rw [Int32.le_iff_toInt_le, ei] at c7; have : (6 : Int32).toInt = 6 := (by decide); omega
        subst hge
        exact kk
      · have hlt : i < 6 := by rw [Int32.le_iff_toInt_le, ei] at c7; have : (6 : Int32).toInt = 6 := (by decide); omega
        refine w_aload_n (pc := 33) h dX4_init_33 rfl ?_
        refine w_get (ci := 4) (C := RX4) (T := TX4) (N := 3) (k := 0) (pc := 34) h dX4_init_34 rfl tinX4 0 (by decide) wf_X4_11 rfl (ix_l hk0 h0) hf ?_
        refine w_iload_n (pc := 37) h dX4_init_37 rfl ?_
        refine w_new (ci := 8) (C := RX8) (T := TX8) (N := 4) (fs := [.int 0, .int 0, .int 0, .int 0]) (pc := 38) h dX4_init_38 rfl tinX8 tyX8_ok wk_X4_9 wi_X8 wz_X8 (by decide) ⟨by omega, by omega⟩ (top_many hk ht hcs i) rfl ?_
        refine w_dup (pc := 41) h dX4_init_41 rfl ?_
        refine w_callIN (C := 0) (S := 0) (ws2 := (Wb.set k (a0, rfA (E.2.2.1 18) 6 (upTo (fun j => sz + (n1 + 1 * j)) i)) ++ manyC (cs_tree E sz n1) i) ++ cs_tree E sz n1 i) (pc := 42) h dX4_init_42 wn_X4_24 ca_X8_init (k_X8_init E sn _) (Wb.set k (a0, rfA (E.2.2.1 18) 6 (upTo (fun j => sz + (n1 + 1 * j)) i)) ++ manyC (cs_tree E sz n1) i) rfl rfl rfl (Nat.le_of_ble_eq_true rfl) ⟨by omega, by omega⟩ ⟨by omega, by omega⟩ top_new rfl ?_
        refine w_astq (k := k) (kv := (Wb.set k (a0, rfA (E.2.2.1 18) 6 (upTo (fun j => sz + (n1 + 1 * j)) i)) ++ manyC (cs_tree E sz n1) i).length) (t0 := 6) (ci := 8) (cA := E.2.2.1 18) (r := (RX8, TX8, 4)) (ws2 := (Wb.set k (a0, rfA (E.2.2.1 18) 6 (upTo (fun j => sz + (n1 + 1 * j)) (i + 1))) ++ manyC (cs_tree E sz n1) (i + 1))) (pc := 45) h dX4_init_45 rfl rfl rfl (by rw [List.append_assoc]; exact ix_k hk) rfl (by rw [List.getElem?_append_right (Nat.le_refl _), Nat.sub_self]; rfl) (vinI hlt (by omega)) (by rw [nI_tn (by omega)]; exact loop_end hk) ?_
        refine w_iinc (v := 1) (pc := 46) h dX4_init_46 rfl (by decide) (by decide) ?_
        refine w_goto (pc := 49) h 27 dX4_init_49 (by decide) ?_
        rw [← nI_succ i, show n1 + 1 * i + 1 + 0 = n1 + 1 * (i + 1) by omega, show n2 + 4 * i + 4 + 0 = n2 + 4 * (i + 1) by omega]
        exact w_at h [(0, .ref a), (1, .int (nI (i + 1)))] ⟨rfl, rfl, trivial⟩ (ih (i + 1) (by omega) (by omega))
  have hb := loop (6 + 1) 0 (by omega) (by omega)
  have eb : Wb.set k (a0, rfA (E.2.2.1 18) 6 (upTo (fun j => sz + (n1 + 1 * j)) 0)) ++ manyC (cs_tree E sz n1) 0 = Wb := by
    have e1 : manyC (cs_tree E sz n1) 0 = [] := rfl
    have e2 : upTo (fun j => sz + (n1 + 1 * j)) 0 = fun _ => none := by funext j; simp [upTo]
    rw [e1, e2, List.append_nil]
    exact List.set_getElem?_same hk
  rw [eb] at hb
  exact hb
def cs_stick (E : En) (sz n1 j : Nat) : va_W := [((sz + (n1 + 2 * j)), .inr (7, [.int 0, .int 0, .int 0, .int 0, .int 0, .int 0, .int 0, .ref ((sz + (n1 + 2 * j + 1)) + 0)])), ((sz + (n1 + 2 * j + 1)) + 0, .inl (E.2.2.1 12, 4, .inl (fun _ => 0)))]
set_option maxRecDepth 100000 in
set_option maxHeartbeats 1000000 in
theorem lp_stick {R : Room} {E : En} {sn : SN} {sz : Nat} {g : WT} (h : Smw cX10_init RX10 2 R E sn sz true g) {a a0 n1 n2 k : Nat} {Wb : va_W} {fs : List Value} (h0 : Wb[0]? = some (a, .inr (10, fs))) (hf : fs[1]? = some (.ref a0)) (hk : Wb[k]? = some (a0, rfA (E.2.2.1 17) 9 (fun _ => none))) (hk0 : k ≠ 0) (ht : topAt Wb sz n1) (hR : n1 + 18 ≤ R.cells ∧ n2 + 108 ≤ R.slots) (hF : 3 ≤ R.frames ∧ 192 ≤ R.locals)
    (kk : g (Wb.set k (a0, rfA (E.2.2.1 17) 9 (upTo (fun j => sz + (n1 + 2 * j)) 9)) ++ manyC (cs_stick E sz n1) 9) (n1 + 18) (n2 + 108) 232 [(0, .ref a), (1, .int (nI 9))] []) : g Wb n1 n2 207 [(0, .ref a), (1, .int (nI 0))] [] := by
  have hcs : ∀ j, ∃ (q : Nat) (x : va_E), (cs_stick E sz n1 j)[q]? = some (sz + (n1 + 2 * (j + 1)) - 1, x) := fun j => ⟨1, _, by
    simp only [cs_stick]
    refine congrArg some (Prod.ext ?_ rfl)
    show _ = sz + (n1 + 2 * (j + 1)) - 1
    omega⟩
  have loop : ∀ (m i : Nat), i ≤ 9 → 9 + 1 ≤ i + m → g (Wb.set k (a0, rfA (E.2.2.1 17) 9 (upTo (fun j => sz + (n1 + 2 * j)) i)) ++ manyC (cs_stick E sz n1) i) (n1 + 2 * i) (n2 + 12 * i) 207 [(0, .ref a), (1, .int (nI i))] [] := by
    intro m
    induction m with
    | zero =>
      intro i h1 h2
      omega
    | succ m ih =>
      intro i hi him
      have ei := nI_tI (i := i) (by omega)
      refine w_iload_n (pc := 207) h dX10_init_207 rfl ?_
      refine w_bipush (v := 9) (pc := 208) h dX10_init_208 (by decide) ?_
      refine w_icmp_ge (pc := 210) h 232 dX10_init_210 (by decide) (fun c7 => ?_) (fun c7 => ?_)
      · have hge : i = 9 := by rw [Int32.le_iff_toInt_le, ei] at c7; have : (9 : Int32).toInt = 9 := (by decide); omega
        subst hge
        exact kk
      · have hlt : i < 9 := by rw [Int32.le_iff_toInt_le, ei] at c7; have : (9 : Int32).toInt = 9 := (by decide); omega
        refine w_aload_n (pc := 213) h dX10_init_213 rfl ?_
        refine w_get (ci := 10) (C := RX10) (T := TX10) (N := 19) (k := 0) (pc := 214) h dX10_init_214 rfl tinX10 1 (by decide) wf_X10_19 rfl (ix_l hk0 h0) hf ?_
        refine w_iload_n (pc := 217) h dX10_init_217 rfl ?_
        refine w_new (ci := 7) (C := RX7) (T := TX7) (N := 8) (fs := [.int 0, .int 0, .int 0, .int 0, .int 0, .int 0, .int 0, .null]) (pc := 218) h dX10_init_218 rfl tinX7 tyX7_ok wk_X10_17 wi_X7 wz_X7 (by decide) ⟨by omega, by omega⟩ (top_many hk ht hcs i) rfl ?_
        refine w_dup (pc := 221) h dX10_init_221 rfl ?_
        refine w_callIN (C := 1) (S := 4) (ws2 := (Wb.set k (a0, rfA (E.2.2.1 17) 9 (upTo (fun j => sz + (n1 + 2 * j)) i)) ++ manyC (cs_stick E sz n1) i) ++ cs_stick E sz n1 i) (pc := 222) h dX10_init_222 wn_X10_111 ca_X7_init (k_X7_init E sn _) (Wb.set k (a0, rfA (E.2.2.1 17) 9 (upTo (fun j => sz + (n1 + 2 * j)) i)) ++ manyC (cs_stick E sz n1) i) rfl rfl rfl (Nat.le_of_ble_eq_true rfl) ⟨by omega, by omega⟩ ⟨by omega, by omega⟩ top_new rfl ?_
        refine w_astq (k := k) (kv := (Wb.set k (a0, rfA (E.2.2.1 17) 9 (upTo (fun j => sz + (n1 + 2 * j)) i)) ++ manyC (cs_stick E sz n1) i).length) (t0 := 5) (ci := 7) (cA := E.2.2.1 17) (r := (RX7, TX7, 8)) (ws2 := (Wb.set k (a0, rfA (E.2.2.1 17) 9 (upTo (fun j => sz + (n1 + 2 * j)) (i + 1))) ++ manyC (cs_stick E sz n1) (i + 1))) (pc := 225) h dX10_init_225 rfl rfl rfl (by rw [List.append_assoc]; exact ix_k hk) rfl (by rw [List.getElem?_append_right (Nat.le_refl _), Nat.sub_self]; rfl) (vinI hlt (by omega)) (by rw [nI_tn (by omega)]; exact loop_end hk) ?_
        refine w_iinc (v := 1) (pc := 226) h dX10_init_226 rfl (by decide) (by decide) ?_
        refine w_goto (pc := 229) h 207 dX10_init_229 (by decide) ?_
        rw [← nI_succ i, show n1 + 2 * i + 1 + 1 = n1 + 2 * (i + 1) by omega, show n2 + 12 * i + 8 + 4 = n2 + 12 * (i + 1) by omega]
        exact w_at h [(0, .ref a), (1, .int (nI (i + 1)))] ⟨rfl, rfl, trivial⟩ (ih (i + 1) (by omega) (by omega))
  have hb := loop (9 + 1) 0 (by omega) (by omega)
  have eb : Wb.set k (a0, rfA (E.2.2.1 17) 9 (upTo (fun j => sz + (n1 + 2 * j)) 0)) ++ manyC (cs_stick E sz n1) 0 = Wb := by
    have e1 : manyC (cs_stick E sz n1) 0 = [] := rfl
    have e2 : upTo (fun j => sz + (n1 + 2 * j)) 0 = fun _ => none := by funext j; simp [upTo]
    rw [e1, e2, List.append_nil]
    exact List.set_getElem?_same hk
  rw [eb] at hb
  exact hb
def cs_wind (E : En) (sz n1 j : Nat) : va_W := [((sz + (n1 + 3 * j)), .inr (9, [.ref ((sz + (n1 + 3 * j + 1)) + 0), .ref ((sz + (n1 + 3 * j + 1)) + 1)])), ((sz + (n1 + 3 * j + 1)) + 0, .inl (E.2.2.1 12, 4, .inl (fun _ => 0))), ((sz + (n1 + 3 * j + 1)) + 1, .inl (E.2.2.1 12, 4, .inl (fun _ => 0)))]
set_option maxRecDepth 100000 in
set_option maxHeartbeats 1000000 in
theorem lp_wind {R : Room} {E : En} {sn : SN} {sz : Nat} {g : WT} (h : Smw cX10_init RX10 2 R E sn sz true g) {a a0 n1 n2 k : Nat} {Wb : va_W} {fs : List Value} (h0 : Wb[0]? = some (a, .inr (10, fs))) (hf : fs[3]? = some (.ref a0)) (hk : Wb[k]? = some (a0, rfA (E.2.2.1 19) 8 (fun _ => none))) (hk0 : k ≠ 0) (ht : topAt Wb sz n1) (hR : n1 + 24 ≤ R.cells ∧ n2 + 80 ≤ R.slots) (hF : 3 ≤ R.frames ∧ 192 ≤ R.locals)
    (kk : g (Wb.set k (a0, rfA (E.2.2.1 19) 8 (upTo (fun j => sz + (n1 + 3 * j)) 8)) ++ manyC (cs_wind E sz n1) 8) (n1 + 24) (n2 + 80) 259 [(0, .ref a), (1, .int (nI 8))] []) : g Wb n1 n2 234 [(0, .ref a), (1, .int (nI 0))] [] := by
  have hcs : ∀ j, ∃ (q : Nat) (x : va_E), (cs_wind E sz n1 j)[q]? = some (sz + (n1 + 3 * (j + 1)) - 1, x) := fun j => ⟨2, _, by
    simp only [cs_wind]
    refine congrArg some (Prod.ext ?_ rfl)
    show _ = sz + (n1 + 3 * (j + 1)) - 1
    omega⟩
  have loop : ∀ (m i : Nat), i ≤ 8 → 8 + 1 ≤ i + m → g (Wb.set k (a0, rfA (E.2.2.1 19) 8 (upTo (fun j => sz + (n1 + 3 * j)) i)) ++ manyC (cs_wind E sz n1) i) (n1 + 3 * i) (n2 + 10 * i) 234 [(0, .ref a), (1, .int (nI i))] [] := by
    intro m
    induction m with
    | zero =>
      intro i h1 h2
      omega
    | succ m ih =>
      intro i hi him
      have ei := nI_tI (i := i) (by omega)
      refine w_iload_n (pc := 234) h dX10_init_234 rfl ?_
      refine w_bipush (v := 8) (pc := 235) h dX10_init_235 (by decide) ?_
      refine w_icmp_ge (pc := 237) h 259 dX10_init_237 (by decide) (fun c7 => ?_) (fun c7 => ?_)
      · have hge : i = 8 := by rw [Int32.le_iff_toInt_le, ei] at c7; have : (8 : Int32).toInt = 8 := (by decide); omega
        subst hge
        exact kk
      · have hlt : i < 8 := by rw [Int32.le_iff_toInt_le, ei] at c7; have : (8 : Int32).toInt = 8 := (by decide); omega
        refine w_aload_n (pc := 240) h dX10_init_240 rfl ?_
        refine w_get (ci := 10) (C := RX10) (T := TX10) (N := 19) (k := 0) (pc := 241) h dX10_init_241 rfl tinX10 3 (by decide) wf_X10_29 rfl (ix_l hk0 h0) hf ?_
        refine w_iload_n (pc := 244) h dX10_init_244 rfl ?_
        refine w_new (ci := 9) (C := RX9) (T := TX9) (N := 2) (fs := [.null, .null]) (pc := 245) h dX10_init_245 rfl tinX9 tyX9_ok wk_X10_27 wi_X9 wz_X9 (by decide) ⟨by omega, by omega⟩ (top_many hk ht hcs i) rfl ?_
        refine w_dup (pc := 248) h dX10_init_248 rfl ?_
        refine w_callIN (C := 2) (S := 8) (ws2 := (Wb.set k (a0, rfA (E.2.2.1 19) 8 (upTo (fun j => sz + (n1 + 3 * j)) i)) ++ manyC (cs_wind E sz n1) i) ++ cs_wind E sz n1 i) (pc := 249) h dX10_init_249 wn_X10_36 ca_X9_init (k_X9_init E sn _) (Wb.set k (a0, rfA (E.2.2.1 19) 8 (upTo (fun j => sz + (n1 + 3 * j)) i)) ++ manyC (cs_wind E sz n1) i) rfl rfl rfl (Nat.le_of_ble_eq_true rfl) ⟨by omega, by omega⟩ ⟨by omega, by omega⟩ top_new rfl ?_
        refine w_astq (k := k) (kv := (Wb.set k (a0, rfA (E.2.2.1 19) 8 (upTo (fun j => sz + (n1 + 3 * j)) i)) ++ manyC (cs_wind E sz n1) i).length) (t0 := 7) (ci := 9) (cA := E.2.2.1 19) (r := (RX9, TX9, 2)) (ws2 := (Wb.set k (a0, rfA (E.2.2.1 19) 8 (upTo (fun j => sz + (n1 + 3 * j)) (i + 1))) ++ manyC (cs_wind E sz n1) (i + 1))) (pc := 252) h dX10_init_252 rfl rfl rfl (by rw [List.append_assoc]; exact ix_k hk) rfl (by rw [List.getElem?_append_right (Nat.le_refl _), Nat.sub_self]; rfl) (vinI hlt (by omega)) (by rw [nI_tn (by omega)]; exact loop_end hk) ?_
        refine w_iinc (v := 1) (pc := 253) h dX10_init_253 rfl (by decide) (by decide) ?_
        refine w_goto (pc := 256) h 234 dX10_init_256 (by decide) ?_
        rw [← nI_succ i, show n1 + 3 * i + 1 + 2 = n1 + 3 * (i + 1) by omega, show n2 + 10 * i + 2 + 8 = n2 + 10 * (i + 1) by omega]
        exact w_at h [(0, .ref a), (1, .int (nI (i + 1)))] ⟨rfl, rfl, trivial⟩ (ih (i + 1) (by omega) (by omega))
  have hb := loop (8 + 1) 0 (by omega) (by omega)
  have eb : Wb.set k (a0, rfA (E.2.2.1 19) 8 (upTo (fun j => sz + (n1 + 3 * j)) 0)) ++ manyC (cs_wind E sz n1) 0 = Wb := by
    have e1 : manyC (cs_wind E sz n1) 0 = [] := rfl
    have e2 : upTo (fun j => sz + (n1 + 3 * j)) 0 = fun _ => none := by funext j; simp [upTo]
    rw [e1, e2, List.append_nil]
    exact List.set_getElem?_same hk
  rw [eb] at hb
  exact hb
def cs_row (E : En) (sz n1 j : Nat) : va_W := [((sz + (n1 + 2 * j)), .inr (5, [.ref ((sz + (n1 + 2 * j + 1)) + 0), .int 0, .int 0])), ((sz + (n1 + 2 * j + 1)) + 0, .inr (0, [.int 0, .int 0, .int 0, .int 0, .int 0, .int (-1)]))]
set_option maxRecDepth 100000 in
set_option maxHeartbeats 1000000 in
theorem lp_row {R : Room} {E : En} {sn : SN} {sz : Nat} {g : WT} (h : Smw cX10_init RX10 2 R E sn sz true g) {a a0 n1 n2 k : Nat} {Wb : va_W} {fs : List Value} (h0 : Wb[0]? = some (a, .inr (10, fs))) (hf : fs[15]? = some (.ref a0)) (hk : Wb[k]? = some (a0, rfA (E.2.2.1 15) 30 (fun _ => none))) (hk0 : k ≠ 0) (ht : topAt Wb sz n1) (hR : n1 + 60 ≤ R.cells ∧ n2 + 270 ≤ R.slots) (hF : 3 ≤ R.frames ∧ 192 ≤ R.locals)
    (kk : g (Wb.set k (a0, rfA (E.2.2.1 15) 30 (upTo (fun j => sz + (n1 + 2 * j)) 30)) ++ manyC (cs_row E sz n1) 30) (n1 + 60) (n2 + 270) 286 [(0, .ref a), (1, .int (nI 30))] []) : g Wb n1 n2 261 [(0, .ref a), (1, .int (nI 0))] [] := by
  have hcs : ∀ j, ∃ (q : Nat) (x : va_E), (cs_row E sz n1 j)[q]? = some (sz + (n1 + 2 * (j + 1)) - 1, x) := fun j => ⟨1, _, by
    simp only [cs_row]
    refine congrArg some (Prod.ext ?_ rfl)
    show _ = sz + (n1 + 2 * (j + 1)) - 1
    omega⟩
  have loop : ∀ (m i : Nat), i ≤ 30 → 30 + 1 ≤ i + m → g (Wb.set k (a0, rfA (E.2.2.1 15) 30 (upTo (fun j => sz + (n1 + 2 * j)) i)) ++ manyC (cs_row E sz n1) i) (n1 + 2 * i) (n2 + 9 * i) 261 [(0, .ref a), (1, .int (nI i))] [] := by
    intro m
    induction m with
    | zero =>
      intro i h1 h2
      omega
    | succ m ih =>
      intro i hi him
      have ei := nI_tI (i := i) (by omega)
      refine w_iload_n (pc := 261) h dX10_init_261 rfl ?_
      refine w_bipush (v := 30) (pc := 262) h dX10_init_262 (by decide) ?_
      refine w_icmp_ge (pc := 264) h 286 dX10_init_264 (by decide) (fun c7 => ?_) (fun c7 => ?_)
      · have hge : i = 30 := by rw [Int32.le_iff_toInt_le, ei] at c7; have : (30 : Int32).toInt = 30 := (by decide); omega
        subst hge
        exact kk
      · have hlt : i < 30 := by rw [Int32.le_iff_toInt_le, ei] at c7; have : (30 : Int32).toInt = 30 := (by decide); omega
        refine w_aload_n (pc := 267) h dX10_init_267 rfl ?_
        refine w_get (ci := 10) (C := RX10) (T := TX10) (N := 19) (k := 0) (pc := 268) h dX10_init_268 rfl tinX10 15 (by decide) wf_X10_91 rfl (ix_l hk0 h0) hf ?_
        refine w_iload_n (pc := 271) h dX10_init_271 rfl ?_
        refine w_new (ci := 5) (C := RX5) (T := TX5) (N := 3) (fs := [.null, .int 0, .int 0]) (pc := 272) h dX10_init_272 rfl tinX5 tyX5_ok wk_X10_89 wi_X5 wz_X5 (by decide) ⟨by omega, by omega⟩ (top_many hk ht hcs i) rfl ?_
        refine w_dup (pc := 275) h dX10_init_275 rfl ?_
        refine w_callIN (C := 1) (S := 6) (ws2 := (Wb.set k (a0, rfA (E.2.2.1 15) 30 (upTo (fun j => sz + (n1 + 2 * j)) i)) ++ manyC (cs_row E sz n1) i) ++ cs_row E sz n1 i) (pc := 276) h dX10_init_276 wn_X10_112 ca_X5_init (k_X5_init E sn _) (Wb.set k (a0, rfA (E.2.2.1 15) 30 (upTo (fun j => sz + (n1 + 2 * j)) i)) ++ manyC (cs_row E sz n1) i) rfl rfl rfl (Nat.le_of_ble_eq_true rfl) ⟨by omega, by omega⟩ ⟨by omega, by omega⟩ top_new rfl ?_
        refine w_astq (k := k) (kv := (Wb.set k (a0, rfA (E.2.2.1 15) 30 (upTo (fun j => sz + (n1 + 2 * j)) i)) ++ manyC (cs_row E sz n1) i).length) (t0 := 3) (ci := 5) (cA := E.2.2.1 15) (r := (RX5, TX5, 3)) (ws2 := (Wb.set k (a0, rfA (E.2.2.1 15) 30 (upTo (fun j => sz + (n1 + 2 * j)) (i + 1))) ++ manyC (cs_row E sz n1) (i + 1))) (pc := 279) h dX10_init_279 rfl rfl rfl (by rw [List.append_assoc]; exact ix_k hk) rfl (by rw [List.getElem?_append_right (Nat.le_refl _), Nat.sub_self]; rfl) (vinI hlt (by omega)) (by rw [nI_tn (by omega)]; exact loop_end hk) ?_
        refine w_iinc (v := 1) (pc := 280) h dX10_init_280 rfl (by decide) (by decide) ?_
        refine w_goto (pc := 283) h 261 dX10_init_283 (by decide) ?_
        rw [← nI_succ i, show n1 + 2 * i + 1 + 1 = n1 + 2 * (i + 1) by omega, show n2 + 9 * i + 3 + 6 = n2 + 9 * (i + 1) by omega]
        exact w_at h [(0, .ref a), (1, .int (nI (i + 1)))] ⟨rfl, rfl, trivial⟩ (ih (i + 1) (by omega) (by omega))
  have hb := loop (30 + 1) 0 (by omega) (by omega)
  have eb : Wb.set k (a0, rfA (E.2.2.1 15) 30 (upTo (fun j => sz + (n1 + 2 * j)) 0)) ++ manyC (cs_row E sz n1) 0 = Wb := by
    have e1 : manyC (cs_row E sz n1) 0 = [] := rfl
    have e2 : upTo (fun j => sz + (n1 + 2 * j)) 0 = fun _ => none := by funext j; simp [upTo]
    rw [e1, e2, List.append_nil]
    exact List.set_getElem?_same hk
  rw [eb] at hb
  exact hb
def cs_sheet (E : En) (sz n1 j : Nat) : va_W := [((sz + (n1 + 2 * j)), .inr (6, [.int (-1), .int 0, .ref ((sz + (n1 + 2 * j + 1)) + 0)])), ((sz + (n1 + 2 * j + 1)) + 0, .inl (E.2.2.1 12, 60, .inl (fun _ => 0)))]
set_option maxRecDepth 100000 in
set_option maxHeartbeats 1000000 in
theorem lp_sheet {R : Room} {E : En} {sn : SN} {sz : Nat} {g : WT} (h : Smw cX10_init RX10 2 R E sn sz true g) {a a0 n1 n2 k : Nat} {Wb : va_W} {fs : List Value} (h0 : Wb[0]? = some (a, .inr (10, fs))) (hf : fs[18]? = some (.ref a0)) (hk : Wb[k]? = some (a0, rfA (E.2.2.1 16) 4 (fun _ => none))) (hk0 : k ≠ 0) (ht : topAt Wb sz n1) (hR : n1 + 8 ≤ R.cells ∧ n2 + 252 ≤ R.slots) (hF : 3 ≤ R.frames ∧ 192 ≤ R.locals)
    (kk : g (Wb.set k (a0, rfA (E.2.2.1 16) 4 (upTo (fun j => sz + (n1 + 2 * j)) 4)) ++ manyC (cs_sheet E sz n1) 4) (n1 + 8) (n2 + 252) 312 [(0, .ref a), (1, .int (nI 4))] []) : g Wb n1 n2 288 [(0, .ref a), (1, .int (nI 0))] [] := by
  have hcs : ∀ j, ∃ (q : Nat) (x : va_E), (cs_sheet E sz n1 j)[q]? = some (sz + (n1 + 2 * (j + 1)) - 1, x) := fun j => ⟨1, _, by
    simp only [cs_sheet]
    refine congrArg some (Prod.ext ?_ rfl)
    show _ = sz + (n1 + 2 * (j + 1)) - 1
    omega⟩
  have loop : ∀ (m i : Nat), i ≤ 4 → 4 + 1 ≤ i + m → g (Wb.set k (a0, rfA (E.2.2.1 16) 4 (upTo (fun j => sz + (n1 + 2 * j)) i)) ++ manyC (cs_sheet E sz n1) i) (n1 + 2 * i) (n2 + 63 * i) 288 [(0, .ref a), (1, .int (nI i))] [] := by
    intro m
    induction m with
    | zero =>
      intro i h1 h2
      omega
    | succ m ih =>
      intro i hi him
      have ei := nI_tI (i := i) (by omega)
      refine w_iload_n (pc := 288) h dX10_init_288 rfl ?_
      refine w_iconst (v := 4) (pc := 289) h dX10_init_289 (by decide) ?_
      refine w_icmp_ge (pc := 290) h 312 dX10_init_290 (by decide) (fun c7 => ?_) (fun c7 => ?_)
      · have hge : i = 4 := by rw [Int32.le_iff_toInt_le, ei] at c7; have : (4 : Int32).toInt = 4 := (by decide); omega
        subst hge
        exact kk
      · have hlt : i < 4 := by rw [Int32.le_iff_toInt_le, ei] at c7; have : (4 : Int32).toInt = 4 := (by decide); omega
        refine w_aload_n (pc := 293) h dX10_init_293 rfl ?_
        refine w_get (ci := 10) (C := RX10) (T := TX10) (N := 19) (k := 0) (pc := 294) h dX10_init_294 rfl tinX10 18 (by decide) wf_X10_107 rfl (ix_l hk0 h0) hf ?_
        refine w_iload_n (pc := 297) h dX10_init_297 rfl ?_
        refine w_new (ci := 6) (C := RX6) (T := TX6) (N := 3) (fs := [.int 0, .int 0, .null]) (pc := 298) h dX10_init_298 rfl tinX6 tyX6_ok wk_X10_105 wi_X6 wz_X6 (by decide) ⟨by omega, by omega⟩ (top_many hk ht hcs i) rfl ?_
        refine w_dup (pc := 301) h dX10_init_301 rfl ?_
        refine w_callIN (C := 1) (S := 60) (ws2 := (Wb.set k (a0, rfA (E.2.2.1 16) 4 (upTo (fun j => sz + (n1 + 2 * j)) i)) ++ manyC (cs_sheet E sz n1) i) ++ cs_sheet E sz n1 i) (pc := 302) h dX10_init_302 wn_X10_113 ca_X6_init (k_X6_init E sn _) (Wb.set k (a0, rfA (E.2.2.1 16) 4 (upTo (fun j => sz + (n1 + 2 * j)) i)) ++ manyC (cs_sheet E sz n1) i) rfl rfl rfl (Nat.le_of_ble_eq_true rfl) ⟨by omega, by omega⟩ ⟨by omega, by omega⟩ top_new rfl ?_
        refine w_astq (k := k) (kv := (Wb.set k (a0, rfA (E.2.2.1 16) 4 (upTo (fun j => sz + (n1 + 2 * j)) i)) ++ manyC (cs_sheet E sz n1) i).length) (t0 := 4) (ci := 6) (cA := E.2.2.1 16) (r := (RX6, TX6, 3)) (ws2 := (Wb.set k (a0, rfA (E.2.2.1 16) 4 (upTo (fun j => sz + (n1 + 2 * j)) (i + 1))) ++ manyC (cs_sheet E sz n1) (i + 1))) (pc := 305) h dX10_init_305 rfl rfl rfl (by rw [List.append_assoc]; exact ix_k hk) rfl (by rw [List.getElem?_append_right (Nat.le_refl _), Nat.sub_self]; rfl) (vinI hlt (by omega)) (by rw [nI_tn (by omega)]; exact loop_end hk) ?_
        refine w_iinc (v := 1) (pc := 306) h dX10_init_306 rfl (by decide) (by decide) ?_
        refine w_goto (pc := 309) h 288 dX10_init_309 (by decide) ?_
        rw [← nI_succ i, show n1 + 2 * i + 1 + 1 = n1 + 2 * (i + 1) by omega, show n2 + 63 * i + 3 + 60 = n2 + 63 * (i + 1) by omega]
        exact w_at h [(0, .ref a), (1, .int (nI (i + 1)))] ⟨rfl, rfl, trivial⟩ (ih (i + 1) (by omega) (by omega))
  have hb := loop (4 + 1) 0 (by omega) (by omega)
  have eb : Wb.set k (a0, rfA (E.2.2.1 16) 4 (upTo (fun j => sz + (n1 + 2 * j)) 0)) ++ manyC (cs_sheet E sz n1) 0 = Wb := by
    have e1 : manyC (cs_sheet E sz n1) 0 = [] := rfl
    have e2 : upTo (fun j => sz + (n1 + 2 * j)) 0 = fun _ => none := by funext j; simp [upTo]
    rw [e1, e2, List.append_nil]
    exact List.set_getElem?_same hk
  rw [eb] at hb
  exact hb
