/-! THE MATCH, and the claim -/
theorem outer_is (c : ClassId) (N q i : Nat) : mgr_o c N q i = arrV c N (fun j => va_rf (upTo (fun j => q + 1 + j) i j)) := by
  unfold mgr_o
  refine congrArg (arrV c N) (funext fun j => ?_)
  by_cases h : j < i
  · simp [va_rf, upTo, h]
  · simp [va_rf, upTo, h]
theorem app_rows {A : Nat → Prop} {H0 : Heap} {D : va_G} {cl : List vw_C} {ws : va_W} {H1 : Heap} {x : va_E} {q : Nat} : ∀ (n : Nat), va_P D cl ws H1 → va_D A ws → (∀ (k : Nat) (y : Nat × va_E), ws[k]? = some y → y.1 < q) → (∀ j, j < n → va_at D cl (q + j, x) H1) → (∀ z, q ≤ z → A z) → va_P D cl (ws ++ (List.range n).map (fun j => (q + j, x))) H1 ∧ va_D A (ws ++ (List.range n).map (fun j => (q + j, x))) := by
  intro n hP hD hlt hx hA
  have hr : ∀ (k : Nat) (y : Nat × va_E), ((List.range n).map (fun j => ((q + j, x) : Nat × va_E)))[k]? = some y → k < n ∧ y = (q + k, x) := by
    intro k y hy
    have hk : k < n := by
      have := (List.getElem?_eq_some_iff.mp hy).1
      simpa using this
    refine ⟨hk, ?_⟩
    rw [List.getElem?_map, List.getElem?_range hk] at hy
    exact (Option.some.inj hy).symm
  refine ⟨hP.app (fun k y hy => ?_), va_D.app hD ⟨fun i j y z hy hz hyz => ?_, fun k y hy => ?_⟩ (fun i j y z hy hz hyz => ?_)⟩
  · obtain ⟨hk, rfl⟩ := hr k y hy
    exact hx k hk
  · obtain ⟨h1, rfl⟩ := hr i y hy
    obtain ⟨h2, rfl⟩ := hr j z hz
    have e : q + i = q + j := hyz
    omega
  · obtain ⟨hk, rfl⟩ := hr k y hy
    exact hA _ (Nat.le_add_right _ _)
  · obtain ⟨h2, rfl⟩ := hr j z hz
    have h1 := hlt i y hy
    have e : y.1 = q + j := hyz
    omega
theorem w_mna {cc : ByteArray} {own : String} {nL : Nat} {R : Room} {E : En} {sn : SN} {sz : Nat} {mi : Bool} {g : WT} {ws : va_W} {n1 n2 : Nat} {lv : LV} {st : List Value} (h : Smw cc own nL R E sn sz mi g) {pc N K idx : Nat} {n k : Int32} {ws2 : va_W} {f : Nat → Nat} (hf : ∀ j : Nat, sz + n1 + 1 + j = f j) (d : decode cc pc = .ok (.multianewarray idx 2, 4)) (hw : Cond.classLink own idx "[[I" ∈ TB) (hn : ¬ n < 0) (hk : ¬ k < 0) (hNn : n.toNatClampNeg = N) (hKk : k.toNatClampNeg = K) (hb1 : N * 4 ≤ 536870912) (hb2 : K * 4 ≤ 536870912) (hR : n1 + (1 + N) ≤ R.cells ∧ n2 + (N + N * K) ≤ R.slots) (ht : topAt ws sz n1) (hw2 : (ws ++ [(sz + n1, rfA (E.2.2.1 20) N (upTo f N))]) ++ (List.range N).map (fun j => (sz + n1 + 1 + j, .inl (E.2.2.1 12, K, .inl (fun _ => 0)))) = ws2) (kk : g ws2 (n1 + 1 + N) (n2 + N + N * K) (pc + 4) lv (.ref (sz + n1) :: st)) : g ws n1 n2 pc lv (.int k :: .int n :: st) := by
  have ef : f = fun j => sz + n1 + 1 + j := funext (fun j => (hf j).symm)
  subst ef
  obtain ⟨p, l, e, s, m, args, below, meth, c, A, Z, ⟨hx, hb, hml, hown, hts, hK, hN, hO, hX, hA, hz, hi0⟩, hg⟩ := h
  have kk := (hg _ _ _ _ _ _).mp kk
  refine (hg _ _ _ _ _ _).mpr (fun H locs ls hP hD hS hv => ?_)
  subst hNn
  subst hKk
  refine W.le (fun hle => ?_)
  have hsz := size_is hz ht hP hS hle
  intro T hT Xs
  obtain ⟨vm₁, cA, comp, fA, fC, X', step⟩ := mgr_step Xs hx hown (hts _ hw) hO.2 (hts _ ar_i) (g := F0 m pc ls (.int k :: .int n :: st)) rfl (by rw [hb]; exact d) rfl hn hk hb1 hb2 hR.1 hR.2
  have e1 : cA = E.2.2.1 20 := cA_of fA (hK.2 8 _ rfl).2
  have e2 : comp = E.2.2.1 12 := cA_of fC (hK.2 0 _ rfl).2
  subst e1
  subst e2
  have hTh : (T.setVm vm₁).heap = H := hT
  have f1 := mgr_size (T.setVm vm₁) (E.2.2.1 20) (E.2.2.1 12) n.toNatClampNeg k.toNatClampNeg n.toNatClampNeg
  have f2 := mgr_out (T.setVm vm₁) (E.2.2.1 20) (E.2.2.1 12) n.toNatClampNeg k.toNatClampNeg n.toNatClampNeg
  have hold : ∀ x : Nat, x < H.size → (mgr_s (T.setVm vm₁) (E.2.2.1 20) (E.2.2.1 12) n.toNatClampNeg k.toNatClampNeg n.toNatClampNeg).heap[x]? = H[x]? := fun x hx => by
    have := mgr_old (T.setVm vm₁) (E.2.2.1 20) (E.2.2.1 12) n.toNatClampNeg k.toNatClampNeg (x := x) (by rw [hTh]; exact hx) n.toNatClampNeg
    rw [hTh] at this
    exact this
  have hrow : ∀ j : Nat, j < n.toNatClampNeg → (mgr_s (T.setVm vm₁) (E.2.2.1 20) (E.2.2.1 12) n.toNatClampNeg k.toNatClampNeg n.toNatClampNeg).heap[H.size + 1 + j]? = some (arrV (E.2.2.1 12) k.toNatClampNeg (fun _ => .int 0)) := fun j hj => by
    have := mgr_row (T.setVm vm₁) (E.2.2.1 20) (E.2.2.1 12) n.toNatClampNeg k.toNatClampNeg n.toNatClampNeg j hj
    rw [hTh] at this
    exact this
  rw [hTh] at f1 f2
  generalize mgr_s (T.setVm vm₁) (E.2.2.1 20) (E.2.2.1 12) n.toNatClampNeg k.toNatClampNeg n.toNatClampNeg = F at X' step f1 f2 hold hrow
  rw [outer_is, hsz] at f2
  rw [hsz] at f1 hold hrow
  have hk0 : ∀ (k : Nat) (y : Nat × va_E), ws[k]? = some y → y.1 < sz + n1 := fun k y hy => by rw [← hsz]; exact (hP k y hy).lt
  have a1 : va_P E.2.1 vwCl (ws ++ [(sz + n1, rfA (E.2.2.1 20) n.toNatClampNeg (upTo (fun j => sz + n1 + 1 + j) n.toNatClampNeg))]) F.heap := (hP.kept (fun k y hy => hold y.1 (hk0 k y hy))).app (fun k y hy => by
    have h0 : k < 1 := (List.getElem?_eq_some_iff.mp hy).1
    rw [show k = 0 by omega] at hy
    cases hy
    exact f2)
  have a2 : va_D A (ws ++ [(sz + n1, rfA (E.2.2.1 20) n.toNatClampNeg (upTo (fun j => sz + n1 + 1 + j) n.toNatClampNeg))]) := hD.push hP hsz.symm (hA _ (by omega))
  obtain ⟨b1, b2⟩ := app_rows (H0 := H) (q := sz + n1 + 1) (x := .inl (E.2.2.1 12, k.toNatClampNeg, .inl (fun _ => 0))) n.toNatClampNeg a1 a2 (fun k9 y hy => by
    by_cases hl : k9 < ws.length
    · rw [List.getElem?_append_left hl] at hy
      have := hk0 k9 y hy
      omega
    · rw [List.getElem?_append_right (by omega)] at hy
      have h0 : k9 - ws.length < 1 := (List.getElem?_eq_some_iff.mp hy).1
      rw [show k9 - ws.length = 0 by omega] at hy
      cases hy
      exact Nat.lt_succ_self _) (fun j hj => hrow j hj) (fun z hz9 => hA _ (by omega))
  rw [hw2] at b1 b2
  have e9 : T.heap.size = sz + n1 := by rw [hT]; exact hsz
  have hlo : ∀ x ∈ mgr_l T.heap.size locs n.toNatClampNeg, A x.base := fun x hx9 => (mgr_l_in _ x hx9).elim (hS.2.2 x) (fun h9 => by rw [h9, e9]; exact hA _ (by omega))
  obtain ⟨t, c1, c2⟩ := kk F.heap (mgr_l T.heap.size locs n.toNatClampNeg) ls b1 b2 ⟨by rw [f1]; have := hS.1; omega, fun x h1 h2 => (hold x (by omega)).trans (hS.2.1 x h1 h2), hlo⟩ hv F rfl X'
  refine ⟨t, step t ?_, c2⟩
  rw [e9]
  exact c1
set_option maxRecDepth 100000 in
set_option maxHeartbeats 1000000 in
theorem k_X3_init (E : En) (sn : SN) (a : Nat)  : CtrC E sn yX3_init cX3_init 1 none 2 10 71 [.ref a] [(a, .inr (3, [.null, .null, .null, .null, .null, .int 0]))] (fun _ => none) (fun sz => [(a, .inr (3, [.ref (sz + 0), .ref (sz + 1), .ref (sz + 2), .ref (sz + 8), .ref (sz + 9), .int 0])), (sz + 0, .inl (E.2.2.1 12, 5, .inl (fillV 5 (-2) (fun _ => 0)))), (sz + 1, .inr (0, [.int (0), .int (45), .int (0), .int (120), .int (800), .int (-1)])), (sz + 2, .inl (E.2.2.1 20, 5, .inr (.inr (.inr (.inr (upTo (fun j => sz + (3 + j)) 5)))))), (sz + 3, .inl (E.2.2.1 12, 9, .inl (fun _ => 0))), (sz + 4, .inl (E.2.2.1 12, 9, .inl (fun _ => 0))), (sz + 5, .inl (E.2.2.1 12, 9, .inl (fun _ => 0))), (sz + 6, .inl (E.2.2.1 12, 9, .inl (fun _ => 0))), (sz + 7, .inl (E.2.2.1 12, 9, .inl (fun _ => 0))), (sz + 8, .inl (E.2.2.1 12, 5, .inl (fun _ => 0))), (sz + 9, .inl (E.2.2.1 12, 5, .inl (fun _ => 0)))]) := by
  refine CtrC.openV (by decide) (Nat.le_of_ble_eq_true rfl) (fun sz g h hr => ?_)
  have h : Smw cX3_init RX3 1 (rmC 2 10 71) E sn sz true g := h
  have hr : RetC cX3_init 10 71 _ g := hr
  show g [(a, .inr (3, [.null, .null, .null, .null, .null, .int 0]))] 0 0 0 [(0, .ref a)] []
  refine w_aload_n (pc := 0) h dX3_init_0 rfl ?_
  refine w_oi (pc := 1) h dX3_init_1 wo_X3 (Nat.le_of_ble_eq_true rfl) (Nat.le_of_ble_eq_true rfl) (Nat.le_of_ble_eq_true rfl) ?_
  refine w_aload_n (pc := 4) h dX3_init_4 rfl ?_
  refine w_iconst (v := 5) (pc := 5) h dX3_init_5 (by decide) ?_
  refine w_newi (N := 5) (pc := 6) h dX3_init_6 (by decide) (by decide) (by decide) ⟨(Nat.le_of_ble_eq_true rfl), (Nat.le_of_ble_eq_true rfl)⟩ (Or.inl rfl) rfl ?_
  refine w_putF (ci := 3) (C := RX3) (T := TX3) (N := 6) (ty := (.array .int)) (k := 0) (pc := 8) h dX3_init_8 rfl tinX3 tyX3_ok nmX3 0 (by decide) wf_X3_11 rfl rfl rfl (by decide +kernel) rfl rfl rfl rfl (Nat.le_of_ble_eq_true rfl) rfl ?_
  refine w_aload_n (pc := 11) h dX3_init_11 rfl ?_
  refine w_new (ci := 0) (C := RX0) (T := TX0) (N := 6) (fs := [.int 0, .int 0, .int 0, .int 0, .int 0, .int 0]) (pc := 12) h dX3_init_12 rfl tinX0 tyX0_ok wk_X3_15 wi_X0 wz_X0 (by decide) ⟨(Nat.le_of_ble_eq_true rfl), (Nat.le_of_ble_eq_true rfl)⟩ (Or.inr ⟨1, _, rfl⟩) rfl ?_
  refine w_dup (pc := 15) h dX3_init_15 rfl ?_
  refine w_callIN (C := 0) (S := 0) (pc := 16) h dX3_init_16 wn_X3_17 ca_X0_init (k_X0_init E sn _) [(a, .inr (3, [.ref (sz + 0), .null, .null, .null, .null, .int 0])), (sz + 0, .inl (E.2.2.1 12, 5, .inl (fun _ => 0)))] rfl rfl rfl (Nat.le_of_ble_eq_true rfl) ⟨(Nat.le_of_ble_eq_true rfl), (Nat.le_of_ble_eq_true rfl)⟩ ⟨(Nat.le_of_ble_eq_true rfl), (Nat.le_of_ble_eq_true rfl)⟩ (Or.inr ⟨2, _, rfl⟩) rfl ?_
  refine w_putF (ci := 3) (C := RX3) (T := TX3) (N := 6) (ty := (.object "ThrowersBag$Aim")) (k := 0) (pc := 19) h dX3_init_19 rfl tinX3 tyX3_ok nmX3 1 (by decide) wf_X3_18 rfl rfl rfl (by decide +kernel) rfl rfl rfl rfl (Nat.le_of_ble_eq_true rfl) rfl ?_
  refine w_aload_n (pc := 22) h dX3_init_22 rfl ?_
  refine w_iconst (v := 5) (pc := 23) h dX3_init_23 (by decide) ?_
  refine w_bipush (v := 9) (pc := 24) h dX3_init_24 (by decide) ?_
  refine w_mna (N := 5) (K := 9) (f := fun j => sz + (3 + j)) (pc := 26) h (fun j => (by show sz + _ + 1 + j = sz + (3 + j); omega)) dX3_init_26 wk_X3_22 (by decide) (by decide) (by decide) (by decide) (by decide) (by decide) ⟨(Nat.le_of_ble_eq_true rfl), (Nat.le_of_ble_eq_true rfl)⟩ (Or.inr ⟨2, _, rfl⟩) rfl ?_
  refine w_putF (ci := 3) (C := RX3) (T := TX3) (N := 6) (ty := (.array (.array .int))) (k := 0) (pc := 30) h dX3_init_30 rfl tinX3 tyX3_ok nmX3 2 (by decide) wf_X3_24 rfl rfl rfl (by decide +kernel) rfl rfl rfl rfl (Nat.le_of_ble_eq_true rfl) rfl ?_
  refine w_aload_n (pc := 33) h dX3_init_33 rfl ?_
  refine w_iconst (v := 5) (pc := 34) h dX3_init_34 (by decide) ?_
  refine w_newi (N := 5) (pc := 35) h dX3_init_35 (by decide) (by decide) (by decide) ⟨(Nat.le_of_ble_eq_true rfl), (Nat.le_of_ble_eq_true rfl)⟩ (Or.inr ⟨8, _, rfl⟩) rfl ?_
  refine w_putF (ci := 3) (C := RX3) (T := TX3) (N := 6) (ty := (.array .int)) (k := 0) (pc := 37) h dX3_init_37 rfl tinX3 tyX3_ok nmX3 3 (by decide) wf_X3_27 rfl rfl rfl (by decide +kernel) rfl rfl rfl rfl (Nat.le_of_ble_eq_true rfl) rfl ?_
  refine w_aload_n (pc := 40) h dX3_init_40 rfl ?_
  refine w_iconst (v := 5) (pc := 41) h dX3_init_41 (by decide) ?_
  refine w_newi (N := 5) (pc := 42) h dX3_init_42 (by decide) (by decide) (by decide) ⟨(Nat.le_of_ble_eq_true rfl), (Nat.le_of_ble_eq_true rfl)⟩ (Or.inr ⟨9, _, rfl⟩) rfl ?_
  refine w_putF (ci := 3) (C := RX3) (T := TX3) (N := 6) (ty := (.array .int)) (k := 0) (pc := 44) h dX3_init_44 rfl tinX3 tyX3_ok nmX3 4 (by decide) wf_X3_30 rfl rfl rfl (by decide +kernel) rfl rfl rfl rfl (Nat.le_of_ble_eq_true rfl) rfl ?_
  refine w_aload_n (pc := 47) h dX3_init_47 rfl ?_
  refine w_get (ci := 3) (C := RX3) (T := TX3) (N := 6) (k := 0) (pc := 48) h dX3_init_48 rfl tinX3 0 (by decide) wf_X3_11 rfl rfl rfl ?_
  refine w_bipush (v := -2) (pc := 51) h dX3_init_51 (by decide) ?_
  refine w_callS (k := 1) (pc := 53) h dX3_init_53 wm_X3_33 ca_J7_fill_53178 (k_fill E sn _ 5 _ (-2) (by decide)) rfl rfl rfl rfl (Nat.le_of_ble_eq_true rfl) ⟨(Nat.le_of_ble_eq_true rfl), (Nat.le_of_ble_eq_true rfl)⟩ ⟨(Nat.le_of_ble_eq_true rfl), (Nat.le_of_ble_eq_true rfl)⟩ rfl ?_
  refine w_aload_n (pc := 56) h dX3_init_56 rfl ?_
  refine w_get (ci := 3) (C := RX3) (T := TX3) (N := 6) (k := 0) (pc := 57) h dX3_init_57 rfl tinX3 1 (by decide) wf_X3_18 rfl rfl rfl ?_
  refine w_iconst (v := 0) (pc := 60) h dX3_init_60 (by decide) ?_
  refine w_bipush (v := 45) (pc := 61) h dX3_init_61 (by decide) ?_
  refine w_iconst (v := 0) (pc := 63) h dX3_init_63 (by decide) ?_
  refine w_bipush (v := 120) (pc := 64) h dX3_init_64 (by decide) ?_
  refine w_sipush (v := 800) (pc := 66) h dX3_init_66 (by decide) ?_
  refine w_iconst (v := -1) (pc := 69) h dX3_init_69 (by decide) ?_
  refine w_callV (k := 2) (ci := 0) (Cn := RX0) (T := TX0) (N := 6) (pc := 70) h dX3_init_70 wm_X3_39 ca_X0_take rfl (k_take E sn _ _ _ _ _ _ _ _ _ _ _ _ _) rfl rfl rfl rfl (Nat.le_of_ble_eq_true rfl) ⟨(Nat.le_of_ble_eq_true rfl), (Nat.le_of_ble_eq_true rfl)⟩ ⟨(Nat.le_of_ble_eq_true rfl), (Nat.le_of_ble_eq_true rfl)⟩ rfl ?_
  exact hr _ _ _ dX3_init_73 rfl
theorem X3_ok (E : En) (sn : SN) : X3Ok E sn := fun a => k_X3_init E sn a
theorem whole_start {p : Program} {e : Env} {s : State} {m : MethodId} {below : List Frame} {meth : Method} {c : Code} (l : Launch) {b L : Nat} {xs : Nat → Int32} (hL : L ≤ 4096) (C0 : lw_At p s m meth c b L xs) : W p l e room_1 s m #[Value.ref b] below meth c s.heap [] 0 0 (lw_Z below #[Value.ref b] s) (entryFrame m ([Value.ref b] : List Value).toArray 4) := whole_start0 l hL C0 X3_ok
set_option maxHeartbeats 4000000 in
theorem lw_walk (l : Launch) (b : Addr) (xs : List Int32) : MetFree l x (headSpec (Jvm.Cond.code x code maxLocals ret :: tables_1) room_1) (lw_P b xs) (fun _ _ _ _ _ => True) lw_Q := by
  refine MetFree.of_bodyS (code := code) (maxLocals := maxLocals) (ret := ret) (by decide) ?_ ?_
  · intro args s m h hn
    obtain ⟨meth, c, h1, h2, h3, h4, h5, h6, -, -⟩ := Cond.code_spec hn (atoms_spec (ws := Jvm.Cond.code x code maxLocals ret :: tables_1) h _ List.mem_cons_self)
    exact ⟨meth, c, h1, h2, h3, h4, h5, h6⟩
  · intro p e s m args below meth c s₁ B hml0 hP _
    obtain ⟨rfl, hx, hbd, hgv⟩ := hP
    obtain ⟨scr, harrAt, hlist, hof, hsmall⟩ := hx
    obtain ⟨hcb, hkn, -, -⟩ := State.arrayAt?_spec harrAt
    have hown : s.vm.findClass R_law = some m.cls := findClass_of_methodNamed B.named
    have hts0 : ∀ c ∈ (Jvm.Cond.code x code maxLocals ret :: tables_1), c.before #[Value.ref b] s = true := atoms_spec (ws := Jvm.Cond.code x code maxLocals ret :: tables_1) B.pre
    have hts : ∀ w ∈ lw_tbl, w.before #[Value.ref b] s = true := k2_hts_sels lw_privs (fun w hw => hts0 w (List.mem_cons_of_mem _ hw)) lw_privs_ok
    have hml : c.maxLocals = 4 := B.maxLocals_eq (hts0 _ List.mem_cons_self)
    have X₀ : Stand p l e room_1 s m #[Value.ref b] below meth c s₁ [] 0 0 := Stand.of_body B
    have hh0 : s₁.heap = s.heap := by rw [B.state]; rfl
    have hsz : scr.slots.size = xs.length := by rw [← Array.length_toList, hlist, List.length_map]
    have hval : ∀ j : Nat, j < xs.length → scr.slots[j]? = some (.int (xs.getD j 0)) := fun j hj => by
      rw [← Array.getElem?_toList, hlist]
      simp [hj]
    have hbl : b < s.heap.size := (Array.getElem?_eq_some_iff.mp hcb).1
    have hX : va_X b xs.length (fun j => xs.getD j 0) s s.heap := ⟨scr, hcb, hof, hkn, hsz, hval⟩
    have K : W p l e room_1 s m #[Value.ref b] below meth c s₁.heap [] 0 0 (lw_Z below #[Value.ref b] s) (entryFrame m ([Value.ref b] : List Value).toArray 4) := by
      rw [hh0]
      exact whole_start l hbd ⟨B.exec, B.bytes, B.returns, hml, hown, hts, hX, hbl, B.notSynchronized, hgv⟩
    obtain ⟨t, a1, o, b1, b2, b3⟩ := K s₁ rfl X₀
    exact ⟨t, o, a1, b1, b2, b3⟩
theorem lw_pre_spec {args : Array Value} {s : State} (h : (Jvm.Cond.and given_1 narrow_1).before args s = true) (hr : rest_1_c.before args s = true) : ∃ (b : Addr) (xs : List Int32), lw_P b xs args s := by
  have hs := flat_of_before _ h
  have hq := flat_of_before _ hr
  have hc : (Cond.count 1).before args s = true := hs _ (by decide +kernel)
  have harr : (Cond.arrayOf (.arg 0) .int).before args s = true := hs _ (by decide +kernel)
  have hle : (Cond.le (.length (.arg 0)) (.int 4096)).before args s = true := hs _ (by decide +kernel)
  have hlen : (Cond.isInt (.length (.arg 0))).before args s = true := hq _ (by decide +kernel)
  have hall : (Cond.all (.arg 0) (.isInt (.elem (.arg 0) (.index 0)))).before args s = true := hq _ (by decide +kernel)
  obtain ⟨b, xs, hb, hx⟩ := State.ints_of_pre rfl harr hlen hall
  have hsm : xs.length < 2 ^ 31 := hx.choose_spec.2.2.2
  have hev : (Term.length (.arg 0)).eval args s none [] s = some (.int xs.length.toInt32) := hx.length_eval hb
  have hv := Cond.le_ints hev (show (Term.int 4096).eval args s none [] s = some (.int 4096) from rfl)
  have hd : xs.length.toInt32 ≤ 4096 := by
    simpa [Cond.before, Cond.holds, hv] using hle
  have hN : xs.length ≤ 4096 := (Int32.ofNat_le_ofNat hsm (by decide)).mp (show Int32.ofNat xs.length ≤ Int32.ofNat 4096 from hd)
  exact ⟨b, xs, Cond.one_arg hc (show args[0]? = some (.ref b) from hb), hx, hN, h⟩
theorem lw_comes (l : Launch) : Comes l x (Jvm.Cond.code x code maxLocals ret :: tables_1) room_1 (fun tb e args s => Calls_1 tb e args s ∧ rest_1 tb e args s ∧ Pre_1 tb e args s)
    (fun _ _ args s o t => lw_Q args s o t) := by
  intro p e ha hc hk s m args below hf hfit hheap happ hpre
  obtain ⟨b, xs, hP⟩ := lw_pre_spec hpre.2.2 hpre.2.1
  obtain ⟨k, o, h1, h2, h3, hQ⟩ := lw_walk l b xs p e ha hc hk s m args below hf ((Spec.applies_iff_loose hf).mp happ).1 hP trivial
  exact ⟨k, o, h1, h2, h3, hQ⟩
theorem lw_frame {s t : State} {o : Outcome} {args : Array Value} (h : Framed s o t [] 600000 7302250) :
    Framed s o t (fieldLocs frame_1_writes args s ++ arrayLocs frame_1_arrays args s ++ staticLocs frame_1_statics s) 600000 7302250 := h
theorem lw_limb (L : Cond) (hL : ∀ (args : Array Value) (s t : State), L.after args s (.returned (some (.int 1))) t = true) :
    ArmFor flags0 classFile x code maxLocals ret World_1 tables_1 room_1 Calls_1 rest_1 Pre_1
      (fun tb e a s o t => postC L tb e a s o t ∧ Framed s o t (fieldLocs frame_1_writes a s ++ arrayLocs frame_1_arrays a s ++ staticLocs frame_1_statics s) 600000 7302250) := by
  intro l _ _ _ p e ha hc hk s m args below hf hfit hheap happ hpre
  obtain ⟨k, o, h1, h2, h3, rfl, hF⟩ := lw_comes l p e ha hc hk s m args below hf hfit hheap happ hpre
  exact ⟨k, _, h1, h2, h3, hL args s _, lw_frame hF⟩
theorem i_vc : Claimed_1_1 ∧ Claimed_1_2 := ⟨lw_limb limb_1_1 (fun args s t => by simp [limb_1_1, Cond.after, Cond.holds, Cond.value]), lw_limb limb_1_2 (fun args s t => Cond.after_iff.mpr (by
  first | (rw [show limb_1_2 = Cond.eq .result (.int 1) from rfl, Cond.eq_ints (x := 1) (y := 1) rfl rfl]; simp; done) | (simp [limb_1_2, Cond.value, Term.eval]; done)))⟩
