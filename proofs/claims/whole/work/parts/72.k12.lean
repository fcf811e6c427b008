/-! THE LAW FROM ITS FIRST INSTRUCTION -/
set_option maxRecDepth 100000 in
set_option maxHeartbeats 4000000 in
theorem whole_start0 {p : Program} {e : Env} {s : State} {m : MethodId} {below : List Frame} {meth : Method} {c : Code} (l : Launch) {b L : Nat} {xs : Nat → Int32} (hL : L ≤ 4096) (C0 : lw_At p s m meth c b L xs) (h3 : ∀ (E : En) (sn : SN), X3Ok E sn) : W p l e room_1 s m #[Value.ref b] below meth c s.heap [] 0 0 (lw_Z below #[Value.ref b] s) (entryFrame m ([Value.ref b] : List Value).toArray 4) := by
  obtain ⟨hx, hb, hr, hml, hown, hts, hX, hbl, hlocks, hgv⟩ := id C0
  obtain ⟨D, cA, hK⟩ := st_K hts
  obtain ⟨t0, z0, T0⟩ := st_SINES hts hgv
  obtain ⟨t1, z1, T1⟩ := st_CHOICE_LEANS hts hgv
  obtain ⟨t2, z2, T2⟩ := st_CHOICE_STRENGTHS hts hgv
  have hl := lv_entry ([.ref b]) (n := 4) (Nat.le_of_ble_eq_true rfl)
  rw [lg_entry_eq]
  generalize (lg_sl ([.ref b]) ++ List.replicate (4 - (lg_sl ([.ref b])).length) Slot.unset).toArray = ls at hl ⊢
  have hl : lv_has ls 4 [(0, .ref b)] := hl
  obtain ⟨g, hg⟩ : ∃ g : WT, g = fun ws n1 n2 pc lv st => ∀ (H : Heap) (locs : List Loc) (ls : Array Slot), va_P D vwCl ws H → va_D (fun q : Nat => s.heap.size ≤ q) ws → va_S (fun q : Nat => s.heap.size ≤ q) s.heap H locs → lv_has ls 4 lv → W p l e room_1 s m #[Value.ref b] below meth c H locs n1 n2 (lw_Z below #[Value.ref b] s) (F0 m pc ls st) := ⟨_, rfl⟩
  have h : Smw cL_law RL 4 room_1 (mkE s.heap.size D cA t1 t2) (t0, sinTab) s.heap.size false g := by
    rw [hg]
    exact ⟨p, l, e, s, m, #[Value.ref b], below, meth, c, _, _, ⟨hx, hb, hml, hown, fun w hw => hts w (tb_tbl w hw), hK _ t1 t2, st_NW hts, st_OV hts, ⟨z0, T0⟩, fun _ h => h, rfl, fun q => by cases q⟩, fun _ _ _ _ _ _ => Iff.rfl⟩
  have key : g [] 0 0 0 [(0, .ref b)] [] := by
    refine w_new (ci := 10) (C := RX10) (T := TX10) (N := 19) (fs := [.null, .null, .int 0, .null, .int 0, .null, .null, .null, .null, .null, .null, .int 0, .null, .null, .null, .null, .int 0, .null, .null]) (pc := 0) h dL_law_0 rfl tinX10 tyX10_ok wk_L_7 wi_X10 wz_X10 (by decide) ⟨(Nat.le_of_ble_eq_true rfl), (Nat.le_of_ble_eq_true rfl)⟩ (Or.inl rfl) rfl ?_
    refine w_dup (pc := 3) h dL_law_3 rfl ?_
    refine w_callI (C := 150) (S := 4643) (ws2 := bagW (mkE s.heap.size D cA t1 t2) (s.heap.size + 0) (s.heap.size + (0 + 1))) (pc := 4) h dL_law_4 wm_L_9 ca_X10_init (k_X10_init (mkE s.heap.size D cA t1 t2) (t0, sinTab) rfl (h3 _ _) _) [] rfl rfl rfl (Nat.le_of_ble_eq_true rfl) ⟨(Nat.le_of_ble_eq_true rfl), (Nat.le_of_ble_eq_true rfl)⟩ ⟨(Nat.le_of_ble_eq_true rfl), (Nat.le_of_ble_eq_true rfl)⟩ (Or.inr ⟨0, _, rfl⟩) rfl ?_
    refine w_astore_n (pc := 7) h dL_law_7 (by decide) ?_
    refine w_new (ci := 11) (C := RX11) (T := TX11) (N := 50) (fs := [.null, .int 0, .null, .null, .null, .null, .null, .null, .null, .null, .int 0, .null, .null, .int 0, .null, .null, .null, .null, .int 0, .null, .int 0, .int 0, .int 0, .int 0, .int 0, .int 0, .null, .null, .int 0, .null, .null, .null, .int 0, .int 0, .int 0, .int 0, .int 0, .null, .null, .null, .null, .int 0, .int 0, .null, .null, .null, .null, .null, .null, .null]) (pc := 8) h dL_law_8 rfl tinX11 tyX11_ok wk_L_10 wi_X11 wz_X11 (by decide) ⟨(Nat.le_of_ble_eq_true rfl), (Nat.le_of_ble_eq_true rfl)⟩ (Or.inr ⟨150, _, rfl⟩) rfl ?_
    refine w_dup (pc := 11) h dL_law_11 rfl ?_
    refine w_callI (C := 32) (S := 4145) (ws2 := allW (mkE s.heap.size D cA t1 t2) s.heap.size) (pc := 12) h dL_law_12 wm_L_12 ca_X11_init (k_X11_init (mkE s.heap.size D cA t1 t2) (t0, sinTab) _) (bagW (mkE s.heap.size D cA t1 t2) (s.heap.size + 0) (s.heap.size + (0 + 1))) rfl rfl rfl (Nat.le_of_ble_eq_true rfl) ⟨(Nat.le_of_ble_eq_true rfl), (Nat.le_of_ble_eq_true rfl)⟩ ⟨(Nat.le_of_ble_eq_true rfl), (Nat.le_of_ble_eq_true rfl)⟩ (Or.inr ⟨151, _, rfl⟩) rfl ?_
    refine w_astore_n (pc := 15) h dL_law_15 (by decide) ?_
    refine w_iconst (v := 0) (pc := 16) h dL_law_16 (by decide) ?_
    refine w_istore_n (pc := 17) h dL_law_17 (by decide) ?_
    refine w_at h [(0, .ref b), (1, .ref (s.heap.size + pmF 0)), (2, .ref (s.heap.size + pmF 151)), (3, .int (nI 0))] ⟨rfl, rfl, rfl, rfl, trivial⟩ ?_
    rw [hg]
    intro H locs ls hP hD hS hv
    obtain ⟨p1, d1⟩ := to_wl hP hD
    exact law_18 hL C0 (mkE s.heap.size D cA t1 t2) mem0 rel0 (hK _ t1 t2) (st_NW hts) ⟨z1, T1, z2, T2⟩ (by decide) (by decide) H locs ls p1 d1 hS hv
  rw [hg] at key
  exact key s.heap [] ls (fun k q h => by simp at h) ⟨fun i j p q h => by simp at h, fun k q h => by simp at h⟩ va_S.rf hl
