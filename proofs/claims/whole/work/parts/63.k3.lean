/-! THE SMALL CONSTRUCTORS -/
set_option maxRecDepth 100000 in
set_option maxHeartbeats 1000000 in
theorem k_X0_init (E : En) (sn : SN) (a : Nat)  : CtrC E sn yX0_init cX0_init 1 none 1 0 0 [.ref a] [(a, .inr (0, [.int 0, .int 0, .int 0, .int 0, .int 0, .int 0]))] (fun _ => none) (fun sz => [(a, .inr (0, [.int 0, .int 0, .int 0, .int 0, .int 0, .int (-1)]))]) := by
  refine CtrC.openV (by decide) (Nat.le_of_ble_eq_true rfl) (fun sz g h hr => ?_)
  have h : Smw cX0_init RX0 1 (rmC 1 0 0) E sn sz true g := h
  have hr : RetC cX0_init 0 0 _ g := hr
  show g [(a, .inr (0, [.int 0, .int 0, .int 0, .int 0, .int 0, .int 0]))] 0 0 0 [(0, .ref a)] []
  refine w_aload_n (pc := 0) h dX0_init_0 rfl ?_
  refine w_oi (pc := 1) h dX0_init_1 wo_X0 (Nat.le_of_ble_eq_true rfl) (Nat.le_of_ble_eq_true rfl) (Nat.le_of_ble_eq_true rfl) ?_
  refine w_aload_n (pc := 4) h dX0_init_4 rfl ?_
  refine w_iconst (v := -1) (pc := 5) h dX0_init_5 (by decide) ?_
  refine w_put (ci := 0) (C := RX0) (T := TX0) (N := 6) (ty := .int) (k := 0) (pc := 6) h dX0_init_6 rfl tinX0 tyX0_ok nmX0 5 (by decide) wf_X0_9 rfl (by decide +kernel) rfl rfl rfl rfl (Nat.le_of_ble_eq_true rfl) rfl ?_
  exact hr _ _ _ dX0_init_9 rfl
set_option maxRecDepth 100000 in
set_option maxHeartbeats 1000000 in
theorem k_X8_init (E : En) (sn : SN) (a : Nat)  : CtrC E sn yX8_init cX8_init 1 none 1 0 0 [.ref a] [(a, .inr (8, [.int 0, .int 0, .int 0, .int 0]))] (fun _ => none) (fun sz => [(a, .inr (8, [.int 0, .int 0, .int 0, .int 0]))]) := by
  refine CtrC.openV (by decide) (Nat.le_of_ble_eq_true rfl) (fun sz g h hr => ?_)
  have h : Smw cX8_init RX8 1 (rmC 1 0 0) E sn sz true g := h
  have hr : RetC cX8_init 0 0 _ g := hr
  show g [(a, .inr (8, [.int 0, .int 0, .int 0, .int 0]))] 0 0 0 [(0, .ref a)] []
  refine w_aload_n (pc := 0) h dX8_init_0 rfl ?_
  refine w_oi (pc := 1) h dX8_init_1 wo_X8 (Nat.le_of_ble_eq_true rfl) (Nat.le_of_ble_eq_true rfl) (Nat.le_of_ble_eq_true rfl) ?_
  exact hr _ _ _ dX8_init_4 rfl
set_option maxRecDepth 100000 in
set_option maxHeartbeats 1000000 in
theorem k_X9_init (E : En) (sn : SN) (a : Nat)  : CtrC E sn yX9_init cX9_init 1 none 1 2 8 [.ref a] [(a, .inr (9, [.null, .null]))] (fun _ => none) (fun sz => [(a, .inr (9, [.ref (sz + 0), .ref (sz + 1)])), (sz + 0, .inl (E.2.2.1 12, 4, .inl (fun _ => 0))), (sz + 1, .inl (E.2.2.1 12, 4, .inl (fun _ => 0)))]) := by
  refine CtrC.openV (by decide) (Nat.le_of_ble_eq_true rfl) (fun sz g h hr => ?_)
  have h : Smw cX9_init RX9 1 (rmC 1 2 8) E sn sz true g := h
  have hr : RetC cX9_init 2 8 _ g := hr
  show g [(a, .inr (9, [.null, .null]))] 0 0 0 [(0, .ref a)] []
  refine w_aload_n (pc := 0) h dX9_init_0 rfl ?_
  refine w_oi (pc := 1) h dX9_init_1 wo_X9 (Nat.le_of_ble_eq_true rfl) (Nat.le_of_ble_eq_true rfl) (Nat.le_of_ble_eq_true rfl) ?_
  refine w_aload_n (pc := 4) h dX9_init_4 rfl ?_
  refine w_iconst (v := 4) (pc := 5) h dX9_init_5 (by decide) ?_
  refine w_newi (N := 4) (pc := 6) h dX9_init_6 (by decide) (by decide) (by decide) ⟨(Nat.le_of_ble_eq_true rfl), (Nat.le_of_ble_eq_true rfl)⟩ (Or.inl rfl) rfl ?_
  refine w_putF (ci := 9) (C := RX9) (T := TX9) (N := 2) (ty := (.array .int)) (k := 0) (pc := 8) h dX9_init_8 rfl tinX9 tyX9_ok nmX9 0 (by decide) wf_X9_9 rfl rfl rfl (by decide +kernel) rfl rfl rfl rfl (Nat.le_of_ble_eq_true rfl) rfl ?_
  refine w_aload_n (pc := 11) h dX9_init_11 rfl ?_
  refine w_iconst (v := 4) (pc := 12) h dX9_init_12 (by decide) ?_
  refine w_newi (N := 4) (pc := 13) h dX9_init_13 (by decide) (by decide) (by decide) ⟨(Nat.le_of_ble_eq_true rfl), (Nat.le_of_ble_eq_true rfl)⟩ (Or.inr ⟨1, _, rfl⟩) rfl ?_
  refine w_putF (ci := 9) (C := RX9) (T := TX9) (N := 2) (ty := (.array .int)) (k := 0) (pc := 15) h dX9_init_15 rfl tinX9 tyX9_ok nmX9 1 (by decide) wf_X9_15 rfl rfl rfl (by decide +kernel) rfl rfl rfl rfl (Nat.le_of_ble_eq_true rfl) rfl ?_
  exact hr _ _ _ dX9_init_18 rfl
set_option maxRecDepth 100000 in
set_option maxHeartbeats 1000000 in
theorem k_X7_init (E : En) (sn : SN) (a : Nat)  : CtrC E sn yX7_init cX7_init 1 none 1 1 4 [.ref a] [(a, .inr (7, [.int 0, .int 0, .int 0, .int 0, .int 0, .int 0, .int 0, .null]))] (fun _ => none) (fun sz => [(a, .inr (7, [.int 0, .int 0, .int 0, .int 0, .int 0, .int 0, .int 0, .ref (sz + 0)])), (sz + 0, .inl (E.2.2.1 12, 4, .inl (fun _ => 0)))]) := by
  refine CtrC.openV (by decide) (Nat.le_of_ble_eq_true rfl) (fun sz g h hr => ?_)
  have h : Smw cX7_init RX7 1 (rmC 1 1 4) E sn sz true g := h
  have hr : RetC cX7_init 1 4 _ g := hr
  show g [(a, .inr (7, [.int 0, .int 0, .int 0, .int 0, .int 0, .int 0, .int 0, .null]))] 0 0 0 [(0, .ref a)] []
  refine w_aload_n (pc := 0) h dX7_init_0 rfl ?_
  refine w_oi (pc := 1) h dX7_init_1 wo_X7 (Nat.le_of_ble_eq_true rfl) (Nat.le_of_ble_eq_true rfl) (Nat.le_of_ble_eq_true rfl) ?_
  refine w_aload_n (pc := 4) h dX7_init_4 rfl ?_
  refine w_iconst (v := 0) (pc := 5) h dX7_init_5 (by decide) ?_
  refine w_put (ci := 7) (C := RX7) (T := TX7) (N := 8) (ty := .int) (k := 0) (pc := 6) h dX7_init_6 rfl tinX7 tyX7_ok nmX7 4 (by decide) wf_X7_11 rfl (by decide +kernel) rfl rfl rfl rfl (Nat.le_of_ble_eq_true rfl) rfl ?_
  refine w_aload_n (pc := 9) h dX7_init_9 rfl ?_
  refine w_iconst (v := 0) (pc := 10) h dX7_init_10 (by decide) ?_
  refine w_put (ci := 7) (C := RX7) (T := TX7) (N := 8) (ty := .int) (k := 0) (pc := 11) h dX7_init_11 rfl tinX7 tyX7_ok nmX7 5 (by decide) wf_X7_15 rfl (by decide +kernel) rfl rfl rfl rfl (Nat.le_of_ble_eq_true rfl) rfl ?_
  refine w_aload_n (pc := 14) h dX7_init_14 rfl ?_
  refine w_iconst (v := 0) (pc := 15) h dX7_init_15 (by decide) ?_
  refine w_put (ci := 7) (C := RX7) (T := TX7) (N := 8) (ty := .boolean) (k := 0) (pc := 16) h dX7_init_16 rfl tinX7 tyX7_ok nmX7 6 (by decide) wf_X7_18 rfl (by decide +kernel) rfl rfl rfl rfl (Nat.le_of_ble_eq_true rfl) rfl ?_
  refine w_aload_n (pc := 19) h dX7_init_19 rfl ?_
  refine w_iconst (v := 4) (pc := 20) h dX7_init_20 (by decide) ?_
  refine w_newi (N := 4) (pc := 21) h dX7_init_21 (by decide) (by decide) (by decide) ⟨(Nat.le_of_ble_eq_true rfl), (Nat.le_of_ble_eq_true rfl)⟩ (Or.inl rfl) rfl ?_
  refine w_putF (ci := 7) (C := RX7) (T := TX7) (N := 8) (ty := (.array .int)) (k := 0) (pc := 23) h dX7_init_23 rfl tinX7 tyX7_ok nmX7 7 (by decide) wf_X7_22 rfl rfl rfl (by decide +kernel) rfl rfl rfl rfl (Nat.le_of_ble_eq_true rfl) rfl ?_
  exact hr _ _ _ dX7_init_26 rfl
set_option maxRecDepth 100000 in
set_option maxHeartbeats 1000000 in
theorem k_X6_init (E : En) (sn : SN) (a : Nat)  : CtrC E sn yX6_init cX6_init 1 none 1 1 60 [.ref a] [(a, .inr (6, [.int 0, .int 0, .null]))] (fun _ => none) (fun sz => [(a, .inr (6, [.int (-1), .int 0, .ref (sz + 0)])), (sz + 0, .inl (E.2.2.1 12, 60, .inl (fun _ => 0)))]) := by
  refine CtrC.openV (by decide) (Nat.le_of_ble_eq_true rfl) (fun sz g h hr => ?_)
  have h : Smw cX6_init RX6 1 (rmC 1 1 60) E sn sz true g := h
  have hr : RetC cX6_init 1 60 _ g := hr
  show g [(a, .inr (6, [.int 0, .int 0, .null]))] 0 0 0 [(0, .ref a)] []
  refine w_aload_n (pc := 0) h dX6_init_0 rfl ?_
  refine w_oi (pc := 1) h dX6_init_1 wo_X6 (Nat.le_of_ble_eq_true rfl) (Nat.le_of_ble_eq_true rfl) (Nat.le_of_ble_eq_true rfl) ?_
  refine w_aload_n (pc := 4) h dX6_init_4 rfl ?_
  refine w_iconst (v := -1) (pc := 5) h dX6_init_5 (by decide) ?_
  refine w_put (ci := 6) (C := RX6) (T := TX6) (N := 3) (ty := .int) (k := 0) (pc := 6) h dX6_init_6 rfl tinX6 tyX6_ok nmX6 0 (by decide) wf_X6_9 rfl (by decide +kernel) rfl rfl rfl rfl (Nat.le_of_ble_eq_true rfl) rfl ?_
  refine w_aload_n (pc := 9) h dX6_init_9 rfl ?_
  refine w_iconst (v := 0) (pc := 10) h dX6_init_10 (by decide) ?_
  refine w_put (ci := 6) (C := RX6) (T := TX6) (N := 3) (ty := .int) (k := 0) (pc := 11) h dX6_init_11 rfl tinX6 tyX6_ok nmX6 1 (by decide) wf_X6_13 rfl (by decide +kernel) rfl rfl rfl rfl (Nat.le_of_ble_eq_true rfl) rfl ?_
  refine w_aload_n (pc := 14) h dX6_init_14 rfl ?_
  refine w_bipush (v := 60) (pc := 15) h dX6_init_15 (by decide) ?_
  refine w_newi (N := 60) (pc := 17) h dX6_init_17 (by decide) (by decide) (by decide) ⟨(Nat.le_of_ble_eq_true rfl), (Nat.le_of_ble_eq_true rfl)⟩ (Or.inl rfl) rfl ?_
  refine w_putF (ci := 6) (C := RX6) (T := TX6) (N := 3) (ty := (.array .int)) (k := 0) (pc := 19) h dX6_init_19 rfl tinX6 tyX6_ok nmX6 2 (by decide) wf_X6_16 rfl rfl rfl (by decide +kernel) rfl rfl rfl rfl (Nat.le_of_ble_eq_true rfl) rfl ?_
  exact hr _ _ _ dX6_init_22 rfl
set_option maxRecDepth 100000 in
set_option maxHeartbeats 1000000 in
theorem k_X5_init (E : En) (sn : SN) (a : Nat)  : CtrC E sn yX5_init cX5_init 1 none 2 1 6 [.ref a] [(a, .inr (5, [.null, .int 0, .int 0]))] (fun _ => none) (fun sz => [(a, .inr (5, [.ref (sz + 0), .int 0, .int 0])), (sz + 0, .inr (0, [.int 0, .int 0, .int 0, .int 0, .int 0, .int (-1)]))]) := by
  refine CtrC.openV (by decide) (Nat.le_of_ble_eq_true rfl) (fun sz g h hr => ?_)
  have h : Smw cX5_init RX5 1 (rmC 2 1 6) E sn sz true g := h
  have hr : RetC cX5_init 1 6 _ g := hr
  show g [(a, .inr (5, [.null, .int 0, .int 0]))] 0 0 0 [(0, .ref a)] []
  refine w_aload_n (pc := 0) h dX5_init_0 rfl ?_
  refine w_oi (pc := 1) h dX5_init_1 wo_X5 (Nat.le_of_ble_eq_true rfl) (Nat.le_of_ble_eq_true rfl) (Nat.le_of_ble_eq_true rfl) ?_
  refine w_aload_n (pc := 4) h dX5_init_4 rfl ?_
  refine w_new (ci := 0) (C := RX0) (T := TX0) (N := 6) (fs := [.int 0, .int 0, .int 0, .int 0, .int 0, .int 0]) (pc := 5) h dX5_init_5 rfl tinX0 tyX0_ok wk_X5_7 wi_X0 wz_X0 (by decide) ⟨(Nat.le_of_ble_eq_true rfl), (Nat.le_of_ble_eq_true rfl)⟩ (Or.inl rfl) rfl ?_
  refine w_dup (pc := 8) h dX5_init_8 rfl ?_
  refine w_callIN (C := 0) (S := 0) (pc := 9) h dX5_init_9 wn_X5_9 ca_X0_init (k_X0_init E sn _) [(a, .inr (5, [.null, .int 0, .int 0]))] rfl rfl rfl (Nat.le_of_ble_eq_true rfl) ⟨(Nat.le_of_ble_eq_true rfl), (Nat.le_of_ble_eq_true rfl)⟩ ⟨(Nat.le_of_ble_eq_true rfl), (Nat.le_of_ble_eq_true rfl)⟩ (Or.inr ⟨1, _, rfl⟩) rfl ?_
  refine w_putF (ci := 5) (C := RX5) (T := TX5) (N := 3) (ty := (.object "ThrowersBag$Aim")) (k := 0) (pc := 12) h dX5_init_12 rfl tinX5 tyX5_ok nmX5 0 (by decide) wf_X5_10 rfl rfl rfl (by decide +kernel) rfl rfl rfl rfl (Nat.le_of_ble_eq_true rfl) rfl ?_
  exact hr _ _ _ dX5_init_15 rfl
