/-! orders, best, order of the reference -/
theorem frO_id (I : Mem) : frO I I := ⟨fun _ _ _ _ => rfl, fun _ _ _ _ _ => rfl⟩
def R_order (I : Mem) (i : Int32) : Int32 := if (0 ≤ i.toInt ∧ i.toInt ≤ 4) ∧ ¬ I 172 i.toNatClampNeg = -2 then (if nI (cntP (bgR I) (NR I)) < nI (MR I) then -4 else (zMR I).2 (cntP (mtR I) i.toNatClampNeg)) else -1
set_option maxRecDepth 100000 in
set_option maxHeartbeats 1000000 in
theorem c_X11_orders (E : En) (I : Mem)  (hc : 0 ≤ (I 151 1).toInt ∧ (I 151 1).toInt ≤ 9) (hmw : ∀ i, i < 5 → (I 172 i).toInt < 8) (hm : manOkR I) (hF : FlOkR I) (hW : RwOk I) (h22 : I 151 22 = 0) : Ctr E yX11_orders cX11_orders 3 (some .int) 6 [.ref (E.1 151)] I (qI (fun (r : Int32) (I1 : Mem) => OrP I I1 r)) := by
  refine Ctr.openI (by decide) (Nat.le_of_ble_eq_true rfl) (fun g h hr => ?_)
  have h : Sem cX11_orders RX11 3 (rmL 6) E g := h
  show g I 0 [(0, .ref (E.1 151))] []
  have hNt : ((NR I) : Int) = (I 151 1).toInt := tnI _ hc.1
  have hMb : (MR I) ≤ 5 := cntP_le (mtR I) 5
  refine r_aload_n (pc := 0) h dX11_orders_0 rfl ?_
  refine r_iconst (v := 0) (pc := 1) h dX11_orders_1 (by decide) ?_
  refine pf_X11_277 (pc := 2) h dX11_orders_2 ?_
  refine r_iconst (v := 0) (pc := 5) h dX11_orders_5 (by decide) ?_
  refine r_istore_n (pc := 6) h dX11_orders_6 (by decide) ?_
  have loop7 : ∀ (m i : Nat) (J_ : Mem), i ≤ 5 → 6 ≤ i + m → frO I J_ → J_ 151 36 = nI (cntP (mtR I) i) → thA I J_ i → J_ 176 = I 176 → g J_ 7 [(0, .ref (E.1 151)), (1, .int (nI i))] [] := by
    intro m
    induction m with
    | zero =>
      intro i J_ h1 h2
      omega
    | succ m ih =>
      intro i J_ hi him hfr h36 hth h176a
      have ei := nI_tI (i := i) (by omega)
      have hcl := cntP_le (mtR I) i
      have ecn := nI_tn (i := cntP (mtR I) i) (by omega)
      have hJ172 : J_ 172 = I 172 := hfr.1 172 (by decide) (by decide) (by decide)
      refine r_iload_n (pc := 7) h dX11_orders_7 rfl ?_
      refine r_iconst (v := 5) (pc := 8) h dX11_orders_8 (by decide) ?_
      refine r_icmp_ge (pc := 9) h 48 dX11_orders_9 (by decide) (fun c9 => ?_) (fun c9 => ?_)
      · have hge : i = 5 := by rw [Int32.le_iff_toInt_le, ei, e5i] at c9; omega
        rw [hge] at h36 hth
        have eM := nI_tI (i := (MR I)) (by omega)
        refine r_aload_n (pc := 48) h dX11_orders_48 rfl ?_
        refine gf_X11_277 (pc := 49) h dX11_orders_49 ?_
        rw [h36]
        refine r_if_ne (pc := 52) h 58 dX11_orders_52 (by decide) (fun c52 => ?_) (fun c52 => ?_)
        · have hnz : ¬ nI (MR I) = 0 := c52
          refine r_aload_n (pc := 58) h dX11_orders_58 rfl ?_
          refine r_callVI (ci := 11) (pc := 59) h dX11_orders_59 wm_X11_283 ca_X11_inBag rfl (c_X11_inBag E _ (by rw [hfr.2 1 (by decide) (by decide) (by decide) (by decide)]; exact hc)) rfl rfl (Nat.le_of_ble_eq_true rfl) (by decide) (by decide) (by decide) (by decide) (fun r I1 hq => ?_)
          obtain ⟨rfl, rfl⟩ := hq
          rw [show nI (cntP (bgR J_) (J_ 151 1).toNatClampNeg) = nI (cntP (bgR I) (NR I)) by rw [hfr.2 1 (by decide) (by decide) (by decide) (by decide)]; unfold bgR; rw [hfr.1 160 (by decide) (by decide) (by decide)]]
          refine r_aload_n (pc := 62) h dX11_orders_62 rfl ?_
          refine gf_X11_277 (pc := 63) h dX11_orders_63 ?_
          rw [h36]
          refine r_icmp_ge (pc := 66) h 72 dX11_orders_66 (by decide) (fun c66 => ?_) (fun c66 => ?_)
          · have hnl : ¬ nI (cntP (bgR I) (NR I)) < nI (MR I) := Int32.not_lt.mpr c66
            have hM1 : 1 ≤ (MR I) := by
              rcases Nat.eq_zero_or_pos (MR I) with q_ | q_
              · exfalso
                apply hnz
                rw [q_]
                rfl
              · exact q_
            have hJ176 : J_ 176 = I 176 := h176a
            refine r_iconst (v := 0) (pc := 72) h dX11_orders_72 (by decide) ?_
            refine r_istore_n (pc := 73) h dX11_orders_73 (by decide) ?_
            have loop74 : ∀ (m c : Nat) (J_ : Mem), c ≤ (MR I) → (MR I) + 1 ≤ c + m → frO I J_ → J_ 151 36 = nI (MR I) → thA I J_ 5 → J_ 176 = I 176 → (∀ c_, c_ < c → ∀ s_, s_ < (NR I) → J_ 174 (9 * c_ + s_) = ptR I (nI s_) (I 172 (atx (mtR I) c_))) → g J_ 74 [(0, .ref (E.1 151)), (1, .int (nI c))] [] := by
              intro m
              induction m with
              | zero =>
                intro c J_ h1 h2
                omega
              | succ m ih =>
                intro c J_ hc_ hcm hfr h36 hth h176 hpt
                have ec := nI_tI (i := c) (by omega)
                have hJ1 : J_ 151 1 = I 151 1 := hfr.2 1 (by decide) (by decide) (by decide) (by decide)
                refine r_iload_n (pc := 74) h dX11_orders_74 rfl ?_
                refine r_aload_n (pc := 75) h dX11_orders_75 rfl ?_
                refine gf_X11_277 (pc := 76) h dX11_orders_76 ?_
                rw [h36]
                refine r_icmp_ge (pc := 79) h 131 dX11_orders_79 (by decide) (fun c79 => ?_) (fun c79 => ?_)
                · have hgec : c = (MR I) := by rw [Int32.le_iff_toInt_le, ec, eM] at c79; omega
                  rw [hgec] at hpt
                  obtain ⟨J0_, hJ0_⟩ : ∃ z, z = J_ := ⟨_, rfl⟩
                  rw [← hJ0_] at hfr h36 hth h176 hpt hJ1 ⊢
                  refine r_aload_n (pc := 131) h dX11_orders_131 rfl ?_
                  refine r_iconst (v := -1) (pc := 132) h dX11_orders_132 (by decide) ?_
                  refine pf_X11_280 (pc := 133) h dX11_orders_133 ?_
                  refine r_iconst (v := 0) (pc := 136) h dX11_orders_136 (by decide) ?_
                  refine r_istore_n (pc := 137) h dX11_orders_137 (by decide) ?_
                  refine r_aload_n (pc := 138) h dX11_orders_138 rfl ?_
                  refine gf_X11_96 (pc := 139) h dX11_orders_139 ?_
                  refine r_iconst (v := 0) (pc := 142) h dX11_orders_142 (by decide) ?_
                  refine r_iconst (v := -1) (pc := 143) h dX11_orders_143 (by decide) ?_
                  refine r_iastL (j := 0) (pc := 144) h dX11_orders_144 (by decide) (by decide) (by decide) (vin (by decide) (by decide)) ?_
                  have hQb := QR_bd I
                  have hn9 : (NR I) ≤ 9 := by omega
                  have hM5 : (MR I) ≤ 5 := cntP_le (mtR I) 5
                  have hA36 : J0_ 151 36 = nI (MR I) := h36
                  have hA1 : J0_ 151 1 = I 151 1 := hJ1
                  have hA174 : ∀ c_, c_ < (MR I) → ∀ s_, s_ < (NR I) → (J0_ 174 (9 * c_ + s_)).toInt = (QR I) c_ s_ := fun c_ hc2_ s_ hs2_ => by rw [hpt c_ hc2_ s_ hs2_]
                  have loop145 : ∀ (B_ m d : Nat) (row : Nat → Int32) (fr : Nat) (z0 : Ms) (k s : Nat) (J_ : Mem), m * 100 + k < B_ → d + (m + 1) = (MR I) → frI J0_ (NR I) d row fr → (∀ c_, c_ < d → 0 ≤ (row c_).toInt ∧ (row c_).toInt < (NR I)) → s + k = (NR I) → DI J0_ J_ (MR I) d row (foldS (mStep (QR I) m d row fr (sR (QR I) row d)) s z0) → J_ 175 d = nI s + (-1) → (∀ K_, DI J0_ K_ (MR I) d row (foldS (mStep (QR I) m d row fr (sR (QR I) row d)) (NR I) z0) → g K_ 145 [(0, .ref (E.1 151)), (1, .int (nI d + (-1)))] []) → g J_ 145 [(0, .ref (E.1 151)), (1, .int (nI d))] [] := by
                    intro B_
                    induction B_ with
                    | zero =>
                      intro m d row fr z0 k s J_ h1
                      omega
                    | succ B_ ih =>
                      intro m d row fr z0 k s J_ hB hdm hfi hrw hsk hDI h175 kk
                      have ed := nI_tI (i := d) (by omega)
                      have es := nI_tI (i := s) (by omega)
                      have ens := nI_tn (i := s) (by omega)
                      refine r_iload_n (pc := 145) h dX11_orders_145 rfl ?_
                      refine r_if_lt (pc := 146) h 222 dX11_orders_146 (by decide) (fun c146 => ?_) (fun c146 => ?_)
                      · exfalso
                        rw [Int32.lt_iff_toInt_lt, z32, ed] at c146
                        omega
                      · refine r_aload_n (pc := 149) h dX11_orders_149 rfl ?_
                        refine gf_X11_96 (pc := 150) h dX11_orders_150 ?_
                        refine r_iload_n (pc := 153) h dX11_orders_153 rfl ?_
                        refine r_dup2 (pc := 154) h dX11_orders_154 rfl rfl ?_
                        refine r_ialdL (j := d) (pc := 155) h dX11_orders_155 (by decide) (by decide) (nI_tn (by omega)) (vinI (n := 5) (by omega) (by omega)) ?_
                        refine r_iconst (v := 1) (pc := 156) h dX11_orders_156 (by decide) ?_
                        refine r_iadd (pc := 157) h dX11_orders_157 ?_
                        refine r_iastL (j := d) (pc := 158) h dX11_orders_158 (by decide) (by decide) (nI_tn (by omega)) (vinI (n := 5) (by omega) (by omega)) ?_
                        have hs1 : J_ 175 d + 1 = nI s := by rw [h175, Int32.add_assoc, show (-1 : Int32) + 1 = 0 by decide, Int32.add_zero]
                        rw [hs1]
                        have hD1 : DI J0_ (upm J_ 175 d (nI s)) (MR I) d row (foldS (mStep (QR I) m d row fr (sR (QR I) row d)) s z0) := DI_row hDI (Nat.le_refl _)
                        refine r_nmG (fun J1_ hJ1_ => ?_)
                        rw [← hJ1_] at hD1
                        have h1d : J1_ 175 d = nI s := by rw [hJ1_, upm_eq]
                        refine r_aload_n (pc := 159) h dX11_orders_159 rfl ?_
                        refine gf_X11_96 (pc := 160) h dX11_orders_160 ?_
                        refine r_iload_n (pc := 163) h dX11_orders_163 rfl ?_
                        refine r_ialdL (j := d) (pc := 164) h dX11_orders_164 (by decide) (by decide) (nI_tn (by omega)) (vinI (n := 5) (by omega) (by omega)) ?_
                        rw [h1d]
                        refine r_aload_n (pc := 165) h dX11_orders_165 rfl ?_
                        refine gf_X11_144 (pc := 166) h dX11_orders_166 ?_
                        rw [show J1_ 151 1 = I 151 1 by rw [hD1.2.1 1 (by decide)]; exact hA1]
                        refine r_icmp_ne (pc := 169) h 178 dX11_orders_169 (by decide) (fun c169 => ?_) (fun c169 => ?_)
                        · have hsn : s < (NR I) := by
                            rcases Nat.lt_or_ge s (NR I) with q_ | q_
                            · exact q_
                            · exfalso
                              refine c169 ?_
                              rw [show s = (NR I) by omega]
                              exact nI_ofx hc.1
                          have hfree : (isF (decide (J1_ 160 s = 0)) (rwN J1_ s) d) = true ↔ fr.testBit s = true := by
                            unfold isF
                            rw [Bool.and_eq_true, allB_iff, decide_eq_true_eq, hfi.2.1 s hsn, hD1.1 160 (by decide) (by decide) (by decide)]
                            constructor
                            · intro ⟨a_, b_⟩
                              refine ⟨a_, fun i hi_ => ?_⟩
                              have h9_ := of_decide_eq_true (b_ i hi_)
                              rw [hD1.2.2.2.2.2 i hi_] at h9_
                              exact h9_
                            · intro ⟨a_, b_⟩
                              refine ⟨a_, fun i hi_ => decide_eq_true ?_⟩
                              rw [hD1.2.2.2.2.2 i hi_]
                              exact b_ i hi_
                          refine r_aload_n (pc := 178) h dX11_orders_178 rfl ?_
                          refine r_iload_n (pc := 179) h dX11_orders_179 rfl ?_
                          refine r_aload_n (pc := 180) h dX11_orders_180 rfl ?_
                          refine gf_X11_96 (pc := 181) h dX11_orders_181 ?_
                          refine r_iload_n (pc := 184) h dX11_orders_184 rfl ?_
                          refine r_ialdL (j := d) (pc := 185) h dX11_orders_185 (by decide) (by decide) (nI_tn (by omega)) (vinI (n := 5) (by omega) (by omega)) ?_
                          rw [h1d]
                          refine r_callVI (ci := 11) (pc := 186) h dX11_orders_186 wm_X11_286 ca_X11_isFree rfl (c_X11_isFree E _ _ _ d s (by omega) (by omega) rfl rfl) rfl rfl (Nat.le_of_ble_eq_true rfl) (by decide) (by decide) (by decide) (by decide) (fun r I1 hq => ?_)
                          obtain ⟨rfl, rfl⟩ := hq
                          refine r_if_eq (pc := 189) h 145 dX11_orders_189 (by decide) (fun c189 => ?_) (fun c189 => ?_)
                          · first
                            | (-- the last stick was tried
                               have hsN : s = (NR I) := by
                                 have e_ : nI s = I 151 1 := c169
                                 refine nI_inj (by omega) (by omega) (e_.trans (nI_ofx hc.1).symm)
                               exact r_at h [(0, .ref (E.1 151)), (1, .int (nI d + (-1)))] ⟨rfl, rfl, trivial⟩ (kk J1_ (by rw [← hsN]; exact hD1)))
                            | (-- not free
                               have hnb : ¬ fr.testBit s = true := fun q_ => (b2i_eq0.mp c189) (hfree.mpr q_)
                               exact r_at h [(0, .ref (E.1 151)), (1, .int (nI d))] ⟨rfl, rfl, trivial⟩ (ih m d row fr z0 (k - 1) (s + 1) J1_ (by omega) hdm hfi hrw (by omega) (by rw [foldS_s, show mStep (QR I) m d row fr (sR (QR I) row d) s (foldS (mStep (QR I) m d row fr (sR (QR I) row d)) s z0) = (foldS (mStep (QR I) m d row fr (sR (QR I) row d)) s z0) from if_neg hnb]; exact hD1) (by rw [nI_p1m1]; exact h1d) kk))
                            | (-- a full row was compared
                               have hm0 : m = 0 := by
                                 have e_ : nI d = nI (d + m) := by
                                   have e2_ : nI d = nI (MR I) - 1 := c199
                                   rw [e2_, ← hdm, Int32.sub_eq_add_neg, ← Nat.add_assoc, nI_p1m1]
                                 have := nI_inj (by omega) (by omega) e_
                                 omega
                               subst hm0
                               exact r_at h [(0, .ref (E.1 151)), (1, .int (nI d))] ⟨rfl, rfl, trivial⟩ (ih 0 d row fr z0 (k - 1) (s + 1) C_ (by omega) hdm hfi hrw (by omega) (by rw [foldS_s, show mStep (QR I) 0 d row fr (sR (QR I) row d) s (foldS (mStep (QR I) 0 d row fr (sR (QR I) row d)) s z0) = mV (QR I) 0 (d + 1) (updR row d s) (fr - 2 ^ s) (sR (QR I) row d + (QR I) d s) (foldS (mStep (QR I) 0 d row fr (sR (QR I) row d)) s z0) from if_pos hbit]; exact hDC) (by rw [nI_p1m1]; exact hCd) kk))
                            | (-- a throw deeper
                               obtain ⟨m', rfl⟩ : ∃ m', m = m' + 1 := by
                                 refine ⟨m - 1, ?_⟩
                                 rcases Nat.eq_zero_or_pos m with q_ | q_
                                 · exfalso
                                   refine c199 ?_
                                   rw [← hdm, q_, Int32.sub_eq_add_neg, Nat.zero_add]
                                   exact (nI_p1m1 d).symm
                                 · omega
                               rw [← nI_succ d]
                               refine r_at h [(0, .ref (E.1 151)), (1, .int (nI (d + 1)))] ⟨rfl, rfl, trivial⟩ (ih m' (d + 1) (updR row d s) (fr - 2 ^ s) (foldS (mStep (QR I) (m' + 1) d row fr (sR (QR I) row d)) s z0) (NR I) 0 _ (by omega) (by omega) (frI_up hn9 hsn hfi hbit) ?_ (by omega) (DI_row (DI_up hD1 h1d) (Nat.le_refl _)) (by rw [upm_eq]; decide) ?_)
                               · intro c_ hc2_
                                 by_cases e_ : c_ = d
                                 · rw [e_, updR_eq, es]
                                   omega
                                 · rw [updR_ne _ _ e_]
                                   exact hrw c_ (by omega)
                               · intro K_ hDK
                                 rw [nI_p1m1]
                                 refine ih (m' + 1) d row fr z0 (k - 1) (s + 1) K_ (by omega) hdm hfi hrw (by omega) ?_ (by rw [nI_p1m1]; exact DI_at hDK) kk
                                 rw [foldS_s, show mStep (QR I) (m' + 1) d row fr (sR (QR I) row d) s (foldS (mStep (QR I) (m' + 1) d row fr (sR (QR I) row d)) s z0) = mV (QR I) (m' + 1) (d + 1) (updR row d s) (fr - 2 ^ s) (sR (QR I) row d + (QR I) d s) (foldS (mStep (QR I) (m' + 1) d row fr (sR (QR I) row d)) s z0) from if_pos hbit, mStep_end hn9 (frI_up hn9 hsn hfi hbit), ← hsum]
                                 exact DI_dn hDK)
                          · have hbit : fr.testBit s = true := hfree.mp (b2i_ne c189)
                            have hsum : sR (QR I) (updR row d s) (d + 1) = sR (QR I) row d + (QR I) d s := by
                              show sR (QR I) (updR row d s) d + (QR I) d (updR row d s d).toNatClampNeg = _
                              rw [sR_congr d (fun c_ hc2_ => updR_ne row s (by omega)), updR_eq, ens]
                            refine r_iload_n (pc := 192) h dX11_orders_192 rfl ?_
                            refine r_aload_n (pc := 193) h dX11_orders_193 rfl ?_
                            refine gf_X11_277 (pc := 194) h dX11_orders_194 ?_
                            refine r_iconst (v := 1) (pc := 197) h dX11_orders_197 (by decide) ?_
                            refine r_isub (pc := 198) h dX11_orders_198 ?_
                            rw [show J1_ 151 36 = nI (MR I) by rw [hD1.2.1 36 (by decide)]; exact hA36]
                            refine r_icmp_ne (pc := 199) h 209 dX11_orders_199 (by decide) (fun c199 => ?_) (fun c199 => ?_)
                            · have hm1 : 1 ≤ m := by
                                rcases Nat.eq_zero_or_pos m with q_ | q_
                                · exfalso
                                  refine c199 ?_
                                  rw [← hdm, q_, Int32.sub_eq_add_neg, Nat.zero_add]
                                  exact (nI_p1m1 d).symm
                                · exact q_
                              refine r_iinc (v := 1) (pc := 209) h dX11_orders_209 rfl (by decide) (by decide) ?_
                              refine r_aload_n (pc := 212) h dX11_orders_212 rfl ?_
                              refine gf_X11_96 (pc := 213) h dX11_orders_213 ?_
                              refine r_iload_n (pc := 216) h dX11_orders_216 rfl ?_
                              refine r_iconst (v := -1) (pc := 217) h dX11_orders_217 (by decide) ?_
                              refine r_iastL (j := d + 1) (pc := 218) h dX11_orders_218 (by decide) (by decide) (by rw [← nI_succ d]; exact nI_tn (by omega)) (by rw [← nI_succ d]; exact vinI (n := 5) (by omega) (by omega)) ?_
                              refine r_goto (pc := 219) h 145 dX11_orders_219 (by decide) ?_
                              first
                              | (-- the last stick was tried
                                 have hsN : s = (NR I) := by
                                   have e_ : nI s = I 151 1 := c169
                                   refine nI_inj (by omega) (by omega) (e_.trans (nI_ofx hc.1).symm)
                                 exact r_at h [(0, .ref (E.1 151)), (1, .int (nI d + (-1)))] ⟨rfl, rfl, trivial⟩ (kk J1_ (by rw [← hsN]; exact hD1)))
                              | (-- not free
                                 have hnb : ¬ fr.testBit s = true := fun q_ => (b2i_eq0.mp c189) (hfree.mpr q_)
                                 exact r_at h [(0, .ref (E.1 151)), (1, .int (nI d))] ⟨rfl, rfl, trivial⟩ (ih m d row fr z0 (k - 1) (s + 1) J1_ (by omega) hdm hfi hrw (by omega) (by rw [foldS_s, show mStep (QR I) m d row fr (sR (QR I) row d) s (foldS (mStep (QR I) m d row fr (sR (QR I) row d)) s z0) = (foldS (mStep (QR I) m d row fr (sR (QR I) row d)) s z0) from if_neg hnb]; exact hD1) (by rw [nI_p1m1]; exact h1d) kk))
                              | (-- a full row was compared
                                 have hm0 : m = 0 := by
                                   have e_ : nI d = nI (d + m) := by
                                     have e2_ : nI d = nI (MR I) - 1 := c199
                                     rw [e2_, ← hdm, Int32.sub_eq_add_neg, ← Nat.add_assoc, nI_p1m1]
                                   have := nI_inj (by omega) (by omega) e_
                                   omega
                                 subst hm0
                                 exact r_at h [(0, .ref (E.1 151)), (1, .int (nI d))] ⟨rfl, rfl, trivial⟩ (ih 0 d row fr z0 (k - 1) (s + 1) C_ (by omega) hdm hfi hrw (by omega) (by rw [foldS_s, show mStep (QR I) 0 d row fr (sR (QR I) row d) s (foldS (mStep (QR I) 0 d row fr (sR (QR I) row d)) s z0) = mV (QR I) 0 (d + 1) (updR row d s) (fr - 2 ^ s) (sR (QR I) row d + (QR I) d s) (foldS (mStep (QR I) 0 d row fr (sR (QR I) row d)) s z0) from if_pos hbit]; exact hDC) (by rw [nI_p1m1]; exact hCd) kk))
                              | (-- a throw deeper
                                 obtain ⟨m', rfl⟩ : ∃ m', m = m' + 1 := by
                                   refine ⟨m - 1, ?_⟩
                                   rcases Nat.eq_zero_or_pos m with q_ | q_
                                   · exfalso
                                     refine c199 ?_
                                     rw [← hdm, q_, Int32.sub_eq_add_neg, Nat.zero_add]
                                     exact (nI_p1m1 d).symm
                                   · omega
                                 rw [← nI_succ d]
                                 refine r_at h [(0, .ref (E.1 151)), (1, .int (nI (d + 1)))] ⟨rfl, rfl, trivial⟩ (ih m' (d + 1) (updR row d s) (fr - 2 ^ s) (foldS (mStep (QR I) (m' + 1) d row fr (sR (QR I) row d)) s z0) (NR I) 0 _ (by omega) (by omega) (frI_up hn9 hsn hfi hbit) ?_ (by omega) (DI_row (DI_up hD1 h1d) (Nat.le_refl _)) (by rw [upm_eq]; decide) ?_)
                                 · intro c_ hc2_
                                   by_cases e_ : c_ = d
                                   · rw [e_, updR_eq, es]
                                     omega
                                   · rw [updR_ne _ _ e_]
                                     exact hrw c_ (by omega)
                                 · intro K_ hDK
                                   rw [nI_p1m1]
                                   refine ih (m' + 1) d row fr z0 (k - 1) (s + 1) K_ (by omega) hdm hfi hrw (by omega) ?_ (by rw [nI_p1m1]; exact DI_at hDK) kk
                                   rw [foldS_s, show mStep (QR I) (m' + 1) d row fr (sR (QR I) row d) s (foldS (mStep (QR I) (m' + 1) d row fr (sR (QR I) row d)) s z0) = mV (QR I) (m' + 1) (d + 1) (updR row d s) (fr - 2 ^ s) (sR (QR I) row d + (QR I) d s) (foldS (mStep (QR I) (m' + 1) d row fr (sR (QR I) row d)) s z0) from if_pos hbit, mStep_end hn9 (frI_up hn9 hsn hfi hbit), ← hsum]
                                   exact DI_dn hDK)
                            · have hdM : (MR I) = d + 1 := by
                                have e_ : nI d = nI (MR I) - 1 := c199
                                have e2_ : nI (MR I) - 1 = nI (d + m) := by rw [← hdm, Int32.sub_eq_add_neg, ← Nat.add_assoc, nI_p1m1]
                                have := nI_inj (by omega) (by omega) (e_.trans e2_)
                                omega
                              have hrw2 : ∀ c_, c_ < (MR I) → 0 ≤ (J1_ 175 c_).toInt ∧ (J1_ 175 c_).toInt < (NR I) := by
                                intro c_ hc2_
                                by_cases e_ : c_ = d
                                · rw [e_, h1d, es]
                                  omega
                                · rw [hD1.2.2.2.2.2 c_ (by omega)]
                                  exact hrw c_ (by omega)
                              refine r_aload_n (pc := 202) h dX11_orders_202 rfl ?_
                              refine r_callVV (ci := 11) (pc := 203) h dX11_orders_203 wm_X11_290 ca_X11_compares rfl (c_X11_compares E _ (MR I) (by rw [hD1.2.1 36 (by decide)]; exact hA36) hM5 (fun c_ hc2_ => by have h9_ := hrw2 c_ hc2_; exact ⟨h9_.1, by omega⟩)) rfl rfl (Nat.le_of_ble_eq_true rfl) (by decide) (by decide) (by decide) (by decide) (fun C_ hq => ?_)
                              have hC175 : ∀ c_, c_ < d + 1 → J1_ 175 c_ = updR row d s c_ := (DI_up hD1 h1d).2.2.2.2.2
                              have hCd : C_ 175 d = nI s := by
                                rcases hq with q_ | q_
                                · rw [q_.2.2.2.1 175 (by decide) (by decide)]
                                  exact h1d
                                · rw [q_.2]
                                  exact h1d
                              have hsv : (sQ J1_ (MR I)).toInt = sR (QR I) row d + (QR I) d s := by
                                have e_ := sQ_sR (I := J1_) hQb (MR I) (by omega) (fun c_ hc2_ => by
                                  rw [hD1.1 174 (by decide) (by decide) (by decide)]
                                  refine hA174 c_ hc2_ _ ?_
                                  have h9_ := hrw2 c_ hc2_
                                  rw [tn]
                                  omega)
                                rw [e_, show (MR I) = d + 1 by omega, sR_congr (d + 1) hC175, hsum]
                              have hDC : DI J0_ C_ (MR I) d row (mV (QR I) 0 (d + 1) (updR row d s) (fr - 2 ^ s) (sR (QR I) row d + (QR I) d s) (foldS (mStep (QR I) m d row fr (sR (QR I) row d)) s z0)) := by
                                obtain ⟨d1, d2, d3, d4, d5, d6⟩ := hD1
                                rw [mV_0]
                                rcases hq with q_ | q_
                                · have h9_ := q_.1
                                  rw [Int32.lt_iff_toInt_lt, d3, hsv] at h9_
                                  rw [if_pos h9_]
                                  have hb_ := sR_bd hQb row d
                                  have hq2_ := hQb d s
                                  exact ⟨fun a a1 a2 a3 => by rw [q_.2.2.2.1 a a1 a3]; exact d1 a a1 a2 a3, fun j hj_ => by rw [q_.2.2.2.2 j hj_]; exact d2 j hj_, by rw [q_.2.1]; exact hsv, ⟨by show -1 ≤ sR (QR I) row d + (QR I) d s; omega, by show sR (QR I) row d + (QR I) d s ≤ 250; omega⟩, fun c_ hc2_ => by rw [q_.2.2.1 c_ hc2_]; exact hC175 c_ (by omega), fun c_ hc2_ => by rw [q_.2.2.2.1 175 (by decide) (by decide)]; exact d6 c_ hc2_⟩
                                · have h9_ := q_.1
                                  rw [Int32.lt_iff_toInt_lt, d3, hsv] at h9_
                                  rw [if_neg h9_, q_.2]
                                  exact ⟨d1, d2, d3, d4, d5, d6⟩
                              refine r_goto (pc := 206) h 145 dX11_orders_206 (by decide) ?_
                              first
                              | (-- the last stick was tried
                                 have hsN : s = (NR I) := by
                                   have e_ : nI s = I 151 1 := c169
                                   refine nI_inj (by omega) (by omega) (e_.trans (nI_ofx hc.1).symm)
                                 exact r_at h [(0, .ref (E.1 151)), (1, .int (nI d + (-1)))] ⟨rfl, rfl, trivial⟩ (kk J1_ (by rw [← hsN]; exact hD1)))
                              | (-- not free
                                 have hnb : ¬ fr.testBit s = true := fun q_ => (b2i_eq0.mp c189) (hfree.mpr q_)
                                 exact r_at h [(0, .ref (E.1 151)), (1, .int (nI d))] ⟨rfl, rfl, trivial⟩ (ih m d row fr z0 (k - 1) (s + 1) J1_ (by omega) hdm hfi hrw (by omega) (by rw [foldS_s, show mStep (QR I) m d row fr (sR (QR I) row d) s (foldS (mStep (QR I) m d row fr (sR (QR I) row d)) s z0) = (foldS (mStep (QR I) m d row fr (sR (QR I) row d)) s z0) from if_neg hnb]; exact hD1) (by rw [nI_p1m1]; exact h1d) kk))
                              | (-- a full row was compared
                                 have hm0 : m = 0 := by
                                   have e_ : nI d = nI (d + m) := by
                                     have e2_ : nI d = nI (MR I) - 1 := c199
                                     rw [e2_, ← hdm, Int32.sub_eq_add_neg, ← Nat.add_assoc, nI_p1m1]
                                   have := nI_inj (by omega) (by omega) e_
                                   omega
                                 subst hm0
                                 exact r_at h [(0, .ref (E.1 151)), (1, .int (nI d))] ⟨rfl, rfl, trivial⟩ (ih 0 d row fr z0 (k - 1) (s + 1) C_ (by omega) hdm hfi hrw (by omega) (by rw [foldS_s, show mStep (QR I) 0 d row fr (sR (QR I) row d) s (foldS (mStep (QR I) 0 d row fr (sR (QR I) row d)) s z0) = mV (QR I) 0 (d + 1) (updR row d s) (fr - 2 ^ s) (sR (QR I) row d + (QR I) d s) (foldS (mStep (QR I) 0 d row fr (sR (QR I) row d)) s z0) from if_pos hbit]; exact hDC) (by rw [nI_p1m1]; exact hCd) kk))
                              | (-- a throw deeper
                                 obtain ⟨m', rfl⟩ : ∃ m', m = m' + 1 := by
                                   refine ⟨m - 1, ?_⟩
                                   rcases Nat.eq_zero_or_pos m with q_ | q_
                                   · exfalso
                                     refine c199 ?_
                                     rw [← hdm, q_, Int32.sub_eq_add_neg, Nat.zero_add]
                                     exact (nI_p1m1 d).symm
                                   · omega
                                 rw [← nI_succ d]
                                 refine r_at h [(0, .ref (E.1 151)), (1, .int (nI (d + 1)))] ⟨rfl, rfl, trivial⟩ (ih m' (d + 1) (updR row d s) (fr - 2 ^ s) (foldS (mStep (QR I) (m' + 1) d row fr (sR (QR I) row d)) s z0) (NR I) 0 _ (by omega) (by omega) (frI_up hn9 hsn hfi hbit) ?_ (by omega) (DI_row (DI_up hD1 h1d) (Nat.le_refl _)) (by rw [upm_eq]; decide) ?_)
                                 · intro c_ hc2_
                                   by_cases e_ : c_ = d
                                   · rw [e_, updR_eq, es]
                                     omega
                                   · rw [updR_ne _ _ e_]
                                     exact hrw c_ (by omega)
                                 · intro K_ hDK
                                   rw [nI_p1m1]
                                   refine ih (m' + 1) d row fr z0 (k - 1) (s + 1) K_ (by omega) hdm hfi hrw (by omega) ?_ (by rw [nI_p1m1]; exact DI_at hDK) kk
                                   rw [foldS_s, show mStep (QR I) (m' + 1) d row fr (sR (QR I) row d) s (foldS (mStep (QR I) (m' + 1) d row fr (sR (QR I) row d)) s z0) = mV (QR I) (m' + 1) (d + 1) (updR row d s) (fr - 2 ^ s) (sR (QR I) row d + (QR I) d s) (foldS (mStep (QR I) (m' + 1) d row fr (sR (QR I) row d)) s z0) from if_pos hbit, mStep_end hn9 (frI_up hn9 hsn hfi hbit), ← hsum]
                                   exact DI_dn hDK)
                        · refine r_iinc (v := -1) (pc := 172) h dX11_orders_172 rfl (by decide) (by decide) ?_
                          refine r_goto (pc := 175) h 145 dX11_orders_175 (by decide) ?_
                          first
                          | (-- the last stick was tried
                             have hsN : s = (NR I) := by
                               have e_ : nI s = I 151 1 := c169
                               refine nI_inj (by omega) (by omega) (e_.trans (nI_ofx hc.1).symm)
                             exact r_at h [(0, .ref (E.1 151)), (1, .int (nI d + (-1)))] ⟨rfl, rfl, trivial⟩ (kk J1_ (by rw [← hsN]; exact hD1)))
                          | (-- not free
                             have hnb : ¬ fr.testBit s = true := fun q_ => (b2i_eq0.mp c189) (hfree.mpr q_)
                             exact r_at h [(0, .ref (E.1 151)), (1, .int (nI d))] ⟨rfl, rfl, trivial⟩ (ih m d row fr z0 (k - 1) (s + 1) J1_ (by omega) hdm hfi hrw (by omega) (by rw [foldS_s, show mStep (QR I) m d row fr (sR (QR I) row d) s (foldS (mStep (QR I) m d row fr (sR (QR I) row d)) s z0) = (foldS (mStep (QR I) m d row fr (sR (QR I) row d)) s z0) from if_neg hnb]; exact hD1) (by rw [nI_p1m1]; exact h1d) kk))
                          | (-- a full row was compared
                             have hm0 : m = 0 := by
                               have e_ : nI d = nI (d + m) := by
                                 have e2_ : nI d = nI (MR I) - 1 := c199
                                 rw [e2_, ← hdm, Int32.sub_eq_add_neg, ← Nat.add_assoc, nI_p1m1]
                               have := nI_inj (by omega) (by omega) e_
                               omega
                             subst hm0
                             exact r_at h [(0, .ref (E.1 151)), (1, .int (nI d))] ⟨rfl, rfl, trivial⟩ (ih 0 d row fr z0 (k - 1) (s + 1) C_ (by omega) hdm hfi hrw (by omega) (by rw [foldS_s, show mStep (QR I) 0 d row fr (sR (QR I) row d) s (foldS (mStep (QR I) 0 d row fr (sR (QR I) row d)) s z0) = mV (QR I) 0 (d + 1) (updR row d s) (fr - 2 ^ s) (sR (QR I) row d + (QR I) d s) (foldS (mStep (QR I) 0 d row fr (sR (QR I) row d)) s z0) from if_pos hbit]; exact hDC) (by rw [nI_p1m1]; exact hCd) kk))
                          | (-- a throw deeper
                             obtain ⟨m', rfl⟩ : ∃ m', m = m' + 1 := by
                               refine ⟨m - 1, ?_⟩
                               rcases Nat.eq_zero_or_pos m with q_ | q_
                               · exfalso
                                 refine c199 ?_
                                 rw [← hdm, q_, Int32.sub_eq_add_neg, Nat.zero_add]
                                 exact (nI_p1m1 d).symm
                               · omega
                             rw [← nI_succ d]
                             refine r_at h [(0, .ref (E.1 151)), (1, .int (nI (d + 1)))] ⟨rfl, rfl, trivial⟩ (ih m' (d + 1) (updR row d s) (fr - 2 ^ s) (foldS (mStep (QR I) (m' + 1) d row fr (sR (QR I) row d)) s z0) (NR I) 0 _ (by omega) (by omega) (frI_up hn9 hsn hfi hbit) ?_ (by omega) (DI_row (DI_up hD1 h1d) (Nat.le_refl _)) (by rw [upm_eq]; decide) ?_)
                             · intro c_ hc2_
                               by_cases e_ : c_ = d
                               · rw [e_, updR_eq, es]
                                 omega
                               · rw [updR_ne _ _ e_]
                                 exact hrw c_ (by omega)
                             · intro K_ hDK
                               rw [nI_p1m1]
                               refine ih (m' + 1) d row fr z0 (k - 1) (s + 1) K_ (by omega) hdm hfi hrw (by omega) ?_ (by rw [nI_p1m1]; exact DI_at hDK) kk
                               rw [foldS_s, show mStep (QR I) (m' + 1) d row fr (sR (QR I) row d) s (foldS (mStep (QR I) (m' + 1) d row fr (sR (QR I) row d)) s z0) = mV (QR I) (m' + 1) (d + 1) (updR row d s) (fr - 2 ^ s) (sR (QR I) row d + (QR I) d s) (foldS (mStep (QR I) (m' + 1) d row fr (sR (QR I) row d)) s z0) from if_pos hbit, mStep_end hn9 (frI_up hn9 hsn hfi hbit), ← hsum]
                               exact DI_dn hDK)
                  have hbI : frI J0_ (NR I) 0 (fun _ => 0) (bagN (bgR I) (NR I)) := by
                    refine ⟨bag512 _ hn9, fun s_ hs2_ => ?_, fun s_ hs2_ hs9_ => bag_high _ hn9 hs2_ hs9_⟩
                    rw [bag_bit _ _ hn9 s_ (by omega), Bool.and_eq_true, decide_eq_true_eq, decide_eq_true_eq, hfr.1 160 (by decide) (by decide) (by decide)]
                    exact ⟨fun q_ => ⟨q_.2, fun i hi_ => absurd hi_ (by omega)⟩, fun q_ => ⟨hs2_, q_.1⟩⟩
                  obtain ⟨m0, hm0⟩ : ∃ m0, (MR I) = m0 + 1 := ⟨(MR I) - 1, by omega⟩
                  have hz0 : zMR I = foldS (mStep (QR I) m0 0 (fun _ => 0) (bagN (bgR I) (NR I)) 0) (NR I) (-1, I 176) := by
                    show mV (QR I) (MR I) 0 (fun _ => 0) (bagN (bgR I) (NR I)) 0 (-1, I 176) = _
                    rw [hm0]
                    exact mStep_end hn9 hbI _
                  refine r_at h [(0, .ref (E.1 151)), (1, .int (nI 0))] ⟨rfl, rfl, trivial⟩ (loop145 (m0 * 100 + (NR I) + 1) m0 0 (fun _ => 0) (bagN (bgR I) (NR I)) (-1, I 176) (NR I) 0 _ (by omega) (by omega) hbI (fun c_ hc2_ => absurd hc2_ (by omega)) (by omega) ?_ (by rw [upm_eq]; decide) ?_)
                  · refine ⟨fun a a1 a2 a3 => by rw [upm_ne _ _ _ a2, upm_ne _ _ _ a1], fun j hj_ => by rw [upm_ne _ _ _ (by decide), upm_at, if_neg (fun q_ => hj_ q_.2)], by rw [upm_ne _ _ _ (by decide), upm_eq]; exact i32_m1, ⟨by show (-1 : Int) ≤ -1; omega, by show (-1 : Int) ≤ 250; omega⟩, fun c_ hc2_ => by rw [upm_ne _ _ _ (by decide), upm_ne _ _ _ (by decide), h176]; rfl, fun c_ hc2_ => absurd hc2_ (by omega)⟩
                  · intro K_ hDK
                    obtain ⟨d1, d2, d3, d4, d5, d6⟩ := hDK
                    have hz1 : (foldS (mStep (QR I) m0 0 (fun _ => 0) (bagN (bgR I) (NR I)) (sR (QR I) (fun _ => 0) 0)) (NR I) (-1, I 176)) = zMR I := hz0.symm
                    rw [hz1] at d3 d4 d5
                    refine r_iload_n (pc := 145) h dX11_orders_145 rfl ?_
                    refine r_if_lt (pc := 146) h 222 dX11_orders_146 (by decide) (fun _ => ?_) (fun c => absurd (by decide) c)
                    refine r_aload_n (pc := 222) h dX11_orders_222 rfl ?_
                    refine gf_X11_280 (pc := 223) h dX11_orders_223 ?_
                    refine hr _ _ _ _ dX11_orders_226 rfl ⟨?_, ⟨fun a a1 a2 a3 => by rw [d1 a a1 (by omega) (by omega)]; exact hfr.1 a a1 a2 a3, fun j j1 j2 j3 j4 => by rw [d2 j j4]; exact hfr.2 j j1 j2 j3 j4⟩, fun _ _ => ⟨d5, fun j hj_ hmj_ => by rw [d1 173 (by decide) (by decide) (by decide)]; exact hth j hj_ hmj_⟩⟩
                    unfold R_ord
                    rw [if_neg hnz, if_neg hnl, ← d3, Int32.ofInt_toInt]
                · have hltc : c < (MR I) := by rw [Int32.le_iff_toInt_le, ec, eM] at c79; omega
                  refine r_iconst (v := 0) (pc := 82) h dX11_orders_82 (by decide) ?_
                  refine r_istore_n (pc := 83) h dX11_orders_83 (by decide) ?_
                  have loop84 : ∀ (m s : Nat) (J_ : Mem), s ≤ (NR I) → (NR I) + 1 ≤ s + m → frO I J_ → J_ 151 36 = nI (MR I) → thA I J_ 5 → J_ 176 = I 176 → (∀ c_, c_ < c → ∀ s_, s_ < (NR I) → J_ 174 (9 * c_ + s_) = ptR I (nI s_) (I 172 (atx (mtR I) c_))) → (∀ s_, s_ < s → J_ 174 (9 * c + s_) = ptR I (nI s_) (I 172 (atx (mtR I) c))) → g J_ 84 [(0, .ref (E.1 151)), (1, .int (nI c)), (2, .int (nI s))] [] := by
                    intro m
                    induction m with
                    | zero =>
                      intro s J_ h1 h2
                      omega
                    | succ m ih2 =>
                      intro s J_ hs_ hsm hfr h36 hth h176 hpt hin
                      have es := nI_tI (i := s) (by omega)
                      have hJ1 : J_ 151 1 = I 151 1 := hfr.2 1 (by decide) (by decide) (by decide) (by decide)
                      refine r_iload_n (pc := 84) h dX11_orders_84 rfl ?_
                      refine r_aload_n (pc := 85) h dX11_orders_85 rfl ?_
                      refine gf_X11_144 (pc := 86) h dX11_orders_86 ?_
                      rw [hJ1]
                      refine r_icmp_ge (pc := 89) h 125 dX11_orders_89 (by decide) (fun c89 => ?_) (fun c89 => ?_)
                      · have hges : s = (NR I) := by rw [Int32.le_iff_toInt_le, es] at c89; omega
                        rw [hges] at hin
                        refine r_iinc (v := 1) (pc := 125) h dX11_orders_125 rfl (by decide) (by decide) ?_
                        refine r_goto (pc := 128) h 74 dX11_orders_128 (by decide) ?_
                        rw [← nI_succ c]
                        refine r_at h [(0, .ref (E.1 151)), (1, .int (nI (c + 1)))] ⟨rfl, rfl, trivial⟩ (ih (c + 1) _ (by omega) (by omega) hfr h36 hth h176 ?_)
                        intro c_ hc2_ s_ hs_
                        by_cases e_ : c_ = c
                        · rw [e_]
                          exact hin s_ (by omega)
                        · exact hpt c_ (by omega) s_ hs_
                      · have hlts : s < (NR I) := by rw [Int32.le_iff_toInt_le, es] at c89; omega
                        obtain ⟨jx, hjx5, hjm, hjc⟩ := atx_ex (p := mtR I) (c := c) 5 hltc
                        have hat : atx (mtR I) c = jx := by rw [← hjc]; exact atx_is hjm hjx5
                        have h173 : J_ 173 c = nI jx := by rw [← hjc]; exact hth jx hjx5 hjm
                        have hJ172 : J_ 172 = I 172 := hfr.1 172 (by decide) (by decide) (by decide)
                        have m9_ := m9n (c := c) (x := nI s) (by omega) (by rw [es]; omega)
                        have ens := nI_tn (i := s) (by omega)
                        rw [ens] at m9_
                        refine r_aload_n (pc := 92) h dX11_orders_92 rfl ?_
                        refine gf_X11_93 (pc := 93) h dX11_orders_93 ?_
                        refine r_bipush (v := 9) (pc := 96) h dX11_orders_96 (by decide) ?_
                        refine r_iload_n (pc := 98) h dX11_orders_98 rfl ?_
                        refine r_imul (pc := 99) h dX11_orders_99 ?_
                        refine r_iload_n (pc := 100) h dX11_orders_100 rfl ?_
                        refine r_iadd (pc := 101) h dX11_orders_101 ?_
                        refine r_aload_n (pc := 102) h dX11_orders_102 rfl ?_
                        refine r_iload_n (pc := 103) h dX11_orders_103 rfl ?_
                        refine r_aload_n (pc := 104) h dX11_orders_104 rfl ?_
                        refine gf_X11_78 (pc := 105) h dX11_orders_105 ?_
                        refine r_aload_n (pc := 108) h dX11_orders_108 rfl ?_
                        refine gf_X11_90 (pc := 109) h dX11_orders_109 ?_
                        refine r_iload_n (pc := 112) h dX11_orders_112 rfl ?_
                        refine r_ialdL (j := c) (pc := 113) h dX11_orders_113 (by decide) (by decide) (nI_tn (by omega)) (vinI (n := 5) (by omega) (by omega)) ?_
                        refine r_ialdL (j := jx) (pc := 114) h dX11_orders_114 (by decide) (by decide) (by rw [h173]; exact nI_tn (by omega)) (by rw [h173]; exact vinI (n := 5) (by omega) (by omega)) ?_
                        refine r_callVI (ci := 11) (pc := 115) h dX11_orders_115 wm_X11_273 ca_X11_pointsOf rfl (c_X11_pointsOf E _ _ _ ⟨by rw [es]; omega, by rw [es]; omega⟩ (by rw [hJ172]; exact hmw jx hjx5) (frO_man hfr hm) (frO_ok hfr hF) (frO_w hfr hW) (by rw [hfr.2 22 (by decide) (by decide) (by decide) (by decide)]; exact h22)) rfl rfl (Nat.le_of_ble_eq_true rfl) (by decide) (by decide) (by decide) (by decide) (fun v_ K_ hq => ?_)
                        obtain ⟨hp1, hp2⟩ := hq
                        rw [frO_pt hfr, hJ172, ← hat] at hp1
                        subst hp1
                        refine r_iastL (j := 9 * c + s) (pc := 118) h dX11_orders_118 (by decide) (by decide) (m9_.2) (vin (n := 45) (by rw [m9_.1, es]; omega) (by rw [m9_.1, es]; omega)) ?_
                        refine r_iinc (v := 1) (pc := 119) h dX11_orders_119 rfl (by decide) (by decide) ?_
                        refine r_goto (pc := 122) h 84 dX11_orders_122 (by decide) ?_
                        rw [← nI_succ s]
                        refine r_at h [(0, .ref (E.1 151)), (1, .int (nI c)), (2, .int (nI (s + 1)))] ⟨rfl, rfl, rfl, trivial⟩ (ih2 (s + 1) _ (by omega) (by omega) ⟨fun a a1 a2 a3 => by rw [upm_ne _ _ _ (by omega), hp2.1 a a2 a1]; exact hfr.1 a a1 a2 a3, fun j j1 j2 j3 j4 => by rw [upm_ne _ _ _ (by decide), hp2.2 j j1 j2]; exact hfr.2 j j1 j2 j3 j4⟩ (by rw [upm_ne _ _ _ (by decide), hp2.2 36 (by decide) (by decide)]; exact h36) (by intro j hj_ hmj_; rw [upm_ne _ _ _ (by decide), hp2.1 173 (by decide) (by decide)]; exact hth j hj_ hmj_) (by rw [upm_ne _ _ _ (by decide), hp2.1 176 (by decide) (by decide)]; exact h176) ?_ ?_)
                        · intro c_ hc2_ s_ hs2_
                          rw [upm_at, if_neg (fun q_ => by omega), hp2.1 174 (by decide) (by decide)]
                          exact hpt c_ hc2_ s_ hs2_
                        · intro s_ hs2_
                          by_cases e_ : s_ = s
                          · rw [e_, upm_eq]
                          · rw [upm_at, if_neg (fun q_ => by omega), hp2.1 174 (by decide) (by decide)]
                            exact hin s_ (by omega)
                  exact r_at h [(0, .ref (E.1 151)), (1, .int (nI c)), (2, .int (nI 0))] ⟨rfl, rfl, rfl, trivial⟩ (loop84 ((NR I) + 1) 0 _ (by omega) (by omega) hfr h36 hth h176 hpt (fun s_ hs_ => absurd hs_ (by omega)))
            exact r_at h [(0, .ref (E.1 151)), (1, .int (nI 0))] ⟨rfl, rfl, trivial⟩ (loop74 ((MR I) + 1) 0 _ (by omega) (by omega) hfr h36 hth (hJ176) (fun c_ hc_ => absurd hc_ (by omega)))
          · refine r_bipush (v := -4) (pc := 69) h dX11_orders_69 (by decide) ?_
            exact hr _ _ _ _ dX11_orders_71 (rfl) (⟨by unfold R_ord; rw [if_neg hnz, if_pos (Int32.not_le.mp c66)], hfr, fun _ q_ => absurd (Int32.not_le.mp c66) q_⟩)
        · refine r_bipush (v := -2) (pc := 55) h dX11_orders_55 (by decide) ?_
          exact hr _ _ _ _ dX11_orders_57 (rfl) (⟨by unfold R_ord; rw [if_pos c52], hfr, fun q_ => absurd c52 q_⟩)
      · have hlt : i < 5 := by rw [Int32.le_iff_toInt_le, ei, e5i] at c9; omega
        refine r_aload_n (pc := 12) h dX11_orders_12 rfl ?_
        refine gf_X11_78 (pc := 13) h dX11_orders_13 ?_
        refine r_iload_n (pc := 16) h dX11_orders_16 rfl ?_
        refine r_ialdL (j := i) (pc := 17) h dX11_orders_17 (by decide) (by decide) (nI_tn (by omega)) (vinI (n := 5) (by omega) (by omega)) ?_
        rw [hJ172]
        refine r_iconst (v := -1) (pc := 18) h dX11_orders_18 (by decide) ?_
        refine r_icmp_lt (pc := 19) h 42 dX11_orders_19 (by decide) (fun c19 => ?_) (fun c19 => ?_)
        · refine r_iinc (v := 1) (pc := 42) h dX11_orders_42 rfl (by decide) (by decide) ?_
          refine r_goto (pc := 45) h 7 dX11_orders_45 (by decide) ?_
          rw [← nI_succ i]
          first
          | (have hm_ : mtR I i = true := decide_eq_true c19
             have ec_ : cntP (mtR I) (i + 1) = cntP (mtR I) i + 1 := if_pos hm_
             refine r_at h [(0, .ref (E.1 151)), (1, .int (nI (i + 1)))] ⟨rfl, rfl, trivial⟩ (ih (i + 1) _ (by omega) (by omega) ⟨fun a a1 a2 a3 => by rw [upm_ne _ _ _ a1, upm_ne _ _ _ (by omega)]; exact hfr.1 a a1 a2 a3, fun j j1 j2 j3 j4 => by rw [upm_at, if_neg (fun q_ => j3 q_.2), upm_ne _ _ _ (by decide)]; exact hfr.2 j j1 j2 j3 j4⟩ (by rw [upm_eq, upm_ne _ _ _ (by decide), h36, ec_, nI_succ]) ?_ (by rw [upm_ne _ _ _ (by decide), upm_ne _ _ _ (by decide)]; exact h176a))
             intro j hj_ hmj_
             rw [upm_ne _ _ _ (by decide)]
             by_cases e_ : j = i
             · rw [e_, upm_eq]
             · have := cnt_lt (p := mtR I) (j := i) hmj_ (by omega)
               rw [upm_at, if_neg (fun q_ => by omega)]
               exact hth j (by omega) hmj_)
          | (have hm_ : mtR I i = false := decide_eq_false (fun q_ => q_ c19)
             have ec_ : cntP (mtR I) (i + 1) = cntP (mtR I) i := if_neg (by rw [hm_]; decide)
             refine r_at h [(0, .ref (E.1 151)), (1, .int (nI (i + 1)))] ⟨rfl, rfl, trivial⟩ (ih (i + 1) _ (by omega) (by omega) hfr (by rw [ec_]; exact h36) ?_ h176a)
             intro j hj_ hmj_
             by_cases e_ : j = i
             · rw [e_, hm_] at hmj_
               exact absurd hmj_ (by decide)
             · exact hth j (by omega) hmj_)
        · refine r_aload_n (pc := 22) h dX11_orders_22 rfl ?_
          refine gf_X11_90 (pc := 23) h dX11_orders_23 ?_
          refine r_aload_n (pc := 26) h dX11_orders_26 rfl ?_
          refine gf_X11_277 (pc := 27) h dX11_orders_27 ?_
          refine r_iload_n (pc := 30) h dX11_orders_30 rfl ?_
          refine r_iastL (j := cntP (mtR I) i) (pc := 31) h dX11_orders_31 (by decide) (by decide) (by rw [h36]; exact ecn) (by rw [h36]; exact vinI (n := 5) (by omega) (by omega)) ?_
          refine r_aload_n (pc := 32) h dX11_orders_32 rfl ?_
          refine r_dup (pc := 33) h dX11_orders_33 rfl ?_
          refine gf_X11_277 (pc := 34) h dX11_orders_34 ?_
          refine r_iconst (v := 1) (pc := 37) h dX11_orders_37 (by decide) ?_
          refine r_iadd (pc := 38) h dX11_orders_38 ?_
          refine pf_X11_277 (pc := 39) h dX11_orders_39 ?_
          refine r_iinc (v := 1) (pc := 42) h dX11_orders_42 rfl (by decide) (by decide) ?_
          refine r_goto (pc := 45) h 7 dX11_orders_45 (by decide) ?_
          rw [← nI_succ i]
          first
          | (have hm_ : mtR I i = true := decide_eq_true c19
             have ec_ : cntP (mtR I) (i + 1) = cntP (mtR I) i + 1 := if_pos hm_
             refine r_at h [(0, .ref (E.1 151)), (1, .int (nI (i + 1)))] ⟨rfl, rfl, trivial⟩ (ih (i + 1) _ (by omega) (by omega) ⟨fun a a1 a2 a3 => by rw [upm_ne _ _ _ a1, upm_ne _ _ _ (by omega)]; exact hfr.1 a a1 a2 a3, fun j j1 j2 j3 j4 => by rw [upm_at, if_neg (fun q_ => j3 q_.2), upm_ne _ _ _ (by decide)]; exact hfr.2 j j1 j2 j3 j4⟩ (by rw [upm_eq, upm_ne _ _ _ (by decide), h36, ec_, nI_succ]) ?_ (by rw [upm_ne _ _ _ (by decide), upm_ne _ _ _ (by decide)]; exact h176a))
             intro j hj_ hmj_
             rw [upm_ne _ _ _ (by decide)]
             by_cases e_ : j = i
             · rw [e_, upm_eq]
             · have := cnt_lt (p := mtR I) (j := i) hmj_ (by omega)
               rw [upm_at, if_neg (fun q_ => by omega)]
               exact hth j (by omega) hmj_)
          | (have hm_ : mtR I i = false := decide_eq_false (fun q_ => q_ c19)
             have ec_ : cntP (mtR I) (i + 1) = cntP (mtR I) i := if_neg (by rw [hm_]; decide)
             refine r_at h [(0, .ref (E.1 151)), (1, .int (nI (i + 1)))] ⟨rfl, rfl, trivial⟩ (ih (i + 1) _ (by omega) (by omega) hfr (by rw [ec_]; exact h36) ?_ h176a)
             intro j hj_ hmj_
             by_cases e_ : j = i
             · rw [e_, hm_] at hmj_
               exact absurd hmj_ (by decide)
             · exact hth j (by omega) hmj_)
  exact r_at h [(0, .ref (E.1 151)), (1, .int (nI 0))] ⟨rfl, rfl, trivial⟩ (loop7 6 0 _ (by omega) (by omega) ⟨fun a a1 _ _ => upm_ne _ _ _ a1, fun j _ _ j3 _ => by rw [upm_at, if_neg (fun q_ => j3 q_.2)]⟩ (upm_eq _ _ _ _) (fun j hj_ => absurd hj_ (by omega)) (upm_ne _ _ _ (by decide)))
set_option maxRecDepth 100000 in
set_option maxHeartbeats 1000000 in
theorem c_X11_best (E : En) (I : Mem)  (hc : 0 ≤ (I 151 1).toInt ∧ (I 151 1).toInt ≤ 9) (hmw : ∀ i, i < 5 → (I 172 i).toInt < 8) (hm : manOkR I) (hF : FlOkR I) (hW : RwOk I) (h22 : I 151 22 = 0) : Ctr E yX11_best cX11_best 1 (some .int) 7 [.ref (E.1 151)] I (qI (fun (r : Int32) (I1 : Mem) => r = R_ord I ∧ frO I I1)) := by
  refine Ctr.openI (by decide) (Nat.le_of_ble_eq_true rfl) (fun g h hr => ?_)
  have h : Sem cX11_best RX11 1 (rmL 7) E g := h
  show g I 0 [(0, .ref (E.1 151))] []
  refine r_aload_n (pc := 0) h dX11_best_0 rfl ?_
  refine r_callVI (ci := 11) (pc := 1) h dX11_best_1 wm_X11_293 ca_X11_orders rfl (c_X11_orders E _ hc hmw hm hF hW h22) rfl rfl (Nat.le_of_ble_eq_true rfl) (by decide) (by decide) (by decide) (by decide) (fun r I1 hq => ?_)
  obtain ⟨hq1, hq2, -⟩ := hq
  exact hr _ _ _ _ dX11_best_4 (rfl) (⟨hq1, hq2⟩)
set_option maxRecDepth 100000 in
set_option maxHeartbeats 1000000 in
theorem c_X11_order (E : En) (I : Mem) (i : Int32) (hc : 0 ≤ (I 151 1).toInt ∧ (I 151 1).toInt ≤ 9) (hmw : ∀ i, i < 5 → (I 172 i).toInt < 8) (hm : manOkR I) (hF : FlOkR I) (hW : RwOk I) (h22 : I 151 22 = 0) (hmr : ∀ i, i < 5 → -2 ≤ (I 172 i).toInt) : Ctr E yX11_order cX11_order 4 (some .int) 7 [.ref (E.1 151), .int i] I (qI (fun (r : Int32) (I1 : Mem) => r = R_order I i ∧ frO I I1)) := by
  refine Ctr.openI (by decide) (Nat.le_of_ble_eq_true rfl) (fun g h hr => ?_)
  have h : Sem cX11_order RX11 4 (rmL 7) E g := h
  show g I 0 [(0, .ref (E.1 151)), (1, .int i)] []
  refine r_iload_n (pc := 0) h dX11_order_0 rfl ?_
  refine r_i2l (pc := 1) h dX11_order_1 ?_
  refine r_lconst (v := 0) (pc := 2) h dX11_order_2 (by decide) ?_
  refine r_ldc2 (pc := 3) h dX11_order_3 wc_X11_258 ?_
  refine r_callSI (pc := 6) h dX11_order_6 wm_X11_127 ca_X11_in (c_X11_in E _ _ _ _) rfl rfl (Nat.le_of_ble_eq_true rfl) (by decide) (fun r I1 hq => ?_)
  obtain ⟨rfl, rfl⟩ := hq
  refine r_if_eq (pc := 9) h 23 dX11_order_9 (by decide) (fun c9 => ?_) (fun c9 => ?_)
  · refine r_iconst (v := -1) (pc := 23) h dX11_order_23 (by decide) ?_
    exact hr _ _ _ _ dX11_order_24 (rfl) (⟨by unfold R_order; rw [if_neg (fun q_ => by first | exact q_.2 c20 | (refine (b2i_eq0.mp c9) ?_; have h9_ := q_.1; simpa only [Int32.toInt_toInt64, Int64.reduceToInt] using h9_))], frO_id I⟩)
  · have hi4 : 0 ≤ i.toInt ∧ i.toInt ≤ 4 := by have h9_ := b2i_ne c9; simpa only [Int32.toInt_toInt64, Int64.reduceToInt] using h9_
    refine r_aload_n (pc := 12) h dX11_order_12 rfl ?_
    refine gf_X11_78 (pc := 13) h dX11_order_13 ?_
    refine r_iload_n (pc := 16) h dX11_order_16 rfl ?_
    refine r_iald (pc := 17) h dX11_order_17 (by decide) (by decide) (vin (n := 5) (by omega) (by omega)) ?_
    refine r_bipush (v := -2) (pc := 18) h dX11_order_18 (by decide) ?_
    refine r_icmp_ne (pc := 20) h 25 dX11_order_20 (by decide) (fun c20 => ?_) (fun c20 => ?_)
    · have hi5 : i.toNatClampNeg < 5 := by rw [tn]; omega
      have hmi : mtR I i.toNatClampNeg = true := decide_eq_true (by
        have h9_ := hmr _ hi5
        have h8_ : ¬ (I 172 i.toNatClampNeg).toInt = -2 := fun q_ => c20 (by rw [i32_eq, q_]; decide)
        rw [Int32.lt_iff_toInt_lt, i32_m1]
        omega)
      have hv : (0 ≤ i.toInt ∧ i.toInt ≤ 4) ∧ ¬ I 172 i.toNatClampNeg = -2 := ⟨hi4, c20⟩
      have hM5 : (MR I) ≤ 5 := cntP_le (mtR I) 5
      have hM0 : 0 < (MR I) := Nat.lt_of_le_of_lt (Nat.zero_le _) (cnt_lt (p := mtR I) (j := 5) hmi hi5)
      have hnz : ¬ nI (MR I) = 0 := fun q_ => by
        have := nI_inj (a := (MR I)) (c := 0) (by omega) (by omega) q_
        omega
      refine r_aload_n (pc := 25) h dX11_order_25 rfl ?_
      refine r_callVI (ci := 11) (pc := 26) h dX11_order_26 wm_X11_293 ca_X11_orders rfl (c_X11_orders E _ hc hmw hm hF hW h22) rfl rfl (Nat.le_of_ble_eq_true rfl) (by decide) (by decide) (by decide) (by decide) (fun o_ K_ hq => ?_)
      obtain ⟨hq1, hq2, hq3⟩ := hq
      refine r_istore_n (pc := 29) h dX11_order_29 (by decide) ?_
      refine r_iload_n (pc := 30) h dX11_order_30 rfl ?_
      refine r_if_ge (pc := 31) h 36 dX11_order_31 (by decide) (fun c31 => ?_) (fun c31 => ?_)
      · refine r_iconst (v := 0) (pc := 36) h dX11_order_36 (by decide) ?_
        refine r_istore_n (pc := 37) h dX11_order_37 (by decide) ?_
        have hbg : ¬ nI (cntP (bgR I) (NR I)) < nI (MR I) := fun q_ => by
          unfold R_ord at hq1
          rw [if_neg hnz, if_pos q_] at hq1
          rw [hq1] at c31
          exact absurd c31 (by decide)
        obtain ⟨ho1, ho2⟩ := hq3 hnz hbg
        have hcM : (cntP (mtR I) i.toNatClampNeg) < (MR I) := cnt_lt (p := mtR I) (j := 5) hmi (by omega)
        have loop38 : ∀ (m c : Nat), c ≤ (cntP (mtR I) i.toNatClampNeg) → (cntP (mtR I) i.toNatClampNeg) + 1 ≤ c + m → g K_ 38 [(0, .ref (E.1 151)), (1, .int i), (3, .int (nI c))] [] := by
          intro m
          induction m with
          | zero =>
            intro c h1 h2
            omega
          | succ m ih =>
            intro c hc_ hcm
            have ec := nI_tI (i := c) (by omega)
            refine r_aload_n (pc := 38) h dX11_order_38 rfl ?_
            refine gf_X11_90 (pc := 39) h dX11_order_39 ?_
            refine r_iload_n (pc := 42) h dX11_order_42 rfl ?_
            refine r_ialdL (j := c) (pc := 43) h dX11_order_43 (by decide) (by decide) (nI_tn (by omega)) (vinI (n := 5) (by omega) (by omega)) ?_
            refine r_iload_n (pc := 44) h dX11_order_44 rfl ?_
            refine r_icmp_eq (pc := 45) h 54 dX11_order_45 (by decide) (fun c45 => ?_) (fun c45 => ?_)
            · have hcix : c = (cntP (mtR I) i.toNatClampNeg) := by
                rcases Nat.lt_or_ge c (cntP (mtR I) i.toNatClampNeg) with q_ | q_
                · exfalso
                  obtain ⟨jx, hjx, hjm, hjc⟩ := atx_ex (p := mtR I) (c := c) _ q_
                  rw [← hjc, ho2 jx (by omega) hjm] at c45
                  have e_ := nI_ofx hi4.1
                  rw [← e_] at c45
                  have := nI_inj (by omega) (by omega) c45
                  omega
                · omega
              rw [hcix]
              refine r_aload_n (pc := 54) h dX11_order_54 rfl ?_
              refine gf_X11_99 (pc := 55) h dX11_order_55 ?_
              refine r_iload_n (pc := 58) h dX11_order_58 rfl ?_
              refine r_ialdL (j := cntP (mtR I) i.toNatClampNeg) (pc := 59) h dX11_order_59 (by decide) (by decide) (nI_tn (by omega)) (vinI (n := 5) (by omega) (by omega)) ?_
              exact hr _ _ _ _ dX11_order_60 (rfl) (⟨by unfold R_order; rw [if_pos hv, if_neg hbg]; exact ho1 _ hcM, hq2⟩)
            · refine r_iinc (v := 1) (pc := 48) h dX11_order_48 rfl (by decide) (by decide) ?_
              refine r_goto (pc := 51) h 38 dX11_order_51 (by decide) ?_
              have hltc : c < (cntP (mtR I) i.toNatClampNeg) := by
                rcases Nat.lt_or_ge c (cntP (mtR I) i.toNatClampNeg) with q_ | q_
                · exact q_
                · exfalso
                  apply c45
                  rw [show c = (cntP (mtR I) i.toNatClampNeg) by omega, ho2 _ hi5 hmi]
                  exact nI_ofx (by omega)
              rw [← nI_succ c]
              exact r_at h [(0, .ref (E.1 151)), (1, .int i), (3, .int (nI (c + 1)))] ⟨rfl, rfl, rfl, trivial⟩ (ih (c + 1) (by omega) (by omega))
        exact r_at h [(0, .ref (E.1 151)), (1, .int i), (3, .int (nI 0))] ⟨rfl, rfl, rfl, trivial⟩ (loop38 ((cntP (mtR I) i.toNatClampNeg) + 1) 0 (by omega) (by omega))
      · refine r_iload_n (pc := 34) h dX11_order_34 rfl ?_
        refine hr _ _ _ _ dX11_order_35 rfl ⟨?_, hq2⟩
        have hn9 : (NR I) ≤ 9 := by show (I 151 1).toNatClampNeg ≤ 9; rw [tn]; omega
        unfold R_order
        unfold R_ord at hq1
        rw [if_neg hnz] at hq1
        rw [if_pos hv]
        by_cases hbg : nI (cntP (bgR I) (NR I)) < nI (MR I)
        · rw [if_pos hbg] at hq1 ⊢
          exact hq1
        · exfalso
          rw [if_neg hbg] at hq1
          have hb1 := cntP_le (bgR I) (NR I)
          have hpos : 0 ≤ (zMR I).1 := mV_pos (QR_bd I) (MR I) 0 (fun _ => 0) (bagN (bgR I) (NR I)) 0 (-1, I 176) (bag512 _ hn9) (by
            rw [pc_bag _ _ hn9]
            rw [Int32.lt_iff_toInt_lt, nI_tI (by omega), nI_tI (by omega)] at hbg
            omega) (by omega)
          have hbd : (zMR I).1 ≤ 250 := mV_bd (QR_bd I) (MR I) 0 (fun _ => 0) (bagN (bgR I) (NR I)) 0 (-1, I 176) (by omega) (by show (-1 : Int) ≤ 250; omega)
          apply c31
          rw [hq1, Int32.le_iff_toInt_le, z32, Int32.toInt_ofInt_of_le (by omega) (by omega)]
          exact hpos
    · refine r_iconst (v := -1) (pc := 23) h dX11_order_23 (by decide) ?_
      exact hr _ _ _ _ dX11_order_24 (rfl) (⟨by unfold R_order; rw [if_neg (fun q_ => by first | exact q_.2 c20 | (refine (b2i_eq0.mp c9) ?_; have h9_ := q_.1; simpa only [Int32.toInt_toInt64, Int64.reduceToInt] using h9_))], frO_id I⟩)
