theorem upd_self {f : nF} {k : Nat} {x : Int32} (h : x = f k) : upd f k x = f := by
  funext j; unfold upd; split
  · next q => rw [h, q]
  · rfl
theorem WF_more {T : Nat} {n : nT} (h : WF T n) {s g : Nat} (hs : s < 5) (hg : g ≤ 1000) : WF (T + 1) (n_more n s (nI g)) := by
  have en : ∀ i, i ≠ 24 + 11 * s → upd n.1 (24 + 11 * s) (n.1 (24 + 11 * s) + nI g) i = n.1 i := fun i hi => upd_nep hi
  obtain ⟨a1, a2, a3, a4, a5⟩ := h
  refine ⟨(a1.of (en 0 (by omega)) (en 1 (by omega)) (en 2 (by omega)) (en 12 (by omega)) (en 13 (by omega)) (fun s hs => ⟨en _ (by omega), en _ (by omega)⟩) (fun j hj => ⟨en _ (by omega), en _ (by omega), en _ (by omega)⟩)).mono (by omega), ?_, ?_, ?_, ?_⟩
  · intro s' hs'
    unfold n_more at hs' ⊢
    dsimp only at hs' ⊢
    rw [en 1 (by omega)] at hs'
    obtain ⟨g', q1, q2⟩ := a2 s' hs'
    by_cases hss : s' = s
    · subst hss
      rw [upd_eqp rfl, q2, nI_add]
      exact ⟨_, by omega, rfl⟩
    · rw [en _ (by omega)]; exact ⟨g', by omega, q2⟩
  · unfold n_more WFo at *; dsimp only at *; rw [en 0 (by omega), en 1 (by omega)]; exact a3
  · unfold n_more WFb at *; dsimp only at *; rw [en 0 (by omega), en 1 (by omega)]; exact a4
  · unfold n_more WFn at *; dsimp only at *; rw [en 0 (by omega), en 5 (by omega)]; exact a5
theorem lk_max {L z g : Nat} (hL : L < 2 ^ 20) (hz : z ≤ 5) (hg : g < 2 ^ 30) : (if nI L < nI z - (nI g - nI 300) then nI z - (nI g - nI 300) else nI L) = nI (max L (z + 300 - g)) := by
  have e : nI z - (nI g - nI 300) = nI (z + 300) - nI g := by rw [← nI_add]; grind
  rw [e]
  by_cases h : g ≤ z + 300
  · rw [pk_sub h]
    by_cases hq : L < z + 300 - g
    · rw [if_pos ((nI_ltI (by omega) (by omega)).mpr hq), Nat.max_eq_right (by omega)]
    · rw [if_neg (fun q => hq ((nI_ltI (by omega) (by omega)).mp q)), Nat.max_eq_left (by omega)]
  · have := pk_sneg (a := z + 300) (b := g) hg (by omega)
    rw [if_neg (fun q => absurd (Int32.lt_trans q this) (nI_pos (by omega))), Nat.max_eq_left (by omega)]
theorem n_lk_le {n : nT} {T s g : Nat} (h : WFm T 0 (n_arr n)) (hs : s < cl ((n_arr n).1 1)) : n_lk n s g ≤ 5 + g := by
  obtain ⟨z, hz1, hz5, hz⟩ := (h.1.2.2.2.2.2.2.1 s hs).2
  unfold n_lk
  split
  · omega
  · rw [hz, cl_nI (by omega)]; omega
set_option maxRecDepth 20000 in
set_option maxHeartbeats 4000000 in
theorem cb_X9_lacks {l : Launch} (hl : l.stackTraces = false) {w : ab_W} {σ : ab_H} {Kn : Option Value → ab_H → Prop} {Kx : String → ab_H → Prop} (hI : ab_Inj w) (s : Int32) (n : Int32) (h : sbA w σ (c_lacks s n) [x_ix, x_ar] Kn Kx) : ab_Met l yX9_lacks (Cond.code yX9_lacks cX9_lacks 7 (some .int)) 7 1 w σ [.ref 0, .int s, .int n] Kn Kx := by
  obtain ⟨hw, A, T, hA, hW, hT, hn, hx⟩ := h
  obtain ⟨w0, w40, w41, w49, w54, w59, w63, w120, w121, w143, w4⟩ := hw.k
  obtain ⟨e41, e49, e7, e8, e9, e63, e10, e11, e12, e59, e54⟩ := hA.rd
  have hcO := hW.1.cOK
  refine vc_X9_lacks hl hI (ok_X9_needStation hl) (ok_X9_within hl) (ok_X9_need hl) (ok_X3_copyFrom hl) (ok_X7_receive hl) (ok_X3_takeWhatArrives hl) (ok_X3_planOf hl) (ok_X3_releaseAndEndWatch hl) (okx_X9_needStation hl) (okx_X9_need hl) (Nat.le_of_ble_eq_true rfl) (fun M h0 h1 h2 => h0 [.ref 0, .int s, .int n, .null, .null, .null, .null] [] σ ?_)
  have hN := hw.2.2.2.1
  have hN2 := hw.2.2.2.2.2.1
  by_cases hv : vS A.1.1 s
  · obtain ⟨k, hk, hs⟩ : ∃ k, k < cl (A.1.1 1) ∧ s = nI k := ⟨cl s, (ab_ixs hcO hv).2, (ab_ixs hcO hv).1⟩
    subst hs
    have h5 := hcO.2
    by_cases hb : bt2 (nI 1) n (nI 60)
    · obtain ⟨c, hc1, hc6, rfl⟩ := ab_lo (a := 1) (b := 60) (by omega) (by omega) hb.1 hb.2
      have hc : c_lacks (nI k) (nI c) A = (0, nI (n_lack A.1 k 300 c), A) := by unfold c_lacks; rw [if_pos hv, if_pos hb, cl_nI (by omega), cl_nI (by omega)]
      rw [hc] at hn
      have hn := hn rfl
      have vk : vp_in (nI k) 5 := vp_in_nI (by omega) (by omega)
      obtain ⟨k7, g1, g2, g3, g4, g5, g6, g7, l1, l2, l3, l4, l5, l6, l7⟩ := id hN2.2.1
      have hWM := WF_more hW.1 (s := k) (g := 300) (by omega) (by omega)
      have hL : ∀ j, j ≤ 60 → n_lack A.1 k 300 j ≤ 305 ∧ cl ((n_run j (n_more A.1 k (nI 300))).1 1) = cl (A.1.1 1) := by
        intro j
        induction j with
        | zero =>
          intro _
          refine ⟨by show 0 ≤ _; omega, ?_⟩
          show cl (upd _ _ _ 1) = _
          rw [upd_nep (by omega)]
        | succ j ih =>
          intro hj
          obtain ⟨i1, i2⟩ := ih (by omega)
          have hWj := WF_run hWM j (by omega)
          have hWa := WF_arr hWj (by omega)
          have e1 := n_arr_i hWj (i := 1) (by omega)
          refine ⟨?_, ?_⟩
          · have := n_lk_le (g := 300) (s := k) hWa (by rw [e1, i2]; exact hk)
            show max _ _ ≤ _
            omega
          · show cl ((n_watch (n_run j (n_more A.1 k (nI 300)))).1 1) = _
            unfold n_watch n_tick
            dsimp only
            rw [upd_nep (by omega), (n_loop_W hWa (by omega) _ (Nat.le_refl _)).2.1, e1, i2]
      have H : ∀ d j, j + d = c → ∀ σ1 x, RC σ1 120 (n_run j (n_more A.1 k (nI 300))) → Frk 120 29 σ σ1 → M 49 [.ref 0, .int (nI k), .int (nI c), .int (nI 300), .int (nI (n_lack A.1 k 300 j)), .int (nI j), x] [] σ1 := by
        intro d
        induction d with
        | zero =>
          intro j hj σ1 x hR hF
          have hjc : j = c := by omega
          subst hjc
          refine h1 _ _ _ ?_
          simp (disch := omega) only [bX9_lacks_49, q_ci, q_cl, q_ild, q_lld, q_ald, q_ist, q_ast, q_lst, q_inc, q_b2, q_d2, q_u1, q_l2, q_ld2, q_lsh, q_lcmp, q_i2l, q_l2i, q_dupi, q_dupr, q_dup2, q_popi, q_popr, q_if1, q_if2, q_nn, q_sw, q_swn, q_swc, q_gf, q_gr, q_pf, q_pz, q_pc, q_ia, q_is, q_cs, q_zs, q_la, q_lw, q_aa, q_al, q_gs, q_acp, q_m2, q_m1, q_ir, q_zr, q_lr, q_ar, q_vr, q_cN0, q_cSX0, q_cV0, q_cVX0, q_cN1, q_cSX1, q_cV1, q_cVX1, q_cN2, q_cSX2, q_cV2, q_cVX2, q_cN3, q_cSX3, q_cV3, q_cVX3, q_cN4, q_cSX4, q_cV4, q_cVX4, q_cN5, q_cSX5, q_cV5, q_cVX5, q_cN6, q_cSX6, q_cV6, q_cVX6, q_th, q_sh0, q_sh1, q_sh2, q_sh3, q_sh4, q_toL0, q_toL1, q_gl0, q_gls, q_sl0, q_sls, q_k10, q_k1s, q_lgi, q_lgr, q_lgl, q_lgn, Bool.not_false, and_true, true_and, nz_2, nz_4, nz_5, nz_8, nz_10, nz_12, nz_14, nz_16, nz_40, nz_41, nz_64, nz_100, nz_1000, nz_1024, nz_4096, nz_10000, nz_100000, not_false_eq_true, bI_0, nI_add, pk_mul, nI_lt', nI_le', nI_eq', nI_z, nI_p, nI_e0, nI_l0, nI_le0, nI_clamp, up_eq, up_ne, not_true_eq_false, Classical.not_not, false_implies, true_implies, false_and, and_false, or_true, true_or, Nat.add_zero, pk_m1, m1_0, m1_n, m1_p, Nat.zero_le, forall_const, Nat.zero_add, Nat.reduceAdd, Nat.reduceEqDiff, or_false, false_or, Nat.one_ne_zero]
          exact ⟨fun _ => hn σ1 (hA.tri hF) (FrA.tri hF), fun q => absurd (Nat.le_refl _) q⟩
        | succ d ih =>
          intro j hj σ1 x hR hF
          refine h1 _ _ _ ?_
          obtain ⟨i1, i2⟩ := hL j (by omega)
          have hWj := WF_run hWM j (by omega)
          have hWa := WF_arr hWj (by omega)
          have e1 := n_arr_i hWj (i := 1) (by omega)
          have hk1 : k < cl ((n_arr (n_run j (n_more A.1 k (nI 300)))).1 1) := by rw [e1, i2]; exact hk
          have hst : n_lack A.1 k 300 (j + 1) = max (n_lack A.1 k 300 j) (n_lk (n_run j (n_more A.1 k (nI 300))) k 300) := rfl
          generalize n_lack A.1 k 300 j = L at *
          have ih := ih (j + 1) (by omega)
          rw [hst] at ih
          have h111 : ∀ σ2 x, RC σ2 120 (n_arr (n_run j (n_more A.1 k (nI 300)))) → Frk 120 29 σ1 σ2 → M 111 [.ref 0, .int (nI k), .int (nI c), .int (nI 300), .int (nI (max L (n_lk (n_run j (n_more A.1 k (nI 300))) k 300))), .int (nI j), x] [] σ2 := by
            intro σ2 x a1 a2
            refine h2 _ _ _ ?_
            simp (disch := omega) only [bX9_lacks_111, sp_X3_releaseAndEndWatch, w0, w120, hN2, q_ci, q_cl, q_ild, q_lld, q_ald, q_ist, q_ast, q_lst, q_inc, q_b2, q_d2, q_u1, q_l2, q_ld2, q_lsh, q_lcmp, q_i2l, q_l2i, q_dupi, q_dupr, q_dup2, q_popi, q_popr, q_if1, q_if2, q_nn, q_sw, q_swn, q_swc, q_gf, q_gr, q_pf, q_pz, q_pc, q_ia, q_is, q_cs, q_zs, q_la, q_lw, q_aa, q_al, q_gs, q_acp, q_m2, q_m1, q_ir, q_zr, q_lr, q_ar, q_vr, q_cN0, q_cSX0, q_cV0, q_cVX0, q_cN1, q_cSX1, q_cV1, q_cVX1, q_cN2, q_cSX2, q_cV2, q_cVX2, q_cN3, q_cSX3, q_cV3, q_cVX3, q_cN4, q_cSX4, q_cV4, q_cVX4, q_cN5, q_cSX5, q_cV5, q_cVX5, q_cN6, q_cSX6, q_cV6, q_cVX6, q_th, q_sh0, q_sh1, q_sh2, q_sh3, q_sh4, q_toL0, q_toL1, q_gl0, q_gls, q_sl0, q_sls, q_k10, q_k1s, q_lgi, q_lgr, q_lgl, q_lgn, Bool.not_false, and_true, true_and, nz_2, nz_4, nz_5, nz_8, nz_10, nz_12, nz_14, nz_16, nz_40, nz_41, nz_64, nz_100, nz_1000, nz_1024, nz_4096, nz_10000, nz_100000, not_false_eq_true, bI_0, nI_add, pk_mul, nI_lt', nI_le', nI_eq', nI_z, nI_p, nI_e0, nI_l0, nI_le0, nI_clamp, up_eq, up_ne, not_true_eq_false, Classical.not_not, false_implies, true_implies, false_and, and_false, or_true, true_or, Nat.add_zero, pk_m1, m1_0, m1_n, m1_p, Nat.zero_le, forall_const, Nat.zero_add, Nat.reduceAdd, Nat.reduceEqDiff, or_false, false_or, Nat.one_ne_zero]
            exact ⟨T + 1 + j, _, a1, hWa, by omega, fun σ3 b1 b2 => ih σ3 x b1 ((hF.trans a2).trans b2)⟩
          generalize n_run j (n_more A.1 k (nI 300)) = m at *
          simp (disch := omega) only [bX9_lacks_49, sp_X3_takeWhatArrives, sp_X3_planOf, w0, w120, w121, hN2, g3, g4, l3, l4, q_ci, q_cl, q_ild, q_lld, q_ald, q_ist, q_ast, q_lst, q_inc, q_b2, q_d2, q_u1, q_l2, q_ld2, q_lsh, q_lcmp, q_i2l, q_l2i, q_dupi, q_dupr, q_dup2, q_popi, q_popr, q_if1, q_if2, q_nn, q_sw, q_swn, q_swc, q_gf, q_gr, q_pf, q_pz, q_pc, q_ia, q_is, q_cs, q_zs, q_la, q_lw, q_aa, q_al, q_gs, q_acp, q_m2, q_m1, q_ir, q_zr, q_lr, q_ar, q_vr, q_cN0, q_cSX0, q_cV0, q_cVX0, q_cN1, q_cSX1, q_cV1, q_cVX1, q_cN2, q_cSX2, q_cV2, q_cVX2, q_cN3, q_cSX3, q_cV3, q_cVX3, q_cN4, q_cSX4, q_cV4, q_cVX4, q_cN5, q_cSX5, q_cV5, q_cVX5, q_cN6, q_cSX6, q_cV6, q_cVX6, q_th, q_sh0, q_sh1, q_sh2, q_sh3, q_sh4, q_toL0, q_toL1, q_gl0, q_gls, q_sl0, q_sls, q_k10, q_k1s, q_lgi, q_lgr, q_lgl, q_lgn, Bool.not_false, and_true, true_and, nz_2, nz_4, nz_5, nz_8, nz_10, nz_12, nz_14, nz_16, nz_40, nz_41, nz_64, nz_100, nz_1000, nz_1024, nz_4096, nz_10000, nz_100000, not_false_eq_true, bI_0, nI_add, pk_mul, nI_lt', nI_le', nI_eq', nI_z, nI_p, nI_e0, nI_l0, nI_le0, nI_clamp, up_eq, up_ne, not_true_eq_false, Classical.not_not, false_implies, true_implies, false_and, and_false, or_true, true_or, Nat.add_zero, pk_m1, m1_0, m1_n, m1_p, Nat.zero_le, forall_const, Nat.zero_add, Nat.reduceAdd, Nat.reduceEqDiff, or_false, false_or, Nat.one_ne_zero]
          refine ⟨fun q => absurd q (by omega), fun _ => ⟨T + 1 + j, m, hR, hWj, by omega, fun σ2 a1 a2 => ⟨T + 1 + j, 0, n_arr m, k, a1, hWa, rfl, hk1, by omega, ?_⟩⟩⟩
          have hd := @n_deed_lt (n_arr m).1 k
          rw [nI_e0 (by omega)]
          refine ⟨fun q => ?_, fun q => ⟨vk, vk, ?_⟩⟩
          · have := h111 σ2 x a1 a2
            rw [show n_lk m k 300 = 0 from if_pos q, Nat.max_eq_left (by omega)] at this
            exact this
          · obtain ⟨s1, s2, s3, s4, -⟩ := a1.2.1.2.1 k hk1
            obtain ⟨z, hz1, hz5, hz⟩ := (hWa.1.2.2.2.2.2.2.1 k hk1).2
            obtain ⟨g, hg1, hg⟩ := hWa.2.1 k hk1
            have z4 : σ2 125 k = nI g := s4.trans hg
            have z3 : σ2 124 k = nI z := s3.trans hz
            rw [z4, z3, lk_max (by omega) hz5 (by omega)]
            have elk : n_lk m k 300 = z + 300 - g := by unfold n_lk; rw [if_neg q, hz, hg, cl_nI (by omega), cl_nI (by omega)]
            rw [elk] at h111
            exact h111 σ2 _ a1 a2
      simp (disch := omega) only [bX9_lacks_0, sp_X9_needStation, sx_X9_needStation, sp_X9_within, sp_X9_need, sx_X9_need, sp_X3_copyFrom, sp_X7_receive, w0, w40, w41, w120, w121, hN, hN2, q_ci, q_cl, q_ild, q_lld, q_ald, q_ist, q_ast, q_lst, q_inc, q_b2, q_d2, q_u1, q_l2, q_ld2, q_lsh, q_lcmp, q_i2l, q_l2i, q_dupi, q_dupr, q_dup2, q_popi, q_popr, q_if1, q_if2, q_nn, q_sw, q_swn, q_swc, q_gf, q_gr, q_pf, q_pz, q_pc, q_ia, q_is, q_cs, q_zs, q_la, q_lw, q_aa, q_al, q_gs, q_acp, q_m2, q_m1, q_ir, q_zr, q_lr, q_ar, q_vr, q_cN0, q_cSX0, q_cV0, q_cVX0, q_cN1, q_cSX1, q_cV1, q_cVX1, q_cN2, q_cSX2, q_cV2, q_cVX2, q_cN3, q_cSX3, q_cV3, q_cVX3, q_cN4, q_cSX4, q_cV4, q_cVX4, q_cN5, q_cSX5, q_cV5, q_cVX5, q_cN6, q_cSX6, q_cV6, q_cVX6, q_th, q_sh0, q_sh1, q_sh2, q_sh3, q_sh4, q_toL0, q_toL1, q_gl0, q_gls, q_sl0, q_sls, q_k10, q_k1s, q_lgi, q_lgr, q_lgl, q_lgn, Bool.not_false, and_true, true_and, nz_2, nz_4, nz_5, nz_8, nz_10, nz_12, nz_14, nz_16, nz_40, nz_41, nz_64, nz_100, nz_1000, nz_1024, nz_4096, nz_10000, nz_100000, not_false_eq_true, bI_0, nI_add, pk_mul, nI_lt', nI_le', nI_eq', nI_z, nI_p, nI_e0, nI_l0, nI_le0, nI_clamp, up_eq, up_ne, not_true_eq_false, Classical.not_not, false_implies, true_implies, false_and, and_false, or_true, true_or, Nat.add_zero, pk_m1, m1_0, m1_n, m1_p, Nat.zero_le, forall_const, Nat.zero_add, Nat.reduceAdd, Nat.reduceEqDiff, or_false, false_or, Nat.one_ne_zero]
      refine Or.inl ⟨A.1.1, e41, hv, Or.inl ⟨⟨hc1, hc6⟩, by unfold apt; omega, fun σ1 a1 a2 => ?_⟩⟩
      have hR1 := a1 T A.1 hW.1 hA.2.1
      have ec : σ1 121 0 = nI (cl (A.1.1 1)) := hR1.2.1.1.trans hcO.1
      refine ⟨hN2.2.1, k, cl (A.1.1 1), ⟨rfl, ec, hk, h5⟩, ?_⟩
      have hS := hR1.2.1.recv hk (nI 300) (nI 0)
      rw [upd_self (by rw [upd_nep (by omega), nI_0, Int32.add_zero])] at hS
      have hR2 := hR1.S (f := (n_more A.1 k (nI 300)).1) hS (fun v hv => by simp (disch := omega) only [up_ne]) (fun i hi => upd_nep (by omega))
      refine H c 0 (by omega) _ _ hR2 (fun v hv => by simp (disch := omega) only [up_ne]; exact a2 v hv)
    · have hc : c_lacks (nI k) n A = (2, 0, A) := by unfold c_lacks; rw [if_pos hv, if_neg hb]
      have hx := hx 1 x_ar (by rw [hc]) rfl σ hA FrA.refl
      simp (disch := omega) only [bX9_lacks_0, sp_X9_needStation, sx_X9_needStation, sp_X9_within, sp_X9_need, sx_X9_need, w0, w40, w41, hN, q_ci, q_cl, q_ild, q_lld, q_ald, q_ist, q_ast, q_lst, q_inc, q_b2, q_d2, q_u1, q_l2, q_ld2, q_lsh, q_lcmp, q_i2l, q_l2i, q_dupi, q_dupr, q_dup2, q_popi, q_popr, q_if1, q_if2, q_nn, q_sw, q_swn, q_swc, q_gf, q_gr, q_pf, q_pz, q_pc, q_ia, q_is, q_cs, q_zs, q_la, q_lw, q_aa, q_al, q_gs, q_acp, q_m2, q_m1, q_ir, q_zr, q_lr, q_ar, q_vr, q_cN0, q_cSX0, q_cV0, q_cVX0, q_cN1, q_cSX1, q_cV1, q_cVX1, q_cN2, q_cSX2, q_cV2, q_cVX2, q_cN3, q_cSX3, q_cV3, q_cVX3, q_cN4, q_cSX4, q_cV4, q_cVX4, q_cN5, q_cSX5, q_cV5, q_cVX5, q_cN6, q_cSX6, q_cV6, q_cVX6, q_th, q_sh0, q_sh1, q_sh2, q_sh3, q_sh4, q_toL0, q_toL1, q_gl0, q_gls, q_sl0, q_sls, q_k10, q_k1s, q_lgi, q_lgr, q_lgl, q_lgn, Bool.not_false, and_true, true_and, nz_2, nz_4, nz_5, nz_8, nz_10, nz_12, nz_14, nz_16, nz_40, nz_41, nz_64, nz_100, nz_1000, nz_1024, nz_4096, nz_10000, nz_100000, not_false_eq_true, bI_0, nI_add, pk_mul, nI_lt', nI_le', nI_eq', nI_z, nI_p, nI_e0, nI_l0, nI_le0, nI_clamp, up_eq, up_ne, not_true_eq_false, Classical.not_not, false_implies, true_implies, false_and, and_false, or_true, true_or, Nat.add_zero, pk_m1, m1_0, m1_n, m1_p, Nat.zero_le, forall_const, Nat.zero_add, Nat.reduceAdd, Nat.reduceEqDiff, or_false, false_or, Nat.one_ne_zero]
      exact Or.inl ⟨A.1.1, e41, hv, Or.inr ⟨hb, hx⟩⟩
  · have hc : c_lacks s n A = (1, 0, A) := if_neg hv
    have hx := hx 0 x_ix (by rw [hc]) rfl σ hA FrA.refl
    simp (disch := omega) only [bX9_lacks_0, sp_X9_needStation, sx_X9_needStation, sp_X9_within, sp_X9_need, sx_X9_need, w0, w40, w41, hN, q_ci, q_cl, q_ild, q_lld, q_ald, q_ist, q_ast, q_lst, q_inc, q_b2, q_d2, q_u1, q_l2, q_ld2, q_lsh, q_lcmp, q_i2l, q_l2i, q_dupi, q_dupr, q_dup2, q_popi, q_popr, q_if1, q_if2, q_nn, q_sw, q_swn, q_swc, q_gf, q_gr, q_pf, q_pz, q_pc, q_ia, q_is, q_cs, q_zs, q_la, q_lw, q_aa, q_al, q_gs, q_acp, q_m2, q_m1, q_ir, q_zr, q_lr, q_ar, q_vr, q_cN0, q_cSX0, q_cV0, q_cVX0, q_cN1, q_cSX1, q_cV1, q_cVX1, q_cN2, q_cSX2, q_cV2, q_cVX2, q_cN3, q_cSX3, q_cV3, q_cVX3, q_cN4, q_cSX4, q_cV4, q_cVX4, q_cN5, q_cSX5, q_cV5, q_cVX5, q_cN6, q_cSX6, q_cV6, q_cVX6, q_th, q_sh0, q_sh1, q_sh2, q_sh3, q_sh4, q_toL0, q_toL1, q_gl0, q_gls, q_sl0, q_sls, q_k10, q_k1s, q_lgi, q_lgr, q_lgl, q_lgn, Bool.not_false, and_true, true_and, nz_2, nz_4, nz_5, nz_8, nz_10, nz_12, nz_14, nz_16, nz_40, nz_41, nz_64, nz_100, nz_1000, nz_1024, nz_4096, nz_10000, nz_100000, not_false_eq_true, bI_0, nI_add, pk_mul, nI_lt', nI_le', nI_eq', nI_z, nI_p, nI_e0, nI_l0, nI_le0, nI_clamp, up_eq, up_ne, not_true_eq_false, Classical.not_not, false_implies, true_implies, false_and, and_false, or_true, true_or, Nat.add_zero, pk_m1, m1_0, m1_n, m1_p, Nat.zero_le, forall_const, Nat.zero_add, Nat.reduceAdd, Nat.reduceEqDiff, or_false, false_or, Nat.one_ne_zero]
    exact Or.inr ⟨A.1.1, e41, hv, hx⟩
