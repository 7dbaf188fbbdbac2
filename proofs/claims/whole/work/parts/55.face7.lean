def sp_X9_stock : ab_S := fun w As σ K => match As with
  | [.ref a, .int s, .int k] => a = 0 ∧ wA w ∧ ∃ A T s' k', RA w σ A ∧ WF T A.1 ∧ s = nI s' ∧ s' < cl (A.1.1 1) ∧ k = nI k' ∧ k' ≤ 4 ∧ K (some (.int (A.1.1 (25 + 11 * s' + k')))) σ
  | _ => False
def sx_X9_stock : ab_SX := fun w As σ K => match As with
  | [.ref a, .int s, .int k] => a = 0 ∧ wA w ∧ ∃ A, RA w σ A ∧ ((¬ vS A.1.1 s ∧ K x_ix σ) ∨ (vS A.1.1 s ∧ ¬ bt2 (nI 0) k (nI 4) ∧ K x_ar σ))
  | _ => False
set_option maxRecDepth 20000 in
set_option maxHeartbeats 4000000 in
theorem ok_X9_stock {l : Launch} (hl : l.stackTraces = false) : ab_OkN l yX9_stock (Cond.code yX9_stock cX9_stock 3 (some .int)) 7 sp_X9_stock := by
  intro w σ As Kn hI h
  unfold sp_X9_stock at h
  split at h
  · next a s k =>
    obtain ⟨rfl, hw, A, T, s, k, hA, hW, rfl, hs, rfl, hk, h⟩ := h
    refine vc_X9_stock hl hI (ok_X9_needStation hl) (ok_X9_within hl) (ok_X9_need hl) (ok_X7_sondesWith hl) (okx_X9_needStation hl) (okx_X9_need hl) (Nat.le_of_ble_eq_true rfl) (fun M h0 => h0 [.ref 0, .int (nI s), .int (nI k)] [] σ ?_)
    have w0 := hw.1
    have hN := hw.2.2.2.1
    have k3 := hN.1
    have k7 := hN.2.1.1
    have hc := hW.cOK
    have hvs : vS A.1.1 (nI s) := ⟨by rw [← nI_0, nI_le' (by omega) (by have := hc.2; omega)]; omega, by rw [hc.1, nI_lt' (by have := hc.2; omega) (by have := hc.2; omega)]; exact hs⟩
    simp (disch := omega) only [bX9_stock_0, sp_X9_needStation, sx_X9_needStation, sp_X9_within, sp_X9_need, sx_X9_need, sp_X7_sondesWith, w0, k3, k7, q_ci, q_cl, q_ild, q_lld, q_ald, q_ist, q_ast, q_lst, q_inc, q_b2, q_d2, q_u1, q_l2, q_ld2, q_lsh, q_lcmp, q_i2l, q_l2i, q_dupi, q_dupr, q_dup2, q_popi, q_popr, q_if1, q_if2, q_nn, q_sw, q_swn, q_swc, q_gf, q_gr, q_pf, q_pz, q_pc, q_ia, q_is, q_cs, q_zs, q_la, q_lw, q_aa, q_al, q_gs, q_acp, q_m2, q_m1, q_ir, q_zr, q_lr, q_ar, q_vr, q_cN0, q_cSX0, q_cV0, q_cVX0, q_cN1, q_cSX1, q_cV1, q_cVX1, q_cN2, q_cSX2, q_cV2, q_cVX2, q_cN3, q_cSX3, q_cV3, q_cVX3, q_cN4, q_cSX4, q_cV4, q_cVX4, q_cN5, q_cSX5, q_cV5, q_cVX5, q_cN6, q_cSX6, q_cV6, q_cVX6, q_th, q_sh0, q_sh1, q_sh2, q_sh3, q_sh4, q_toL0, q_toL1, q_gl0, q_gls, q_sl0, q_sls, q_k10, q_k1s, q_lgi, q_lgr, q_lgl, q_lgn, Bool.not_false, and_true, true_and, nz_2, nz_4, nz_5, nz_8, nz_10, nz_12, nz_14, nz_16, nz_40, nz_41, nz_64, nz_100, nz_1000, nz_1024, nz_4096, nz_10000, nz_100000, not_false_eq_true, bI_0, nI_add, pk_mul, nI_lt', nI_le', nI_eq', nI_z, nI_p, nI_e0, nI_l0, nI_le0, nI_clamp, up_eq, up_ne, not_true_eq_false, Classical.not_not, false_implies, true_implies, false_and, and_false, or_true, true_or, Nat.add_zero, pk_m1, m1_0, m1_n, m1_p, Nat.zero_le, forall_const]
    trace_state
    sorry
  · exact h.elim
set_option maxRecDepth 20000 in
set_option maxHeartbeats 4000000 in
theorem okx_X9_stock {l : Launch} (hl : l.stackTraces = false) : ab_OkX l yX9_stock (Cond.code yX9_stock cX9_stock 3 (some .int)) 7 sx_X9_stock := by
  intro w σ As Kx hI h
  unfold sx_X9_stock at h
  split at h
  · next a s k =>
    obtain ⟨rfl, hw, A, hA, h⟩ := h
    refine vc_X9_stock hl hI (ok_X9_needStation hl) (ok_X9_within hl) (ok_X9_need hl) (ok_X7_sondesWith hl) (okx_X9_needStation hl) (okx_X9_need hl) (Nat.le_of_ble_eq_true rfl) (fun M h0 => h0 [.ref 0, .int s, .int k] [] σ ?_)
    have w0 := hw.1
    have hN := hw.2.2.2.1
    have k3 := hN.1
    have k7 := hN.2.1.1
    simp (disch := omega) only [bX9_stock_0, sp_X9_needStation, sx_X9_needStation, sp_X9_within, sp_X9_need, sx_X9_need, w0, k3, k7, q_ci, q_cl, q_ild, q_lld, q_ald, q_ist, q_ast, q_lst, q_inc, q_b2, q_d2, q_u1, q_l2, q_ld2, q_lsh, q_lcmp, q_i2l, q_l2i, q_dupi, q_dupr, q_dup2, q_popi, q_popr, q_if1, q_if2, q_nn, q_sw, q_swn, q_swc, q_gf, q_gr, q_pf, q_pz, q_pc, q_ia, q_is, q_cs, q_zs, q_la, q_lw, q_aa, q_al, q_gs, q_acp, q_m2, q_m1, q_ir, q_zr, q_lr, q_ar, q_vr, q_cN0, q_cSX0, q_cV0, q_cVX0, q_cN1, q_cSX1, q_cV1, q_cVX1, q_cN2, q_cSX2, q_cV2, q_cVX2, q_cN3, q_cSX3, q_cV3, q_cVX3, q_cN4, q_cSX4, q_cV4, q_cVX4, q_cN5, q_cSX5, q_cV5, q_cVX5, q_cN6, q_cSX6, q_cV6, q_cVX6, q_th, q_sh0, q_sh1, q_sh2, q_sh3, q_sh4, q_toL0, q_toL1, q_gl0, q_gls, q_sl0, q_sls, q_k10, q_k1s, q_lgi, q_lgr, q_lgl, q_lgn, Bool.not_false, and_true, true_and, nz_2, nz_4, nz_5, nz_8, nz_10, nz_12, nz_14, nz_16, nz_40, nz_41, nz_64, nz_100, nz_1000, nz_1024, nz_4096, nz_10000, nz_100000, not_false_eq_true, bI_0, nI_add, pk_mul, nI_lt', nI_le', nI_eq', nI_z, nI_p, nI_e0, nI_l0, nI_le0, nI_clamp, up_eq, up_ne, not_true_eq_false, Classical.not_not, false_implies, true_implies, false_and, and_false, or_true, true_or, Nat.add_zero, pk_m1, m1_0, m1_n, m1_p, Nat.zero_le, forall_const]
    trace_state
    sorry
  · exact h.elim
