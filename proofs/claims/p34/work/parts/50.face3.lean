def sp_X9_beginAction : ab_S := fun w As σ K => match As with
  | [.ref a, .int r] => a = 0 ∧ ab_kd w 0 = 9 ∧ wM w ∧ wN w 40 ∧ r = 0 ∧ ∃ ms T n, RH σ ms ∧ RC σ 40 n ∧ WF T n ∧ ∀ σ', RH σ' (n_keep ms n) → FrM σ σ' → K none σ'
  | _ => False
def sx_X9_beginAction : ab_SX := fun _ As σ K => match As with
  | [.ref a, .int b] => a = 0 ∧ ((b = nI 1 ∧ K x_ix σ) ∨ (b = nI 2 ∧ K x_ar σ) ∨ (b = nI 3 ∧ K x_st σ))
  | _ => False
set_option maxRecDepth 20000 in
set_option maxHeartbeats 4000000 in
theorem ok_X9_beginAction {l : Launch} (hl : l.stackTraces = false) : ab_OkN l yX9_beginAction (Cond.code yX9_beginAction cX9_beginAction 2 none) 7 sp_X9_beginAction := by
  intro w σ As Kn hI h
  unfold sp_X9_beginAction at h
  split at h
  · next a r =>
    obtain ⟨rfl, w0, hM, hN, rfl, ms, T, n, hH, hR, hW, h⟩ := h
    refine vc_X9_beginAction hl hI (ok_X9_throwFor hl) (ok_X2_remember hl) (okx_X9_throwFor hl) (Nat.le_of_ble_eq_true rfl) (fun M h0 => h0 [.ref 0, .int 0] [] σ ?_)
    have k2 := hM.1
    simp (disch := omega) only [bX9_beginAction_0, sp_X9_throwFor, sp_X2_remember, w0, k2, q_ci, q_cl, q_ild, q_lld, q_ald, q_ist, q_ast, q_lst, q_inc, q_b2, q_d2, q_u1, q_l2, q_ld2, q_lsh, q_lcmp, q_i2l, q_l2i, q_dupi, q_dupr, q_dup2, q_popi, q_popr, q_if1, q_if2, q_nn, q_sw, q_swn, q_swc, q_gf, q_gr, q_pf, q_pz, q_pc, q_ia, q_is, q_cs, q_zs, q_la, q_lw, q_aa, q_al, q_gs, q_acp, q_m2, q_m1, q_ir, q_zr, q_lr, q_ar, q_vr, q_cN0, q_cSX0, q_cV0, q_cVX0, q_cN1, q_cSX1, q_cV1, q_cVX1, q_cN2, q_cSX2, q_cV2, q_cVX2, q_cN3, q_cSX3, q_cV3, q_cVX3, q_cN4, q_cSX4, q_cV4, q_cVX4, q_cN5, q_cSX5, q_cV5, q_cVX5, q_cN6, q_cSX6, q_cV6, q_cVX6, q_th, q_sh0, q_sh1, q_sh2, q_sh3, q_sh4, q_toL0, q_toL1, q_gl0, q_gls, q_sl0, q_sls, q_k10, q_k1s, q_lgi, q_lgr, q_lgl, q_lgn, Bool.not_false, and_true, true_and, nz_2, nz_4, nz_5, nz_8, nz_10, nz_12, nz_14, nz_16, nz_40, nz_41, nz_64, nz_100, nz_1000, nz_1024, nz_4096, nz_10000, nz_100000, not_false_eq_true, bI_0, nI_add, pk_mul, nI_lt', nI_le', nI_eq', nI_z, nI_p, nI_e0, nI_l0, nI_le0, nI_clamp, up_eq, up_ne, not_true_eq_false, Classical.not_not, false_implies, true_implies, false_and, and_false, or_true, true_or, Nat.add_zero, pk_m1, m1_0, m1_n, m1_p, Nat.zero_le, forall_const]
    exact Or.inl ⟨hM, hN, Or.inl ⟨by omega, by omega⟩, ms, T, n, hH, hR, hW, h⟩
  · exact h.elim
set_option maxRecDepth 20000 in
set_option maxHeartbeats 4000000 in
theorem okx_X9_beginAction {l : Launch} (hl : l.stackTraces = false) : ab_OkX l yX9_beginAction (Cond.code yX9_beginAction cX9_beginAction 2 none) 7 sx_X9_beginAction := by
  intro w σ As Kx hI h
  unfold sx_X9_beginAction at h
  split at h
  · next a r =>
    obtain ⟨rfl, h⟩ := h
    refine vc_X9_beginAction hl hI (ok_X9_throwFor hl) (ok_X2_remember hl) (okx_X9_throwFor hl) (Nat.le_of_ble_eq_true rfl) (fun M h0 => h0 [.ref 0, .int r] [] σ ?_)
    simp (disch := omega) only [bX9_beginAction_0, sx_X9_throwFor, q_ci, q_cl, q_ild, q_lld, q_ald, q_ist, q_ast, q_lst, q_inc, q_b2, q_d2, q_u1, q_l2, q_ld2, q_lsh, q_lcmp, q_i2l, q_l2i, q_dupi, q_dupr, q_dup2, q_popi, q_popr, q_if1, q_if2, q_nn, q_sw, q_swn, q_swc, q_gf, q_gr, q_pf, q_pz, q_pc, q_ia, q_is, q_cs, q_zs, q_la, q_lw, q_aa, q_al, q_gs, q_acp, q_m2, q_m1, q_ir, q_zr, q_lr, q_ar, q_vr, q_cN0, q_cSX0, q_cV0, q_cVX0, q_cN1, q_cSX1, q_cV1, q_cVX1, q_cN2, q_cSX2, q_cV2, q_cVX2, q_cN3, q_cSX3, q_cV3, q_cVX3, q_cN4, q_cSX4, q_cV4, q_cVX4, q_cN5, q_cSX5, q_cV5, q_cVX5, q_cN6, q_cSX6, q_cV6, q_cVX6, q_th, q_sh0, q_sh1, q_sh2, q_sh3, q_sh4, q_toL0, q_toL1, q_gl0, q_gls, q_sl0, q_sls, q_k10, q_k1s, q_lgi, q_lgr, q_lgl, q_lgn, Bool.not_false, and_true, true_and, nz_2, nz_4, nz_5, nz_8, nz_10, nz_12, nz_14, nz_16, nz_40, nz_41, nz_64, nz_100, nz_1000, nz_1024, nz_4096, nz_10000, nz_100000, not_false_eq_true, bI_0, nI_add, pk_mul, nI_lt', nI_le', nI_eq', nI_z, nI_p, nI_e0, nI_l0, nI_le0, nI_clamp, up_eq, up_ne, not_true_eq_false, Classical.not_not, false_implies, true_implies, false_and, and_false, or_true, true_or, Nat.add_zero, pk_m1, m1_0, m1_n, m1_p, Nat.zero_le, forall_const]
    exact Or.inr h
  · exact h.elim
