def sp_X9_windOf : ab_S := fun w As σ K => match As with
  | [.ref a, .int h] => a = 0 ∧ wA w ∧ ∃ A k, RA w σ A ∧ h = nI k ∧ k ≤ 3 ∧ K (some (.int (nI 100 + A.1.1 (17 + k)))) σ
  | _ => False
def sx_X9_windOf : ab_SX := fun _ As σ K => match As with
  | [.ref a, .int h] => a = 0 ∧ ¬ bt2 (nI 0) h (nI 3) ∧ K x_ar σ
  | _ => False
def sp_X9_setting : ab_S := fun w As σ K => match As with
  | [.ref a, .int h] => a = 0 ∧ wA w ∧ ∃ A k, RA w σ A ∧ h = nI k ∧ k ≤ 4 ∧ K (some (.int (A.1.1 (12 + k)))) σ
  | _ => False
def sx_X9_setting : ab_SX := fun _ As σ K => match As with
  | [.ref a, .int h] => a = 0 ∧ ¬ bt2 (nI 0) h (nI 4) ∧ K x_ar σ
  | _ => False
set_option maxRecDepth 20000 in
set_option maxHeartbeats 4000000 in
theorem ok_X9_windOf {l : Launch} (hl : l.stackTraces = false) : ab_OkN l yX9_windOf (Cond.code yX9_windOf cX9_windOf 2 (some .int)) 7 sp_X9_windOf := by
  intro w σ As Kn hI h
  unfold sp_X9_windOf at h
  split at h
  · next a h' =>
    obtain ⟨rfl, hw, A, k, hA, rfl, hk, h⟩ := h
    refine vc_X9_windOf hl hI (ok_X9_within hl) (ok_X9_need hl) (okx_X9_need hl) (Nat.le_of_ble_eq_true rfl) (fun M h0 => h0 [.ref 0, .int (nI k)] [] σ ?_)
    have w0 := hw.1
    have hN := hw.2.2.2.1
    have k3 := hN.1
    have k11 := hN.2.2.2.2.2.2.1
    have kl := hN.2.2.2.2.2.2.2.1
    have vp : vp_in (nI k) 4 := vp_in_nI (by omega) (by omega)
    have e := hA.2.1.2.2.2.2.2.2.1 k (by omega)
    have hb : nI 0 ≤ nI k ∧ nI k ≤ nI 3 := by rw [nI_le' (by omega) (by omega), nI_le' (by omega) (by omega)]; omega
    simp (disch := omega) only [bX9_windOf_0, sp_X9_within, sp_X9_need, sx_X9_need, w0, k3, k11, kl, e, q_ci, q_cl, q_ild, q_lld, q_ald, q_ist, q_ast, q_lst, q_inc, q_b2, q_d2, q_u1, q_l2, q_ld2, q_lsh, q_lcmp, q_i2l, q_l2i, q_dupi, q_dupr, q_dup2, q_popi, q_popr, q_if1, q_if2, q_nn, q_sw, q_swn, q_swc, q_gf, q_gr, q_pf, q_pz, q_pc, q_ia, q_is, q_cs, q_zs, q_la, q_lw, q_aa, q_al, q_gs, q_acp, q_m2, q_m1, q_ir, q_zr, q_lr, q_ar, q_vr, q_cN0, q_cSX0, q_cV0, q_cVX0, q_cN1, q_cSX1, q_cV1, q_cVX1, q_cN2, q_cSX2, q_cV2, q_cVX2, q_cN3, q_cSX3, q_cV3, q_cVX3, q_cN4, q_cSX4, q_cV4, q_cVX4, q_cN5, q_cSX5, q_cV5, q_cVX5, q_cN6, q_cSX6, q_cV6, q_cVX6, q_th, q_sh0, q_sh1, q_sh2, q_sh3, q_sh4, q_toL0, q_toL1, q_gl0, q_gls, q_sl0, q_sls, q_k10, q_k1s, q_lgi, q_lgr, q_lgl, q_lgn, Bool.not_false, and_true, true_and, nz_2, nz_4, nz_5, nz_8, nz_10, nz_12, nz_14, nz_16, nz_40, nz_41, nz_64, nz_100, nz_1000, nz_1024, nz_4096, nz_10000, nz_100000, not_false_eq_true, bI_0, nI_add, pk_mul, nI_lt', nI_le', nI_eq', nI_z, nI_p, nI_e0, nI_l0, nI_le0, nI_clamp, up_eq, up_ne, not_true_eq_false, Classical.not_not, false_implies, true_implies, false_and, and_false, or_true, true_or, Nat.add_zero, pk_m1, m1_0, m1_n, m1_p, Nat.zero_le, forall_const]
    exact Or.inl ⟨hk, vp, h⟩
  · exact h.elim
set_option maxRecDepth 20000 in
set_option maxHeartbeats 4000000 in
theorem okx_X9_windOf {l : Launch} (hl : l.stackTraces = false) : ab_OkX l yX9_windOf (Cond.code yX9_windOf cX9_windOf 2 (some .int)) 7 sx_X9_windOf := by
  intro w σ As Kx hI h
  unfold sx_X9_windOf at h
  split at h
  · next a h' =>
    obtain ⟨rfl, hb, h⟩ := h
    refine vc_X9_windOf hl hI (ok_X9_within hl) (ok_X9_need hl) (okx_X9_need hl) (Nat.le_of_ble_eq_true rfl) (fun M h0 => h0 [.ref 0, .int h'] [] σ ?_)
    simp (disch := omega) only [bX9_windOf_0, sp_X9_within, sp_X9_need, sx_X9_need, q_ci, q_cl, q_ild, q_lld, q_ald, q_ist, q_ast, q_lst, q_inc, q_b2, q_d2, q_u1, q_l2, q_ld2, q_lsh, q_lcmp, q_i2l, q_l2i, q_dupi, q_dupr, q_dup2, q_popi, q_popr, q_if1, q_if2, q_nn, q_sw, q_swn, q_swc, q_gf, q_gr, q_pf, q_pz, q_pc, q_ia, q_is, q_cs, q_zs, q_la, q_lw, q_aa, q_al, q_gs, q_acp, q_m2, q_m1, q_ir, q_zr, q_lr, q_ar, q_vr, q_cN0, q_cSX0, q_cV0, q_cVX0, q_cN1, q_cSX1, q_cV1, q_cVX1, q_cN2, q_cSX2, q_cV2, q_cVX2, q_cN3, q_cSX3, q_cV3, q_cVX3, q_cN4, q_cSX4, q_cV4, q_cVX4, q_cN5, q_cSX5, q_cV5, q_cVX5, q_cN6, q_cSX6, q_cV6, q_cVX6, q_th, q_sh0, q_sh1, q_sh2, q_sh3, q_sh4, q_toL0, q_toL1, q_gl0, q_gls, q_sl0, q_sls, q_k10, q_k1s, q_lgi, q_lgr, q_lgl, q_lgn, Bool.not_false, and_true, true_and, nz_2, nz_4, nz_5, nz_8, nz_10, nz_12, nz_14, nz_16, nz_40, nz_41, nz_64, nz_100, nz_1000, nz_1024, nz_4096, nz_10000, nz_100000, not_false_eq_true, bI_0, nI_add, pk_mul, nI_lt', nI_le', nI_eq', nI_z, nI_p, nI_e0, nI_l0, nI_le0, nI_clamp, up_eq, up_ne, not_true_eq_false, Classical.not_not, false_implies, true_implies, false_and, and_false, or_true, true_or, Nat.add_zero, pk_m1, m1_0, m1_n, m1_p, Nat.zero_le, forall_const]
    exact Or.inr ⟨hb, h⟩
  · exact h.elim
set_option maxRecDepth 20000 in
set_option maxHeartbeats 4000000 in
theorem ok_X9_setting {l : Launch} (hl : l.stackTraces = false) : ab_OkN l yX9_setting (Cond.code yX9_setting cX9_setting 2 (some .int)) 7 sp_X9_setting := by
  intro w σ As Kn hI h
  unfold sp_X9_setting at h
  split at h
  · next a h' =>
    obtain ⟨rfl, hw, A, k, hA, rfl, hk, h⟩ := h
    refine vc_X9_setting hl hI (ok_X9_within hl) (ok_X9_need hl) (okx_X9_need hl) (Nat.le_of_ble_eq_true rfl) (fun M h0 => h0 [.ref 0, .int (nI k)] [] σ ?_)
    have w0 := hw.1
    have hN := hw.2.2.2.1
    have k3 := hN.1
    have k11 := hN.2.2.2.2.2.2.2.2.1
    have kl := hN.2.2.2.2.2.2.2.2.2
    have vp : vp_in (nI k) 5 := vp_in_nI (by omega) (by omega)
    have e := hA.2.1.2.2.2.2.2.2.2 k (by omega)
    have hb : nI 0 ≤ nI k ∧ nI k ≤ nI 4 := by rw [nI_le' (by omega) (by omega), nI_le' (by omega) (by omega)]; omega
    simp (disch := omega) only [bX9_setting_0, sp_X9_within, sp_X9_need, sx_X9_need, w0, k3, k11, kl, e, q_ci, q_cl, q_ild, q_lld, q_ald, q_ist, q_ast, q_lst, q_inc, q_b2, q_d2, q_u1, q_l2, q_ld2, q_lsh, q_lcmp, q_i2l, q_l2i, q_dupi, q_dupr, q_dup2, q_popi, q_popr, q_if1, q_if2, q_nn, q_sw, q_swn, q_swc, q_gf, q_gr, q_pf, q_pz, q_pc, q_ia, q_is, q_cs, q_zs, q_la, q_lw, q_aa, q_al, q_gs, q_acp, q_m2, q_m1, q_ir, q_zr, q_lr, q_ar, q_vr, q_cN0, q_cSX0, q_cV0, q_cVX0, q_cN1, q_cSX1, q_cV1, q_cVX1, q_cN2, q_cSX2, q_cV2, q_cVX2, q_cN3, q_cSX3, q_cV3, q_cVX3, q_cN4, q_cSX4, q_cV4, q_cVX4, q_cN5, q_cSX5, q_cV5, q_cVX5, q_cN6, q_cSX6, q_cV6, q_cVX6, q_th, q_sh0, q_sh1, q_sh2, q_sh3, q_sh4, q_toL0, q_toL1, q_gl0, q_gls, q_sl0, q_sls, q_k10, q_k1s, q_lgi, q_lgr, q_lgl, q_lgn, Bool.not_false, and_true, true_and, nz_2, nz_4, nz_5, nz_8, nz_10, nz_12, nz_14, nz_16, nz_40, nz_41, nz_64, nz_100, nz_1000, nz_1024, nz_4096, nz_10000, nz_100000, not_false_eq_true, bI_0, nI_add, pk_mul, nI_lt', nI_le', nI_eq', nI_z, nI_p, nI_e0, nI_l0, nI_le0, nI_clamp, up_eq, up_ne, not_true_eq_false, Classical.not_not, false_implies, true_implies, false_and, and_false, or_true, true_or, Nat.add_zero, pk_m1, m1_0, m1_n, m1_p, Nat.zero_le, forall_const]
    exact Or.inl ⟨hk, vp, h⟩
  · exact h.elim
set_option maxRecDepth 20000 in
set_option maxHeartbeats 4000000 in
theorem okx_X9_setting {l : Launch} (hl : l.stackTraces = false) : ab_OkX l yX9_setting (Cond.code yX9_setting cX9_setting 2 (some .int)) 7 sx_X9_setting := by
  intro w σ As Kx hI h
  unfold sx_X9_setting at h
  split at h
  · next a h' =>
    obtain ⟨rfl, hb, h⟩ := h
    refine vc_X9_setting hl hI (ok_X9_within hl) (ok_X9_need hl) (okx_X9_need hl) (Nat.le_of_ble_eq_true rfl) (fun M h0 => h0 [.ref 0, .int h'] [] σ ?_)
    simp (disch := omega) only [bX9_setting_0, sp_X9_within, sp_X9_need, sx_X9_need, q_ci, q_cl, q_ild, q_lld, q_ald, q_ist, q_ast, q_lst, q_inc, q_b2, q_d2, q_u1, q_l2, q_ld2, q_lsh, q_lcmp, q_i2l, q_l2i, q_dupi, q_dupr, q_dup2, q_popi, q_popr, q_if1, q_if2, q_nn, q_sw, q_swn, q_swc, q_gf, q_gr, q_pf, q_pz, q_pc, q_ia, q_is, q_cs, q_zs, q_la, q_lw, q_aa, q_al, q_gs, q_acp, q_m2, q_m1, q_ir, q_zr, q_lr, q_ar, q_vr, q_cN0, q_cSX0, q_cV0, q_cVX0, q_cN1, q_cSX1, q_cV1, q_cVX1, q_cN2, q_cSX2, q_cV2, q_cVX2, q_cN3, q_cSX3, q_cV3, q_cVX3, q_cN4, q_cSX4, q_cV4, q_cVX4, q_cN5, q_cSX5, q_cV5, q_cVX5, q_cN6, q_cSX6, q_cV6, q_cVX6, q_th, q_sh0, q_sh1, q_sh2, q_sh3, q_sh4, q_toL0, q_toL1, q_gl0, q_gls, q_sl0, q_sls, q_k10, q_k1s, q_lgi, q_lgr, q_lgl, q_lgn, Bool.not_false, and_true, true_and, nz_2, nz_4, nz_5, nz_8, nz_10, nz_12, nz_14, nz_16, nz_40, nz_41, nz_64, nz_100, nz_1000, nz_1024, nz_4096, nz_10000, nz_100000, not_false_eq_true, bI_0, nI_add, pk_mul, nI_lt', nI_le', nI_eq', nI_z, nI_p, nI_e0, nI_l0, nI_le0, nI_clamp, up_eq, up_ne, not_true_eq_false, Classical.not_not, false_implies, true_implies, false_and, and_false, or_true, true_or, Nat.add_zero, pk_m1, m1_0, m1_n, m1_p, Nat.zero_le, forall_const]
    exact Or.inr ⟨hb, h⟩
  · exact h.elim
