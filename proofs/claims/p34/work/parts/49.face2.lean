/-! the refusals: what throws, and what does not -/
def x_ix : String := "java/lang/IndexOutOfBoundsException"
def x_ar : String := "java/lang/IllegalArgumentException"
def x_st : String := "java/lang/IllegalStateException"
def sp_X9_need : ab_S := fun _ As σ K => match As with
  | [.int b] => ¬ b = 0 ∧ K none σ
  | _ => False
def sx_X9_need : ab_SX := fun _ As σ K => match As with
  | [.int b] => b = 0 ∧ K x_ar σ
  | _ => False
def sp_X9_throwFor : ab_S := fun _ As σ K => match As with
  | [.int b] => b = 0 ∧ K none σ
  | _ => False
def sx_X9_throwFor : ab_SX := fun _ As σ K => match As with
  | [.int b] => (b = nI 1 ∧ K x_ix σ) ∨ (b = nI 2 ∧ K x_ar σ) ∨ (b = nI 3 ∧ K x_st σ)
  | _ => False
set_option maxRecDepth 20000 in
set_option maxHeartbeats 4000000 in
theorem ok_X9_need {l : Launch} (hl : l.stackTraces = false) : ab_OkN l yX9_need (Cond.code yX9_need cX9_need 1 none) 6 sp_X9_need := by
  intro w σ As Kn hI h
  unfold sp_X9_need at h
  split at h
  · next b =>
    obtain ⟨hb, h⟩ := h
    refine vc_X9_need hl hI (Nat.le_of_ble_eq_true rfl) (fun M h0 => h0 [.int b] [] σ ?_)
    simp (disch := omega) only [bX9_need_0, q_ci, q_cl, q_ild, q_lld, q_ald, q_ist, q_ast, q_lst, q_inc, q_b2, q_d2, q_u1, q_l2, q_ld2, q_lsh, q_lcmp, q_i2l, q_l2i, q_dupi, q_dupr, q_dup2, q_popi, q_popr, q_if1, q_if2, q_nn, q_sw, q_swn, q_swc, q_gf, q_gr, q_pf, q_pz, q_pc, q_ia, q_is, q_cs, q_zs, q_la, q_lw, q_aa, q_al, q_gs, q_acp, q_m2, q_m1, q_ir, q_zr, q_lr, q_ar, q_vr, q_cN0, q_cSX0, q_cV0, q_cVX0, q_cN1, q_cSX1, q_cV1, q_cVX1, q_cN2, q_cSX2, q_cV2, q_cVX2, q_cN3, q_cSX3, q_cV3, q_cVX3, q_cN4, q_cSX4, q_cV4, q_cVX4, q_cN5, q_cSX5, q_cV5, q_cVX5, q_cN6, q_cSX6, q_cV6, q_cVX6, q_th, q_sh0, q_sh1, q_sh2, q_sh3, q_sh4, q_toL0, q_toL1, q_gl0, q_gls, q_sl0, q_sls, q_k10, q_k1s, q_lgi, q_lgr, q_lgl, q_lgn, Bool.not_false, and_true, true_and, nz_2, nz_4, nz_5, nz_8, nz_10, nz_12, nz_14, nz_16, nz_40, nz_41, nz_64, nz_100, nz_1000, nz_1024, nz_4096, nz_10000, nz_100000, not_false_eq_true, bI_0, nI_add, pk_mul, nI_lt', nI_le', nI_eq', nI_z, nI_p, nI_e0, nI_l0, nI_le0, nI_clamp, up_eq, up_ne, not_true_eq_false, Classical.not_not, false_implies, true_implies, false_and, and_false, or_true, true_or, Nat.add_zero, pk_m1, m1_0, m1_n, m1_p, Nat.zero_le, forall_const]
    exact ⟨fun _ => h, fun q => absurd q hb⟩
  · exact h.elim
set_option maxRecDepth 20000 in
set_option maxHeartbeats 4000000 in
theorem okx_X9_need {l : Launch} (hl : l.stackTraces = false) : ab_OkX l yX9_need (Cond.code yX9_need cX9_need 1 none) 6 sx_X9_need := by
  intro w σ As Kx hI h
  unfold sx_X9_need at h
  split at h
  · next b =>
    obtain ⟨rfl, h⟩ := h
    refine vc_X9_need hl hI (Nat.le_of_ble_eq_true rfl) (fun M h0 => h0 [.int 0] [] σ ?_)
    simp (disch := omega) only [bX9_need_0, q_ci, q_cl, q_ild, q_lld, q_ald, q_ist, q_ast, q_lst, q_inc, q_b2, q_d2, q_u1, q_l2, q_ld2, q_lsh, q_lcmp, q_i2l, q_l2i, q_dupi, q_dupr, q_dup2, q_popi, q_popr, q_if1, q_if2, q_nn, q_sw, q_swn, q_swc, q_gf, q_gr, q_pf, q_pz, q_pc, q_ia, q_is, q_cs, q_zs, q_la, q_lw, q_aa, q_al, q_gs, q_acp, q_m2, q_m1, q_ir, q_zr, q_lr, q_ar, q_vr, q_cN0, q_cSX0, q_cV0, q_cVX0, q_cN1, q_cSX1, q_cV1, q_cVX1, q_cN2, q_cSX2, q_cV2, q_cVX2, q_cN3, q_cSX3, q_cV3, q_cVX3, q_cN4, q_cSX4, q_cV4, q_cVX4, q_cN5, q_cSX5, q_cV5, q_cVX5, q_cN6, q_cSX6, q_cV6, q_cVX6, q_th, q_sh0, q_sh1, q_sh2, q_sh3, q_sh4, q_toL0, q_toL1, q_gl0, q_gls, q_sl0, q_sls, q_k10, q_k1s, q_lgi, q_lgr, q_lgl, q_lgn, Bool.not_false, and_true, true_and, nz_2, nz_4, nz_5, nz_8, nz_10, nz_12, nz_14, nz_16, nz_40, nz_41, nz_64, nz_100, nz_1000, nz_1024, nz_4096, nz_10000, nz_100000, not_false_eq_true, bI_0, nI_add, pk_mul, nI_lt', nI_le', nI_eq', nI_z, nI_p, nI_e0, nI_l0, nI_le0, nI_clamp, up_eq, up_ne, not_true_eq_false, Classical.not_not, false_implies, true_implies, false_and, and_false, or_true, true_or, Nat.add_zero, pk_m1, m1_0, m1_n, m1_p, Nat.zero_le, forall_const]
    exact h
  · exact h.elim
set_option maxRecDepth 20000 in
set_option maxHeartbeats 4000000 in
theorem ok_X9_throwFor {l : Launch} (hl : l.stackTraces = false) : ab_OkN l yX9_throwFor (Cond.code yX9_throwFor cX9_throwFor 1 none) 6 sp_X9_throwFor := by
  intro w σ As Kn hI h
  unfold sp_X9_throwFor at h
  split at h
  · next b =>
    obtain ⟨rfl, h⟩ := h
    refine vc_X9_throwFor hl hI (Nat.le_of_ble_eq_true rfl) (fun M h0 => h0 [.int 0] [] σ ?_)
    simp (disch := omega) only [bX9_throwFor_0, q_ci, q_cl, q_ild, q_lld, q_ald, q_ist, q_ast, q_lst, q_inc, q_b2, q_d2, q_u1, q_l2, q_ld2, q_lsh, q_lcmp, q_i2l, q_l2i, q_dupi, q_dupr, q_dup2, q_popi, q_popr, q_if1, q_if2, q_nn, q_sw, q_swn, q_swc, q_gf, q_gr, q_pf, q_pz, q_pc, q_ia, q_is, q_cs, q_zs, q_la, q_lw, q_aa, q_al, q_gs, q_acp, q_m2, q_m1, q_ir, q_zr, q_lr, q_ar, q_vr, q_cN0, q_cSX0, q_cV0, q_cVX0, q_cN1, q_cSX1, q_cV1, q_cVX1, q_cN2, q_cSX2, q_cV2, q_cVX2, q_cN3, q_cSX3, q_cV3, q_cVX3, q_cN4, q_cSX4, q_cV4, q_cVX4, q_cN5, q_cSX5, q_cV5, q_cVX5, q_cN6, q_cSX6, q_cV6, q_cVX6, q_th, q_sh0, q_sh1, q_sh2, q_sh3, q_sh4, q_toL0, q_toL1, q_gl0, q_gls, q_sl0, q_sls, q_k10, q_k1s, q_lgi, q_lgr, q_lgl, q_lgn, Bool.not_false, and_true, true_and, nz_2, nz_4, nz_5, nz_8, nz_10, nz_12, nz_14, nz_16, nz_40, nz_41, nz_64, nz_100, nz_1000, nz_1024, nz_4096, nz_10000, nz_100000, not_false_eq_true, bI_0, nI_add, pk_mul, nI_lt', nI_le', nI_eq', nI_z, nI_p, nI_e0, nI_l0, nI_le0, nI_clamp, up_eq, up_ne, not_true_eq_false, Classical.not_not, false_implies, true_implies, false_and, and_false, or_true, true_or, Nat.add_zero, pk_m1, m1_0, m1_n, m1_p, Nat.zero_le, forall_const]
    exact ⟨fun q => absurd q (by decide +kernel), fun _ => ⟨fun q => absurd q (by decide +kernel), fun _ => ⟨fun q => absurd q (by decide +kernel), fun _ => h⟩⟩⟩
  · exact h.elim
set_option maxRecDepth 20000 in
set_option maxHeartbeats 4000000 in
theorem okx_X9_throwFor {l : Launch} (hl : l.stackTraces = false) : ab_OkX l yX9_throwFor (Cond.code yX9_throwFor cX9_throwFor 1 none) 6 sx_X9_throwFor := by
  intro w σ As Kx hI h
  unfold sx_X9_throwFor at h
  split at h
  · next b =>
    refine vc_X9_throwFor hl hI (Nat.le_of_ble_eq_true rfl) (fun M h0 => h0 [.int b] [] σ ?_)
    rcases h with ⟨rfl, h⟩ | ⟨rfl, h⟩ | ⟨rfl, h⟩
    all_goals
      simp (disch := omega) only [bX9_throwFor_0, q_ci, q_cl, q_ild, q_lld, q_ald, q_ist, q_ast, q_lst, q_inc, q_b2, q_d2, q_u1, q_l2, q_ld2, q_lsh, q_lcmp, q_i2l, q_l2i, q_dupi, q_dupr, q_dup2, q_popi, q_popr, q_if1, q_if2, q_nn, q_sw, q_swn, q_swc, q_gf, q_gr, q_pf, q_pz, q_pc, q_ia, q_is, q_cs, q_zs, q_la, q_lw, q_aa, q_al, q_gs, q_acp, q_m2, q_m1, q_ir, q_zr, q_lr, q_ar, q_vr, q_cN0, q_cSX0, q_cV0, q_cVX0, q_cN1, q_cSX1, q_cV1, q_cVX1, q_cN2, q_cSX2, q_cV2, q_cVX2, q_cN3, q_cSX3, q_cV3, q_cVX3, q_cN4, q_cSX4, q_cV4, q_cVX4, q_cN5, q_cSX5, q_cV5, q_cVX5, q_cN6, q_cSX6, q_cV6, q_cVX6, q_th, q_sh0, q_sh1, q_sh2, q_sh3, q_sh4, q_toL0, q_toL1, q_gl0, q_gls, q_sl0, q_sls, q_k10, q_k1s, q_lgi, q_lgr, q_lgl, q_lgn, Bool.not_false, and_true, true_and, nz_2, nz_4, nz_5, nz_8, nz_10, nz_12, nz_14, nz_16, nz_40, nz_41, nz_64, nz_100, nz_1000, nz_1024, nz_4096, nz_10000, nz_100000, not_false_eq_true, bI_0, nI_add, pk_mul, nI_lt', nI_le', nI_eq', nI_z, nI_p, nI_e0, nI_l0, nI_le0, nI_clamp, up_eq, up_ne, not_true_eq_false, Classical.not_not, false_implies, true_implies, false_and, and_false, or_true, true_or, Nat.add_zero, pk_m1, m1_0, m1_n, m1_p, Nat.zero_le, forall_const]
      first | exact h | (refine ⟨fun q => absurd q (by omega), fun _ => ?_⟩; first | exact h | (refine ⟨fun q => absurd q (by omega), fun _ => ?_⟩; exact h))
  · exact h.elim
def sp_X9_needStation : ab_S := fun w As σ K => match As with
  | [.ref a, .int i] => a = 0 ∧ ab_kd w 0 = 9 ∧ wN w 40 ∧ ∃ f, σ 41 0 = f 1 ∧ vS f i ∧ K none σ
  | _ => False
def sx_X9_needStation : ab_SX := fun w As σ K => match As with
  | [.ref a, .int i] => a = 0 ∧ ab_kd w 0 = 9 ∧ wN w 40 ∧ ∃ f, σ 41 0 = f 1 ∧ ¬ vS f i ∧ K x_ix σ
  | _ => False
set_option maxRecDepth 20000 in
set_option maxHeartbeats 4000000 in
theorem ok_X9_needStation {l : Launch} (hl : l.stackTraces = false) : ab_OkN l yX9_needStation (Cond.code yX9_needStation cX9_needStation 2 none) 6 sp_X9_needStation := by
  intro w σ As Kn hI h
  unfold sp_X9_needStation at h
  split at h
  · next a i =>
    obtain ⟨rfl, w0, hN, f, hf, hv, h⟩ := h
    refine vc_X9_needStation hl hI (ok_X7_has hl) (Nat.le_of_ble_eq_true rfl) (fun M h0 => h0 [.ref 0, .int i] [] σ ?_)
    have k3 := hN.1
    have k7 := hN.2.1.1
    simp (disch := omega) only [bX9_needStation_0, sp_X7_has, w0, k3, k7, hf, q_ci, q_cl, q_ild, q_lld, q_ald, q_ist, q_ast, q_lst, q_inc, q_b2, q_d2, q_u1, q_l2, q_ld2, q_lsh, q_lcmp, q_i2l, q_l2i, q_dupi, q_dupr, q_dup2, q_popi, q_popr, q_if1, q_if2, q_nn, q_sw, q_swn, q_swc, q_gf, q_gr, q_pf, q_pz, q_pc, q_ia, q_is, q_cs, q_zs, q_la, q_lw, q_aa, q_al, q_gs, q_acp, q_m2, q_m1, q_ir, q_zr, q_lr, q_ar, q_vr, q_cN0, q_cSX0, q_cV0, q_cVX0, q_cN1, q_cSX1, q_cV1, q_cVX1, q_cN2, q_cSX2, q_cV2, q_cVX2, q_cN3, q_cSX3, q_cV3, q_cVX3, q_cN4, q_cSX4, q_cV4, q_cVX4, q_cN5, q_cSX5, q_cV5, q_cVX5, q_cN6, q_cSX6, q_cV6, q_cVX6, q_th, q_sh0, q_sh1, q_sh2, q_sh3, q_sh4, q_toL0, q_toL1, q_gl0, q_gls, q_sl0, q_sls, q_k10, q_k1s, q_lgi, q_lgr, q_lgl, q_lgn, Bool.not_false, and_true, true_and, nz_2, nz_4, nz_5, nz_8, nz_10, nz_12, nz_14, nz_16, nz_40, nz_41, nz_64, nz_100, nz_1000, nz_1024, nz_4096, nz_10000, nz_100000, not_false_eq_true, bI_0, nI_add, pk_mul, nI_lt', nI_le', nI_eq', nI_z, nI_p, nI_e0, nI_l0, nI_le0, nI_clamp, up_eq, up_ne, not_true_eq_false, Classical.not_not, false_implies, true_implies, false_and, and_false, or_true, true_or, Nat.add_zero, pk_m1, m1_0, m1_n, m1_p, Nat.zero_le, forall_const]
    exact ⟨fun _ => h, fun q => absurd hv q⟩
  · exact h.elim
set_option maxRecDepth 20000 in
set_option maxHeartbeats 4000000 in
theorem okx_X9_needStation {l : Launch} (hl : l.stackTraces = false) : ab_OkX l yX9_needStation (Cond.code yX9_needStation cX9_needStation 2 none) 6 sx_X9_needStation := by
  intro w σ As Kx hI h
  unfold sx_X9_needStation at h
  split at h
  · next a i =>
    obtain ⟨rfl, w0, hN, f, hf, hv, h⟩ := h
    refine vc_X9_needStation hl hI (ok_X7_has hl) (Nat.le_of_ble_eq_true rfl) (fun M h0 => h0 [.ref 0, .int i] [] σ ?_)
    have k3 := hN.1
    have k7 := hN.2.1.1
    simp (disch := omega) only [bX9_needStation_0, sp_X7_has, w0, k3, k7, hf, q_ci, q_cl, q_ild, q_lld, q_ald, q_ist, q_ast, q_lst, q_inc, q_b2, q_d2, q_u1, q_l2, q_ld2, q_lsh, q_lcmp, q_i2l, q_l2i, q_dupi, q_dupr, q_dup2, q_popi, q_popr, q_if1, q_if2, q_nn, q_sw, q_swn, q_swc, q_gf, q_gr, q_pf, q_pz, q_pc, q_ia, q_is, q_cs, q_zs, q_la, q_lw, q_aa, q_al, q_gs, q_acp, q_m2, q_m1, q_ir, q_zr, q_lr, q_ar, q_vr, q_cN0, q_cSX0, q_cV0, q_cVX0, q_cN1, q_cSX1, q_cV1, q_cVX1, q_cN2, q_cSX2, q_cV2, q_cVX2, q_cN3, q_cSX3, q_cV3, q_cVX3, q_cN4, q_cSX4, q_cV4, q_cVX4, q_cN5, q_cSX5, q_cV5, q_cVX5, q_cN6, q_cSX6, q_cV6, q_cVX6, q_th, q_sh0, q_sh1, q_sh2, q_sh3, q_sh4, q_toL0, q_toL1, q_gl0, q_gls, q_sl0, q_sls, q_k10, q_k1s, q_lgi, q_lgr, q_lgl, q_lgn, Bool.not_false, and_true, true_and, nz_2, nz_4, nz_5, nz_8, nz_10, nz_12, nz_14, nz_16, nz_40, nz_41, nz_64, nz_100, nz_1000, nz_1024, nz_4096, nz_10000, nz_100000, not_false_eq_true, bI_0, nI_add, pk_mul, nI_lt', nI_le', nI_eq', nI_z, nI_p, nI_e0, nI_l0, nI_le0, nI_clamp, up_eq, up_ne, not_true_eq_false, Classical.not_not, false_implies, true_implies, false_and, and_false, or_true, true_or, Nat.add_zero, pk_m1, m1_0, m1_n, m1_p, Nat.zero_le, forall_const]
    exact ⟨fun q => absurd q hv, fun _ => h⟩
  · exact h.elim
