set_option maxRecDepth 20000 in
set_option maxHeartbeats 4000000 in
theorem cb_X9_back {l : Launch} (hl : l.stackTraces = false) {w : ab_W} {σ : ab_H} {Kn : Option Value → ab_H → Prop} {Kx : String → ab_H → Prop} (hI : ab_Inj w) (k : Int32) (i : Int32) (h : sbA w σ (c_back k i) [x_ar] Kn Kx) : ab_Met l yX9_back (Cond.code yX9_back cX9_back 3 (some .int)) 7 1 w σ [.ref 0, .int k, .int i] Kn Kx := by
  obtain ⟨hw, A, T, hA, hW, hT, hn, hx⟩ := h
  obtain ⟨w0, w40, w41, w49, w54, w59, w63, w120, w121, w143, w4⟩ := hw.k
  obtain ⟨e41, e49, e7, e8, e9, e63, e10, e11, e12, e59, e54⟩ := hA.rd
  have hcO := hW.1.cOK
  refine vc_X9_back hl hI (ok_X9_within hl) (ok_X9_need hl) (ok_X5_numberOf hl) (okx_X9_need hl) (Nat.le_of_ble_eq_true rfl) (fun M h0 h1 h2 => h0 [.ref 0, .int k, .int i] [] σ ?_)
  have hN := hw.2.2.2.1
  by_cases hb : 0 ≤ k ∧ bt2 (nI 0) i (nI 2)
  · obtain ⟨hk, hb2⟩ := id hb
    obtain ⟨j, -, hj, rfl⟩ := ab_lo (a := 0) (b := 2) (by omega) (by omega) hb2.1 hb2.2
    have hc : c_back k (nI j) A = (0, n_num A.1.2.2.1 k j, A) := by unfold c_back; rw [if_pos hb, cl_nI (by omega)]
    rw [hc] at hn
    have hn := hn rfl σ hA FrA.refl
    have h18 : M 18 [.ref 0, .int k, .int (nI j)] [.int (nI 1)] σ := by
      refine h2 _ _ _ ?_
      simp (disch := omega) only [bX9_back_18, sp_X9_need, sx_X9_need, sp_X5_numberOf, w0, w40, w59, q_ci, q_cl, q_ild, q_lld, q_ald, q_ist, q_ast, q_lst, q_inc, q_b2, q_d2, q_u1, q_l2, q_ld2, q_lsh, q_lcmp, q_i2l, q_l2i, q_dupi, q_dupr, q_dup2, q_popi, q_popr, q_if1, q_if2, q_nn, q_sw, q_swn, q_swc, q_gf, q_gr, q_pf, q_pz, q_pc, q_ia, q_is, q_cs, q_zs, q_la, q_lw, q_aa, q_al, q_gs, q_acp, q_m2, q_m1, q_ir, q_zr, q_lr, q_ar, q_vr, q_cN0, q_cSX0, q_cV0, q_cVX0, q_cN1, q_cSX1, q_cV1, q_cVX1, q_cN2, q_cSX2, q_cV2, q_cVX2, q_cN3, q_cSX3, q_cV3, q_cVX3, q_cN4, q_cSX4, q_cV4, q_cVX4, q_cN5, q_cSX5, q_cV5, q_cVX5, q_cN6, q_cSX6, q_cV6, q_cVX6, q_th, q_sh0, q_sh1, q_sh2, q_sh3, q_sh4, q_toL0, q_toL1, q_gl0, q_gls, q_sl0, q_sls, q_k10, q_k1s, q_lgi, q_lgr, q_lgl, q_lgn, Bool.not_false, and_true, true_and, nz_2, nz_4, nz_5, nz_8, nz_10, nz_12, nz_14, nz_16, nz_40, nz_41, nz_64, nz_100, nz_1000, nz_1024, nz_4096, nz_10000, nz_100000, not_false_eq_true, bI_0, nI_add, pk_mul, nI_lt', nI_le', nI_eq', nI_z, nI_p, nI_e0, nI_l0, nI_le0, nI_clamp, up_eq, up_ne, not_true_eq_false, Classical.not_not, false_implies, true_implies, false_and, and_false, or_true, true_or, Nat.add_zero, pk_m1, m1_0, m1_n, m1_p, Nat.zero_le, forall_const, Nat.zero_add, Nat.reduceAdd, Nat.reduceEqDiff, or_false, false_or, Nat.one_ne_zero]
      first
        | exact Or.inl ⟨hN.2.2.2.2.1, A.1.2.2.1, j, hA.2.1.2.2.2.2.1, hW.1.2.2.2.1.len, rfl, hj, hn⟩
        | exact Or.inl ⟨by decide, hN.2.2.2.2.1, A.1.2.2.1, j, hA.2.1.2.2.2.2.1, hW.1.2.2.2.1.len, rfl, hj, hn⟩
        | exact ⟨hN.2.2.2.2.1, A.1.2.2.1, j, hA.2.1.2.2.2.2.1, hW.1.2.2.2.1.len, rfl, hj, hn⟩
    simp (disch := omega) only [bX9_back_0, sp_X9_within, q_ci, q_cl, q_ild, q_lld, q_ald, q_ist, q_ast, q_lst, q_inc, q_b2, q_d2, q_u1, q_l2, q_ld2, q_lsh, q_lcmp, q_i2l, q_l2i, q_dupi, q_dupr, q_dup2, q_popi, q_popr, q_if1, q_if2, q_nn, q_sw, q_swn, q_swc, q_gf, q_gr, q_pf, q_pz, q_pc, q_ia, q_is, q_cs, q_zs, q_la, q_lw, q_aa, q_al, q_gs, q_acp, q_m2, q_m1, q_ir, q_zr, q_lr, q_ar, q_vr, q_cN0, q_cSX0, q_cV0, q_cVX0, q_cN1, q_cSX1, q_cV1, q_cVX1, q_cN2, q_cSX2, q_cV2, q_cVX2, q_cN3, q_cSX3, q_cV3, q_cVX3, q_cN4, q_cSX4, q_cV4, q_cVX4, q_cN5, q_cSX5, q_cV5, q_cVX5, q_cN6, q_cSX6, q_cV6, q_cVX6, q_th, q_sh0, q_sh1, q_sh2, q_sh3, q_sh4, q_toL0, q_toL1, q_gl0, q_gls, q_sl0, q_sls, q_k10, q_k1s, q_lgi, q_lgr, q_lgl, q_lgn, Bool.not_false, and_true, true_and, nz_2, nz_4, nz_5, nz_8, nz_10, nz_12, nz_14, nz_16, nz_40, nz_41, nz_64, nz_100, nz_1000, nz_1024, nz_4096, nz_10000, nz_100000, not_false_eq_true, bI_0, nI_add, pk_mul, nI_lt', nI_le', nI_eq', nI_z, nI_p, nI_e0, nI_l0, nI_le0, nI_clamp, up_eq, up_ne, not_true_eq_false, Classical.not_not, false_implies, true_implies, false_and, and_false, or_true, true_or, Nat.add_zero, pk_m1, m1_0, m1_n, m1_p, Nat.zero_le, forall_const, Nat.zero_add, Nat.reduceAdd, Nat.reduceEqDiff, or_false, false_or, Nat.one_ne_zero]
    exact ⟨fun q => absurd q (Int32.not_lt.mpr hk), fun _ => ⟨fun q => absurd hj q, fun _ => h18⟩⟩
  · have hc : c_back k i A = (1, 0, A) := if_neg hb
    have hx := hx 0 x_ar (by rw [hc]) rfl σ hA FrA.refl
    have h17 : M 17 [.ref 0, .int k, .int i] [] σ := by
      refine h1 _ _ _ ?_
      simp (disch := omega) only [bX9_back_17, q_ci, q_cl, q_ild, q_lld, q_ald, q_ist, q_ast, q_lst, q_inc, q_b2, q_d2, q_u1, q_l2, q_ld2, q_lsh, q_lcmp, q_i2l, q_l2i, q_dupi, q_dupr, q_dup2, q_popi, q_popr, q_if1, q_if2, q_nn, q_sw, q_swn, q_swc, q_gf, q_gr, q_pf, q_pz, q_pc, q_ia, q_is, q_cs, q_zs, q_la, q_lw, q_aa, q_al, q_gs, q_acp, q_m2, q_m1, q_ir, q_zr, q_lr, q_ar, q_vr, q_cN0, q_cSX0, q_cV0, q_cVX0, q_cN1, q_cSX1, q_cV1, q_cVX1, q_cN2, q_cSX2, q_cV2, q_cVX2, q_cN3, q_cSX3, q_cV3, q_cVX3, q_cN4, q_cSX4, q_cV4, q_cVX4, q_cN5, q_cSX5, q_cV5, q_cVX5, q_cN6, q_cSX6, q_cV6, q_cVX6, q_th, q_sh0, q_sh1, q_sh2, q_sh3, q_sh4, q_toL0, q_toL1, q_gl0, q_gls, q_sl0, q_sls, q_k10, q_k1s, q_lgi, q_lgr, q_lgl, q_lgn, Bool.not_false, and_true, true_and, nz_2, nz_4, nz_5, nz_8, nz_10, nz_12, nz_14, nz_16, nz_40, nz_41, nz_64, nz_100, nz_1000, nz_1024, nz_4096, nz_10000, nz_100000, not_false_eq_true, bI_0, nI_add, pk_mul, nI_lt', nI_le', nI_eq', nI_z, nI_p, nI_e0, nI_l0, nI_le0, nI_clamp, up_eq, up_ne, not_true_eq_false, Classical.not_not, false_implies, true_implies, false_and, and_false, or_true, true_or, Nat.add_zero, pk_m1, m1_0, m1_n, m1_p, Nat.zero_le, forall_const, Nat.zero_add, Nat.reduceAdd, Nat.reduceEqDiff, or_false, false_or, Nat.one_ne_zero]
      refine h2 _ _ _ ?_
      simp (disch := omega) only [bX9_back_18, sp_X9_need, sx_X9_need, sp_X5_numberOf, w0, w40, w59, q_ci, q_cl, q_ild, q_lld, q_ald, q_ist, q_ast, q_lst, q_inc, q_b2, q_d2, q_u1, q_l2, q_ld2, q_lsh, q_lcmp, q_i2l, q_l2i, q_dupi, q_dupr, q_dup2, q_popi, q_popr, q_if1, q_if2, q_nn, q_sw, q_swn, q_swc, q_gf, q_gr, q_pf, q_pz, q_pc, q_ia, q_is, q_cs, q_zs, q_la, q_lw, q_aa, q_al, q_gs, q_acp, q_m2, q_m1, q_ir, q_zr, q_lr, q_ar, q_vr, q_cN0, q_cSX0, q_cV0, q_cVX0, q_cN1, q_cSX1, q_cV1, q_cVX1, q_cN2, q_cSX2, q_cV2, q_cVX2, q_cN3, q_cSX3, q_cV3, q_cVX3, q_cN4, q_cSX4, q_cV4, q_cVX4, q_cN5, q_cSX5, q_cV5, q_cVX5, q_cN6, q_cSX6, q_cV6, q_cVX6, q_th, q_sh0, q_sh1, q_sh2, q_sh3, q_sh4, q_toL0, q_toL1, q_gl0, q_gls, q_sl0, q_sls, q_k10, q_k1s, q_lgi, q_lgr, q_lgl, q_lgn, Bool.not_false, and_true, true_and, nz_2, nz_4, nz_5, nz_8, nz_10, nz_12, nz_14, nz_16, nz_40, nz_41, nz_64, nz_100, nz_1000, nz_1024, nz_4096, nz_10000, nz_100000, not_false_eq_true, bI_0, nI_add, pk_mul, nI_lt', nI_le', nI_eq', nI_z, nI_p, nI_e0, nI_l0, nI_le0, nI_clamp, up_eq, up_ne, not_true_eq_false, Classical.not_not, false_implies, true_implies, false_and, and_false, or_true, true_or, Nat.add_zero, pk_m1, m1_0, m1_n, m1_p, Nat.zero_le, forall_const, Nat.zero_add, Nat.reduceAdd, Nat.reduceEqDiff, or_false, false_or, Nat.one_ne_zero]
      first | exact hx | exact Or.inr hx | exact Or.inr ⟨by decide, hx⟩
    simp (disch := omega) only [bX9_back_0, sp_X9_within, q_ci, q_cl, q_ild, q_lld, q_ald, q_ist, q_ast, q_lst, q_inc, q_b2, q_d2, q_u1, q_l2, q_ld2, q_lsh, q_lcmp, q_i2l, q_l2i, q_dupi, q_dupr, q_dup2, q_popi, q_popr, q_if1, q_if2, q_nn, q_sw, q_swn, q_swc, q_gf, q_gr, q_pf, q_pz, q_pc, q_ia, q_is, q_cs, q_zs, q_la, q_lw, q_aa, q_al, q_gs, q_acp, q_m2, q_m1, q_ir, q_zr, q_lr, q_ar, q_vr, q_cN0, q_cSX0, q_cV0, q_cVX0, q_cN1, q_cSX1, q_cV1, q_cVX1, q_cN2, q_cSX2, q_cV2, q_cVX2, q_cN3, q_cSX3, q_cV3, q_cVX3, q_cN4, q_cSX4, q_cV4, q_cVX4, q_cN5, q_cSX5, q_cV5, q_cVX5, q_cN6, q_cSX6, q_cV6, q_cVX6, q_th, q_sh0, q_sh1, q_sh2, q_sh3, q_sh4, q_toL0, q_toL1, q_gl0, q_gls, q_sl0, q_sls, q_k10, q_k1s, q_lgi, q_lgr, q_lgl, q_lgn, Bool.not_false, and_true, true_and, nz_2, nz_4, nz_5, nz_8, nz_10, nz_12, nz_14, nz_16, nz_40, nz_41, nz_64, nz_100, nz_1000, nz_1024, nz_4096, nz_10000, nz_100000, not_false_eq_true, bI_0, nI_add, pk_mul, nI_lt', nI_le', nI_eq', nI_z, nI_p, nI_e0, nI_l0, nI_le0, nI_clamp, up_eq, up_ne, not_true_eq_false, Classical.not_not, false_implies, true_implies, false_and, and_false, or_true, true_or, Nat.add_zero, pk_m1, m1_0, m1_n, m1_p, Nat.zero_le, forall_const, Nat.zero_add, Nat.reduceAdd, Nat.reduceEqDiff, or_false, false_or, Nat.one_ne_zero]
    exact ⟨fun _ => h17, fun q => ⟨fun _ => h17, fun q2 => absurd ⟨Int32.not_lt.mp q, q2⟩ hb⟩⟩
set_option maxRecDepth 20000 in
set_option maxHeartbeats 4000000 in
theorem cb_X9_gap {l : Launch} (hl : l.stackTraces = false) {w : ab_W} {σ : ab_H} {Kn : Option Value → ab_H → Prop} {Kx : String → ab_H → Prop} (hI : ab_Inj w) (k : Int32) (i : Int32) (h : sbA w σ (c_gap k i) [x_ar] Kn Kx) : ab_Met l yX9_gap (Cond.code yX9_gap cX9_gap 3 (some .int)) 7 1 w σ [.ref 0, .int k, .int i] Kn Kx := by
  obtain ⟨hw, A, T, hA, hW, hT, hn, hx⟩ := h
  obtain ⟨w0, w40, w41, w49, w54, w59, w63, w120, w121, w143, w4⟩ := hw.k
  obtain ⟨e41, e49, e7, e8, e9, e63, e10, e11, e12, e59, e54⟩ := hA.rd
  have hcO := hW.1.cOK
  refine vc_X9_gap hl hI (ok_X9_within hl) (ok_X9_need hl) (ok_X1_numberOf hl) (okx_X9_need hl) (Nat.le_of_ble_eq_true rfl) (fun M h0 h1 h2 => h0 [.ref 0, .int k, .int i] [] σ ?_)
  have hN := hw.2.2.2.1
  by_cases hb : 0 ≤ k ∧ bt2 (nI 0) i (nI 2)
  · obtain ⟨hk, hb2⟩ := id hb
    obtain ⟨j, -, hj, rfl⟩ := ab_lo (a := 0) (b := 2) (by omega) (by omega) hb2.1 hb2.2
    have hc : c_gap k (nI j) A = (0, n_gnum A.1.2.2.2 k j, A) := by unfold c_gap; rw [if_pos hb, cl_nI (by omega)]
    rw [hc] at hn
    have hn := hn rfl σ hA FrA.refl
    have hWN := hW.1.2.2.2.2
    have hT1 := hW.1.1.2.1
    have hG : RG σ 63 (nI (cl (A.1.1 5))) A.1.2.2.2 := by rw [← hWN.1]; exact hA.2.1.2.2.2.2.2.1
    have h18 : M 18 [.ref 0, .int k, .int (nI j)] [.int (nI 1)] σ := by
      refine h2 _ _ _ ?_
      simp (disch := omega) only [bX9_gap_18, sp_X9_need, sx_X9_need, sp_X1_numberOf, w0, w40, w63, q_ci, q_cl, q_ild, q_lld, q_ald, q_ist, q_ast, q_lst, q_inc, q_b2, q_d2, q_u1, q_l2, q_ld2, q_lsh, q_lcmp, q_i2l, q_l2i, q_dupi, q_dupr, q_dup2, q_popi, q_popr, q_if1, q_if2, q_nn, q_sw, q_swn, q_swc, q_gf, q_gr, q_pf, q_pz, q_pc, q_ia, q_is, q_cs, q_zs, q_la, q_lw, q_aa, q_al, q_gs, q_acp, q_m2, q_m1, q_ir, q_zr, q_lr, q_ar, q_vr, q_cN0, q_cSX0, q_cV0, q_cVX0, q_cN1, q_cSX1, q_cV1, q_cVX1, q_cN2, q_cSX2, q_cV2, q_cVX2, q_cN3, q_cSX3, q_cV3, q_cVX3, q_cN4, q_cSX4, q_cV4, q_cVX4, q_cN5, q_cSX5, q_cV5, q_cVX5, q_cN6, q_cSX6, q_cV6, q_cVX6, q_th, q_sh0, q_sh1, q_sh2, q_sh3, q_sh4, q_toL0, q_toL1, q_gl0, q_gls, q_sl0, q_sls, q_k10, q_k1s, q_lgi, q_lgr, q_lgl, q_lgn, Bool.not_false, and_true, true_and, nz_2, nz_4, nz_5, nz_8, nz_10, nz_12, nz_14, nz_16, nz_40, nz_41, nz_64, nz_100, nz_1000, nz_1024, nz_4096, nz_10000, nz_100000, not_false_eq_true, bI_0, nI_add, pk_mul, nI_lt', nI_le', nI_eq', nI_z, nI_p, nI_e0, nI_l0, nI_le0, nI_clamp, up_eq, up_ne, not_true_eq_false, Classical.not_not, false_implies, true_implies, false_and, and_false, or_true, true_or, Nat.add_zero, pk_m1, m1_0, m1_n, m1_p, Nat.zero_le, forall_const, Nat.zero_add, Nat.reduceAdd, Nat.reduceEqDiff, or_false, false_or, Nat.one_ne_zero]
      first
        | exact Or.inl ⟨hN.2.2.2.2.2.1, hk, A.1.2.2.2, j, cl (A.1.1 5), hG, by have := hWN.2.1; omega, hWN.2.2.1, rfl, hj, hn⟩
        | exact Or.inl ⟨by decide, hN.2.2.2.2.2.1, hk, A.1.2.2.2, j, cl (A.1.1 5), hG, by have := hWN.2.1; omega, hWN.2.2.1, rfl, hj, hn⟩
        | exact ⟨hN.2.2.2.2.2.1, hk, A.1.2.2.2, j, cl (A.1.1 5), hG, by have := hWN.2.1; omega, hWN.2.2.1, rfl, hj, hn⟩
    simp (disch := omega) only [bX9_gap_0, sp_X9_within, q_ci, q_cl, q_ild, q_lld, q_ald, q_ist, q_ast, q_lst, q_inc, q_b2, q_d2, q_u1, q_l2, q_ld2, q_lsh, q_lcmp, q_i2l, q_l2i, q_dupi, q_dupr, q_dup2, q_popi, q_popr, q_if1, q_if2, q_nn, q_sw, q_swn, q_swc, q_gf, q_gr, q_pf, q_pz, q_pc, q_ia, q_is, q_cs, q_zs, q_la, q_lw, q_aa, q_al, q_gs, q_acp, q_m2, q_m1, q_ir, q_zr, q_lr, q_ar, q_vr, q_cN0, q_cSX0, q_cV0, q_cVX0, q_cN1, q_cSX1, q_cV1, q_cVX1, q_cN2, q_cSX2, q_cV2, q_cVX2, q_cN3, q_cSX3, q_cV3, q_cVX3, q_cN4, q_cSX4, q_cV4, q_cVX4, q_cN5, q_cSX5, q_cV5, q_cVX5, q_cN6, q_cSX6, q_cV6, q_cVX6, q_th, q_sh0, q_sh1, q_sh2, q_sh3, q_sh4, q_toL0, q_toL1, q_gl0, q_gls, q_sl0, q_sls, q_k10, q_k1s, q_lgi, q_lgr, q_lgl, q_lgn, Bool.not_false, and_true, true_and, nz_2, nz_4, nz_5, nz_8, nz_10, nz_12, nz_14, nz_16, nz_40, nz_41, nz_64, nz_100, nz_1000, nz_1024, nz_4096, nz_10000, nz_100000, not_false_eq_true, bI_0, nI_add, pk_mul, nI_lt', nI_le', nI_eq', nI_z, nI_p, nI_e0, nI_l0, nI_le0, nI_clamp, up_eq, up_ne, not_true_eq_false, Classical.not_not, false_implies, true_implies, false_and, and_false, or_true, true_or, Nat.add_zero, pk_m1, m1_0, m1_n, m1_p, Nat.zero_le, forall_const, Nat.zero_add, Nat.reduceAdd, Nat.reduceEqDiff, or_false, false_or, Nat.one_ne_zero]
    exact ⟨fun q => absurd q (Int32.not_lt.mpr hk), fun _ => ⟨fun q => absurd hj q, fun _ => h18⟩⟩
  · have hc : c_gap k i A = (1, 0, A) := if_neg hb
    have hx := hx 0 x_ar (by rw [hc]) rfl σ hA FrA.refl
    have h17 : M 17 [.ref 0, .int k, .int i] [] σ := by
      refine h1 _ _ _ ?_
      simp (disch := omega) only [bX9_gap_17, q_ci, q_cl, q_ild, q_lld, q_ald, q_ist, q_ast, q_lst, q_inc, q_b2, q_d2, q_u1, q_l2, q_ld2, q_lsh, q_lcmp, q_i2l, q_l2i, q_dupi, q_dupr, q_dup2, q_popi, q_popr, q_if1, q_if2, q_nn, q_sw, q_swn, q_swc, q_gf, q_gr, q_pf, q_pz, q_pc, q_ia, q_is, q_cs, q_zs, q_la, q_lw, q_aa, q_al, q_gs, q_acp, q_m2, q_m1, q_ir, q_zr, q_lr, q_ar, q_vr, q_cN0, q_cSX0, q_cV0, q_cVX0, q_cN1, q_cSX1, q_cV1, q_cVX1, q_cN2, q_cSX2, q_cV2, q_cVX2, q_cN3, q_cSX3, q_cV3, q_cVX3, q_cN4, q_cSX4, q_cV4, q_cVX4, q_cN5, q_cSX5, q_cV5, q_cVX5, q_cN6, q_cSX6, q_cV6, q_cVX6, q_th, q_sh0, q_sh1, q_sh2, q_sh3, q_sh4, q_toL0, q_toL1, q_gl0, q_gls, q_sl0, q_sls, q_k10, q_k1s, q_lgi, q_lgr, q_lgl, q_lgn, Bool.not_false, and_true, true_and, nz_2, nz_4, nz_5, nz_8, nz_10, nz_12, nz_14, nz_16, nz_40, nz_41, nz_64, nz_100, nz_1000, nz_1024, nz_4096, nz_10000, nz_100000, not_false_eq_true, bI_0, nI_add, pk_mul, nI_lt', nI_le', nI_eq', nI_z, nI_p, nI_e0, nI_l0, nI_le0, nI_clamp, up_eq, up_ne, not_true_eq_false, Classical.not_not, false_implies, true_implies, false_and, and_false, or_true, true_or, Nat.add_zero, pk_m1, m1_0, m1_n, m1_p, Nat.zero_le, forall_const, Nat.zero_add, Nat.reduceAdd, Nat.reduceEqDiff, or_false, false_or, Nat.one_ne_zero]
      refine h2 _ _ _ ?_
      simp (disch := omega) only [bX9_gap_18, sp_X9_need, sx_X9_need, sp_X1_numberOf, w0, w40, w63, q_ci, q_cl, q_ild, q_lld, q_ald, q_ist, q_ast, q_lst, q_inc, q_b2, q_d2, q_u1, q_l2, q_ld2, q_lsh, q_lcmp, q_i2l, q_l2i, q_dupi, q_dupr, q_dup2, q_popi, q_popr, q_if1, q_if2, q_nn, q_sw, q_swn, q_swc, q_gf, q_gr, q_pf, q_pz, q_pc, q_ia, q_is, q_cs, q_zs, q_la, q_lw, q_aa, q_al, q_gs, q_acp, q_m2, q_m1, q_ir, q_zr, q_lr, q_ar, q_vr, q_cN0, q_cSX0, q_cV0, q_cVX0, q_cN1, q_cSX1, q_cV1, q_cVX1, q_cN2, q_cSX2, q_cV2, q_cVX2, q_cN3, q_cSX3, q_cV3, q_cVX3, q_cN4, q_cSX4, q_cV4, q_cVX4, q_cN5, q_cSX5, q_cV5, q_cVX5, q_cN6, q_cSX6, q_cV6, q_cVX6, q_th, q_sh0, q_sh1, q_sh2, q_sh3, q_sh4, q_toL0, q_toL1, q_gl0, q_gls, q_sl0, q_sls, q_k10, q_k1s, q_lgi, q_lgr, q_lgl, q_lgn, Bool.not_false, and_true, true_and, nz_2, nz_4, nz_5, nz_8, nz_10, nz_12, nz_14, nz_16, nz_40, nz_41, nz_64, nz_100, nz_1000, nz_1024, nz_4096, nz_10000, nz_100000, not_false_eq_true, bI_0, nI_add, pk_mul, nI_lt', nI_le', nI_eq', nI_z, nI_p, nI_e0, nI_l0, nI_le0, nI_clamp, up_eq, up_ne, not_true_eq_false, Classical.not_not, false_implies, true_implies, false_and, and_false, or_true, true_or, Nat.add_zero, pk_m1, m1_0, m1_n, m1_p, Nat.zero_le, forall_const, Nat.zero_add, Nat.reduceAdd, Nat.reduceEqDiff, or_false, false_or, Nat.one_ne_zero]
      first | exact hx | exact Or.inr hx | exact Or.inr ⟨by decide, hx⟩
    simp (disch := omega) only [bX9_gap_0, sp_X9_within, q_ci, q_cl, q_ild, q_lld, q_ald, q_ist, q_ast, q_lst, q_inc, q_b2, q_d2, q_u1, q_l2, q_ld2, q_lsh, q_lcmp, q_i2l, q_l2i, q_dupi, q_dupr, q_dup2, q_popi, q_popr, q_if1, q_if2, q_nn, q_sw, q_swn, q_swc, q_gf, q_gr, q_pf, q_pz, q_pc, q_ia, q_is, q_cs, q_zs, q_la, q_lw, q_aa, q_al, q_gs, q_acp, q_m2, q_m1, q_ir, q_zr, q_lr, q_ar, q_vr, q_cN0, q_cSX0, q_cV0, q_cVX0, q_cN1, q_cSX1, q_cV1, q_cVX1, q_cN2, q_cSX2, q_cV2, q_cVX2, q_cN3, q_cSX3, q_cV3, q_cVX3, q_cN4, q_cSX4, q_cV4, q_cVX4, q_cN5, q_cSX5, q_cV5, q_cVX5, q_cN6, q_cSX6, q_cV6, q_cVX6, q_th, q_sh0, q_sh1, q_sh2, q_sh3, q_sh4, q_toL0, q_toL1, q_gl0, q_gls, q_sl0, q_sls, q_k10, q_k1s, q_lgi, q_lgr, q_lgl, q_lgn, Bool.not_false, and_true, true_and, nz_2, nz_4, nz_5, nz_8, nz_10, nz_12, nz_14, nz_16, nz_40, nz_41, nz_64, nz_100, nz_1000, nz_1024, nz_4096, nz_10000, nz_100000, not_false_eq_true, bI_0, nI_add, pk_mul, nI_lt', nI_le', nI_eq', nI_z, nI_p, nI_e0, nI_l0, nI_le0, nI_clamp, up_eq, up_ne, not_true_eq_false, Classical.not_not, false_implies, true_implies, false_and, and_false, or_true, true_or, Nat.add_zero, pk_m1, m1_0, m1_n, m1_p, Nat.zero_le, forall_const, Nat.zero_add, Nat.reduceAdd, Nat.reduceEqDiff, or_false, false_or, Nat.one_ne_zero]
    exact ⟨fun _ => h17, fun q => ⟨fun _ => h17, fun q2 => absurd ⟨Int32.not_lt.mp q, q2⟩ hb⟩⟩
set_option maxRecDepth 20000 in
set_option maxHeartbeats 4000000 in
theorem cb_X9_windOf {l : Launch} (hl : l.stackTraces = false) {w : ab_W} {σ : ab_H} {Kn : Option Value → ab_H → Prop} {Kx : String → ab_H → Prop} (hI : ab_Inj w) (h' : Int32) (h : sbA w σ (c_windOf h') [x_ar] Kn Kx) : ab_Met l yX9_windOf (Cond.code yX9_windOf cX9_windOf 2 (some .int)) 7 1 w σ [.ref 0, .int h'] Kn Kx := by
  obtain ⟨hw, A, T, hA, hW, hT, hn, hx⟩ := h
  obtain ⟨w0, w40, w41, w49, w54, w59, w63, w120, w121, w143, w4⟩ := hw.k
  obtain ⟨e41, e49, e7, e8, e9, e63, e10, e11, e12, e59, e54⟩ := hA.rd
  have hcO := hW.1.cOK
  refine vc_X9_windOf hl hI (ok_X9_within hl) (ok_X9_need hl) (okx_X9_need hl) (Nat.le_of_ble_eq_true rfl) (fun M h0 => h0 [.ref 0, .int h'] [] σ ?_)
  have hN := hw.2.2.2.1
  have k11 := hN.2.2.2.2.2.2.1
  have kl := hN.2.2.2.2.2.2.2.1
  by_cases hb : bt2 (nI 0) h' (nI 3)
  · obtain ⟨k, -, hk, rfl⟩ := ab_lo (a := 0) (b := 3) (by omega) (by omega) hb.1 hb.2
    have hc : c_windOf (nI k) A = (0, nI 100 + A.1.1 (17 + k), A) := by unfold c_windOf; rw [if_pos hb, cl_nI (by omega)]
    rw [hc] at hn
    have hn := hn rfl σ hA FrA.refl
    have vp : vp_in (nI k) 4 := vp_in_nI (by omega) (by omega)
    have e := hA.2.1.2.2.2.2.2.2.1 k (by omega)
    simp (disch := omega) only [bX9_windOf_0, sp_X9_within, sp_X9_need, sx_X9_need, w0, w40, k11, kl, e, q_ci, q_cl, q_ild, q_lld, q_ald, q_ist, q_ast, q_lst, q_inc, q_b2, q_d2, q_u1, q_l2, q_ld2, q_lsh, q_lcmp, q_i2l, q_l2i, q_dupi, q_dupr, q_dup2, q_popi, q_popr, q_if1, q_if2, q_nn, q_sw, q_swn, q_swc, q_gf, q_gr, q_pf, q_pz, q_pc, q_ia, q_is, q_cs, q_zs, q_la, q_lw, q_aa, q_al, q_gs, q_acp, q_m2, q_m1, q_ir, q_zr, q_lr, q_ar, q_vr, q_cN0, q_cSX0, q_cV0, q_cVX0, q_cN1, q_cSX1, q_cV1, q_cVX1, q_cN2, q_cSX2, q_cV2, q_cVX2, q_cN3, q_cSX3, q_cV3, q_cVX3, q_cN4, q_cSX4, q_cV4, q_cVX4, q_cN5, q_cSX5, q_cV5, q_cVX5, q_cN6, q_cSX6, q_cV6, q_cVX6, q_th, q_sh0, q_sh1, q_sh2, q_sh3, q_sh4, q_toL0, q_toL1, q_gl0, q_gls, q_sl0, q_sls, q_k10, q_k1s, q_lgi, q_lgr, q_lgl, q_lgn, Bool.not_false, and_true, true_and, nz_2, nz_4, nz_5, nz_8, nz_10, nz_12, nz_14, nz_16, nz_40, nz_41, nz_64, nz_100, nz_1000, nz_1024, nz_4096, nz_10000, nz_100000, not_false_eq_true, bI_0, nI_add, pk_mul, nI_lt', nI_le', nI_eq', nI_z, nI_p, nI_e0, nI_l0, nI_le0, nI_clamp, up_eq, up_ne, not_true_eq_false, Classical.not_not, false_implies, true_implies, false_and, and_false, or_true, true_or, Nat.add_zero, pk_m1, m1_0, m1_n, m1_p, Nat.zero_le, forall_const, Nat.zero_add, Nat.reduceAdd, Nat.reduceEqDiff, or_false, false_or, Nat.one_ne_zero]
    exact Or.inl ⟨hk, vp, hn⟩
  · have hc : c_windOf h' A = (1, 0, A) := if_neg hb
    have hx := hx 0 x_ar (by rw [hc]) rfl σ hA FrA.refl
    simp (disch := omega) only [bX9_windOf_0, sp_X9_within, sp_X9_need, sx_X9_need, w0, w40, q_ci, q_cl, q_ild, q_lld, q_ald, q_ist, q_ast, q_lst, q_inc, q_b2, q_d2, q_u1, q_l2, q_ld2, q_lsh, q_lcmp, q_i2l, q_l2i, q_dupi, q_dupr, q_dup2, q_popi, q_popr, q_if1, q_if2, q_nn, q_sw, q_swn, q_swc, q_gf, q_gr, q_pf, q_pz, q_pc, q_ia, q_is, q_cs, q_zs, q_la, q_lw, q_aa, q_al, q_gs, q_acp, q_m2, q_m1, q_ir, q_zr, q_lr, q_ar, q_vr, q_cN0, q_cSX0, q_cV0, q_cVX0, q_cN1, q_cSX1, q_cV1, q_cVX1, q_cN2, q_cSX2, q_cV2, q_cVX2, q_cN3, q_cSX3, q_cV3, q_cVX3, q_cN4, q_cSX4, q_cV4, q_cVX4, q_cN5, q_cSX5, q_cV5, q_cVX5, q_cN6, q_cSX6, q_cV6, q_cVX6, q_th, q_sh0, q_sh1, q_sh2, q_sh3, q_sh4, q_toL0, q_toL1, q_gl0, q_gls, q_sl0, q_sls, q_k10, q_k1s, q_lgi, q_lgr, q_lgl, q_lgn, Bool.not_false, and_true, true_and, nz_2, nz_4, nz_5, nz_8, nz_10, nz_12, nz_14, nz_16, nz_40, nz_41, nz_64, nz_100, nz_1000, nz_1024, nz_4096, nz_10000, nz_100000, not_false_eq_true, bI_0, nI_add, pk_mul, nI_lt', nI_le', nI_eq', nI_z, nI_p, nI_e0, nI_l0, nI_le0, nI_clamp, up_eq, up_ne, not_true_eq_false, Classical.not_not, false_implies, true_implies, false_and, and_false, or_true, true_or, Nat.add_zero, pk_m1, m1_0, m1_n, m1_p, Nat.zero_le, forall_const, Nat.zero_add, Nat.reduceAdd, Nat.reduceEqDiff, or_false, false_or, Nat.one_ne_zero]
    exact Or.inr ⟨hb, hx⟩
set_option maxRecDepth 20000 in
set_option maxHeartbeats 4000000 in
theorem cb_X9_setting {l : Launch} (hl : l.stackTraces = false) {w : ab_W} {σ : ab_H} {Kn : Option Value → ab_H → Prop} {Kx : String → ab_H → Prop} (hI : ab_Inj w) (h' : Int32) (h : sbA w σ (c_setting h') [x_ar] Kn Kx) : ab_Met l yX9_setting (Cond.code yX9_setting cX9_setting 2 (some .int)) 7 1 w σ [.ref 0, .int h'] Kn Kx := by
  obtain ⟨hw, A, T, hA, hW, hT, hn, hx⟩ := h
  obtain ⟨w0, w40, w41, w49, w54, w59, w63, w120, w121, w143, w4⟩ := hw.k
  obtain ⟨e41, e49, e7, e8, e9, e63, e10, e11, e12, e59, e54⟩ := hA.rd
  have hcO := hW.1.cOK
  refine vc_X9_setting hl hI (ok_X9_within hl) (ok_X9_need hl) (okx_X9_need hl) (Nat.le_of_ble_eq_true rfl) (fun M h0 => h0 [.ref 0, .int h'] [] σ ?_)
  have hN := hw.2.2.2.1
  have k11 := hN.2.2.2.2.2.2.2.2.1
  have kl := hN.2.2.2.2.2.2.2.2.2
  by_cases hb : bt2 (nI 0) h' (nI 4)
  · obtain ⟨k, -, hk, rfl⟩ := ab_lo (a := 0) (b := 4) (by omega) (by omega) hb.1 hb.2
    have hc : c_setting (nI k) A = (0, A.1.1 (12 + k), A) := by unfold c_setting; rw [if_pos hb, cl_nI (by omega)]
    rw [hc] at hn
    have hn := hn rfl σ hA FrA.refl
    have vp : vp_in (nI k) 5 := vp_in_nI (by omega) (by omega)
    have e := hA.2.1.2.2.2.2.2.2.2 k (by omega)
    simp (disch := omega) only [bX9_setting_0, sp_X9_within, sp_X9_need, sx_X9_need, w0, w40, k11, kl, e, q_ci, q_cl, q_ild, q_lld, q_ald, q_ist, q_ast, q_lst, q_inc, q_b2, q_d2, q_u1, q_l2, q_ld2, q_lsh, q_lcmp, q_i2l, q_l2i, q_dupi, q_dupr, q_dup2, q_popi, q_popr, q_if1, q_if2, q_nn, q_sw, q_swn, q_swc, q_gf, q_gr, q_pf, q_pz, q_pc, q_ia, q_is, q_cs, q_zs, q_la, q_lw, q_aa, q_al, q_gs, q_acp, q_m2, q_m1, q_ir, q_zr, q_lr, q_ar, q_vr, q_cN0, q_cSX0, q_cV0, q_cVX0, q_cN1, q_cSX1, q_cV1, q_cVX1, q_cN2, q_cSX2, q_cV2, q_cVX2, q_cN3, q_cSX3, q_cV3, q_cVX3, q_cN4, q_cSX4, q_cV4, q_cVX4, q_cN5, q_cSX5, q_cV5, q_cVX5, q_cN6, q_cSX6, q_cV6, q_cVX6, q_th, q_sh0, q_sh1, q_sh2, q_sh3, q_sh4, q_toL0, q_toL1, q_gl0, q_gls, q_sl0, q_sls, q_k10, q_k1s, q_lgi, q_lgr, q_lgl, q_lgn, Bool.not_false, and_true, true_and, nz_2, nz_4, nz_5, nz_8, nz_10, nz_12, nz_14, nz_16, nz_40, nz_41, nz_64, nz_100, nz_1000, nz_1024, nz_4096, nz_10000, nz_100000, not_false_eq_true, bI_0, nI_add, pk_mul, nI_lt', nI_le', nI_eq', nI_z, nI_p, nI_e0, nI_l0, nI_le0, nI_clamp, up_eq, up_ne, not_true_eq_false, Classical.not_not, false_implies, true_implies, false_and, and_false, or_true, true_or, Nat.add_zero, pk_m1, m1_0, m1_n, m1_p, Nat.zero_le, forall_const, Nat.zero_add, Nat.reduceAdd, Nat.reduceEqDiff, or_false, false_or, Nat.one_ne_zero]
    exact Or.inl ⟨hk, vp, hn⟩
  · have hc : c_setting h' A = (1, 0, A) := if_neg hb
    have hx := hx 0 x_ar (by rw [hc]) rfl σ hA FrA.refl
    simp (disch := omega) only [bX9_setting_0, sp_X9_within, sp_X9_need, sx_X9_need, w0, w40, q_ci, q_cl, q_ild, q_lld, q_ald, q_ist, q_ast, q_lst, q_inc, q_b2, q_d2, q_u1, q_l2, q_ld2, q_lsh, q_lcmp, q_i2l, q_l2i, q_dupi, q_dupr, q_dup2, q_popi, q_popr, q_if1, q_if2, q_nn, q_sw, q_swn, q_swc, q_gf, q_gr, q_pf, q_pz, q_pc, q_ia, q_is, q_cs, q_zs, q_la, q_lw, q_aa, q_al, q_gs, q_acp, q_m2, q_m1, q_ir, q_zr, q_lr, q_ar, q_vr, q_cN0, q_cSX0, q_cV0, q_cVX0, q_cN1, q_cSX1, q_cV1, q_cVX1, q_cN2, q_cSX2, q_cV2, q_cVX2, q_cN3, q_cSX3, q_cV3, q_cVX3, q_cN4, q_cSX4, q_cV4, q_cVX4, q_cN5, q_cSX5, q_cV5, q_cVX5, q_cN6, q_cSX6, q_cV6, q_cVX6, q_th, q_sh0, q_sh1, q_sh2, q_sh3, q_sh4, q_toL0, q_toL1, q_gl0, q_gls, q_sl0, q_sls, q_k10, q_k1s, q_lgi, q_lgr, q_lgl, q_lgn, Bool.not_false, and_true, true_and, nz_2, nz_4, nz_5, nz_8, nz_10, nz_12, nz_14, nz_16, nz_40, nz_41, nz_64, nz_100, nz_1000, nz_1024, nz_4096, nz_10000, nz_100000, not_false_eq_true, bI_0, nI_add, pk_mul, nI_lt', nI_le', nI_eq', nI_z, nI_p, nI_e0, nI_l0, nI_le0, nI_clamp, up_eq, up_ne, not_true_eq_false, Classical.not_not, false_implies, true_implies, false_and, and_false, or_true, true_or, Nat.add_zero, pk_m1, m1_0, m1_n, m1_p, Nat.zero_le, forall_const, Nat.zero_add, Nat.reduceAdd, Nat.reduceEqDiff, or_false, false_or, Nat.one_ne_zero]
    exact Or.inr ⟨hb, hx⟩
set_option maxRecDepth 20000 in
set_option maxHeartbeats 4000000 in
theorem cb_X9_finds {l : Launch} (hl : l.stackTraces = false) {w : ab_W} {σ : ab_H} {Kn : Option Value → ab_H → Prop} {Kx : String → ab_H → Prop} (hI : ab_Inj w) (p : Int32) (h : sbA w σ (c_finds p) [x_ar] Kn Kx) : ab_Met l yX9_finds (Cond.code yX9_finds cX9_finds 2 (some .int)) 7 1 w σ [.ref 0, .int p] Kn Kx := by
  obtain ⟨hw, A, T, hA, hW, hT, hn, hx⟩ := h
  obtain ⟨w0, w40, w41, w49, w54, w59, w63, w120, w121, w143, w4⟩ := hw.k
  obtain ⟨e41, e49, e7, e8, e9, e63, e10, e11, e12, e59, e54⟩ := hA.rd
  have hcO := hW.1.cOK
  refine vc_X9_finds hl hI (ok_X9_within hl) (ok_X9_need hl) (ok_X0_whoFindsAt hl) (okx_X9_need hl) (Nat.le_of_ble_eq_true rfl) (fun M h0 => h0 [.ref 0, .int p] [] σ ?_)
  have hN := hw.2.2.2.1
  by_cases hb : bt2 (nI 0) p (nI 99)
  · obtain ⟨k, -, hk, rfl⟩ := ab_lo (a := 0) (b := 99) (by omega) (by omega) hb.1 hb.2
    have hc : c_finds (nI k) A = (0, oI (n_who A.1.1 (nI k) (cl (A.1.1 2))), A) := if_pos hb
    rw [hc] at hn
    have hn := hn rfl σ hA FrA.refl
    simp (disch := omega) only [bX9_finds_0, sp_X9_within, sp_X9_need, sx_X9_need, sp_X0_whoFindsAt, w0, w40, w49, q_ci, q_cl, q_ild, q_lld, q_ald, q_ist, q_ast, q_lst, q_inc, q_b2, q_d2, q_u1, q_l2, q_ld2, q_lsh, q_lcmp, q_i2l, q_l2i, q_dupi, q_dupr, q_dup2, q_popi, q_popr, q_if1, q_if2, q_nn, q_sw, q_swn, q_swc, q_gf, q_gr, q_pf, q_pz, q_pc, q_ia, q_is, q_cs, q_zs, q_la, q_lw, q_aa, q_al, q_gs, q_acp, q_m2, q_m1, q_ir, q_zr, q_lr, q_ar, q_vr, q_cN0, q_cSX0, q_cV0, q_cVX0, q_cN1, q_cSX1, q_cV1, q_cVX1, q_cN2, q_cSX2, q_cV2, q_cVX2, q_cN3, q_cSX3, q_cV3, q_cVX3, q_cN4, q_cSX4, q_cV4, q_cVX4, q_cN5, q_cSX5, q_cV5, q_cVX5, q_cN6, q_cSX6, q_cV6, q_cVX6, q_th, q_sh0, q_sh1, q_sh2, q_sh3, q_sh4, q_toL0, q_toL1, q_gl0, q_gls, q_sl0, q_sls, q_k10, q_k1s, q_lgi, q_lgr, q_lgl, q_lgn, Bool.not_false, and_true, true_and, nz_2, nz_4, nz_5, nz_8, nz_10, nz_12, nz_14, nz_16, nz_40, nz_41, nz_64, nz_100, nz_1000, nz_1024, nz_4096, nz_10000, nz_100000, not_false_eq_true, bI_0, nI_add, pk_mul, nI_lt', nI_le', nI_eq', nI_z, nI_p, nI_e0, nI_l0, nI_le0, nI_clamp, up_eq, up_ne, not_true_eq_false, Classical.not_not, false_implies, true_implies, false_and, and_false, or_true, true_or, Nat.add_zero, pk_m1, m1_0, m1_n, m1_p, Nat.zero_le, forall_const, Nat.zero_add, Nat.reduceAdd, Nat.reduceEqDiff, or_false, false_or, Nat.one_ne_zero]
    exact Or.inl ⟨hk, hN.2.2.1, k, T, A.1.1, hA.2.1.2.2.1, hW.1.1, rfl, hk, hn⟩
  · have hc : c_finds p A = (1, 0, A) := if_neg hb
    have hx := hx 0 x_ar (by rw [hc]) rfl σ hA FrA.refl
    simp (disch := omega) only [bX9_finds_0, sp_X9_within, sp_X9_need, sx_X9_need, w0, w40, q_ci, q_cl, q_ild, q_lld, q_ald, q_ist, q_ast, q_lst, q_inc, q_b2, q_d2, q_u1, q_l2, q_ld2, q_lsh, q_lcmp, q_i2l, q_l2i, q_dupi, q_dupr, q_dup2, q_popi, q_popr, q_if1, q_if2, q_nn, q_sw, q_swn, q_swc, q_gf, q_gr, q_pf, q_pz, q_pc, q_ia, q_is, q_cs, q_zs, q_la, q_lw, q_aa, q_al, q_gs, q_acp, q_m2, q_m1, q_ir, q_zr, q_lr, q_ar, q_vr, q_cN0, q_cSX0, q_cV0, q_cVX0, q_cN1, q_cSX1, q_cV1, q_cVX1, q_cN2, q_cSX2, q_cV2, q_cVX2, q_cN3, q_cSX3, q_cV3, q_cVX3, q_cN4, q_cSX4, q_cV4, q_cVX4, q_cN5, q_cSX5, q_cV5, q_cVX5, q_cN6, q_cSX6, q_cV6, q_cVX6, q_th, q_sh0, q_sh1, q_sh2, q_sh3, q_sh4, q_toL0, q_toL1, q_gl0, q_gls, q_sl0, q_sls, q_k10, q_k1s, q_lgi, q_lgr, q_lgl, q_lgn, Bool.not_false, and_true, true_and, nz_2, nz_4, nz_5, nz_8, nz_10, nz_12, nz_14, nz_16, nz_40, nz_41, nz_64, nz_100, nz_1000, nz_1024, nz_4096, nz_10000, nz_100000, not_false_eq_true, bI_0, nI_add, pk_mul, nI_lt', nI_le', nI_eq', nI_z, nI_p, nI_e0, nI_l0, nI_le0, nI_clamp, up_eq, up_ne, not_true_eq_false, Classical.not_not, false_implies, true_implies, false_and, and_false, or_true, true_or, Nat.add_zero, pk_m1, m1_0, m1_n, m1_p, Nat.zero_le, forall_const, Nat.zero_add, Nat.reduceAdd, Nat.reduceEqDiff, or_false, false_or, Nat.one_ne_zero]
    exact Or.inr ⟨hb, hx⟩
set_option maxRecDepth 20000 in
set_option maxHeartbeats 4000000 in
theorem cb_X9_coming {l : Launch} (hl : l.stackTraces = false) {w : ab_W} {σ : ab_H} {Kn : Option Value → ab_H → Prop} {Kx : String → ab_H → Prop} (hI : ab_Inj w) (n : Int32) (i : Int32) (h : sbA w σ (c_coming n i) [x_ar] Kn Kx) : ab_Met l yX9_coming (Cond.code yX9_coming cX9_coming 3 (some .int)) 7 1 w σ [.ref 0, .int n, .int i] Kn Kx := by
  obtain ⟨hw, A, T, hA, hW, hT, hn, hx⟩ := h
  obtain ⟨w0, w40, w41, w49, w54, w59, w63, w120, w121, w143, w4⟩ := hw.k
  obtain ⟨e41, e49, e7, e8, e9, e63, e10, e11, e12, e59, e54⟩ := hA.rd
  have hcO := hW.1.cOK
  refine vc_X9_coming hl hI (ok_X9_within hl) (ok_X9_need hl) (ok_X3_copyFrom hl) (ok_X3_tryWatches hl) (ok_X7_sondesOfAll hl) (okx_X9_need hl) (Nat.le_of_ble_eq_true rfl) (fun M h0 h1 h2 => h0 [.ref 0, .int n, .int i] [] σ ?_)
  have hN := hw.2.2.2.1
  have hN2 := hw.2.2.2.2.2.1
  by_cases hb : bt2 (nI 1) n (nI 60) ∧ bt2 (nI 0) i (nI 3)
  · obtain ⟨hb1, hb2⟩ := id hb
    obtain ⟨k, hk1, hk, rfl⟩ := ab_lo (a := 1) (b := 60) (by omega) (by omega) hb1.1 hb1.2
    obtain ⟨j, -, hj, rfl⟩ := ab_lo (a := 0) (b := 3) (by omega) (by omega) hb2.1 hb2.2
    have hc : c_coming (nI k) (nI j) A = (0, (if j = 0 then (n_run k A.1).1 4 - A.1.1 4 else if j = 1 then (n_run k A.1).1 5 - A.1.1 5 else if j = 2 then (n_run k A.1).1 3 - A.1.1 3 else n_all (n_run k A.1).1 (cl ((n_run k A.1).1 1))), A) := by unfold c_coming; rw [if_pos hb, cl_nI (by omega), cl_nI (by omega)]
    rw [hc] at hn
    have hn := hn rfl
    clear hc
    have hWR := WF_run hW.1 k (by omega)
    have h24 : M 24 [.ref 0, .int (nI k), .int (nI j)] [.int (nI 1)] σ := by
      refine h2 _ _ _ ?_
      rcases (by omega : j = 0 ∨ j = 1 ∨ j = 2 ∨ j = 3) with rfl | rfl | rfl | rfl
      all_goals simp (disch := omega) only [bX9_coming_24, sp_X9_need, sx_X9_need, sp_X3_copyFrom, sp_X3_tryWatches, sp_X7_sondesOfAll, w0, w40, w41, w63, w120, w121, w143, q_ci, q_cl, q_ild, q_lld, q_ald, q_ist, q_ast, q_lst, q_inc, q_b2, q_d2, q_u1, q_l2, q_ld2, q_lsh, q_lcmp, q_i2l, q_l2i, q_dupi, q_dupr, q_dup2, q_popi, q_popr, q_if1, q_if2, q_nn, q_sw, q_swn, q_swc, q_gf, q_gr, q_pf, q_pz, q_pc, q_ia, q_is, q_cs, q_zs, q_la, q_lw, q_aa, q_al, q_gs, q_acp, q_m2, q_m1, q_ir, q_zr, q_lr, q_ar, q_vr, q_cN0, q_cSX0, q_cV0, q_cVX0, q_cN1, q_cSX1, q_cV1, q_cVX1, q_cN2, q_cSX2, q_cV2, q_cVX2, q_cN3, q_cSX3, q_cV3, q_cVX3, q_cN4, q_cSX4, q_cV4, q_cVX4, q_cN5, q_cSX5, q_cV5, q_cVX5, q_cN6, q_cSX6, q_cV6, q_cVX6, q_th, q_sh0, q_sh1, q_sh2, q_sh3, q_sh4, q_toL0, q_toL1, q_gl0, q_gls, q_sl0, q_sls, q_k10, q_k1s, q_lgi, q_lgr, q_lgl, q_lgn, Bool.not_false, and_true, true_and, nz_2, nz_4, nz_5, nz_8, nz_10, nz_12, nz_14, nz_16, nz_40, nz_41, nz_64, nz_100, nz_1000, nz_1024, nz_4096, nz_10000, nz_100000, not_false_eq_true, bI_0, nI_add, pk_mul, nI_lt', nI_le', nI_eq', nI_z, nI_p, nI_e0, nI_l0, nI_le0, nI_clamp, up_eq, up_ne, not_true_eq_false, Classical.not_not, false_implies, true_implies, false_and, and_false, or_true, true_or, Nat.add_zero, pk_m1, m1_0, m1_n, m1_p, Nat.zero_le, forall_const, Nat.zero_add, Nat.reduceAdd, Nat.reduceEqDiff, or_false, false_or, Nat.one_ne_zero]
      all_goals try simp only [imp_self, Nat.reduceEqDiff, false_implies, true_implies, not_false_eq_true, not_true_eq_false, and_true, true_and, forall_const, or_false]
      all_goals first | refine Or.inl ⟨hN2, hN, by unfold apt; omega, fun σ1 a1 a2 => ⟨hN2, T, A.1, 60, a1 T A.1 hW.1 hA.2.1, hW.1, rfl, by omega, by omega, fun q σ2 b1 b2 => ?_, fun q => absurd ⟨by rw [← nI_one]; exact hb1.1, hk⟩ q⟩⟩ | refine ⟨hN2, hN, by unfold apt; omega, fun σ1 a1 a2 => ⟨hN2, T, A.1, 60, a1 T A.1 hW.1 hA.2.1, hW.1, rfl, by omega, by omega, fun q σ2 b1 b2 => ?_, fun q => absurd ⟨by rw [← nI_one]; exact hb1.1, hk⟩ q⟩⟩
      all_goals
        rw [cl_nI (by omega)] at b1
        have hF := a2.trans b2
        have hn := hn σ2 (hA.tri hF) (FrA.tri hF)
        have e40 : σ2 40 = σ 40 := hF 40 (by omega)
        have e63' : σ2 63 = σ 63 := hF 63 (by omega)
      · have q9 : σ2 120 9 = (n_run k A.1).1 4 := b1.1.2.2.1
        rw [q9, e40, e9]; exact hn
      · have q9 : σ2 143 0 = (n_run k A.1).1 5 := b1.2.2.2.2.2.1.1
        rw [q9, e63', e63]; exact hn
      · have q9 : σ2 120 8 = (n_run k A.1).1 3 := b1.1.2.1
        rw [q9, e40, e8]; exact hn
      · exact ⟨hN2.2.1, (n_run k A.1).1, b1.2.1, hWR.cOK, hn⟩
    simp (disch := omega) only [bX9_coming_0, sp_X9_within, q_ci, q_cl, q_ild, q_lld, q_ald, q_ist, q_ast, q_lst, q_inc, q_b2, q_d2, q_u1, q_l2, q_ld2, q_lsh, q_lcmp, q_i2l, q_l2i, q_dupi, q_dupr, q_dup2, q_popi, q_popr, q_if1, q_if2, q_nn, q_sw, q_swn, q_swc, q_gf, q_gr, q_pf, q_pz, q_pc, q_ia, q_is, q_cs, q_zs, q_la, q_lw, q_aa, q_al, q_gs, q_acp, q_m2, q_m1, q_ir, q_zr, q_lr, q_ar, q_vr, q_cN0, q_cSX0, q_cV0, q_cVX0, q_cN1, q_cSX1, q_cV1, q_cVX1, q_cN2, q_cSX2, q_cV2, q_cVX2, q_cN3, q_cSX3, q_cV3, q_cVX3, q_cN4, q_cSX4, q_cV4, q_cVX4, q_cN5, q_cSX5, q_cV5, q_cVX5, q_cN6, q_cSX6, q_cV6, q_cVX6, q_th, q_sh0, q_sh1, q_sh2, q_sh3, q_sh4, q_toL0, q_toL1, q_gl0, q_gls, q_sl0, q_sls, q_k10, q_k1s, q_lgi, q_lgr, q_lgl, q_lgn, Bool.not_false, and_true, true_and, nz_2, nz_4, nz_5, nz_8, nz_10, nz_12, nz_14, nz_16, nz_40, nz_41, nz_64, nz_100, nz_1000, nz_1024, nz_4096, nz_10000, nz_100000, not_false_eq_true, bI_0, nI_add, pk_mul, nI_lt', nI_le', nI_eq', nI_z, nI_p, nI_e0, nI_l0, nI_le0, nI_clamp, up_eq, up_ne, not_true_eq_false, Classical.not_not, false_implies, true_implies, false_and, and_false, or_true, true_or, Nat.add_zero, pk_m1, m1_0, m1_n, m1_p, Nat.zero_le, forall_const, Nat.zero_add, Nat.reduceAdd, Nat.reduceEqDiff, or_false, false_or, Nat.one_ne_zero]
    refine ⟨fun q => absurd ?_ q, fun _ => ⟨fun q => absurd hj q, fun _ => h24⟩⟩
    omega
  · have hc : c_coming n i A = (1, 0, A) := if_neg hb
    have hx := hx 0 x_ar (by rw [hc]) rfl σ hA FrA.refl
    have h23 : M 23 [.ref 0, .int n, .int i] [] σ := by
      refine h1 _ _ _ ?_
      simp (disch := omega) only [bX9_coming_23, q_ci, q_cl, q_ild, q_lld, q_ald, q_ist, q_ast, q_lst, q_inc, q_b2, q_d2, q_u1, q_l2, q_ld2, q_lsh, q_lcmp, q_i2l, q_l2i, q_dupi, q_dupr, q_dup2, q_popi, q_popr, q_if1, q_if2, q_nn, q_sw, q_swn, q_swc, q_gf, q_gr, q_pf, q_pz, q_pc, q_ia, q_is, q_cs, q_zs, q_la, q_lw, q_aa, q_al, q_gs, q_acp, q_m2, q_m1, q_ir, q_zr, q_lr, q_ar, q_vr, q_cN0, q_cSX0, q_cV0, q_cVX0, q_cN1, q_cSX1, q_cV1, q_cVX1, q_cN2, q_cSX2, q_cV2, q_cVX2, q_cN3, q_cSX3, q_cV3, q_cVX3, q_cN4, q_cSX4, q_cV4, q_cVX4, q_cN5, q_cSX5, q_cV5, q_cVX5, q_cN6, q_cSX6, q_cV6, q_cVX6, q_th, q_sh0, q_sh1, q_sh2, q_sh3, q_sh4, q_toL0, q_toL1, q_gl0, q_gls, q_sl0, q_sls, q_k10, q_k1s, q_lgi, q_lgr, q_lgl, q_lgn, Bool.not_false, and_true, true_and, nz_2, nz_4, nz_5, nz_8, nz_10, nz_12, nz_14, nz_16, nz_40, nz_41, nz_64, nz_100, nz_1000, nz_1024, nz_4096, nz_10000, nz_100000, not_false_eq_true, bI_0, nI_add, pk_mul, nI_lt', nI_le', nI_eq', nI_z, nI_p, nI_e0, nI_l0, nI_le0, nI_clamp, up_eq, up_ne, not_true_eq_false, Classical.not_not, false_implies, true_implies, false_and, and_false, or_true, true_or, Nat.add_zero, pk_m1, m1_0, m1_n, m1_p, Nat.zero_le, forall_const, Nat.zero_add, Nat.reduceAdd, Nat.reduceEqDiff, or_false, false_or, Nat.one_ne_zero]
      refine h2 _ _ _ ?_
      simp (disch := omega) only [bX9_coming_24, sp_X9_need, sx_X9_need, q_ci, q_cl, q_ild, q_lld, q_ald, q_ist, q_ast, q_lst, q_inc, q_b2, q_d2, q_u1, q_l2, q_ld2, q_lsh, q_lcmp, q_i2l, q_l2i, q_dupi, q_dupr, q_dup2, q_popi, q_popr, q_if1, q_if2, q_nn, q_sw, q_swn, q_swc, q_gf, q_gr, q_pf, q_pz, q_pc, q_ia, q_is, q_cs, q_zs, q_la, q_lw, q_aa, q_al, q_gs, q_acp, q_m2, q_m1, q_ir, q_zr, q_lr, q_ar, q_vr, q_cN0, q_cSX0, q_cV0, q_cVX0, q_cN1, q_cSX1, q_cV1, q_cVX1, q_cN2, q_cSX2, q_cV2, q_cVX2, q_cN3, q_cSX3, q_cV3, q_cVX3, q_cN4, q_cSX4, q_cV4, q_cVX4, q_cN5, q_cSX5, q_cV5, q_cVX5, q_cN6, q_cSX6, q_cV6, q_cVX6, q_th, q_sh0, q_sh1, q_sh2, q_sh3, q_sh4, q_toL0, q_toL1, q_gl0, q_gls, q_sl0, q_sls, q_k10, q_k1s, q_lgi, q_lgr, q_lgl, q_lgn, Bool.not_false, and_true, true_and, nz_2, nz_4, nz_5, nz_8, nz_10, nz_12, nz_14, nz_16, nz_40, nz_41, nz_64, nz_100, nz_1000, nz_1024, nz_4096, nz_10000, nz_100000, not_false_eq_true, bI_0, nI_add, pk_mul, nI_lt', nI_le', nI_eq', nI_z, nI_p, nI_e0, nI_l0, nI_le0, nI_clamp, up_eq, up_ne, not_true_eq_false, Classical.not_not, false_implies, true_implies, false_and, and_false, or_true, true_or, Nat.add_zero, pk_m1, m1_0, m1_n, m1_p, Nat.zero_le, forall_const, Nat.zero_add, Nat.reduceAdd, Nat.reduceEqDiff, or_false, false_or, Nat.one_ne_zero]
      first | exact hx | exact Or.inr hx | exact Or.inr ⟨by decide, hx⟩
    simp (disch := omega) only [bX9_coming_0, sp_X9_within, q_ci, q_cl, q_ild, q_lld, q_ald, q_ist, q_ast, q_lst, q_inc, q_b2, q_d2, q_u1, q_l2, q_ld2, q_lsh, q_lcmp, q_i2l, q_l2i, q_dupi, q_dupr, q_dup2, q_popi, q_popr, q_if1, q_if2, q_nn, q_sw, q_swn, q_swc, q_gf, q_gr, q_pf, q_pz, q_pc, q_ia, q_is, q_cs, q_zs, q_la, q_lw, q_aa, q_al, q_gs, q_acp, q_m2, q_m1, q_ir, q_zr, q_lr, q_ar, q_vr, q_cN0, q_cSX0, q_cV0, q_cVX0, q_cN1, q_cSX1, q_cV1, q_cVX1, q_cN2, q_cSX2, q_cV2, q_cVX2, q_cN3, q_cSX3, q_cV3, q_cVX3, q_cN4, q_cSX4, q_cV4, q_cVX4, q_cN5, q_cSX5, q_cV5, q_cVX5, q_cN6, q_cSX6, q_cV6, q_cVX6, q_th, q_sh0, q_sh1, q_sh2, q_sh3, q_sh4, q_toL0, q_toL1, q_gl0, q_gls, q_sl0, q_sls, q_k10, q_k1s, q_lgi, q_lgr, q_lgl, q_lgn, Bool.not_false, and_true, true_and, nz_2, nz_4, nz_5, nz_8, nz_10, nz_12, nz_14, nz_16, nz_40, nz_41, nz_64, nz_100, nz_1000, nz_1024, nz_4096, nz_10000, nz_100000, not_false_eq_true, bI_0, nI_add, pk_mul, nI_lt', nI_le', nI_eq', nI_z, nI_p, nI_e0, nI_l0, nI_le0, nI_clamp, up_eq, up_ne, not_true_eq_false, Classical.not_not, false_implies, true_implies, false_and, and_false, or_true, true_or, Nat.add_zero, pk_m1, m1_0, m1_n, m1_p, Nat.zero_le, forall_const, Nat.zero_add, Nat.reduceAdd, Nat.reduceEqDiff, or_false, false_or, Nat.one_ne_zero]
    exact ⟨fun _ => h23, fun q => ⟨fun _ => h23, fun q2 => absurd ⟨q, q2⟩ hb⟩⟩
set_option maxRecDepth 20000 in
set_option maxHeartbeats 4000000 in
theorem cb_X9_firstGap {l : Launch} (hl : l.stackTraces = false) {w : ab_W} {σ : ab_H} {Kn : Option Value → ab_H → Prop} {Kx : String → ab_H → Prop} (hI : ab_Inj w) (h : sbA w σ c_firstGap [] Kn Kx) : ab_Met l yX9_firstGap (Cond.code yX9_firstGap cX9_firstGap 2 (some .int)) 6 1 w σ [.ref 0] Kn Kx := by
  obtain ⟨hw, A, T, hA, hW, hT, hn, hx⟩ := h
  obtain ⟨w0, w40, w41, w49, w54, w59, w63, w120, w121, w143, w4⟩ := hw.k
  obtain ⟨e41, e49, e7, e8, e9, e63, e10, e11, e12, e59, e54⟩ := hA.rd
  have hcO := hW.1.cOK
  refine vc_X9_firstGap hl hI (ok_X3_copyFrom hl) (ok_X3_tryWatches hl)  (Nat.le_of_ble_eq_true rfl) (fun M h0 h1 => h0 [.ref 0, .null] [] σ ?_)
  have hN := hw.2.2.2.1
  have hN2 := hw.2.2.2.2.2.1
  have hn := hn rfl
  have hT0 := hW.1.1.2.1
  have e0 := hW.1.1.1
  have H : ∀ d k, k + d = 60 → ∀ σ1, RC σ1 120 (n_run k A.1) → Frk 120 29 σ σ1 → n_fg A.1 (A.1.1 5) 60 0 = n_fg A.1 (A.1.1 5) d k → M 13 [.ref 0, .int (nI k)] [] σ1 := by
    intro d
    induction d with
    | zero =>
      intro k hk σ1 hR hF he
      refine h1 _ _ _ ?_
      have hn := hn σ1 (hA.tri hF) (FrA.tri hF)
      unfold c_firstGap at hn
      rw [he] at hn
      simp (disch := omega) only [bX9_firstGap_13, q_ci, q_cl, q_ild, q_lld, q_ald, q_ist, q_ast, q_lst, q_inc, q_b2, q_d2, q_u1, q_l2, q_ld2, q_lsh, q_lcmp, q_i2l, q_l2i, q_dupi, q_dupr, q_dup2, q_popi, q_popr, q_if1, q_if2, q_nn, q_sw, q_swn, q_swc, q_gf, q_gr, q_pf, q_pz, q_pc, q_ia, q_is, q_cs, q_zs, q_la, q_lw, q_aa, q_al, q_gs, q_acp, q_m2, q_m1, q_ir, q_zr, q_lr, q_ar, q_vr, q_cN0, q_cSX0, q_cV0, q_cVX0, q_cN1, q_cSX1, q_cV1, q_cVX1, q_cN2, q_cSX2, q_cV2, q_cVX2, q_cN3, q_cSX3, q_cV3, q_cVX3, q_cN4, q_cSX4, q_cV4, q_cVX4, q_cN5, q_cSX5, q_cV5, q_cVX5, q_cN6, q_cSX6, q_cV6, q_cVX6, q_th, q_sh0, q_sh1, q_sh2, q_sh3, q_sh4, q_toL0, q_toL1, q_gl0, q_gls, q_sl0, q_sls, q_k10, q_k1s, q_lgi, q_lgr, q_lgl, q_lgn, Bool.not_false, and_true, true_and, nz_2, nz_4, nz_5, nz_8, nz_10, nz_12, nz_14, nz_16, nz_40, nz_41, nz_64, nz_100, nz_1000, nz_1024, nz_4096, nz_10000, nz_100000, not_false_eq_true, bI_0, nI_add, pk_mul, nI_lt', nI_le', nI_eq', nI_z, nI_p, nI_e0, nI_l0, nI_le0, nI_clamp, up_eq, up_ne, not_true_eq_false, Classical.not_not, false_implies, true_implies, false_and, and_false, or_true, true_or, Nat.add_zero, pk_m1, m1_0, m1_n, m1_p, Nat.zero_le, forall_const, Nat.zero_add, Nat.reduceAdd, Nat.reduceEqDiff, or_false, false_or, Nat.one_ne_zero]
      exact ⟨fun _ => hn, fun q => absurd (by omega) q⟩
    | succ d ih =>
      intro k hk σ1 hR hF he
      refine h1 _ _ _ ?_
      have hWR := WF_run hW.1 k (by omega)
      have z40 : σ1 40 = σ 40 := hF 40 (by omega)
      simp (disch := omega) only [bX9_firstGap_13, sp_X3_tryWatches, w0, w40, w63, w120, w143, q_ci, q_cl, q_ild, q_lld, q_ald, q_ist, q_ast, q_lst, q_inc, q_b2, q_d2, q_u1, q_l2, q_ld2, q_lsh, q_lcmp, q_i2l, q_l2i, q_dupi, q_dupr, q_dup2, q_popi, q_popr, q_if1, q_if2, q_nn, q_sw, q_swn, q_swc, q_gf, q_gr, q_pf, q_pz, q_pc, q_ia, q_is, q_cs, q_zs, q_la, q_lw, q_aa, q_al, q_gs, q_acp, q_m2, q_m1, q_ir, q_zr, q_lr, q_ar, q_vr, q_cN0, q_cSX0, q_cV0, q_cVX0, q_cN1, q_cSX1, q_cV1, q_cVX1, q_cN2, q_cSX2, q_cV2, q_cVX2, q_cN3, q_cSX3, q_cV3, q_cVX3, q_cN4, q_cSX4, q_cV4, q_cVX4, q_cN5, q_cSX5, q_cV5, q_cVX5, q_cN6, q_cSX6, q_cV6, q_cVX6, q_th, q_sh0, q_sh1, q_sh2, q_sh3, q_sh4, q_toL0, q_toL1, q_gl0, q_gls, q_sl0, q_sls, q_k10, q_k1s, q_lgi, q_lgr, q_lgl, q_lgn, Bool.not_false, and_true, true_and, nz_2, nz_4, nz_5, nz_8, nz_10, nz_12, nz_14, nz_16, nz_40, nz_41, nz_64, nz_100, nz_1000, nz_1024, nz_4096, nz_10000, nz_100000, not_false_eq_true, bI_0, nI_add, pk_mul, nI_lt', nI_le', nI_eq', nI_z, nI_p, nI_e0, nI_l0, nI_le0, nI_clamp, up_eq, up_ne, not_true_eq_false, Classical.not_not, false_implies, true_implies, false_and, and_false, or_true, true_or, Nat.add_zero, pk_m1, m1_0, m1_n, m1_p, Nat.zero_le, forall_const, Nat.zero_add, Nat.reduceAdd, Nat.reduceEqDiff, or_false, false_or, Nat.one_ne_zero]
      refine ⟨fun q => absurd q (by omega), fun _ => ⟨hN2, T + k, n_run k A.1, 1, hR, hWR, rfl, by omega, by omega, fun q σ2 b1 b2 => ?_, fun q => absurd ⟨by decide +kernel, by first | exact Nat.le_refl _ | exact Int32.le_refl _⟩ q⟩⟩
      rw [cl_nI (by omega)] at b1
      have b1 : RC σ2 120 (n_run (k + 1) A.1) := b1
      have hF2 := hF.trans b2
      have e63' : σ2 63 0 = A.1.1 5 := by rw [hF2 63 (by omega)]; exact e63
      have e7' : σ2 40 7 = nI (cl (A.1.1 0)) := by rw [hF2 40 (by omega), e7]; exact e0
      have q9 : σ2 143 0 = (n_run (k + 1) A.1).1 5 := b1.2.2.2.2.2.1.1
      rw [q9, e63', e7']
      refine ⟨fun q => ?_, fun q => ?_⟩
      · refine ih (k + 1) (by omega) σ2 b1 hF2 ?_
        rw [he]
        show (if _ then _ else _) = _
        rw [if_neg (Int32.not_lt.mpr q)]
      · have hn := hn σ2 (hA.tri hF2) (FrA.tri hF2)
        have hz : n_fg A.1 (A.1.1 5) 60 0 = some k := by
          rw [he]
          show (if _ then _ else _) = _
          rw [if_pos (Int32.not_le.mp q)]
        unfold c_firstGap at hn
        rw [hz] at hn
        simp only [nI_add]
        exact hn
  simp (disch := omega) only [bX9_firstGap_0, sp_X3_copyFrom, w0, w40, w120, q_ci, q_cl, q_ild, q_lld, q_ald, q_ist, q_ast, q_lst, q_inc, q_b2, q_d2, q_u1, q_l2, q_ld2, q_lsh, q_lcmp, q_i2l, q_l2i, q_dupi, q_dupr, q_dup2, q_popi, q_popr, q_if1, q_if2, q_nn, q_sw, q_swn, q_swc, q_gf, q_gr, q_pf, q_pz, q_pc, q_ia, q_is, q_cs, q_zs, q_la, q_lw, q_aa, q_al, q_gs, q_acp, q_m2, q_m1, q_ir, q_zr, q_lr, q_ar, q_vr, q_cN0, q_cSX0, q_cV0, q_cVX0, q_cN1, q_cSX1, q_cV1, q_cVX1, q_cN2, q_cSX2, q_cV2, q_cVX2, q_cN3, q_cSX3, q_cV3, q_cVX3, q_cN4, q_cSX4, q_cV4, q_cVX4, q_cN5, q_cSX5, q_cV5, q_cVX5, q_cN6, q_cSX6, q_cV6, q_cVX6, q_th, q_sh0, q_sh1, q_sh2, q_sh3, q_sh4, q_toL0, q_toL1, q_gl0, q_gls, q_sl0, q_sls, q_k10, q_k1s, q_lgi, q_lgr, q_lgl, q_lgn, Bool.not_false, and_true, true_and, nz_2, nz_4, nz_5, nz_8, nz_10, nz_12, nz_14, nz_16, nz_40, nz_41, nz_64, nz_100, nz_1000, nz_1024, nz_4096, nz_10000, nz_100000, not_false_eq_true, bI_0, nI_add, pk_mul, nI_lt', nI_le', nI_eq', nI_z, nI_p, nI_e0, nI_l0, nI_le0, nI_clamp, up_eq, up_ne, not_true_eq_false, Classical.not_not, false_implies, true_implies, false_and, and_false, or_true, true_or, Nat.add_zero, pk_m1, m1_0, m1_n, m1_p, Nat.zero_le, forall_const, Nat.zero_add, Nat.reduceAdd, Nat.reduceEqDiff, or_false, false_or, Nat.one_ne_zero]
  exact ⟨hN2, hN, by unfold apt; omega, fun σ1 a1 a2 => H 60 0 (by omega) σ1 (a1 T A.1 hW.1 hA.2.1) a2 rfl⟩
