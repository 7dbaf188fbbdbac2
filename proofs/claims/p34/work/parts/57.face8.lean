theorem RA.und {w : ab_W} {σ σ' : ab_H} {A : aS} (h : RA w σ A) {n : nT} {ms : List nT} (hH : RH σ' ms) (hR : RC σ' 40 n) (e : Fr2 40 29 4 1 σ σ') : RA w σ' (n, ms, A.2.2) := by
  obtain ⟨q1, q2, q3, q4, q5, q6, q7⟩ := h
  exact ⟨q1.of (e 16 (by omega) (by omega)) (e 17 (by omega) (by omega)), hR, q3.of (fun v _ _ => e v (by omega) (by omega)), hH, q5.of (fun v _ _ => e v (by omega) (by omega)), q6.of (fun v _ _ => e v (by omega) (by omega)), by unfold tR at q7 ⊢; rw [e 1 (by omega) (by omega), e 2 (by omega) (by omega)]; exact q7⟩
theorem act_0 {v : Int32} {n : nT} {A : aS} {r : Nat} (h : r = 0) : c_act r v n A = (0, v, aNet A n) := if_pos h
theorem act_n {v : Int32} {n : nT} {A : aS} {r e : Nat} (h : r = e + 1) : c_act r v n A = (e + 1, 0, A) := by unfold c_act; rw [h]; rfl
set_option maxRecDepth 20000 in
set_option maxHeartbeats 4000000 in
theorem cb_X9_addStation {l : Launch} (hl : l.stackTraces = false) {w : ab_W} {σ : ab_H} {Kn : Option Value → ab_H → Prop} {Kx : String → ab_H → Prop} (hI : ab_Inj w) (p : Int32) (h' : Int32) (z : Int32) (g : Int32) (k : Int32) (h : sbA w σ (c_addStation p h' z g k) [x_ar, x_st] Kn Kx) : ab_Met l yX9_addStation (Cond.code yX9_addStation cX9_addStation 6 (some .int)) 8 1 w σ [.ref 0, .int p, .int h', .int z, .int g, .int k] Kn Kx := by
  obtain ⟨hw, A, T, hA, hW, hT, hn, hx⟩ := h
  obtain ⟨w0, w40, w41, w49, w54, w59, w63, w120, w121, w143, w4⟩ := hw.k
  obtain ⟨e41, e49, e7, e8, e9, e63, e10, e11, e12, e59, e54⟩ := hA.rd
  have hcO := hW.1.cOK
  refine vc_X9_addStation hl hI (ok_X3_stationRefusal hl) (ok_X9_beginAction hl) (ok_X3_tryStation hl) (okx_X9_beginAction hl) (Nat.le_of_ble_eq_true rfl) (fun M h0 => h0 [.ref 0, .int p, .int h', .int z, .int g, .int k] [] σ ?_)
  have hN := hw.2.2.2.1
  have hM := hw.2.2.1
  have hr3 : rS (cl (A.1.1 1)) p h' z g k ≤ 3 := rS_le
  have hr1 : rS (cl (A.1.1 1)) p h' z g k ≠ 1 := by unfold rS; split; split <;> omega; omega
  have h5 := hcO.2
  simp (disch := omega) only [bX9_addStation_0, sp_X3_stationRefusal, sp_X9_beginAction, sx_X9_beginAction, sp_X3_tryStation, w0, w40, w41, hN, hM, q_ci, q_cl, q_ild, q_lld, q_ald, q_ist, q_ast, q_lst, q_inc, q_b2, q_d2, q_u1, q_l2, q_ld2, q_lsh, q_lcmp, q_i2l, q_l2i, q_dupi, q_dupr, q_dup2, q_popi, q_popr, q_if1, q_if2, q_nn, q_sw, q_swn, q_swc, q_gf, q_gr, q_pf, q_pz, q_pc, q_ia, q_is, q_cs, q_zs, q_la, q_lw, q_aa, q_al, q_gs, q_acp, q_m2, q_m1, q_ir, q_zr, q_lr, q_ar, q_vr, q_cN0, q_cSX0, q_cV0, q_cVX0, q_cN1, q_cSX1, q_cV1, q_cVX1, q_cN2, q_cSX2, q_cV2, q_cVX2, q_cN3, q_cSX3, q_cV3, q_cVX3, q_cN4, q_cSX4, q_cV4, q_cVX4, q_cN5, q_cSX5, q_cV5, q_cVX5, q_cN6, q_cSX6, q_cV6, q_cVX6, q_th, q_sh0, q_sh1, q_sh2, q_sh3, q_sh4, q_toL0, q_toL1, q_gl0, q_gls, q_sl0, q_sls, q_k10, q_k1s, q_lgi, q_lgr, q_lgl, q_lgn, Bool.not_false, and_true, true_and, nz_2, nz_4, nz_5, nz_8, nz_10, nz_12, nz_14, nz_16, nz_40, nz_41, nz_64, nz_100, nz_1000, nz_1024, nz_4096, nz_10000, nz_100000, not_false_eq_true, bI_0, nI_add, pk_mul, nI_lt', nI_le', nI_eq', nI_z, nI_p, nI_e0, nI_l0, nI_le0, nI_clamp, up_eq, up_ne, not_true_eq_false, Classical.not_not, false_implies, true_implies, false_and, and_false, or_true, true_or, Nat.add_zero, pk_m1, m1_0, m1_n, m1_p, Nat.zero_le, forall_const, Nat.zero_add, Nat.reduceAdd, Nat.reduceEqDiff, or_false, false_or, Nat.one_ne_zero]
  refine ⟨cl (A.1.1 1), by rw [e41]; exact hcO.1, h5, ?_⟩
  rcases (by omega : rS (cl (A.1.1 1)) p h' z g k = 0 ∨ rS (cl (A.1.1 1)) p h' z g k = 2 ∨ rS (cl (A.1.1 1)) p h' z g k = 3) with h0 | h0 | h0
  · have hc : c_addStation p h' z g k A = (0, A.1.1 1, aNet A (n_addS A.1 p h' z g k)) := act_0 (by rw [h0])
    rw [hc] at hn
    have hn := hn rfl
    simp only [h0, nI_0]
    refine Or.inl ⟨trivial, A.2.1, T, A.1, hA.2.2.2.1, hA.2.1, hW.1, fun σ1 a1 a2 => ⟨T, A.1, hA.2.1.of (fun v _ _ => a2 v (by omega) (by omega)), hW.1, fun _ σ2 b1 b2 => ?_, fun q => absurd h0 q⟩⟩
    have q9 : σ2 41 0 = A.1.1 1 + 1 := b1.2.1.1
    rw [q9, nI_one, Int32.add_sub_cancel]
    exact hn σ2 (hA.act a1 a2 b1 b2) (FrA.act a2 b2)
  · have hc : c_addStation p h' z g k A = (1, 0, A) := act_n (e := 0) (by rw [h0])
    have hx := hx 0 x_ar (by rw [hc]) rfl σ hA FrA.refl
    exact Or.inr (Or.inr (Or.inl ⟨by rw [h0], hx⟩))
  · have hc : c_addStation p h' z g k A = (2, 0, A) := act_n (e := 1) (by rw [h0])
    have hx := hx 1 x_st (by rw [hc]) rfl σ hA FrA.refl
    exact Or.inr (Or.inr (Or.inr ⟨by rw [h0], hx⟩))
set_option maxRecDepth 20000 in
set_option maxHeartbeats 4000000 in
theorem cb_X9_addFinder {l : Launch} (hl : l.stackTraces = false) {w : ab_W} {σ : ab_H} {Kn : Option Value → ab_H → Prop} {Kx : String → ab_H → Prop} (hI : ab_Inj w) (p : Int32) (r : Int32) (d : Int32) (h : sbA w σ (c_addFinder p r d) [x_ar, x_st] Kn Kx) : ab_Met l yX9_addFinder (Cond.code yX9_addFinder cX9_addFinder 4 (some .int)) 8 1 w σ [.ref 0, .int p, .int r, .int d] Kn Kx := by
  obtain ⟨hw, A, T, hA, hW, hT, hn, hx⟩ := h
  obtain ⟨w0, w40, w41, w49, w54, w59, w63, w120, w121, w143, w4⟩ := hw.k
  obtain ⟨e41, e49, e7, e8, e9, e63, e10, e11, e12, e59, e54⟩ := hA.rd
  have hcO := hW.1.cOK
  refine vc_X9_addFinder hl hI (ok_X3_finderRefusal hl) (ok_X9_beginAction hl) (ok_X3_tryFinder hl) (okx_X9_beginAction hl) (Nat.le_of_ble_eq_true rfl) (fun M h0 => h0 [.ref 0, .int p, .int r, .int d] [] σ ?_)
  have hN := hw.2.2.2.1
  have hM := hw.2.2.1
  have hc2 := hW.1.1.2.2.2.2
  have hr3 : rF (cl (A.1.1 2)) p r d ≤ 3 := rF_le
  have hr1 : rF (cl (A.1.1 2)) p r d ≠ 1 := by unfold rF; split; split <;> omega; omega
  simp (disch := omega) only [bX9_addFinder_0, sp_X3_finderRefusal, sp_X9_beginAction, sx_X9_beginAction, sp_X3_tryFinder, w0, w40, w49, hN, hM, q_ci, q_cl, q_ild, q_lld, q_ald, q_ist, q_ast, q_lst, q_inc, q_b2, q_d2, q_u1, q_l2, q_ld2, q_lsh, q_lcmp, q_i2l, q_l2i, q_dupi, q_dupr, q_dup2, q_popi, q_popr, q_if1, q_if2, q_nn, q_sw, q_swn, q_swc, q_gf, q_gr, q_pf, q_pz, q_pc, q_ia, q_is, q_cs, q_zs, q_la, q_lw, q_aa, q_al, q_gs, q_acp, q_m2, q_m1, q_ir, q_zr, q_lr, q_ar, q_vr, q_cN0, q_cSX0, q_cV0, q_cVX0, q_cN1, q_cSX1, q_cV1, q_cVX1, q_cN2, q_cSX2, q_cV2, q_cVX2, q_cN3, q_cSX3, q_cV3, q_cVX3, q_cN4, q_cSX4, q_cV4, q_cVX4, q_cN5, q_cSX5, q_cV5, q_cVX5, q_cN6, q_cSX6, q_cV6, q_cVX6, q_th, q_sh0, q_sh1, q_sh2, q_sh3, q_sh4, q_toL0, q_toL1, q_gl0, q_gls, q_sl0, q_sls, q_k10, q_k1s, q_lgi, q_lgr, q_lgl, q_lgn, Bool.not_false, and_true, true_and, nz_2, nz_4, nz_5, nz_8, nz_10, nz_12, nz_14, nz_16, nz_40, nz_41, nz_64, nz_100, nz_1000, nz_1024, nz_4096, nz_10000, nz_100000, not_false_eq_true, bI_0, nI_add, pk_mul, nI_lt', nI_le', nI_eq', nI_z, nI_p, nI_e0, nI_l0, nI_le0, nI_clamp, up_eq, up_ne, not_true_eq_false, Classical.not_not, false_implies, true_implies, false_and, and_false, or_true, true_or, Nat.add_zero, pk_m1, m1_0, m1_n, m1_p, Nat.zero_le, forall_const, Nat.zero_add, Nat.reduceAdd, Nat.reduceEqDiff, or_false, false_or, Nat.one_ne_zero]
  refine ⟨cl (A.1.1 2), by rw [e49]; exact hc2.1, hc2.2.1, ?_⟩
  rcases (by omega : rF (cl (A.1.1 2)) p r d = 0 ∨ rF (cl (A.1.1 2)) p r d = 2 ∨ rF (cl (A.1.1 2)) p r d = 3) with h0 | h0 | h0
  · have hc : c_addFinder p r d A = (0, A.1.1 2, aNet A (n_addF A.1 p r d)) := act_0 (by rw [h0])
    rw [hc] at hn
    have hn := hn rfl
    simp only [h0, nI_0]
    refine Or.inl ⟨trivial, A.2.1, T, A.1, hA.2.2.2.1, hA.2.1, hW.1, fun σ1 a1 a2 => ⟨T, A.1, hA.2.1.of (fun v _ _ => a2 v (by omega) (by omega)), hW.1, fun _ σ2 b1 b2 => ?_, fun q => absurd h0 q⟩⟩
    have q9 : σ2 49 0 = A.1.1 2 + 1 := b1.2.2.1.1
    rw [q9, nI_one, Int32.add_sub_cancel]
    exact hn σ2 (hA.act a1 a2 b1 b2) (FrA.act a2 b2)
  · have hc : c_addFinder p r d A = (1, 0, A) := act_n (e := 0) (by rw [h0])
    have hx := hx 0 x_ar (by rw [hc]) rfl σ hA FrA.refl
    exact Or.inr (Or.inr (Or.inl ⟨by rw [h0], hx⟩))
  · have hc : c_addFinder p r d A = (2, 0, A) := act_n (e := 1) (by rw [h0])
    have hx := hx 1 x_st (by rw [hc]) rfl σ hA FrA.refl
    exact Or.inr (Or.inr (Or.inr ⟨by rw [h0], hx⟩))
set_option maxRecDepth 20000 in
set_option maxHeartbeats 4000000 in
theorem cb_X9_wind {l : Launch} (hl : l.stackTraces = false) {w : ab_W} {σ : ab_H} {Kn : Option Value → ab_H → Prop} {Kx : String → ab_H → Prop} (hI : ab_Inj w) (h' : Int32) (v : Int32) (h : sbA w σ (c_wind h' v) [x_ar] Kn Kx) : ab_Met l yX9_wind (Cond.code yX9_wind cX9_wind 4 (some .int)) 8 1 w σ [.ref 0, .int h', .int v] Kn Kx := by
  obtain ⟨hw, A, T, hA, hW, hT, hn, hx⟩ := h
  obtain ⟨w0, w40, w41, w49, w54, w59, w63, w120, w121, w143, w4⟩ := hw.k
  obtain ⟨e41, e49, e7, e8, e9, e63, e10, e11, e12, e59, e54⟩ := hA.rd
  have hcO := hW.1.cOK
  refine vc_X9_wind hl hI (ok_X3_windRefusal hl) (ok_X9_beginAction hl) (ok_X3_tryWind hl) (okx_X9_beginAction hl) (Nat.le_of_ble_eq_true rfl) (fun M h0 => h0 [.ref 0, .int h', .int v, .null] [] σ ?_)
  have hN := hw.2.2.2.1
  have hM := hw.2.2.1
  have k11 : ab_kd w 67 = 11 := hN.2.2.2.2.2.2.1
  have kl : ab_ln w 67 = 4 := hN.2.2.2.2.2.2.2.1
  by_cases hok : okW h' v
  · have h0 : rW h' v = 0 := if_pos hok
    obtain ⟨k, -, hk, rfl⟩ := ab_lo (a := 0) (b := 3) (by omega) (by omega) hok.1.1 hok.1.2
    have hc : c_wind (nI k) v A = (0, nI 100 + A.1.1 (17 + cl (nI k)), aNet A (n_wind A.1 (cl (nI k)) v)) := act_0 (by rw [h0])
    rw [hc, cl_nI (by omega)] at hn
    have hn := hn rfl
    have vp : vp_in (nI k) 4 := vp_in_nI (by omega) (by omega)
    simp (disch := omega) only [bX9_wind_0, sp_X3_windRefusal, sp_X9_beginAction, sx_X9_beginAction, sp_X3_tryWind, w0, w40, hN, hM, h0, k11, kl, or_false, q_ci, q_cl, q_ild, q_lld, q_ald, q_ist, q_ast, q_lst, q_inc, q_b2, q_d2, q_u1, q_l2, q_ld2, q_lsh, q_lcmp, q_i2l, q_l2i, q_dupi, q_dupr, q_dup2, q_popi, q_popr, q_if1, q_if2, q_nn, q_sw, q_swn, q_swc, q_gf, q_gr, q_pf, q_pz, q_pc, q_ia, q_is, q_cs, q_zs, q_la, q_lw, q_aa, q_al, q_gs, q_acp, q_m2, q_m1, q_ir, q_zr, q_lr, q_ar, q_vr, q_cN0, q_cSX0, q_cV0, q_cVX0, q_cN1, q_cSX1, q_cV1, q_cVX1, q_cN2, q_cSX2, q_cV2, q_cVX2, q_cN3, q_cSX3, q_cV3, q_cVX3, q_cN4, q_cSX4, q_cV4, q_cVX4, q_cN5, q_cSX5, q_cV5, q_cVX5, q_cN6, q_cSX6, q_cV6, q_cVX6, q_th, q_sh0, q_sh1, q_sh2, q_sh3, q_sh4, q_toL0, q_toL1, q_gl0, q_gls, q_sl0, q_sls, q_k10, q_k1s, q_lgi, q_lgr, q_lgl, q_lgn, Bool.not_false, and_true, true_and, nz_2, nz_4, nz_5, nz_8, nz_10, nz_12, nz_14, nz_16, nz_40, nz_41, nz_64, nz_100, nz_1000, nz_1024, nz_4096, nz_10000, nz_100000, not_false_eq_true, bI_0, nI_add, pk_mul, nI_lt', nI_le', nI_eq', nI_z, nI_p, nI_e0, nI_l0, nI_le0, nI_clamp, up_eq, up_ne, not_true_eq_false, Classical.not_not, false_implies, true_implies, false_and, and_false, or_true, true_or, Nat.add_zero, pk_m1, m1_0, m1_n, m1_p, Nat.zero_le, forall_const, Nat.zero_add, Nat.reduceAdd, Nat.reduceEqDiff, or_false, false_or, Nat.one_ne_zero]
    refine ⟨A.2.1, ⟨T, A.1, hA.2.2.2.1, hA.2.1, hW.1, fun σ1 a1 a2 => ⟨vp, A.1, hA.2.1.of (fun v _ _ => a2 v (by omega) (by omega)), fun σ2 b1 b2 => ?_, fun q => absurd rfl q⟩⟩⟩
    have q9 : σ1 67 k = A.1.1 (17 + k) := by rw [a2 67 (by omega) (by omega)]; exact hA.2.1.2.2.2.2.2.2.1 k (by omega)
    rw [q9]
    exact hn σ2 (hA.act a1 a2 (by rw [cl_nI (by omega)] at b1; exact b1) b2) (FrA.act a2 b2)
  · have h0 : rW h' v = 2 := if_neg hok
    have hc : c_wind h' v A = (1, 0, A) := act_n (e := 0) (by rw [h0])
    have hx := hx 0 x_ar (by rw [hc]) rfl σ hA FrA.refl
    simp (disch := omega) only [bX9_wind_0, sp_X3_windRefusal, sp_X9_beginAction, sx_X9_beginAction, w0, w40, h0, or_false, false_or, q_ci, q_cl, q_ild, q_lld, q_ald, q_ist, q_ast, q_lst, q_inc, q_b2, q_d2, q_u1, q_l2, q_ld2, q_lsh, q_lcmp, q_i2l, q_l2i, q_dupi, q_dupr, q_dup2, q_popi, q_popr, q_if1, q_if2, q_nn, q_sw, q_swn, q_swc, q_gf, q_gr, q_pf, q_pz, q_pc, q_ia, q_is, q_cs, q_zs, q_la, q_lw, q_aa, q_al, q_gs, q_acp, q_m2, q_m1, q_ir, q_zr, q_lr, q_ar, q_vr, q_cN0, q_cSX0, q_cV0, q_cVX0, q_cN1, q_cSX1, q_cV1, q_cVX1, q_cN2, q_cSX2, q_cV2, q_cVX2, q_cN3, q_cSX3, q_cV3, q_cVX3, q_cN4, q_cSX4, q_cV4, q_cVX4, q_cN5, q_cSX5, q_cV5, q_cVX5, q_cN6, q_cSX6, q_cV6, q_cVX6, q_th, q_sh0, q_sh1, q_sh2, q_sh3, q_sh4, q_toL0, q_toL1, q_gl0, q_gls, q_sl0, q_sls, q_k10, q_k1s, q_lgi, q_lgr, q_lgl, q_lgn, Bool.not_false, and_true, true_and, nz_2, nz_4, nz_5, nz_8, nz_10, nz_12, nz_14, nz_16, nz_40, nz_41, nz_64, nz_100, nz_1000, nz_1024, nz_4096, nz_10000, nz_100000, not_false_eq_true, bI_0, nI_add, pk_mul, nI_lt', nI_le', nI_eq', nI_z, nI_p, nI_e0, nI_l0, nI_le0, nI_clamp, up_eq, up_ne, not_true_eq_false, Classical.not_not, false_implies, true_implies, false_and, and_false, or_true, true_or, Nat.add_zero, pk_m1, m1_0, m1_n, m1_p, Nat.zero_le, forall_const, Nat.zero_add, Nat.reduceAdd, Nat.reduceEqDiff, or_false, false_or, Nat.one_ne_zero]
    exact hx
set_option maxRecDepth 20000 in
set_option maxHeartbeats 4000000 in
theorem cb_X9_set {l : Launch} (hl : l.stackTraces = false) {w : ab_W} {σ : ab_H} {Kn : Option Value → ab_H → Prop} {Kx : String → ab_H → Prop} (hI : ab_Inj w) (i : Int32) (v : Int32) (h : sbA w σ (c_set i v) [x_ar] Kn Kx) : ab_Met l yX9_set (Cond.code yX9_set cX9_set 4 (some .int)) 8 1 w σ [.ref 0, .int i, .int v] Kn Kx := by
  obtain ⟨hw, A, T, hA, hW, hT, hn, hx⟩ := h
  obtain ⟨w0, w40, w41, w49, w54, w59, w63, w120, w121, w143, w4⟩ := hw.k
  obtain ⟨e41, e49, e7, e8, e9, e63, e10, e11, e12, e59, e54⟩ := hA.rd
  have hcO := hW.1.cOK
  refine vc_X9_set hl hI (ok_X3_settingRefusal hl) (ok_X9_beginAction hl) (ok_X3_trySetting hl) (okx_X9_beginAction hl) (Nat.le_of_ble_eq_true rfl) (fun M h0 => h0 [.ref 0, .int i, .int v, .null] [] σ ?_)
  have hN := hw.2.2.2.1
  have hM := hw.2.2.1
  have hCT := hA.1
  have k11 : ab_kd w 68 = 11 := hN.2.2.2.2.2.2.2.2.1
  have kl : ab_ln w 68 = 5 := hN.2.2.2.2.2.2.2.2.2
  by_cases hok : okT i v
  · have h0 : rT i v = 0 := if_pos hok
    obtain ⟨k, -, hk, rfl⟩ := ab_lo (a := 0) (b := 4) (by omega) (by omega) hok.1.1 hok.1.2
    have hc : c_set (nI k) v A = (0, A.1.1 (12 + cl (nI k)), aNet A (n_set A.1 (cl (nI k)) v)) := act_0 (by rw [h0])
    rw [hc, cl_nI (by omega)] at hn
    have hn := hn rfl
    have vp : vp_in (nI k) 5 := vp_in_nI (by omega) (by omega)
    simp (disch := omega) only [bX9_set_0, sp_X3_settingRefusal, sp_X9_beginAction, sx_X9_beginAction, sp_X3_trySetting, w0, w40, hN, hM, h0, k11, kl, or_false, q_ci, q_cl, q_ild, q_lld, q_ald, q_ist, q_ast, q_lst, q_inc, q_b2, q_d2, q_u1, q_l2, q_ld2, q_lsh, q_lcmp, q_i2l, q_l2i, q_dupi, q_dupr, q_dup2, q_popi, q_popr, q_if1, q_if2, q_nn, q_sw, q_swn, q_swc, q_gf, q_gr, q_pf, q_pz, q_pc, q_ia, q_is, q_cs, q_zs, q_la, q_lw, q_aa, q_al, q_gs, q_acp, q_m2, q_m1, q_ir, q_zr, q_lr, q_ar, q_vr, q_cN0, q_cSX0, q_cV0, q_cVX0, q_cN1, q_cSX1, q_cV1, q_cVX1, q_cN2, q_cSX2, q_cV2, q_cVX2, q_cN3, q_cSX3, q_cV3, q_cVX3, q_cN4, q_cSX4, q_cV4, q_cVX4, q_cN5, q_cSX5, q_cV5, q_cVX5, q_cN6, q_cSX6, q_cV6, q_cVX6, q_th, q_sh0, q_sh1, q_sh2, q_sh3, q_sh4, q_toL0, q_toL1, q_gl0, q_gls, q_sl0, q_sls, q_k10, q_k1s, q_lgi, q_lgr, q_lgl, q_lgn, Bool.not_false, and_true, true_and, nz_2, nz_4, nz_5, nz_8, nz_10, nz_12, nz_14, nz_16, nz_40, nz_41, nz_64, nz_100, nz_1000, nz_1024, nz_4096, nz_10000, nz_100000, not_false_eq_true, bI_0, nI_add, pk_mul, nI_lt', nI_le', nI_eq', nI_z, nI_p, nI_e0, nI_l0, nI_le0, nI_clamp, up_eq, up_ne, not_true_eq_false, Classical.not_not, false_implies, true_implies, false_and, and_false, or_true, true_or, Nat.add_zero, pk_m1, m1_0, m1_n, m1_p, Nat.zero_le, forall_const, Nat.zero_add, Nat.reduceAdd, Nat.reduceEqDiff, or_false, false_or, Nat.one_ne_zero]
    refine ⟨hCT, A.2.1, ⟨T, A.1, hA.2.2.2.1, hA.2.1, hW.1, fun σ1 a1 a2 => ⟨vp, hCT.of (a2 16 (by omega) (by omega)) (a2 17 (by omega) (by omega)), A.1, hA.2.1.of (fun v _ _ => a2 v (by omega) (by omega)), fun σ2 b1 b2 => ?_, fun q => absurd rfl q⟩⟩⟩
    have q9 : σ1 68 k = A.1.1 (12 + k) := by rw [a2 68 (by omega) (by omega)]; exact hA.2.1.2.2.2.2.2.2.2 k (by omega)
    rw [q9]
    exact hn σ2 (hA.act a1 a2 (by rw [cl_nI (by omega)] at b1; exact b1) b2) (FrA.act a2 b2)
  · have h0 : rT i v = 2 := if_neg hok
    have hc : c_set i v A = (1, 0, A) := act_n (e := 0) (by rw [h0])
    have hx := hx 0 x_ar (by rw [hc]) rfl σ hA FrA.refl
    simp (disch := omega) only [bX9_set_0, sp_X3_settingRefusal, sp_X9_beginAction, sx_X9_beginAction, w0, w40, h0, or_false, false_or, q_ci, q_cl, q_ild, q_lld, q_ald, q_ist, q_ast, q_lst, q_inc, q_b2, q_d2, q_u1, q_l2, q_ld2, q_lsh, q_lcmp, q_i2l, q_l2i, q_dupi, q_dupr, q_dup2, q_popi, q_popr, q_if1, q_if2, q_nn, q_sw, q_swn, q_swc, q_gf, q_gr, q_pf, q_pz, q_pc, q_ia, q_is, q_cs, q_zs, q_la, q_lw, q_aa, q_al, q_gs, q_acp, q_m2, q_m1, q_ir, q_zr, q_lr, q_ar, q_vr, q_cN0, q_cSX0, q_cV0, q_cVX0, q_cN1, q_cSX1, q_cV1, q_cVX1, q_cN2, q_cSX2, q_cV2, q_cVX2, q_cN3, q_cSX3, q_cV3, q_cVX3, q_cN4, q_cSX4, q_cV4, q_cVX4, q_cN5, q_cSX5, q_cV5, q_cVX5, q_cN6, q_cSX6, q_cV6, q_cVX6, q_th, q_sh0, q_sh1, q_sh2, q_sh3, q_sh4, q_toL0, q_toL1, q_gl0, q_gls, q_sl0, q_sls, q_k10, q_k1s, q_lgi, q_lgr, q_lgl, q_lgn, Bool.not_false, and_true, true_and, nz_2, nz_4, nz_5, nz_8, nz_10, nz_12, nz_14, nz_16, nz_40, nz_41, nz_64, nz_100, nz_1000, nz_1024, nz_4096, nz_10000, nz_100000, not_false_eq_true, bI_0, nI_add, pk_mul, nI_lt', nI_le', nI_eq', nI_z, nI_p, nI_e0, nI_l0, nI_le0, nI_clamp, up_eq, up_ne, not_true_eq_false, Classical.not_not, false_implies, true_implies, false_and, and_false, or_true, true_or, Nat.add_zero, pk_m1, m1_0, m1_n, m1_p, Nat.zero_le, forall_const, Nat.zero_add, Nat.reduceAdd, Nat.reduceEqDiff, or_false, false_or, Nat.one_ne_zero]
    exact ⟨hCT, hx⟩
set_option maxRecDepth 20000 in
set_option maxHeartbeats 4000000 in
theorem cb_X9_change {l : Launch} (hl : l.stackTraces = false) {w : ab_W} {σ : ab_H} {Kn : Option Value → ab_H → Prop} {Kx : String → ab_H → Prop} (hI : ab_Inj w) (s : Int32) (p : Int32) (z : Int32) (h : sbA w σ (c_change s p z) [x_ix, x_ar] Kn Kx) : ab_Met l yX9_change (Cond.code yX9_change cX9_change 5 (some .int)) 8 1 w σ [.ref 0, .int s, .int p, .int z] Kn Kx := by
  obtain ⟨hw, A, T, hA, hW, hT, hn, hx⟩ := h
  obtain ⟨w0, w40, w41, w49, w54, w59, w63, w120, w121, w143, w4⟩ := hw.k
  obtain ⟨e41, e49, e7, e8, e9, e63, e10, e11, e12, e59, e54⟩ := hA.rd
  have hcO := hW.1.cOK
  refine vc_X9_change hl hI (ok_X3_changeRefusal hl) (ok_X9_beginAction hl) (ok_X3_tryChange hl) (okx_X9_beginAction hl) (Nat.le_of_ble_eq_true rfl) (fun M h0 => h0 [.ref 0, .int s, .int p, .int z, .null] [] σ ?_)
  have hN := hw.2.2.2.1
  have hM := hw.2.2.1
  obtain ⟨k7, g1, g2, g3, g4, g5, g6, g7, l1, l2, l3, l4, l5, l6, l7⟩ := id hN.2.1
  by_cases hv : vS A.1.1 s
  · by_cases hok : okH p z
    · have h0 : rC A.1.1 s p z = 0 := by unfold rC; rw [if_pos hv, if_pos hok]
      obtain ⟨k, hk, hs⟩ : ∃ k, k < cl (A.1.1 1) ∧ s = nI k := ⟨cl s, (ab_ixs hcO hv).2, (ab_ixs hcO hv).1⟩
      subst hs
      have h5 := hcO.2
      have hc : c_change (nI k) p z A = (0, A.1.1 (22 + 11 * cl (nI k)), aNet A (n_chg A.1 (cl (nI k)) p z)) := act_0 (by rw [h0])
      rw [hc, cl_nI (by omega)] at hn
      have hn := hn rfl
      have vp : vp_in (nI k) 5 := vp_in_nI (by omega) (by omega)
      simp (disch := omega) only [bX9_change_0, sp_X3_changeRefusal, sp_X9_beginAction, sx_X9_beginAction, sp_X3_tryChange, w0, w40, w41, hN, hM, g2, l2, q_ci, q_cl, q_ild, q_lld, q_ald, q_ist, q_ast, q_lst, q_inc, q_b2, q_d2, q_u1, q_l2, q_ld2, q_lsh, q_lcmp, q_i2l, q_l2i, q_dupi, q_dupr, q_dup2, q_popi, q_popr, q_if1, q_if2, q_nn, q_sw, q_swn, q_swc, q_gf, q_gr, q_pf, q_pz, q_pc, q_ia, q_is, q_cs, q_zs, q_la, q_lw, q_aa, q_al, q_gs, q_acp, q_m2, q_m1, q_ir, q_zr, q_lr, q_ar, q_vr, q_cN0, q_cSX0, q_cV0, q_cVX0, q_cN1, q_cSX1, q_cV1, q_cVX1, q_cN2, q_cSX2, q_cV2, q_cVX2, q_cN3, q_cSX3, q_cV3, q_cVX3, q_cN4, q_cSX4, q_cV4, q_cVX4, q_cN5, q_cSX5, q_cV5, q_cVX5, q_cN6, q_cSX6, q_cV6, q_cVX6, q_th, q_sh0, q_sh1, q_sh2, q_sh3, q_sh4, q_toL0, q_toL1, q_gl0, q_gls, q_sl0, q_sls, q_k10, q_k1s, q_lgi, q_lgr, q_lgl, q_lgn, Bool.not_false, and_true, true_and, nz_2, nz_4, nz_5, nz_8, nz_10, nz_12, nz_14, nz_16, nz_40, nz_41, nz_64, nz_100, nz_1000, nz_1024, nz_4096, nz_10000, nz_100000, not_false_eq_true, bI_0, nI_add, pk_mul, nI_lt', nI_le', nI_eq', nI_z, nI_p, nI_e0, nI_l0, nI_le0, nI_clamp, up_eq, up_ne, not_true_eq_false, Classical.not_not, false_implies, true_implies, false_and, and_false, or_true, true_or, Nat.add_zero, pk_m1, m1_0, m1_n, m1_p, Nat.zero_le, forall_const, Nat.zero_add, Nat.reduceAdd, Nat.reduceEqDiff, or_false, false_or, Nat.one_ne_zero]
      refine ⟨A.1.1, e41, ?_⟩
      simp only [h0, nI_0]
      refine Or.inl ⟨trivial, A.2.1, T, A.1, hA.2.2.2.1, hA.2.1, hW.1, fun σ1 a1 a2 => ⟨vp, T, A.1, hA.2.1.of (fun v _ _ => a2 v (by omega) (by omega)), hW.1, fun _ σ2 b1 b2 => ?_, fun q => absurd h0 q⟩⟩
      have q9 : σ1 43 k = A.1.1 (22 + 11 * k) := by rw [a2 43 (by omega) (by omega)]; exact (hA.2.1.2.1.2.1 k hk).2.1
      rw [q9]
      exact hn σ2 (hA.act a1 a2 (by rw [cl_nI (by omega)] at b1; exact b1) b2) (FrA.act a2 b2)
    · have h0 : rC A.1.1 s p z = 2 := by unfold rC; rw [if_pos hv, if_neg hok]
      have hc : c_change s p z A = (2, 0, A) := act_n (e := 1) (by rw [h0])
      have hx := hx 1 x_ar (by rw [hc]) rfl σ hA FrA.refl
      simp (disch := omega) only [bX9_change_0, sp_X3_changeRefusal, sp_X9_beginAction, sx_X9_beginAction, w0, w40, w41, hN, q_ci, q_cl, q_ild, q_lld, q_ald, q_ist, q_ast, q_lst, q_inc, q_b2, q_d2, q_u1, q_l2, q_ld2, q_lsh, q_lcmp, q_i2l, q_l2i, q_dupi, q_dupr, q_dup2, q_popi, q_popr, q_if1, q_if2, q_nn, q_sw, q_swn, q_swc, q_gf, q_gr, q_pf, q_pz, q_pc, q_ia, q_is, q_cs, q_zs, q_la, q_lw, q_aa, q_al, q_gs, q_acp, q_m2, q_m1, q_ir, q_zr, q_lr, q_ar, q_vr, q_cN0, q_cSX0, q_cV0, q_cVX0, q_cN1, q_cSX1, q_cV1, q_cVX1, q_cN2, q_cSX2, q_cV2, q_cVX2, q_cN3, q_cSX3, q_cV3, q_cVX3, q_cN4, q_cSX4, q_cV4, q_cVX4, q_cN5, q_cSX5, q_cV5, q_cVX5, q_cN6, q_cSX6, q_cV6, q_cVX6, q_th, q_sh0, q_sh1, q_sh2, q_sh3, q_sh4, q_toL0, q_toL1, q_gl0, q_gls, q_sl0, q_sls, q_k10, q_k1s, q_lgi, q_lgr, q_lgl, q_lgn, Bool.not_false, and_true, true_and, nz_2, nz_4, nz_5, nz_8, nz_10, nz_12, nz_14, nz_16, nz_40, nz_41, nz_64, nz_100, nz_1000, nz_1024, nz_4096, nz_10000, nz_100000, not_false_eq_true, bI_0, nI_add, pk_mul, nI_lt', nI_le', nI_eq', nI_z, nI_p, nI_e0, nI_l0, nI_le0, nI_clamp, up_eq, up_ne, not_true_eq_false, Classical.not_not, false_implies, true_implies, false_and, and_false, or_true, true_or, Nat.add_zero, pk_m1, m1_0, m1_n, m1_p, Nat.zero_le, forall_const, Nat.zero_add, Nat.reduceAdd, Nat.reduceEqDiff, or_false, false_or, Nat.one_ne_zero]
      exact ⟨A.1.1, e41, Or.inr (Or.inr (Or.inl ⟨by rw [h0], hx⟩))⟩
  · have h0 : rC A.1.1 s p z = 1 := by unfold rC; rw [if_neg hv]
    have hc : c_change s p z A = (1, 0, A) := act_n (e := 0) (by rw [h0])
    have hx := hx 0 x_ix (by rw [hc]) rfl σ hA FrA.refl
    simp (disch := omega) only [bX9_change_0, sp_X3_changeRefusal, sp_X9_beginAction, sx_X9_beginAction, w0, w40, w41, hN, q_ci, q_cl, q_ild, q_lld, q_ald, q_ist, q_ast, q_lst, q_inc, q_b2, q_d2, q_u1, q_l2, q_ld2, q_lsh, q_lcmp, q_i2l, q_l2i, q_dupi, q_dupr, q_dup2, q_popi, q_popr, q_if1, q_if2, q_nn, q_sw, q_swn, q_swc, q_gf, q_gr, q_pf, q_pz, q_pc, q_ia, q_is, q_cs, q_zs, q_la, q_lw, q_aa, q_al, q_gs, q_acp, q_m2, q_m1, q_ir, q_zr, q_lr, q_ar, q_vr, q_cN0, q_cSX0, q_cV0, q_cVX0, q_cN1, q_cSX1, q_cV1, q_cVX1, q_cN2, q_cSX2, q_cV2, q_cVX2, q_cN3, q_cSX3, q_cV3, q_cVX3, q_cN4, q_cSX4, q_cV4, q_cVX4, q_cN5, q_cSX5, q_cV5, q_cVX5, q_cN6, q_cSX6, q_cV6, q_cVX6, q_th, q_sh0, q_sh1, q_sh2, q_sh3, q_sh4, q_toL0, q_toL1, q_gl0, q_gls, q_sl0, q_sls, q_k10, q_k1s, q_lgi, q_lgr, q_lgl, q_lgn, Bool.not_false, and_true, true_and, nz_2, nz_4, nz_5, nz_8, nz_10, nz_12, nz_14, nz_16, nz_40, nz_41, nz_64, nz_100, nz_1000, nz_1024, nz_4096, nz_10000, nz_100000, not_false_eq_true, bI_0, nI_add, pk_mul, nI_lt', nI_le', nI_eq', nI_z, nI_p, nI_e0, nI_l0, nI_le0, nI_clamp, up_eq, up_ne, not_true_eq_false, Classical.not_not, false_implies, true_implies, false_and, and_false, or_true, true_or, Nat.add_zero, pk_m1, m1_0, m1_n, m1_p, Nat.zero_le, forall_const, Nat.zero_add, Nat.reduceAdd, Nat.reduceEqDiff, or_false, false_or, Nat.one_ne_zero]
    exact ⟨A.1.1, e41, Or.inr (Or.inl ⟨by rw [h0], hx⟩)⟩
theorem ord_price {n : nT} {s g k : Nat} {x y : Int32} : n_price (n_ord n s g k).1 x y = n_price n.1 x y := by
  unfold n_price n_ord
  dsimp only
  rw [upd_nep (by omega), upd_nep (by omega)]
set_option maxRecDepth 20000 in
set_option maxHeartbeats 4000000 in
theorem cb_X9_deliver {l : Launch} (hl : l.stackTraces = false) {w : ab_W} {σ : ab_H} {Kn : Option Value → ab_H → Prop} {Kx : String → ab_H → Prop} (hI : ab_Inj w) (s : Int32) (g : Int32) (k : Int32) (h : sbA w σ (c_deliver s g k) [x_ix, x_ar, x_st] Kn Kx) : ab_Met l yX9_deliver (Cond.code yX9_deliver cX9_deliver 4 (some .int)) 8 1 w σ [.ref 0, .int s, .int g, .int k] Kn Kx := by
  obtain ⟨hw, A, T, hA, hW, hT, hn, hx⟩ := h
  obtain ⟨w0, w40, w41, w49, w54, w59, w63, w120, w121, w143, w4⟩ := hw.k
  obtain ⟨e41, e49, e7, e8, e9, e63, e10, e11, e12, e59, e54⟩ := hA.rd
  have hcO := hW.1.cOK
  refine vc_X9_deliver hl hI (ok_X3_orderRefusal hl) (ok_X9_beginAction hl) (ok_X3_tryOrder hl) (ok_X3_priceOf hl) (okx_X9_beginAction hl) (Nat.le_of_ble_eq_true rfl) (fun M h0 => h0 [.ref 0, .int s, .int g, .int k] [] σ ?_)
  have hN := hw.2.2.2.1
  have hM := hw.2.2.1
  have hr3 : rO A.1.1 A.1.2.1.length s g k ≤ 3 := rO_le
  simp (disch := omega) only [bX9_deliver_0, sp_X3_orderRefusal, sp_X9_beginAction, sx_X9_beginAction, sp_X3_tryOrder, sp_X3_priceOf, w0, w40, w41, hN, hM, q_ci, q_cl, q_ild, q_lld, q_ald, q_ist, q_ast, q_lst, q_inc, q_b2, q_d2, q_u1, q_l2, q_ld2, q_lsh, q_lcmp, q_i2l, q_l2i, q_dupi, q_dupr, q_dup2, q_popi, q_popr, q_if1, q_if2, q_nn, q_sw, q_swn, q_swc, q_gf, q_gr, q_pf, q_pz, q_pc, q_ia, q_is, q_cs, q_zs, q_la, q_lw, q_aa, q_al, q_gs, q_acp, q_m2, q_m1, q_ir, q_zr, q_lr, q_ar, q_vr, q_cN0, q_cSX0, q_cV0, q_cVX0, q_cN1, q_cSX1, q_cV1, q_cVX1, q_cN2, q_cSX2, q_cV2, q_cVX2, q_cN3, q_cSX3, q_cV3, q_cVX3, q_cN4, q_cSX4, q_cV4, q_cVX4, q_cN5, q_cSX5, q_cV5, q_cVX5, q_cN6, q_cSX6, q_cV6, q_cVX6, q_th, q_sh0, q_sh1, q_sh2, q_sh3, q_sh4, q_toL0, q_toL1, q_gl0, q_gls, q_sl0, q_sls, q_k10, q_k1s, q_lgi, q_lgr, q_lgl, q_lgn, Bool.not_false, and_true, true_and, nz_2, nz_4, nz_5, nz_8, nz_10, nz_12, nz_14, nz_16, nz_40, nz_41, nz_64, nz_100, nz_1000, nz_1024, nz_4096, nz_10000, nz_100000, not_false_eq_true, bI_0, nI_add, pk_mul, nI_lt', nI_le', nI_eq', nI_z, nI_p, nI_e0, nI_l0, nI_le0, nI_clamp, up_eq, up_ne, not_true_eq_false, Classical.not_not, false_implies, true_implies, false_and, and_false, or_true, true_or, Nat.add_zero, pk_m1, m1_0, m1_n, m1_p, Nat.zero_le, forall_const, Nat.zero_add, Nat.reduceAdd, Nat.reduceEqDiff, or_false, false_or, Nat.one_ne_zero]
  refine ⟨A.1.1, A.1.2.1.length, e41, e54, hW.1.2.2.1.1, ?_⟩
  rcases (by omega : rO A.1.1 A.1.2.1.length s g k = 0 ∨ rO A.1.1 A.1.2.1.length s g k = 1 ∨ rO A.1.1 A.1.2.1.length s g k = 2 ∨ rO A.1.1 A.1.2.1.length s g k = 3) with h0 | h0 | h0 | h0
  · have hc : c_deliver s g k A = (0, n_price A.1.1 g k, aNet A (n_ord A.1 (cl s) (cl g) (cl k))) := act_0 (by rw [h0])
    rw [hc] at hn
    have hn := hn rfl
    simp only [h0, nI_0]
    refine Or.inl ⟨trivial, A.2.1, T, A.1, hA.2.2.2.1, hA.2.1, hW.1, fun σ1 a1 a2 => ⟨T, A.1, hA.2.1.of (fun v _ _ => a2 v (by omega) (by omega)), hW.1, fun _ σ2 b1 b2 => ⟨_, b1.2.2.2.2.2.2.2, ?_⟩, fun q => absurd h0 q⟩⟩
    rw [ord_price]
    exact hn σ2 (hA.act a1 a2 b1 b2) (FrA.act a2 b2)
  · have hc : c_deliver s g k A = (1, 0, A) := act_n (e := 0) (by rw [h0])
    have hx := hx 0 x_ix (by rw [hc]) rfl σ hA FrA.refl
    exact Or.inr (Or.inl ⟨by rw [h0], hx⟩)
  · have hc : c_deliver s g k A = (2, 0, A) := act_n (e := 1) (by rw [h0])
    have hx := hx 1 x_ar (by rw [hc]) rfl σ hA FrA.refl
    exact Or.inr (Or.inr (Or.inl ⟨by rw [h0], hx⟩))
  · have hc : c_deliver s g k A = (3, 0, A) := act_n (e := 2) (by rw [h0])
    have hx := hx 2 x_st (by rw [hc]) rfl σ hA FrA.refl
    exact Or.inr (Or.inr (Or.inr ⟨by rw [h0], hx⟩))
set_option maxRecDepth 20000 in
set_option maxHeartbeats 4000000 in
theorem cb_X9_move {l : Launch} (hl : l.stackTraces = false) {w : ab_W} {σ : ab_H} {Kn : Option Value → ab_H → Prop} {Kx : String → ab_H → Prop} (hI : ab_Inj w) (s : Int32) (t : Int32) (h : sbA w σ (c_move s t) [x_ix, x_st] Kn Kx) : ab_Met l yX9_move (Cond.code yX9_move cX9_move 4 (some .int)) 8 1 w σ [.ref 0, .int s, .int t] Kn Kx := by
  obtain ⟨hw, A, T, hA, hW, hT, hn, hx⟩ := h
  obtain ⟨w0, w40, w41, w49, w54, w59, w63, w120, w121, w143, w4⟩ := hw.k
  obtain ⟨e41, e49, e7, e8, e9, e63, e10, e11, e12, e59, e54⟩ := hA.rd
  have hcO := hW.1.cOK
  refine vc_X9_move hl hI (ok_X3_transferRefusal hl) (ok_X9_beginAction hl) (ok_X7_mostFlownOf hl) (ok_X3_tryTransfer hl) (okx_X9_beginAction hl) (Nat.le_of_ble_eq_true rfl) (fun M h0 => h0 [.ref 0, .int s, .int t, .null] [] σ ?_)
  have hN := hw.2.2.2.1
  have hM := hw.2.2.1
  have hr3 : rM A.1.1 s t ≤ 3 := rM_le
  by_cases hv : vS A.1.1 s ∧ vS A.1.1 t
  · by_cases hok : s = t ∨ n_most A.1.1 (cl s) = none
    · have h0 : rM A.1.1 s t = 3 := by unfold rM; rw [if_pos hv, if_pos hok]
      have hc : c_move s t A = (2, 0, A) := act_n (e := 1) (by rw [h0])
      have hx := hx 1 x_st (by rw [hc]) rfl σ hA FrA.refl
      simp (disch := omega) only [bX9_move_0, sp_X3_transferRefusal, sp_X9_beginAction, sx_X9_beginAction, w0, w40, w41, hN, q_ci, q_cl, q_ild, q_lld, q_ald, q_ist, q_ast, q_lst, q_inc, q_b2, q_d2, q_u1, q_l2, q_ld2, q_lsh, q_lcmp, q_i2l, q_l2i, q_dupi, q_dupr, q_dup2, q_popi, q_popr, q_if1, q_if2, q_nn, q_sw, q_swn, q_swc, q_gf, q_gr, q_pf, q_pz, q_pc, q_ia, q_is, q_cs, q_zs, q_la, q_lw, q_aa, q_al, q_gs, q_acp, q_m2, q_m1, q_ir, q_zr, q_lr, q_ar, q_vr, q_cN0, q_cSX0, q_cV0, q_cVX0, q_cN1, q_cSX1, q_cV1, q_cVX1, q_cN2, q_cSX2, q_cV2, q_cVX2, q_cN3, q_cSX3, q_cV3, q_cVX3, q_cN4, q_cSX4, q_cV4, q_cVX4, q_cN5, q_cSX5, q_cV5, q_cVX5, q_cN6, q_cSX6, q_cV6, q_cVX6, q_th, q_sh0, q_sh1, q_sh2, q_sh3, q_sh4, q_toL0, q_toL1, q_gl0, q_gls, q_sl0, q_sls, q_k10, q_k1s, q_lgi, q_lgr, q_lgl, q_lgn, Bool.not_false, and_true, true_and, nz_2, nz_4, nz_5, nz_8, nz_10, nz_12, nz_14, nz_16, nz_40, nz_41, nz_64, nz_100, nz_1000, nz_1024, nz_4096, nz_10000, nz_100000, not_false_eq_true, bI_0, nI_add, pk_mul, nI_lt', nI_le', nI_eq', nI_z, nI_p, nI_e0, nI_l0, nI_le0, nI_clamp, up_eq, up_ne, not_true_eq_false, Classical.not_not, false_implies, true_implies, false_and, and_false, or_true, true_or, Nat.add_zero, pk_m1, m1_0, m1_n, m1_p, Nat.zero_le, forall_const, Nat.zero_add, Nat.reduceAdd, Nat.reduceEqDiff, or_false, false_or, Nat.one_ne_zero]
      exact ⟨A.1.1, hA.2.1.2.1, hcO, Or.inr (Or.inr (Or.inr ⟨by rw [h0], hx⟩))⟩
    · have h0 : rM A.1.1 s t = 0 := by unfold rM; rw [if_pos hv, if_neg hok]
      obtain ⟨k, hk, hs⟩ : ∃ k, k < cl (A.1.1 1) ∧ s = nI k := ⟨cl s, (ab_ixs hcO hv.1).2, (ab_ixs hcO hv.1).1⟩
      subst hs
      have h5 := hcO.2
      have hc : c_move (nI k) t A = (0, oI (n_most A.1.1 (cl (nI k))), aNet A (n_mov A.1 (cl (nI k)) (cl t))) := act_0 (by rw [h0])
      rw [hc] at hn
      have hn := hn rfl
      have hS := hN.2.1
      have eck := cl_nI (show k < 2 ^ 31 by omega)
      simp (disch := omega) only [bX9_move_0, sp_X3_transferRefusal, sp_X9_beginAction, sx_X9_beginAction, sp_X3_tryTransfer, sp_X7_mostFlownOf, w0, w40, w41, hN, hM, hS, q_ci, q_cl, q_ild, q_lld, q_ald, q_ist, q_ast, q_lst, q_inc, q_b2, q_d2, q_u1, q_l2, q_ld2, q_lsh, q_lcmp, q_i2l, q_l2i, q_dupi, q_dupr, q_dup2, q_popi, q_popr, q_if1, q_if2, q_nn, q_sw, q_swn, q_swc, q_gf, q_gr, q_pf, q_pz, q_pc, q_ia, q_is, q_cs, q_zs, q_la, q_lw, q_aa, q_al, q_gs, q_acp, q_m2, q_m1, q_ir, q_zr, q_lr, q_ar, q_vr, q_cN0, q_cSX0, q_cV0, q_cVX0, q_cN1, q_cSX1, q_cV1, q_cVX1, q_cN2, q_cSX2, q_cV2, q_cVX2, q_cN3, q_cSX3, q_cV3, q_cVX3, q_cN4, q_cSX4, q_cV4, q_cVX4, q_cN5, q_cSX5, q_cV5, q_cVX5, q_cN6, q_cSX6, q_cV6, q_cVX6, q_th, q_sh0, q_sh1, q_sh2, q_sh3, q_sh4, q_toL0, q_toL1, q_gl0, q_gls, q_sl0, q_sls, q_k10, q_k1s, q_lgi, q_lgr, q_lgl, q_lgn, Bool.not_false, and_true, true_and, nz_2, nz_4, nz_5, nz_8, nz_10, nz_12, nz_14, nz_16, nz_40, nz_41, nz_64, nz_100, nz_1000, nz_1024, nz_4096, nz_10000, nz_100000, not_false_eq_true, bI_0, nI_add, pk_mul, nI_lt', nI_le', nI_eq', nI_z, nI_p, nI_e0, nI_l0, nI_le0, nI_clamp, up_eq, up_ne, not_true_eq_false, Classical.not_not, false_implies, true_implies, false_and, and_false, or_true, true_or, Nat.add_zero, pk_m1, m1_0, m1_n, m1_p, Nat.zero_le, forall_const, Nat.zero_add, Nat.reduceAdd, Nat.reduceEqDiff, or_false, false_or, Nat.one_ne_zero]
      refine ⟨A.1.1, hA.2.1.2.1, hcO, ?_⟩
      simp only [h0, nI_0]
      refine Or.inl ⟨trivial, A.2.1, T, A.1, hA.2.2.2.1, hA.2.1, hW.1, fun σ1 a1 a2 => ?_⟩
      have hR1 : RC σ1 40 A.1 := hA.2.1.of (fun v _ _ => a2 v (by omega) (by omega))
      refine ⟨k, A.1.1, hR1.2.1, hcO, rfl, hk, T, A.1, hR1, hW.1, fun _ σ2 b1 b2 => ?_, fun q => absurd h0 q⟩
      rw [eck] at hn
      exact hn σ2 (hA.act a1 a2 (by rw [eck] at b1; exact b1) b2) (FrA.act a2 b2)
  · have h0 : rM A.1.1 s t = 1 := by unfold rM; rw [if_neg hv]
    have hc : c_move s t A = (1, 0, A) := act_n (e := 0) (by rw [h0])
    have hx := hx 0 x_ix (by rw [hc]) rfl σ hA FrA.refl
    simp (disch := omega) only [bX9_move_0, sp_X3_transferRefusal, sp_X9_beginAction, sx_X9_beginAction, w0, w40, w41, hN, q_ci, q_cl, q_ild, q_lld, q_ald, q_ist, q_ast, q_lst, q_inc, q_b2, q_d2, q_u1, q_l2, q_ld2, q_lsh, q_lcmp, q_i2l, q_l2i, q_dupi, q_dupr, q_dup2, q_popi, q_popr, q_if1, q_if2, q_nn, q_sw, q_swn, q_swc, q_gf, q_gr, q_pf, q_pz, q_pc, q_ia, q_is, q_cs, q_zs, q_la, q_lw, q_aa, q_al, q_gs, q_acp, q_m2, q_m1, q_ir, q_zr, q_lr, q_ar, q_vr, q_cN0, q_cSX0, q_cV0, q_cVX0, q_cN1, q_cSX1, q_cV1, q_cVX1, q_cN2, q_cSX2, q_cV2, q_cVX2, q_cN3, q_cSX3, q_cV3, q_cVX3, q_cN4, q_cSX4, q_cV4, q_cVX4, q_cN5, q_cSX5, q_cV5, q_cVX5, q_cN6, q_cSX6, q_cV6, q_cVX6, q_th, q_sh0, q_sh1, q_sh2, q_sh3, q_sh4, q_toL0, q_toL1, q_gl0, q_gls, q_sl0, q_sls, q_k10, q_k1s, q_lgi, q_lgr, q_lgl, q_lgn, Bool.not_false, and_true, true_and, nz_2, nz_4, nz_5, nz_8, nz_10, nz_12, nz_14, nz_16, nz_40, nz_41, nz_64, nz_100, nz_1000, nz_1024, nz_4096, nz_10000, nz_100000, not_false_eq_true, bI_0, nI_add, pk_mul, nI_lt', nI_le', nI_eq', nI_z, nI_p, nI_e0, nI_l0, nI_le0, nI_clamp, up_eq, up_ne, not_true_eq_false, Classical.not_not, false_implies, true_implies, false_and, and_false, or_true, true_or, Nat.add_zero, pk_m1, m1_0, m1_n, m1_p, Nat.zero_le, forall_const, Nat.zero_add, Nat.reduceAdd, Nat.reduceEqDiff, or_false, false_or, Nat.one_ne_zero]
    exact ⟨A.1.1, hA.2.1.2.1, hcO, Or.inr (Or.inl ⟨by rw [h0], hx⟩)⟩
set_option maxRecDepth 20000 in
set_option maxHeartbeats 4000000 in
theorem cb_X9_run {l : Launch} (hl : l.stackTraces = false) {w : ab_W} {σ : ab_H} {Kn : Option Value → ab_H → Prop} {Kx : String → ab_H → Prop} (hI : ab_Inj w) (n : Int32) (h : sbA w σ (c_run n) [x_ar] Kn Kx) : ab_Met l yX9_run (Cond.code yX9_run cX9_run 3 (some .int)) 8 1 w σ [.ref 0, .int n] Kn Kx := by
  obtain ⟨hw, A, T, hA, hW, hT, hn, hx⟩ := h
  obtain ⟨w0, w40, w41, w49, w54, w59, w63, w120, w121, w143, w4⟩ := hw.k
  obtain ⟨e41, e49, e7, e8, e9, e63, e10, e11, e12, e59, e54⟩ := hA.rd
  have hcO := hW.1.cOK
  refine vc_X9_run hl hI (ok_X9_within hl) (ok_X9_beginAction hl) (ok_X3_tryWatches hl) (okx_X9_beginAction hl) (Nat.le_of_ble_eq_true rfl) (fun M h0 h1 => h0 [.ref 0, .int n, .null] [] σ ?_)
  have hN := hw.2.2.2.1
  have hM := hw.2.2.1
  by_cases hb : bt2 (nI 1) n (nI 40)
  · have hc : c_run n A = (0, (n_run (cl n) A.1).1 4 - A.1.1 4, aNet A (n_run (cl n) A.1)) := act_0 (if_pos hb)
    rw [hc] at hn
    have hn := hn rfl
    have h16 : M 16 [.ref 0, .int n, .null] [.int (nI 0), .ref 0] σ := by
      refine h1 _ _ _ ?_
      simp (disch := omega) only [bX9_run_16, sp_X9_beginAction, sx_X9_beginAction, sp_X3_tryWatches, w0, w40, hN, hM, or_false, q_ci, q_cl, q_ild, q_lld, q_ald, q_ist, q_ast, q_lst, q_inc, q_b2, q_d2, q_u1, q_l2, q_ld2, q_lsh, q_lcmp, q_i2l, q_l2i, q_dupi, q_dupr, q_dup2, q_popi, q_popr, q_if1, q_if2, q_nn, q_sw, q_swn, q_swc, q_gf, q_gr, q_pf, q_pz, q_pc, q_ia, q_is, q_cs, q_zs, q_la, q_lw, q_aa, q_al, q_gs, q_acp, q_m2, q_m1, q_ir, q_zr, q_lr, q_ar, q_vr, q_cN0, q_cSX0, q_cV0, q_cVX0, q_cN1, q_cSX1, q_cV1, q_cVX1, q_cN2, q_cSX2, q_cV2, q_cVX2, q_cN3, q_cSX3, q_cV3, q_cVX3, q_cN4, q_cSX4, q_cV4, q_cVX4, q_cN5, q_cSX5, q_cV5, q_cVX5, q_cN6, q_cSX6, q_cV6, q_cVX6, q_th, q_sh0, q_sh1, q_sh2, q_sh3, q_sh4, q_toL0, q_toL1, q_gl0, q_gls, q_sl0, q_sls, q_k10, q_k1s, q_lgi, q_lgr, q_lgl, q_lgn, Bool.not_false, and_true, true_and, nz_2, nz_4, nz_5, nz_8, nz_10, nz_12, nz_14, nz_16, nz_40, nz_41, nz_64, nz_100, nz_1000, nz_1024, nz_4096, nz_10000, nz_100000, not_false_eq_true, bI_0, nI_add, pk_mul, nI_lt', nI_le', nI_eq', nI_z, nI_p, nI_e0, nI_l0, nI_le0, nI_clamp, up_eq, up_ne, not_true_eq_false, Classical.not_not, false_implies, true_implies, false_and, and_false, or_true, true_or, Nat.add_zero, pk_m1, m1_0, m1_n, m1_p, Nat.zero_le, forall_const, Nat.zero_add, Nat.reduceAdd, Nat.reduceEqDiff, or_false, false_or, Nat.one_ne_zero]
      refine ⟨A.2.1, ⟨T, A.1, hA.2.2.2.1, hA.2.1, hW.1, fun σ1 a1 a2 => ⟨T, A.1, 40, hA.2.1.of (fun v _ _ => a2 v (by omega) (by omega)), hW.1, rfl, by omega, by omega, fun q σ2 b1 b2 => ?_, fun q => absurd ⟨by rw [← nI_one]; exact hb.1, hb.2⟩ q⟩⟩⟩
      have q9 : σ2 40 9 = (n_run (cl n) A.1).1 4 := b1.1.2.2.1
      have q8 : σ1 40 9 = A.1.1 4 := by rw [a2 40 (by omega) (by omega)]; exact e9
      rw [q9, q8]
      exact hn σ2 (hA.act a1 a2 b1 b2) (FrA.act a2 b2)
    simp (disch := omega) only [bX9_run_0, sp_X9_within, q_ci, q_cl, q_ild, q_lld, q_ald, q_ist, q_ast, q_lst, q_inc, q_b2, q_d2, q_u1, q_l2, q_ld2, q_lsh, q_lcmp, q_i2l, q_l2i, q_dupi, q_dupr, q_dup2, q_popi, q_popr, q_if1, q_if2, q_nn, q_sw, q_swn, q_swc, q_gf, q_gr, q_pf, q_pz, q_pc, q_ia, q_is, q_cs, q_zs, q_la, q_lw, q_aa, q_al, q_gs, q_acp, q_m2, q_m1, q_ir, q_zr, q_lr, q_ar, q_vr, q_cN0, q_cSX0, q_cV0, q_cVX0, q_cN1, q_cSX1, q_cV1, q_cVX1, q_cN2, q_cSX2, q_cV2, q_cVX2, q_cN3, q_cSX3, q_cV3, q_cVX3, q_cN4, q_cSX4, q_cV4, q_cVX4, q_cN5, q_cSX5, q_cV5, q_cVX5, q_cN6, q_cSX6, q_cV6, q_cVX6, q_th, q_sh0, q_sh1, q_sh2, q_sh3, q_sh4, q_toL0, q_toL1, q_gl0, q_gls, q_sl0, q_sls, q_k10, q_k1s, q_lgi, q_lgr, q_lgl, q_lgn, Bool.not_false, and_true, true_and, nz_2, nz_4, nz_5, nz_8, nz_10, nz_12, nz_14, nz_16, nz_40, nz_41, nz_64, nz_100, nz_1000, nz_1024, nz_4096, nz_10000, nz_100000, not_false_eq_true, bI_0, nI_add, pk_mul, nI_lt', nI_le', nI_eq', nI_z, nI_p, nI_e0, nI_l0, nI_le0, nI_clamp, up_eq, up_ne, not_true_eq_false, Classical.not_not, false_implies, true_implies, false_and, and_false, or_true, true_or, Nat.add_zero, pk_m1, m1_0, m1_n, m1_p, Nat.zero_le, forall_const, Nat.zero_add, Nat.reduceAdd, Nat.reduceEqDiff, or_false, false_or, Nat.one_ne_zero]
    exact ⟨fun q => absurd hb q, fun _ => h16⟩
  · have hc : c_run n A = (1, 0, A) := act_n (e := 0) (if_neg hb)
    have hx := hx 0 x_ar (by rw [hc]) rfl σ hA FrA.refl
    have h16 : M 16 [.ref 0, .int n, .null] [.int (nI 2), .ref 0] σ := by
      refine h1 _ _ _ ?_
      simp (disch := omega) only [bX9_run_16, sp_X9_beginAction, sx_X9_beginAction, w0, or_false, false_or, q_ci, q_cl, q_ild, q_lld, q_ald, q_ist, q_ast, q_lst, q_inc, q_b2, q_d2, q_u1, q_l2, q_ld2, q_lsh, q_lcmp, q_i2l, q_l2i, q_dupi, q_dupr, q_dup2, q_popi, q_popr, q_if1, q_if2, q_nn, q_sw, q_swn, q_swc, q_gf, q_gr, q_pf, q_pz, q_pc, q_ia, q_is, q_cs, q_zs, q_la, q_lw, q_aa, q_al, q_gs, q_acp, q_m2, q_m1, q_ir, q_zr, q_lr, q_ar, q_vr, q_cN0, q_cSX0, q_cV0, q_cVX0, q_cN1, q_cSX1, q_cV1, q_cVX1, q_cN2, q_cSX2, q_cV2, q_cVX2, q_cN3, q_cSX3, q_cV3, q_cVX3, q_cN4, q_cSX4, q_cV4, q_cVX4, q_cN5, q_cSX5, q_cV5, q_cVX5, q_cN6, q_cSX6, q_cV6, q_cVX6, q_th, q_sh0, q_sh1, q_sh2, q_sh3, q_sh4, q_toL0, q_toL1, q_gl0, q_gls, q_sl0, q_sls, q_k10, q_k1s, q_lgi, q_lgr, q_lgl, q_lgn, Bool.not_false, and_true, true_and, nz_2, nz_4, nz_5, nz_8, nz_10, nz_12, nz_14, nz_16, nz_40, nz_41, nz_64, nz_100, nz_1000, nz_1024, nz_4096, nz_10000, nz_100000, not_false_eq_true, bI_0, nI_add, pk_mul, nI_lt', nI_le', nI_eq', nI_z, nI_p, nI_e0, nI_l0, nI_le0, nI_clamp, up_eq, up_ne, not_true_eq_false, Classical.not_not, false_implies, true_implies, false_and, and_false, or_true, true_or, Nat.add_zero, pk_m1, m1_0, m1_n, m1_p, Nat.zero_le, forall_const, Nat.zero_add, Nat.reduceAdd, Nat.reduceEqDiff, or_false, false_or, Nat.one_ne_zero]
      exact hx
    simp (disch := omega) only [bX9_run_0, sp_X9_within, q_ci, q_cl, q_ild, q_lld, q_ald, q_ist, q_ast, q_lst, q_inc, q_b2, q_d2, q_u1, q_l2, q_ld2, q_lsh, q_lcmp, q_i2l, q_l2i, q_dupi, q_dupr, q_dup2, q_popi, q_popr, q_if1, q_if2, q_nn, q_sw, q_swn, q_swc, q_gf, q_gr, q_pf, q_pz, q_pc, q_ia, q_is, q_cs, q_zs, q_la, q_lw, q_aa, q_al, q_gs, q_acp, q_m2, q_m1, q_ir, q_zr, q_lr, q_ar, q_vr, q_cN0, q_cSX0, q_cV0, q_cVX0, q_cN1, q_cSX1, q_cV1, q_cVX1, q_cN2, q_cSX2, q_cV2, q_cVX2, q_cN3, q_cSX3, q_cV3, q_cVX3, q_cN4, q_cSX4, q_cV4, q_cVX4, q_cN5, q_cSX5, q_cV5, q_cVX5, q_cN6, q_cSX6, q_cV6, q_cVX6, q_th, q_sh0, q_sh1, q_sh2, q_sh3, q_sh4, q_toL0, q_toL1, q_gl0, q_gls, q_sl0, q_sls, q_k10, q_k1s, q_lgi, q_lgr, q_lgl, q_lgn, Bool.not_false, and_true, true_and, nz_2, nz_4, nz_5, nz_8, nz_10, nz_12, nz_14, nz_16, nz_40, nz_41, nz_64, nz_100, nz_1000, nz_1024, nz_4096, nz_10000, nz_100000, not_false_eq_true, bI_0, nI_add, pk_mul, nI_lt', nI_le', nI_eq', nI_z, nI_p, nI_e0, nI_l0, nI_le0, nI_clamp, up_eq, up_ne, not_true_eq_false, Classical.not_not, false_implies, true_implies, false_and, and_false, or_true, true_or, Nat.add_zero, pk_m1, m1_0, m1_n, m1_p, Nat.zero_le, forall_const, Nat.zero_add, Nat.reduceAdd, Nat.reduceEqDiff, or_false, false_or, Nat.one_ne_zero]
    exact ⟨fun _ => h16, fun q => absurd q hb⟩
set_option maxRecDepth 20000 in
set_option maxHeartbeats 4000000 in
theorem cb_X9_undo {l : Launch} (hl : l.stackTraces = false) {w : ab_W} {σ : ab_H} {Kn : Option Value → ab_H → Prop} {Kx : String → ab_H → Prop} (hI : ab_Inj w) (h : sbA w σ c_undo [x_st] Kn Kx) : ab_Met l yX9_undo (Cond.code yX9_undo cX9_undo 1 (some .int)) 6 1 w σ [.ref 0] Kn Kx := by
  obtain ⟨hw, A, T, hA, hW, hT, hn, hx⟩ := h
  obtain ⟨w0, w40, w41, w49, w54, w59, w63, w120, w121, w143, w4⟩ := hw.k
  obtain ⟨e41, e49, e7, e8, e9, e63, e10, e11, e12, e59, e54⟩ := hA.rd
  have hcO := hW.1.cOK
  refine vc_X9_undo hl hI (ok_X2_takeBack hl)  (Nat.le_of_ble_eq_true rfl) (fun M h0 => h0 [.ref 0] [] σ ?_)
  have hN := hw.2.2.2.1
  have hM := hw.2.2.1
  have hH := hA.2.2.2.1
  rcases hl0 : A.2.1.getLast? with _ | n
  · have hnil : A.2.1 = [] := List.getLast?_eq_none_iff.mp hl0
    have hc : c_undo A = (1, 0, A) := by unfold c_undo; rw [hl0]
    have hx := hx 0 x_st (by rw [hc]) rfl σ hA FrA.refl
    have ec : σ 4 0 = nI 0 := by obtain ⟨f, -, -, q, -⟩ := hH; rw [hnil] at q; exact q
    simp (disch := omega) only [bX9_undo_0, w0, w4, ec, q_ci, q_cl, q_ild, q_lld, q_ald, q_ist, q_ast, q_lst, q_inc, q_b2, q_d2, q_u1, q_l2, q_ld2, q_lsh, q_lcmp, q_i2l, q_l2i, q_dupi, q_dupr, q_dup2, q_popi, q_popr, q_if1, q_if2, q_nn, q_sw, q_swn, q_swc, q_gf, q_gr, q_pf, q_pz, q_pc, q_ia, q_is, q_cs, q_zs, q_la, q_lw, q_aa, q_al, q_gs, q_acp, q_m2, q_m1, q_ir, q_zr, q_lr, q_ar, q_vr, q_cN0, q_cSX0, q_cV0, q_cVX0, q_cN1, q_cSX1, q_cV1, q_cVX1, q_cN2, q_cSX2, q_cV2, q_cVX2, q_cN3, q_cSX3, q_cV3, q_cVX3, q_cN4, q_cSX4, q_cV4, q_cVX4, q_cN5, q_cSX5, q_cV5, q_cVX5, q_cN6, q_cSX6, q_cV6, q_cVX6, q_th, q_sh0, q_sh1, q_sh2, q_sh3, q_sh4, q_toL0, q_toL1, q_gl0, q_gls, q_sl0, q_sls, q_k10, q_k1s, q_lgi, q_lgr, q_lgl, q_lgn, Bool.not_false, and_true, true_and, nz_2, nz_4, nz_5, nz_8, nz_10, nz_12, nz_14, nz_16, nz_40, nz_41, nz_64, nz_100, nz_1000, nz_1024, nz_4096, nz_10000, nz_100000, not_false_eq_true, bI_0, nI_add, pk_mul, nI_lt', nI_le', nI_eq', nI_z, nI_p, nI_e0, nI_l0, nI_le0, nI_clamp, up_eq, up_ne, not_true_eq_false, Classical.not_not, false_implies, true_implies, false_and, and_false, or_true, true_or, Nat.add_zero, pk_m1, m1_0, m1_n, m1_p, Nat.zero_le, forall_const, Nat.zero_add, Nat.reduceAdd, Nat.reduceEqDiff, or_false, false_or, Nat.one_ne_zero]
    exact hx
  · obtain ⟨ms, hms⟩ := List.getLast?_eq_some_iff.mp hl0
    have hc : c_undo A = (0, nI (A.2.1.length - 1), (n, A.2.1.dropLast, A.2.2)) := by unfold c_undo; rw [hl0]
    rw [hc, hms, List.dropLast_concat, List.length_append, List.length_singleton, Nat.add_sub_cancel] at hn
    have hn := hn rfl
    rw [hms] at hH
    have ec : σ 4 0 = nI (ms.length + 1) ∧ ms.length + 1 ≤ 14 := by obtain ⟨f, -, q2, q, -⟩ := hH; rw [List.length_append, List.length_singleton] at q q2; exact ⟨q, q2⟩
    obtain ⟨ec, hl14⟩ := ec
    have hWn : WF T n := hW.2.1 n (by rw [hms]; exact List.mem_append_right _ (List.mem_singleton.mpr rfl))
    simp (disch := omega) only [bX9_undo_0, sp_X2_takeBack, w0, w4, ec, hM, hN, q_ci, q_cl, q_ild, q_lld, q_ald, q_ist, q_ast, q_lst, q_inc, q_b2, q_d2, q_u1, q_l2, q_ld2, q_lsh, q_lcmp, q_i2l, q_l2i, q_dupi, q_dupr, q_dup2, q_popi, q_popr, q_if1, q_if2, q_nn, q_sw, q_swn, q_swc, q_gf, q_gr, q_pf, q_pz, q_pc, q_ia, q_is, q_cs, q_zs, q_la, q_lw, q_aa, q_al, q_gs, q_acp, q_m2, q_m1, q_ir, q_zr, q_lr, q_ar, q_vr, q_cN0, q_cSX0, q_cV0, q_cVX0, q_cN1, q_cSX1, q_cV1, q_cVX1, q_cN2, q_cSX2, q_cV2, q_cVX2, q_cN3, q_cSX3, q_cV3, q_cVX3, q_cN4, q_cSX4, q_cV4, q_cVX4, q_cN5, q_cSX5, q_cV5, q_cVX5, q_cN6, q_cSX6, q_cV6, q_cVX6, q_th, q_sh0, q_sh1, q_sh2, q_sh3, q_sh4, q_toL0, q_toL1, q_gl0, q_gls, q_sl0, q_sls, q_k10, q_k1s, q_lgi, q_lgr, q_lgl, q_lgn, Bool.not_false, and_true, true_and, nz_2, nz_4, nz_5, nz_8, nz_10, nz_12, nz_14, nz_16, nz_40, nz_41, nz_64, nz_100, nz_1000, nz_1024, nz_4096, nz_10000, nz_100000, not_false_eq_true, bI_0, nI_add, pk_mul, nI_lt', nI_le', nI_eq', nI_z, nI_p, nI_e0, nI_l0, nI_le0, nI_clamp, up_eq, up_ne, not_true_eq_false, Classical.not_not, false_implies, true_implies, false_and, and_false, or_true, true_or, Nat.add_zero, pk_m1, m1_0, m1_n, m1_p, Nat.zero_le, forall_const, Nat.zero_add, Nat.reduceAdd, Nat.reduceEqDiff, or_false, false_or, Nat.one_ne_zero]
    refine ⟨by unfold apb; omega, ms, ⟨T, n, hH, hWn, fun σ2 b1 b2 b3 => ?_⟩⟩
    have q9 : σ2 4 0 = nI ms.length := by obtain ⟨f, -, -, q, -⟩ := b1; exact q
    rw [q9]
    exact hn σ2 (hA.und b1 b2 b3) (fun v _ _ => b3 v (by omega) (by omega))
