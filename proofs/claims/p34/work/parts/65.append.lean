set_option maxRecDepth 20000 in
set_option maxHeartbeats 4000000 in
theorem cb_X9_append {l : Launch} (hl : l.stackTraces = false) {w : ab_W} {σ : ab_H} {Kn : Option Value → ab_H → Prop} {Kx : String → ab_H → Prop} (hI : ab_Inj w) (c : Int32) (h : sbA w σ (c_append c) [x_ar, x_st] Kn Kx) : ab_Met l yX9_append (Cond.code yX9_append cX9_append 2 (some .int)) 6 1 w σ [.ref 0, .int c] Kn Kx := by
  obtain ⟨hw, A, T, hA, hW, hT, hn, hx⟩ := h
  obtain ⟨w0, w40, w41, w49, w54, w59, w63, w120, w121, w143, w4⟩ := hw.k
  obtain ⟨e41, e49, e7, e8, e9, e63, e10, e11, e12, e59, e54⟩ := hA.rd
  have hcO := hW.1.cOK
  refine vc_X9_append hl hI (ok_X9_within hl) (ok_X8_add hl)  (Nat.le_of_ble_eq_true rfl) (fun M h0 => h0 [.ref 0, .int c] [] σ ?_)
  have ht := hA.2.2.2.2.2.2
  have w1 := hw.2.1.1
  have e1 := ht.1
  have e2 := ht.2.1
  have em : aM A = A.2.2.2.2.2 := rfl
  by_cases hb : bt2 (nI 0) c (nI 255)
  · obtain ⟨k, -, hk, rfl⟩ := ab_lo (a := 0) (b := 255) (by omega) (by omega) hb.1 hb.2
    have ek : cl (nI k) = k := cl_nI (by omega)
    by_cases hm : aM A = 120
    · have hc : c_append (nI k) A = (2, 0, A) := by unfold c_append; rw [if_pos hb, if_pos hm]
      have hx := hx 1 x_st (by rw [hc]) rfl σ hA FrA.refl
      simp (disch := omega) only [bX9_append_0, sp_X9_within, sp_X8_add, w0, w1, e1, q_ci, q_cl, q_ild, q_lld, q_ald, q_ist, q_ast, q_lst, q_inc, q_b2, q_d2, q_u1, q_l2, q_ld2, q_lsh, q_lcmp, q_i2l, q_l2i, q_dupi, q_dupr, q_dup2, q_popi, q_popr, q_if1, q_if2, q_nn, q_sw, q_swn, q_swc, q_gf, q_gr, q_pf, q_pz, q_pc, q_ia, q_is, q_cs, q_zs, q_la, q_lw, q_aa, q_al, q_gs, q_acp, q_m2, q_m1, q_ir, q_zr, q_lr, q_ar, q_vr, q_cN0, q_cSX0, q_cV0, q_cVX0, q_cN1, q_cSX1, q_cV1, q_cVX1, q_cN2, q_cSX2, q_cV2, q_cVX2, q_cN3, q_cSX3, q_cV3, q_cVX3, q_cN4, q_cSX4, q_cV4, q_cVX4, q_cN5, q_cSX5, q_cV5, q_cVX5, q_cN6, q_cSX6, q_cV6, q_cVX6, q_th, q_sh0, q_sh1, q_sh2, q_sh3, q_sh4, q_toL0, q_toL1, q_gl0, q_gls, q_sl0, q_sls, q_k10, q_k1s, q_lgi, q_lgr, q_lgl, q_lgn, Bool.not_false, and_true, true_and, nz_2, nz_4, nz_5, nz_8, nz_10, nz_12, nz_14, nz_16, nz_40, nz_41, nz_64, nz_100, nz_1000, nz_1024, nz_4096, nz_10000, nz_100000, not_false_eq_true, bI_0, nI_add, pk_mul, nI_lt', nI_le', nI_eq', nI_z, nI_p, nI_e0, nI_l0, nI_le0, nI_clamp, up_eq, up_ne, not_true_eq_false, Classical.not_not, false_implies, true_implies, false_and, and_false, or_true, true_or, Nat.add_zero, pk_m1, m1_0, m1_n, m1_p, Nat.zero_le, forall_const]
      exact ⟨fun _ => ⟨fun q => absurd q (by omega), fun _ => hx⟩, fun q => absurd hk q⟩
    · have hm2 : A.2.2.2.2.2 < 120 := by have : aM A ≠ 120 := hm; omega
      have hc : c_append (nI k) A = (0, nI (aM A + 1), aTxt A (fun i => if i = aM A then k else aT A i) (aM A + 1)) := by unfold c_append; rw [if_pos hb, if_neg hm, ek]
      rw [hc] at hn
      have hn := hn rfl
      simp (disch := omega) only [bX9_append_0, sp_X9_within, sp_X8_add, w0, w1, e1, q_ci, q_cl, q_ild, q_lld, q_ald, q_ist, q_ast, q_lst, q_inc, q_b2, q_d2, q_u1, q_l2, q_ld2, q_lsh, q_lcmp, q_i2l, q_l2i, q_dupi, q_dupr, q_dup2, q_popi, q_popr, q_if1, q_if2, q_nn, q_sw, q_swn, q_swc, q_gf, q_gr, q_pf, q_pz, q_pc, q_ia, q_is, q_cs, q_zs, q_la, q_lw, q_aa, q_al, q_gs, q_acp, q_m2, q_m1, q_ir, q_zr, q_lr, q_ar, q_vr, q_cN0, q_cSX0, q_cV0, q_cVX0, q_cN1, q_cSX1, q_cV1, q_cVX1, q_cN2, q_cSX2, q_cV2, q_cVX2, q_cN3, q_cSX3, q_cV3, q_cVX3, q_cN4, q_cSX4, q_cV4, q_cVX4, q_cN5, q_cSX5, q_cV5, q_cVX5, q_cN6, q_cSX6, q_cV6, q_cVX6, q_th, q_sh0, q_sh1, q_sh2, q_sh3, q_sh4, q_toL0, q_toL1, q_gl0, q_gls, q_sl0, q_sls, q_k10, q_k1s, q_lgi, q_lgr, q_lgl, q_lgn, Bool.not_false, and_true, true_and, nz_2, nz_4, nz_5, nz_8, nz_10, nz_12, nz_14, nz_16, nz_40, nz_41, nz_64, nz_100, nz_1000, nz_1024, nz_4096, nz_10000, nz_100000, not_false_eq_true, bI_0, nI_add, pk_mul, nI_lt', nI_le', nI_eq', nI_z, nI_p, nI_e0, nI_l0, nI_le0, nI_clamp, up_eq, up_ne, not_true_eq_false, Classical.not_not, false_implies, true_implies, false_and, and_false, or_true, true_or, Nat.add_zero, pk_m1, m1_0, m1_n, m1_p, Nat.zero_le, forall_const]
      refine ⟨fun _ => ⟨fun _ => ⟨hw.2.1, _, _, k, ht, hm2, chr_n hk, hk, ?_⟩, fun q => absurd hm2 q⟩, fun q => absurd hk q⟩
      rw [chr_n hk]
      simp only [if_true]
      refine hn _ (hA.txt ⟨up_eqp rfl rfl, by show aM A + 1 ≤ 120; omega, fun j hj => ?_⟩ (fun v v1 v2 _ => by simp (disch := omega) only [up_ne])) (fun v v1 v2 => by simp (disch := omega) only [up_ne])
      have hj : j < aM A + 1 := hj
      rw [up_ne (by omega)]
      dsimp only
      by_cases hjm : j = A.2.2.2.2.2
      · rw [up_eqp rfl hjm]; show nI k = nI (if j = aM A then k else aT A j) ∧ (if j = aM A then k else aT A j) ≤ 255
        rw [if_pos hjm]; exact ⟨rfl, hk⟩
      · rw [up_nep hjm]; show _ = nI (if j = aM A then k else aT A j) ∧ (if j = aM A then k else aT A j) ≤ 255
        rw [if_neg hjm]; exact ht.2.2 j (by have : j ≠ aM A := hjm; omega)
  · have hc : c_append c A = (1, 0, A) := if_neg hb
    have hx := hx 0 x_ar (by rw [hc]) rfl σ hA FrA.refl
    simp (disch := omega) only [bX9_append_0, sp_X9_within, w0, w1, e1, q_ci, q_cl, q_ild, q_lld, q_ald, q_ist, q_ast, q_lst, q_inc, q_b2, q_d2, q_u1, q_l2, q_ld2, q_lsh, q_lcmp, q_i2l, q_l2i, q_dupi, q_dupr, q_dup2, q_popi, q_popr, q_if1, q_if2, q_nn, q_sw, q_swn, q_swc, q_gf, q_gr, q_pf, q_pz, q_pc, q_ia, q_is, q_cs, q_zs, q_la, q_lw, q_aa, q_al, q_gs, q_acp, q_m2, q_m1, q_ir, q_zr, q_lr, q_ar, q_vr, q_cN0, q_cSX0, q_cV0, q_cVX0, q_cN1, q_cSX1, q_cV1, q_cVX1, q_cN2, q_cSX2, q_cV2, q_cVX2, q_cN3, q_cSX3, q_cV3, q_cVX3, q_cN4, q_cSX4, q_cV4, q_cVX4, q_cN5, q_cSX5, q_cV5, q_cVX5, q_cN6, q_cSX6, q_cV6, q_cVX6, q_th, q_sh0, q_sh1, q_sh2, q_sh3, q_sh4, q_toL0, q_toL1, q_gl0, q_gls, q_sl0, q_sls, q_k10, q_k1s, q_lgi, q_lgr, q_lgl, q_lgn, Bool.not_false, and_true, true_and, nz_2, nz_4, nz_5, nz_8, nz_10, nz_12, nz_14, nz_16, nz_40, nz_41, nz_64, nz_100, nz_1000, nz_1024, nz_4096, nz_10000, nz_100000, not_false_eq_true, bI_0, nI_add, pk_mul, nI_lt', nI_le', nI_eq', nI_z, nI_p, nI_e0, nI_l0, nI_le0, nI_clamp, up_eq, up_ne, not_true_eq_false, Classical.not_not, false_implies, true_implies, false_and, and_false, or_true, true_or, Nat.add_zero, pk_m1, m1_0, m1_n, m1_p, Nat.zero_le, forall_const]
    exact ⟨fun q1 => absurd q1 hb, fun _ => hx⟩
