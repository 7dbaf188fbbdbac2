def sp_X3_release : ab_S := fun w As σ K => match As with
  | [.ref b, .int i] => wN w b ∧ ∃ T m n k q, RC σ b n ∧ WFm T m n ∧ m < 5 ∧ i = nI k ∧ k < cl (n.1 1) ∧ n_most n.1 k = some q ∧ T < 100000 ∧ ∀ σ', RC σ' b (n_rel n k) → Frk b 29 σ σ' → K none σ'
  | _ => False
set_option maxRecDepth 20000 in
set_option maxHeartbeats 4000000 in
theorem ok_X3_release {l : Launch} (hl : l.stackTraces = false) : ab_OkN l yX3_release (Cond.code yX3_release cX3_release 6 none) 3 sp_X3_release := by
  intro w σ As Kn hI h
  unfold sp_X3_release at h
  split at h
  · next b i =>
    obtain ⟨b, rfl⟩ : ∃ z : Nat, z = b := ⟨_, rfl⟩
    obtain ⟨hw, T, m, n, k, q, hR, hW, hm5, rfl, hk, hq, hT, ha⟩ := h
    refine vc_X3_release hl hI (ok_X7_mostFlownOf hl) (ok_X7_addSondes hl) (ok_X3_landingPlace hl) (ok_X0_whoFindsAt hl) (ok_X7_nearestTo hl) (ok_X5_add hl) (Nat.le_of_ble_eq_true rfl) (fun M h0 h1 h2 => h0 [.ref b, .int (nI k), .null, .null, .null, .null] [] σ ?_)
    have k3 := hw.1
    have hS := hw.2.1
    obtain ⟨k7, g1, g2, g3, g4, g5, g6, g7, l1, l2, l3, l4, l5, -⟩ := id hS
    have hc := hW.cOK
    have h5 := hc.2
    have hq4 := n_most_lt hq
    have hT0 := hW.1.2.1
    have v1 : vp_in (nI k) 5 := vp_in_nI (by omega) (by omega)
    have eq : oI (n_most n.1 k) = nI q := by rw [hq]; rfl
    have hcc : σ (b + 1) 0 = nI (cl (n.1 1)) := hR.2.1.1.trans hc.1
    obtain ⟨s1, s2, s3, s4, s5, s6, s7⟩ := hR.2.1.2.1 k hk
    have e9 : σ b 9 = n.1 4 := hR.1.2.2.1
    have e7 : σ b 7 = nI (cl (n.1 0)) := hR.1.1.trans hW.1.1
    have er : nI (cl (n.1 0)) - nI (cl (n.1 0)) / nI 4 * nI 4 = nI (cl (n.1 0) % 4) := pk_rem (by omega) (by decide) (by decide)
    simp (disch := omega) only [bX3_release_0, sp_X7_mostFlownOf, sp_X7_addSondes, k3, k7, q_ci, q_cl, q_ild, q_lld, q_ald, q_ist, q_ast, q_lst, q_inc, q_b2, q_d2, q_u1, q_l2, q_ld2, q_lsh, q_lcmp, q_i2l, q_l2i, q_dupi, q_dupr, q_dup2, q_popi, q_popr, q_if1, q_if2, q_nn, q_sw, q_swn, q_swc, q_gf, q_gr, q_pf, q_pz, q_pc, q_ia, q_is, q_cs, q_zs, q_la, q_lw, q_aa, q_al, q_gs, q_acp, q_m2, q_m1, q_ir, q_zr, q_lr, q_ar, q_vr, q_cN0, q_cSX0, q_cV0, q_cVX0, q_cN1, q_cSX1, q_cV1, q_cVX1, q_cN2, q_cSX2, q_cV2, q_cVX2, q_cN3, q_cSX3, q_cV3, q_cVX3, q_cN4, q_cSX4, q_cV4, q_cVX4, q_cN5, q_cSX5, q_cV5, q_cVX5, q_cN6, q_cSX6, q_cV6, q_cVX6, q_th, q_sh0, q_sh1, q_sh2, q_sh3, q_sh4, q_toL0, q_toL1, q_gl0, q_gls, q_sl0, q_sls, q_k10, q_k1s, q_lgi, q_lgr, q_lgl, q_lgn, Bool.not_false, and_true, true_and, nz_2, nz_4, nz_5, nz_8, nz_10, nz_12, nz_14, nz_16, nz_40, nz_41, nz_64, nz_100, nz_1000, nz_1024, nz_4096, nz_10000, nz_100000, not_false_eq_true, bI_0, nI_add, pk_mul, nI_lt', nI_le', nI_eq', nI_z, nI_p, nI_e0, nI_l0, nI_le0, nI_clamp, up_eq, up_ne, not_true_eq_false, Classical.not_not, false_implies, true_implies, false_and, and_false, or_true, true_or, Nat.add_zero, pk_m1, m1_0, m1_n, m1_p, Nat.zero_le, forall_const]
    refine ⟨hS, k, n.1, hR.2.1, hc, rfl, hk, hS, k, cl (n.1 1), q, ⟨rfl, hcc, hk, h5⟩, eq, by omega, ?_⟩
    simp (disch := omega) only [sp_X3_landingPlace, k3, g3, g4, g5, l3, l4, l5, s3, s4, s5, e9, e7, eq, q_ci, q_cl, q_ild, q_lld, q_ald, q_ist, q_ast, q_lst, q_inc, q_b2, q_d2, q_u1, q_l2, q_ld2, q_lsh, q_lcmp, q_i2l, q_l2i, q_dupi, q_dupr, q_dup2, q_popi, q_popr, q_if1, q_if2, q_nn, q_sw, q_swn, q_swc, q_gf, q_gr, q_pf, q_pz, q_pc, q_ia, q_is, q_cs, q_zs, q_la, q_lw, q_aa, q_al, q_gs, q_acp, q_m2, q_m1, q_ir, q_zr, q_lr, q_ar, q_vr, q_cN0, q_cSX0, q_cV0, q_cVX0, q_cN1, q_cSX1, q_cV1, q_cVX1, q_cN2, q_cSX2, q_cV2, q_cVX2, q_cN3, q_cSX3, q_cV3, q_cVX3, q_cN4, q_cSX4, q_cV4, q_cVX4, q_cN5, q_cSX5, q_cV5, q_cVX5, q_cN6, q_cSX6, q_cV6, q_cVX6, q_th, q_sh0, q_sh1, q_sh2, q_sh3, q_sh4, q_toL0, q_toL1, q_gl0, q_gls, q_sl0, q_sls, q_k10, q_k1s, q_lgi, q_lgr, q_lgl, q_lgn, Bool.not_false, and_true, true_and, nz_2, nz_4, nz_5, nz_8, nz_10, nz_12, nz_14, nz_16, nz_40, nz_41, nz_64, nz_100, nz_1000, nz_1024, nz_4096, nz_10000, nz_100000, not_false_eq_true, bI_0, nI_add, pk_mul, nI_lt', nI_le', nI_eq', nI_z, nI_p, nI_e0, nI_l0, nI_le0, nI_clamp, up_eq, up_ne, not_true_eq_false, Classical.not_not, false_implies, true_implies, false_and, and_false, or_true, true_or, Nat.add_zero, pk_m1, m1_0, m1_n, m1_p, Nat.zero_le, forall_const]
    trace_state
    sorry
  · exact h.elim
