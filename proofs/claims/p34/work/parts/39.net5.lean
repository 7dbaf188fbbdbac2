set_option maxRecDepth 20000 in
set_option maxHeartbeats 4000000 in
theorem ok_X3_planOf {l : Launch} (hl : l.stackTraces = false) : ab_OkN l yX3_planOf (Cond.code yX3_planOf cX3_planOf 2 (some .int)) 3 sp_X3_planOf := by
  intro w σ As Kn hI h
  unfold sp_X3_planOf at h
  split at h
  · next b i =>
    obtain ⟨b, rfl⟩ : ∃ z : Nat, z = b := ⟨_, rfl⟩
    obtain ⟨hw, T, m, n, k, hR, hW, rfl, hk, hT, h⟩ := h
    refine vc_X3_planOf hl hI (ok_X7_has hl) (ok_X3_hourOfNow hl) (ok_X7_mostFlownOf hl) (Nat.le_of_ble_eq_true rfl) (fun M h0 h1 h2 => h0 [.ref b, .int (nI k)] [] σ ?_)
    have k3 := hw.1
    have hS := hw.2.1
    obtain ⟨g0, g1, g2, g3, g4, g5, g6, g7, l1, l2, l3, l4, -⟩ := id hS
    have hc : cOK n.1 := ⟨hW.1.2.2.1, hW.1.2.2.2.1⟩
    have h5 := hc.2
    have v1 : vp_in (nI k) 5 := vp_in_nI (by omega) (by omega)
    obtain ⟨s1, s2, s3, s4, -⟩ := hR.2.1.2.1 k hk
    have e7 : σ b 7 = nI (cl (n.1 0)) := hR.1.1.trans hW.1.1
    have hT0 := hW.1.2.1
    have hcc : σ (b + 1) 0 = nI (cl (n.1 1)) := hR.2.1.1.trans hc.1
    simp (disch := omega) only [bX3_planOf_0, sp_X7_has, sp_X3_hourOfNow, sp_X7_mostFlownOf, k3, g0, g2, g3, g4, l2, l3, l4, s2, s3, s4, hcc, q_ci, q_cl, q_ild, q_lld, q_ald, q_ist, q_ast, q_lst, q_inc, q_b2, q_d2, q_u1, q_l2, q_ld2, q_lsh, q_lcmp, q_i2l, q_l2i, q_dupi, q_dupr, q_dup2, q_popi, q_popr, q_if1, q_if2, q_nn, q_sw, q_swn, q_swc, q_gf, q_gr, q_pf, q_pz, q_pc, q_ia, q_is, q_cs, q_zs, q_la, q_lw, q_aa, q_al, q_gs, q_acp, q_m2, q_m1, q_ir, q_zr, q_lr, q_ar, q_vr, q_cN0, q_cSX0, q_cV0, q_cVX0, q_cN1, q_cSX1, q_cV1, q_cVX1, q_cN2, q_cSX2, q_cV2, q_cVX2, q_cN3, q_cSX3, q_cV3, q_cVX3, q_cN4, q_cSX4, q_cV4, q_cVX4, q_cN5, q_cSX5, q_cV5, q_cVX5, q_cN6, q_cSX6, q_cV6, q_cVX6, q_th, q_sh0, q_sh1, q_sh2, q_sh3, q_sh4, q_toL0, q_toL1, q_gl0, q_gls, q_sl0, q_sls, q_k10, q_k1s, q_lgi, q_lgr, q_lgl, q_lgn, Bool.not_false, and_true, true_and, nz_2, nz_4, nz_5, nz_8, nz_10, nz_12, nz_14, nz_16, nz_40, nz_41, nz_64, nz_100, nz_1000, nz_1024, nz_4096, nz_10000, nz_100000, not_false_eq_true, bI_0, nI_add, pk_mul, nI_lt', nI_le', nI_eq', nI_z, nI_p, nI_e0, nI_l0, nI_le0, nI_clamp, up_eq, up_ne, not_true_eq_false, Classical.not_not, false_implies, true_implies, false_and, and_false, or_true, true_or, Nat.add_zero, pk_m1, m1_0, m1_n, m1_p, Nat.zero_le, forall_const]
    have H72 : ∀ z, z = nI (n_deed n.1 k) → M 72 [.ref b, .int (nI k)] [.int z] σ := by
      intro z hz
      refine h2 _ _ _ ?_
      simp (disch := omega) only [bX3_planOf_72, q_ci, q_cl, q_ild, q_lld, q_ald, q_ist, q_ast, q_lst, q_inc, q_b2, q_d2, q_u1, q_l2, q_ld2, q_lsh, q_lcmp, q_i2l, q_l2i, q_dupi, q_dupr, q_dup2, q_popi, q_popr, q_if1, q_if2, q_nn, q_sw, q_swn, q_swc, q_gf, q_gr, q_pf, q_pz, q_pc, q_ia, q_is, q_cs, q_zs, q_la, q_lw, q_aa, q_al, q_gs, q_acp, q_m2, q_m1, q_ir, q_zr, q_lr, q_ar, q_vr, q_cN0, q_cSX0, q_cV0, q_cVX0, q_cN1, q_cSX1, q_cV1, q_cVX1, q_cN2, q_cSX2, q_cV2, q_cVX2, q_cN3, q_cSX3, q_cV3, q_cVX3, q_cN4, q_cSX4, q_cV4, q_cVX4, q_cN5, q_cSX5, q_cV5, q_cVX5, q_cN6, q_cSX6, q_cV6, q_cVX6, q_th, q_sh0, q_sh1, q_sh2, q_sh3, q_sh4, q_toL0, q_toL1, q_gl0, q_gls, q_sl0, q_sls, q_k10, q_k1s, q_lgi, q_lgr, q_lgl, q_lgn, Bool.not_false, and_true, true_and, nz_2, nz_4, nz_5, nz_8, nz_10, nz_12, nz_14, nz_16, nz_40, nz_41, nz_64, nz_100, nz_1000, nz_1024, nz_4096, nz_10000, nz_100000, not_false_eq_true, bI_0, nI_add, pk_mul, nI_lt', nI_le', nI_eq', nI_z, nI_p, nI_e0, nI_l0, nI_le0, nI_clamp, up_eq, up_ne, not_true_eq_false, Classical.not_not, false_implies, true_implies, false_and, and_false, or_true, true_or, Nat.add_zero, pk_m1, m1_0, m1_n, m1_p, Nat.zero_le, forall_const]
      rw [hz]; exact h
    have H30 : n_deed n.1 k = 0 → M 30 [.ref b, .int (nI k)] [] σ := by
      intro hz
      refine h1 _ _ _ ?_
      simp (disch := omega) only [bX3_planOf_30, q_ci, q_cl, q_ild, q_lld, q_ald, q_ist, q_ast, q_lst, q_inc, q_b2, q_d2, q_u1, q_l2, q_ld2, q_lsh, q_lcmp, q_i2l, q_l2i, q_dupi, q_dupr, q_dup2, q_popi, q_popr, q_if1, q_if2, q_nn, q_sw, q_swn, q_swc, q_gf, q_gr, q_pf, q_pz, q_pc, q_ia, q_is, q_cs, q_zs, q_la, q_lw, q_aa, q_al, q_gs, q_acp, q_m2, q_m1, q_ir, q_zr, q_lr, q_ar, q_vr, q_cN0, q_cSX0, q_cV0, q_cVX0, q_cN1, q_cSX1, q_cV1, q_cVX1, q_cN2, q_cSX2, q_cV2, q_cVX2, q_cN3, q_cSX3, q_cV3, q_cVX3, q_cN4, q_cSX4, q_cV4, q_cVX4, q_cN5, q_cSX5, q_cV5, q_cVX5, q_cN6, q_cSX6, q_cV6, q_cVX6, q_th, q_sh0, q_sh1, q_sh2, q_sh3, q_sh4, q_toL0, q_toL1, q_gl0, q_gls, q_sl0, q_sls, q_k10, q_k1s, q_lgi, q_lgr, q_lgl, q_lgn, Bool.not_false, and_true, true_and, nz_2, nz_4, nz_5, nz_8, nz_10, nz_12, nz_14, nz_16, nz_40, nz_41, nz_64, nz_100, nz_1000, nz_1024, nz_4096, nz_10000, nz_100000, not_false_eq_true, bI_0, nI_add, pk_mul, nI_lt', nI_le', nI_eq', nI_z, nI_p, nI_e0, nI_l0, nI_le0, nI_clamp, up_eq, up_ne, not_true_eq_false, Classical.not_not, false_implies, true_implies, false_and, and_false, or_true, true_or, Nat.add_zero, pk_m1, m1_0, m1_n, m1_p, Nat.zero_le, forall_const]
      rw [hz] at h; exact h
    skip
    refine ⟨fun q => absurd (by omega) q, fun _ => ⟨v1, cl (n.1 0), e7, by omega, fun q => ⟨v1, v1, fun q1 => ⟨hS, k, n.1, hR.2.1, hc, rfl, hk, fun q2 => ?_, fun q2 => ?_⟩, fun q1 => ?_⟩, fun q => ?_⟩⟩
    · refine H72 _ ?_
      unfold n_deed n_hb
      rw [if_neg q, if_neg (Int32.not_lt.mpr q1), if_neg (fun q3 => q2 (by rw [n_most_m1]; exact q3))]
    · refine H72 _ ?_
      rw [n_most_m1] at q2
      unfold n_deed n_hb
      rw [if_neg q, if_neg (Int32.not_lt.mpr q1), if_pos q2]
    · unfold n_deed n_hb at h
      rw [if_neg q, if_pos (Int32.not_le.mp q1)] at h
      exact h
    · refine H30 ?_
      unfold n_deed n_hb
      rw [if_pos q]
  · exact h.elim
def sp_X3_tryTransfer : ab_S := fun w As σ K => match As with
  | [.ref b, .int s, .int t] => wN w b ∧ ∃ T n, RC σ b n ∧ WF T n ∧ (rM n.1 s t = 0 → ∀ σ', RC σ' b (n_mov n (cl s) (cl t)) → Frk b 29 σ σ' → K (some (.int 1)) σ') ∧ (rM n.1 s t ≠ 0 → K (some (.int 0)) σ)
  | _ => False
def sp_X3_trySetting : ab_S := fun w As σ K => match As with
  | [.ref b, .int i, .int v] => wN w b ∧ CT w σ ∧ ∃ n, RC σ b n ∧ (rT i v = 0 → ∀ σ', RC σ' b (n_set n (cl i) v) → Frk b 29 σ σ' → K (some (.int 1)) σ') ∧ (rT i v ≠ 0 → K (some (.int 0)) σ)
  | _ => False
set_option maxRecDepth 20000 in
set_option maxHeartbeats 4000000 in
theorem ok_X3_trySetting {l : Launch} (hl : l.stackTraces = false) : ab_OkN l yX3_trySetting (Cond.code yX3_trySetting cX3_trySetting 3 (some .boolean)) 3 sp_X3_trySetting := by
  intro w σ As Kn hI h
  unfold sp_X3_trySetting at h
  split at h
  · next b p q =>
    obtain ⟨b, rfl⟩ : ∃ z : Nat, z = b := ⟨_, rfl⟩
    obtain ⟨hw, hC, n, hR, ha, hb⟩ := h
    refine vc_X3_trySetting hl hI (ok_X3_settingRefusal hl) (Nat.le_of_ble_eq_true rfl) (fun M h0 => h0 [.ref b, .int p, .int q] [] σ ?_)
    have k3 := hw.1
    have k11 := hw.2.2.2.2.2.2.2.2.1
    have kl := hw.2.2.2.2.2.2.2.2.2
    have hr3 := @rT_le p q
    simp (disch := omega) only [bX3_trySetting_0, sp_X3_settingRefusal, k3, q_ci, q_cl, q_ild, q_lld, q_ald, q_ist, q_ast, q_lst, q_inc, q_b2, q_d2, q_u1, q_l2, q_ld2, q_lsh, q_lcmp, q_i2l, q_l2i, q_dupi, q_dupr, q_dup2, q_popi, q_popr, q_if1, q_if2, q_nn, q_sw, q_swn, q_swc, q_gf, q_gr, q_pf, q_pz, q_pc, q_ia, q_is, q_cs, q_zs, q_la, q_lw, q_aa, q_al, q_gs, q_acp, q_m2, q_m1, q_ir, q_zr, q_lr, q_ar, q_vr, q_cN0, q_cSX0, q_cV0, q_cVX0, q_cN1, q_cSX1, q_cV1, q_cVX1, q_cN2, q_cSX2, q_cV2, q_cVX2, q_cN3, q_cSX3, q_cV3, q_cVX3, q_cN4, q_cSX4, q_cV4, q_cVX4, q_cN5, q_cSX5, q_cV5, q_cVX5, q_cN6, q_cSX6, q_cV6, q_cVX6, q_th, q_sh0, q_sh1, q_sh2, q_sh3, q_sh4, q_toL0, q_toL1, q_gl0, q_gls, q_sl0, q_sls, q_k10, q_k1s, q_lgi, q_lgr, q_lgl, q_lgn, Bool.not_false, and_true, true_and, nz_2, nz_4, nz_5, nz_8, nz_10, nz_12, nz_14, nz_16, nz_40, nz_41, nz_64, nz_100, nz_1000, nz_1024, nz_4096, nz_10000, nz_100000, not_false_eq_true, bI_0, nI_add, pk_mul, nI_lt', nI_le', nI_eq', nI_z, nI_p, nI_e0, nI_l0, nI_le0, nI_clamp, up_eq, up_ne, not_true_eq_false, Classical.not_not, false_implies, true_implies, false_and, and_false, or_true, true_or, Nat.add_zero, pk_m1, m1_0, m1_n, m1_p, Nat.zero_le, forall_const]
    refine ⟨hC, fun q0 => ?_, fun q0 => ?_⟩
    · have hz : rT p q = 0 := q0
      obtain ⟨k, hk, rfl⟩ : ∃ k, k ≤ 4 ∧ p = nI k := by
        unfold rT at hz; split at hz
        · next hh => 
          have h1 := hh.1.1
          rw [nI_0] at h1
          exact ab_ixle (by omega) h1 hh.1.2
        · omega
      have hvp : vp_in (nI k) 5 := vp_in_nI (by omega) (by omega)
      simp (disch := omega) only [k3, k11, kl, q_ci, q_cl, q_ild, q_lld, q_ald, q_ist, q_ast, q_lst, q_inc, q_b2, q_d2, q_u1, q_l2, q_ld2, q_lsh, q_lcmp, q_i2l, q_l2i, q_dupi, q_dupr, q_dup2, q_popi, q_popr, q_if1, q_if2, q_nn, q_sw, q_swn, q_swc, q_gf, q_gr, q_pf, q_pz, q_pc, q_ia, q_is, q_cs, q_zs, q_la, q_lw, q_aa, q_al, q_gs, q_acp, q_m2, q_m1, q_ir, q_zr, q_lr, q_ar, q_vr, q_cN0, q_cSX0, q_cV0, q_cVX0, q_cN1, q_cSX1, q_cV1, q_cVX1, q_cN2, q_cSX2, q_cV2, q_cVX2, q_cN3, q_cSX3, q_cV3, q_cVX3, q_cN4, q_cSX4, q_cV4, q_cVX4, q_cN5, q_cSX5, q_cV5, q_cVX5, q_cN6, q_cSX6, q_cV6, q_cVX6, q_th, q_sh0, q_sh1, q_sh2, q_sh3, q_sh4, q_toL0, q_toL1, q_gl0, q_gls, q_sl0, q_sls, q_k10, q_k1s, q_lgi, q_lgr, q_lgl, q_lgn, Bool.not_false, and_true, true_and, nz_2, nz_4, nz_5, nz_8, nz_10, nz_12, nz_14, nz_16, nz_40, nz_41, nz_64, nz_100, nz_1000, nz_1024, nz_4096, nz_10000, nz_100000, not_false_eq_true, bI_0, nI_add, pk_mul, nI_lt', nI_le', nI_eq', nI_z, nI_p, nI_e0, nI_l0, nI_le0, nI_clamp, up_eq, up_ne, not_true_eq_false, Classical.not_not, false_implies, true_implies, false_and, and_false, or_true, true_or, Nat.add_zero, pk_m1, m1_0, m1_n, m1_p, Nat.zero_le, forall_const]
      refine ⟨hvp, Or.inr nI_one, ?_⟩
      rw [nI_one]
      obtain ⟨q1, q2, q3, q4, q5, q6, q7, q8⟩ := hR
      have en : ∀ i, i ≠ 12 + k → (n_set n (cl (nI k)) q).1 i = n.1 i := by
        intro i h1; unfold n_set; dsimp only; rw [cl_nI (by omega), upd_nep h1]
      refine ha hz _ ⟨q1.g (by simp (disch := omega) only [up_ne]) ?_, ?_, q3.g (fun v h1 h2 => by simp (disch := omega) only [up_ne]) ?_ ?_, q4.of (fun v h1 h2 => by simp (disch := omega) only [up_ne]), q5.of (fun v h1 h2 => by simp (disch := omega) only [up_ne]), ?_, q7.g (by simp (disch := omega) only [up_ne]) ?_, ?_⟩ (fun v hv => by simp (disch := omega) only [up_ne])
      · intro i h1 h2 h3 h4; exact en i (by omega)
      · exact (q2.of (fun v h1 h2 => by simp (disch := omega) only [up_ne])).f (en 1 (by omega)) (fun i hi => en i (by omega))
      · exact en 2 (by omega)
      · intro i hi; exact en i (by omega)
      · rw [en 5 (by omega)]
        exact q6.of (fun v h1 h2 => by simp (disch := omega) only [up_ne])
      · intro i h1 h2; exact en i (by omega)
      · intro j hj
        by_cases hjk : j = k
        · subst hjk
          rw [up_eqp rfl rfl]; unfold n_set; dsimp only; rw [cl_nI (by omega), upd_eqp rfl]
        · rw [up_nep hjk, en _ (by omega)]; exact q8 j hj
    · simp (disch := omega) only [nI_0, q_ci, q_cl, q_ild, q_lld, q_ald, q_ist, q_ast, q_lst, q_inc, q_b2, q_d2, q_u1, q_l2, q_ld2, q_lsh, q_lcmp, q_i2l, q_l2i, q_dupi, q_dupr, q_dup2, q_popi, q_popr, q_if1, q_if2, q_nn, q_sw, q_swn, q_swc, q_gf, q_gr, q_pf, q_pz, q_pc, q_ia, q_is, q_cs, q_zs, q_la, q_lw, q_aa, q_al, q_gs, q_acp, q_m2, q_m1, q_ir, q_zr, q_lr, q_ar, q_vr, q_cN0, q_cSX0, q_cV0, q_cVX0, q_cN1, q_cSX1, q_cV1, q_cVX1, q_cN2, q_cSX2, q_cV2, q_cVX2, q_cN3, q_cSX3, q_cV3, q_cVX3, q_cN4, q_cSX4, q_cV4, q_cVX4, q_cN5, q_cSX5, q_cV5, q_cVX5, q_cN6, q_cSX6, q_cV6, q_cVX6, q_th, q_sh0, q_sh1, q_sh2, q_sh3, q_sh4, q_toL0, q_toL1, q_gl0, q_gls, q_sl0, q_sls, q_k10, q_k1s, q_lgi, q_lgr, q_lgl, q_lgn, Bool.not_false, and_true, true_and, nz_2, nz_4, nz_5, nz_8, nz_10, nz_12, nz_14, nz_16, nz_40, nz_41, nz_64, nz_100, nz_1000, nz_1024, nz_4096, nz_10000, nz_100000, not_false_eq_true, bI_0, nI_add, pk_mul, nI_lt', nI_le', nI_eq', nI_z, nI_p, nI_e0, nI_l0, nI_le0, nI_clamp, up_eq, up_ne, not_true_eq_false, Classical.not_not, false_implies, true_implies, false_and, and_false, or_true, true_or, Nat.add_zero, pk_m1, m1_0, m1_n, m1_p, Nat.zero_le, forall_const]
      exact hb q0
  · exact h.elim
set_option maxRecDepth 20000 in
set_option maxHeartbeats 4000000 in
theorem ok_X3_tryTransfer {l : Launch} (hl : l.stackTraces = false) : ab_OkN l yX3_tryTransfer (Cond.code yX3_tryTransfer cX3_tryTransfer 4 (some .boolean)) 4 sp_X3_tryTransfer := by
  intro w σ As Kn hI h
  unfold sp_X3_tryTransfer at h
  split at h
  · next b s t =>
    obtain ⟨b, rfl⟩ : ∃ z : Nat, z = b := ⟨_, rfl⟩
    obtain ⟨hw, T, n, hR, hW, ha, hb⟩ := h
    refine vc_X3_tryTransfer hl hI (ok_X3_transferRefusal hl) (ok_X7_mostFlownOf hl) (ok_X7_addSondes hl) (Nat.le_of_ble_eq_true rfl) (fun M h0 => h0 [.ref b, .int s, .int t, .null] [] σ ?_)
    have k3 := hw.1
    have k7 := hw.2.1.1
    have hc := hW.cOK
    have h5 := hc.2
    have hr3 := @rM_le n.1 s t
    simp (disch := omega) only [bX3_tryTransfer_0, sp_X3_transferRefusal, sp_X7_mostFlownOf, sp_X7_addSondes, k3, k7, q_ci, q_cl, q_ild, q_lld, q_ald, q_ist, q_ast, q_lst, q_inc, q_b2, q_d2, q_u1, q_l2, q_ld2, q_lsh, q_lcmp, q_i2l, q_l2i, q_dupi, q_dupr, q_dup2, q_popi, q_popr, q_if1, q_if2, q_nn, q_sw, q_swn, q_swc, q_gf, q_gr, q_pf, q_pz, q_pc, q_ia, q_is, q_cs, q_zs, q_la, q_lw, q_aa, q_al, q_gs, q_acp, q_m2, q_m1, q_ir, q_zr, q_lr, q_ar, q_vr, q_cN0, q_cSX0, q_cV0, q_cVX0, q_cN1, q_cSX1, q_cV1, q_cVX1, q_cN2, q_cSX2, q_cV2, q_cVX2, q_cN3, q_cSX3, q_cV3, q_cVX3, q_cN4, q_cSX4, q_cV4, q_cVX4, q_cN5, q_cSX5, q_cV5, q_cVX5, q_cN6, q_cSX6, q_cV6, q_cVX6, q_th, q_sh0, q_sh1, q_sh2, q_sh3, q_sh4, q_toL0, q_toL1, q_gl0, q_gls, q_sl0, q_sls, q_k10, q_k1s, q_lgi, q_lgr, q_lgl, q_lgn, Bool.not_false, and_true, true_and, nz_2, nz_4, nz_5, nz_8, nz_10, nz_12, nz_14, nz_16, nz_40, nz_41, nz_64, nz_100, nz_1000, nz_1024, nz_4096, nz_10000, nz_100000, not_false_eq_true, bI_0, nI_add, pk_mul, nI_lt', nI_le', nI_eq', nI_z, nI_p, nI_e0, nI_l0, nI_le0, nI_clamp, up_eq, up_ne, not_true_eq_false, Classical.not_not, false_implies, true_implies, false_and, and_false, or_true, true_or, Nat.add_zero, pk_m1, m1_0, m1_n, m1_p, Nat.zero_le, forall_const]
    refine ⟨hw, n.1, hR.2.1, hc, fun q0 => ?_, fun q0 => ?_⟩
    · have hz : rM n.1 s t = 0 := by rw [nI_e0 (by omega)] at q0; exact q0
      have hv : vS n.1 s ∧ vS n.1 t := by
        unfold rM at hz; split at hz
        · assumption
        · omega
      have hne : ¬ (s = t ∨ n_most n.1 (cl s) = none) := by
        unfold rM at hz; rw [if_pos hv] at hz; split at hz
        · omega
        · assumption
      obtain ⟨es, hs⟩ := ab_ixs hc hv.1
      obtain ⟨et, ht⟩ := ab_ixs hc hv.2
      have hst : cl s ≠ cl t := fun q => hne (Or.inl (by rw [es, et, q]))
      obtain ⟨m, em⟩ : ∃ m, n_most n.1 (cl s) = some m := Option.ne_none_iff_exists'.mp (fun q => hne (Or.inr q))
      have hm := n_most_lt em
      refine ⟨hw.2.1, cl s, n.1, hR.2.1, hc, es, hs, ?_⟩
      have hcc : σ (b + 1) 0 = nI (cl (n.1 1)) := hR.2.1.1.trans hc.1
      have eo : oI (n_most n.1 (cl s)) = nI m := by rw [em]; rfl
      refine ⟨hw.2.1, cl s, cl (n.1 1), m, ⟨es, hcc, hs, h5⟩, eo, by omega, hw.2.1, cl t, cl (n.1 1), m, ⟨et, hcc, ht, h5⟩, eo, by omega, Or.inr nI_one, ?_⟩
      rw [nI_one]
      have e1 := hR.2.1.stk hs (show m < 5 by omega) (-1)
      have eu : upd n.1 (25 + 11 * cl s + m) (n.1 (25 + 11 * cl s + m) + -1) 1 = n.1 1 := upd_nep (by omega)
      have e2 := e1.stk (k := cl t) (m := m) (by rw [eu]; exact ht) (by omega) 1
      have en : ∀ i, i ≠ 25 + 11 * cl s + m → i ≠ 25 + 11 * cl t + m → (n_mov n (cl s) (cl t)).1 i = n.1 i := by
        intro i h1 h2; unfold n_mov; rw [em]; dsimp only [Option.getD]; rw [upd_nep h2, upd_nep h1]
      obtain ⟨q1, q2, q3, q4, q5, q6, q7, q8⟩ := hR
      refine ha hz _ ⟨q1.g (by simp (disch := omega) only [up_ne]) ?_, ?_, q3.g (fun v h1 h2 => by simp (disch := omega) only [up_ne]) ?_ ?_, q4.of (fun v h1 h2 => by simp (disch := omega) only [up_ne]), q5.of (fun v h1 h2 => by simp (disch := omega) only [up_ne]), ?_, q7.g (by simp (disch := omega) only [up_ne]) ?_, q8.g (by simp (disch := omega) only [up_ne]) ?_⟩ (fun v hv => by simp (disch := omega) only [up_ne])
      · intro i h1 h2 h3 h4; exact en i (by omega) (by omega)
      · have hne' : cl t * 5 + m ≠ cl s * 5 + m := by omega
        rw [if_neg hne']
        rw [up_nep hne'] at e2
        have ef : (n_mov n (cl s) (cl t)).1 = upd (upd n.1 (25 + 11 * cl s + m) (n.1 (25 + 11 * cl s + m) + -1)) (25 + 11 * cl t + m) (upd n.1 (25 + 11 * cl s + m) (n.1 (25 + 11 * cl s + m) + -1) (25 + 11 * cl t + m) + 1) := by
          unfold n_mov; rw [em]; dsimp only [Option.getD]; rw [Int32.sub_eq_add_neg, upd_nep (show 25 + 11 * cl t + m ≠ 25 + 11 * cl s + m by omega)]
        rw [ef]; exact e2
      · exact en 2 (by omega) (by omega)
      · intro i hi; exact en i (by omega) (by omega)
      · rw [en 5 (by omega) (by omega)]
        exact q6.of (fun v h1 h2 => by simp (disch := omega) only [up_ne])
      · intro i h1 h2; exact en i (by omega) (by omega)
      · intro i h1 h2; exact en i (by omega) (by omega)
    · simp (disch := omega) only [nI_0, q_ci, q_cl, q_ild, q_lld, q_ald, q_ist, q_ast, q_lst, q_inc, q_b2, q_d2, q_u1, q_l2, q_ld2, q_lsh, q_lcmp, q_i2l, q_l2i, q_dupi, q_dupr, q_dup2, q_popi, q_popr, q_if1, q_if2, q_nn, q_sw, q_swn, q_swc, q_gf, q_gr, q_pf, q_pz, q_pc, q_ia, q_is, q_cs, q_zs, q_la, q_lw, q_aa, q_al, q_gs, q_acp, q_m2, q_m1, q_ir, q_zr, q_lr, q_ar, q_vr, q_cN0, q_cSX0, q_cV0, q_cVX0, q_cN1, q_cSX1, q_cV1, q_cVX1, q_cN2, q_cSX2, q_cV2, q_cVX2, q_cN3, q_cSX3, q_cV3, q_cVX3, q_cN4, q_cSX4, q_cV4, q_cVX4, q_cN5, q_cSX5, q_cV5, q_cVX5, q_cN6, q_cSX6, q_cV6, q_cVX6, q_th, q_sh0, q_sh1, q_sh2, q_sh3, q_sh4, q_toL0, q_toL1, q_gl0, q_gls, q_sl0, q_sls, q_k10, q_k1s, q_lgi, q_lgr, q_lgl, q_lgn, Bool.not_false, and_true, true_and, nz_2, nz_4, nz_5, nz_8, nz_10, nz_12, nz_14, nz_16, nz_40, nz_41, nz_64, nz_100, nz_1000, nz_1024, nz_4096, nz_10000, nz_100000, not_false_eq_true, bI_0, nI_add, pk_mul, nI_lt', nI_le', nI_eq', nI_z, nI_p, nI_e0, nI_l0, nI_le0, nI_clamp, up_eq, up_ne, not_true_eq_false, Classical.not_not, false_implies, true_implies, false_and, and_false, or_true, true_or, Nat.add_zero, pk_m1, m1_0, m1_n, m1_p, Nat.zero_le, forall_const]
      exact hb (fun q1 => q0 (by rw [q1, nI_0]))
  · exact h.elim
