/-- what a command of a text does to a net, if it can be done -/
def x_cmd (n : nT) (c : tC) : Option nT :=
  if c.1 = 115 then (if rS (cl (n.1 1)) (nI c.2.1) (nI c.2.2.1) (nI c.2.2.2.1) (nI c.2.2.2.2.1) (nI c.2.2.2.2.2) = 0 then some (n_addS n (nI c.2.1) (nI c.2.2.1) (nI c.2.2.2.1) (nI c.2.2.2.2.1) (nI c.2.2.2.2.2)) else none)
  else if c.1 = 102 then (if rF (cl (n.1 2)) (nI c.2.1) (nI c.2.2.1) (nI c.2.2.2.1) = 0 then some (n_addF n (nI c.2.1) (nI c.2.2.1) (nI c.2.2.2.1)) else none)
  else if c.1 = 119 then (if rW (nI c.2.1) ((if c.2.2.1 = 1 then -1 else 1) * nI c.2.2.2.1) = 0 then some (n_wind n (cl (nI c.2.1)) ((if c.2.2.1 = 1 then -1 else 1) * nI c.2.2.2.1)) else none)
  else if c.1 = 100 then (if rO n.1 n.2.1.length (nI c.2.1) (nI c.2.2.1) (nI c.2.2.2.1) = 0 then some (n_ord n (cl (nI c.2.1)) (cl (nI c.2.2.1)) (cl (nI c.2.2.2.1))) else none)
  else some (n_run (cl (nI c.2.1)) n)
/-- commands that p_cmd can give -/
def tOK (c : tC) : Prop := (c.1 = 115 ∨ c.1 = 102 ∨ c.1 = 119 ∨ c.1 = 100 ∨ c.1 = 114) ∧ (c.1 = 114 → 1 ≤ c.2.1 ∧ c.2.1 ≤ 9)
def sp_X9_doReadCommand : ab_S := fun w As σ K => match As with
  | [.ref a] => a = 0 ∧ ab_kd w 0 = 9 ∧ wX w ∧ wN w 40 ∧ ∃ T n c, RC σ 40 n ∧ WF T n ∧ T + 40 < 100000 ∧ tOK c ∧ σ 1 3 = nI c.1 ∧ tV (σ 3) c ∧
     (∀ n', x_cmd n c = some n' → ∀ σ', RC σ' 40 n' → Frk 40 29 σ σ' → K (some (.int 1)) σ') ∧ (x_cmd n c = none → K (some (.int 0)) σ)
  | _ => False
set_option maxRecDepth 20000 in
set_option maxHeartbeats 4000000 in
theorem ok_X9_doReadCommand {l : Launch} (hl : l.stackTraces = false) : ab_OkN l yX9_doReadCommand (Cond.code yX9_doReadCommand cX9_doReadCommand 2 (some .boolean)) 6 sp_X9_doReadCommand := by
  intro w σ As Kn hI h
  unfold sp_X9_doReadCommand at h
  split at h
  · next a =>
    obtain ⟨rfl, w0, hw, hN, T, n, c, hR, hW, hT, hc, hl3, hv, ha, hb⟩ := h
    refine vc_X9_doReadCommand hl hI (ok_X3_tryOrder hl) (ok_X3_tryFinder hl) (ok_X3_tryStation hl) (ok_X3_tryWind hl) (ok_X3_tryWatches hl) (Nat.le_of_ble_eq_true rfl) (fun M h0 => h0 [.ref 0, .null] [] σ ?_)
    obtain ⟨w1, w2, w3, w4, w5⟩ := id hw
    have v0 : vp_in (nI 0) 5 := vp_in_nI (by omega) (by omega)
    have kN := hN.1
    obtain ⟨L, p, q, r, u, v⟩ := c
    unfold tV at hv
    obtain ⟨hc, hc2⟩ := hc
    dsimp only at hc hc2 hl3 hv
    have v1 : vp_in (nI 1) 5 := vp_in_nI (by omega) (by omega)
    have v2 : vp_in (nI 2) 5 := vp_in_nI (by omega) (by omega)
    have v3 : vp_in (nI 3) 5 := vp_in_nI (by omega) (by omega)
    have v4 : vp_in (nI 4) 5 := vp_in_nI (by omega) (by omega)
    obtain ⟨e0, e1w, e1, e2, e34⟩ := hv
    unfold x_cmd at ha hb
    dsimp only at ha hb
    rcases hc with rfl | rfl | rfl | rfl | rfl
    · have e1 := e1 (by omega) (by omega)
      have e2 := e2 (by omega)
      obtain ⟨e3, e4⟩ := e34 rfl
      simp (disch := omega) only [if_pos] at ha hb
      simp (disch := omega) only [bX9_doReadCommand_0, sp_X3_tryStation, w0, w1, w4, w5, hl3, kN, e0, e1, e2, e3, e4, q_ci, q_cl, q_ild, q_lld, q_ald, q_ist, q_ast, q_lst, q_inc, q_b2, q_d2, q_u1, q_l2, q_ld2, q_lsh, q_lcmp, q_i2l, q_l2i, q_dupi, q_dupr, q_dup2, q_popi, q_popr, q_if1, q_if2, q_nn, q_sw, q_swn, q_swc, q_gf, q_gr, q_pf, q_pz, q_pc, q_ia, q_is, q_cs, q_zs, q_la, q_lw, q_aa, q_al, q_gs, q_acp, q_m2, q_m1, q_ir, q_zr, q_lr, q_ar, q_vr, q_cN0, q_cSX0, q_cV0, q_cVX0, q_cN1, q_cSX1, q_cV1, q_cVX1, q_cN2, q_cSX2, q_cV2, q_cVX2, q_cN3, q_cSX3, q_cV3, q_cVX3, q_cN4, q_cSX4, q_cV4, q_cVX4, q_cN5, q_cSX5, q_cV5, q_cVX5, q_cN6, q_cSX6, q_cV6, q_cVX6, q_th, q_sh0, q_sh1, q_sh2, q_sh3, q_sh4, q_toL0, q_toL1, q_gl0, q_gls, q_sl0, q_sls, q_k10, q_k1s, q_lgi, q_lgr, q_lgl, q_lgn, Bool.not_false, and_true, true_and, nz_2, nz_4, nz_5, nz_8, nz_10, nz_12, nz_14, nz_16, nz_40, nz_41, nz_64, nz_100, nz_1000, nz_1024, nz_4096, nz_10000, nz_100000, not_false_eq_true, bI_0, nI_add, pk_mul, nI_lt', nI_le', nI_eq', nI_z, nI_p, nI_e0, nI_l0, nI_le0, nI_clamp, up_eq, up_ne, not_true_eq_false, Classical.not_not, false_implies, true_implies, false_and, and_false, or_true, true_or, Nat.add_zero, pk_m1, m1_0, m1_n, m1_p, Nat.zero_le, forall_const]
      exact ⟨fun q => absurd q (by omega), fun _ => ⟨fun q => absurd q (by omega), fun _ => ⟨v0, v1, v2, v3, v4, hN, T, n, hR, hW, fun q σ' a b => ha _ (if_pos q) σ' a b, fun q => hb (if_neg q)⟩⟩⟩
    · have e1 := e1 (by omega) (by omega)
      have e2 := e2 (by omega)
      simp (disch := omega) only [if_pos, if_neg] at ha hb
      simp (disch := omega) only [bX9_doReadCommand_0, sp_X3_tryFinder, w0, w1, w4, w5, hl3, kN, e0, e1, e2, q_ci, q_cl, q_ild, q_lld, q_ald, q_ist, q_ast, q_lst, q_inc, q_b2, q_d2, q_u1, q_l2, q_ld2, q_lsh, q_lcmp, q_i2l, q_l2i, q_dupi, q_dupr, q_dup2, q_popi, q_popr, q_if1, q_if2, q_nn, q_sw, q_swn, q_swc, q_gf, q_gr, q_pf, q_pz, q_pc, q_ia, q_is, q_cs, q_zs, q_la, q_lw, q_aa, q_al, q_gs, q_acp, q_m2, q_m1, q_ir, q_zr, q_lr, q_ar, q_vr, q_cN0, q_cSX0, q_cV0, q_cVX0, q_cN1, q_cSX1, q_cV1, q_cVX1, q_cN2, q_cSX2, q_cV2, q_cVX2, q_cN3, q_cSX3, q_cV3, q_cVX3, q_cN4, q_cSX4, q_cV4, q_cVX4, q_cN5, q_cSX5, q_cV5, q_cVX5, q_cN6, q_cSX6, q_cV6, q_cVX6, q_th, q_sh0, q_sh1, q_sh2, q_sh3, q_sh4, q_toL0, q_toL1, q_gl0, q_gls, q_sl0, q_sls, q_k10, q_k1s, q_lgi, q_lgr, q_lgl, q_lgn, Bool.not_false, and_true, true_and, nz_2, nz_4, nz_5, nz_8, nz_10, nz_12, nz_14, nz_16, nz_40, nz_41, nz_64, nz_100, nz_1000, nz_1024, nz_4096, nz_10000, nz_100000, not_false_eq_true, bI_0, nI_add, pk_mul, nI_lt', nI_le', nI_eq', nI_z, nI_p, nI_e0, nI_l0, nI_le0, nI_clamp, up_eq, up_ne, not_true_eq_false, Classical.not_not, false_implies, true_implies, false_and, and_false, or_true, true_or, Nat.add_zero, pk_m1, m1_0, m1_n, m1_p, Nat.zero_le, forall_const]
      exact ⟨fun q => absurd q (by omega), fun _ => ⟨v0, v1, v2, hN, T, n, hR, hW, fun q σ' a b => ha _ (if_pos q) σ' a b, fun q => hb (if_neg q)⟩⟩
    · have e1w := e1w rfl
      have e2 := e2 (by omega)
      simp (disch := omega) only [if_pos, if_neg] at ha hb
      simp (disch := omega) only [bX9_doReadCommand_0, sp_X3_tryWind, w0, w1, w4, w5, hl3, kN, e0, e1w, e2, q_ci, q_cl, q_ild, q_lld, q_ald, q_ist, q_ast, q_lst, q_inc, q_b2, q_d2, q_u1, q_l2, q_ld2, q_lsh, q_lcmp, q_i2l, q_l2i, q_dupi, q_dupr, q_dup2, q_popi, q_popr, q_if1, q_if2, q_nn, q_sw, q_swn, q_swc, q_gf, q_gr, q_pf, q_pz, q_pc, q_ia, q_is, q_cs, q_zs, q_la, q_lw, q_aa, q_al, q_gs, q_acp, q_m2, q_m1, q_ir, q_zr, q_lr, q_ar, q_vr, q_cN0, q_cSX0, q_cV0, q_cVX0, q_cN1, q_cSX1, q_cV1, q_cVX1, q_cN2, q_cSX2, q_cV2, q_cVX2, q_cN3, q_cSX3, q_cV3, q_cVX3, q_cN4, q_cSX4, q_cV4, q_cVX4, q_cN5, q_cSX5, q_cV5, q_cVX5, q_cN6, q_cSX6, q_cV6, q_cVX6, q_th, q_sh0, q_sh1, q_sh2, q_sh3, q_sh4, q_toL0, q_toL1, q_gl0, q_gls, q_sl0, q_sls, q_k10, q_k1s, q_lgi, q_lgr, q_lgl, q_lgn, Bool.not_false, and_true, true_and, nz_2, nz_4, nz_5, nz_8, nz_10, nz_12, nz_14, nz_16, nz_40, nz_41, nz_64, nz_100, nz_1000, nz_1024, nz_4096, nz_10000, nz_100000, not_false_eq_true, bI_0, nI_add, pk_mul, nI_lt', nI_le', nI_eq', nI_z, nI_p, nI_e0, nI_l0, nI_le0, nI_clamp, up_eq, up_ne, not_true_eq_false, Classical.not_not, false_implies, true_implies, false_and, and_false, or_true, true_or, Nat.add_zero, pk_m1, m1_0, m1_n, m1_p, Nat.zero_le, forall_const]
      exact ⟨fun q => absurd q (by omega), fun _ => ⟨fun q => absurd q (by omega), fun _ => ⟨fun q => absurd q (by omega), fun _ => ⟨v0, v1, v2, hN, n, hR, fun q σ' a b => ha _ (if_pos q) σ' a b, fun q => hb (if_neg q)⟩⟩⟩⟩
    · have e1 := e1 (by omega) (by omega)
      have e2 := e2 (by omega)
      simp (disch := omega) only [if_pos, if_neg] at ha hb
      simp (disch := omega) only [bX9_doReadCommand_0, sp_X3_tryOrder, w0, w1, w4, w5, hl3, kN, e0, e1, e2, q_ci, q_cl, q_ild, q_lld, q_ald, q_ist, q_ast, q_lst, q_inc, q_b2, q_d2, q_u1, q_l2, q_ld2, q_lsh, q_lcmp, q_i2l, q_l2i, q_dupi, q_dupr, q_dup2, q_popi, q_popr, q_if1, q_if2, q_nn, q_sw, q_swn, q_swc, q_gf, q_gr, q_pf, q_pz, q_pc, q_ia, q_is, q_cs, q_zs, q_la, q_lw, q_aa, q_al, q_gs, q_acp, q_m2, q_m1, q_ir, q_zr, q_lr, q_ar, q_vr, q_cN0, q_cSX0, q_cV0, q_cVX0, q_cN1, q_cSX1, q_cV1, q_cVX1, q_cN2, q_cSX2, q_cV2, q_cVX2, q_cN3, q_cSX3, q_cV3, q_cVX3, q_cN4, q_cSX4, q_cV4, q_cVX4, q_cN5, q_cSX5, q_cV5, q_cVX5, q_cN6, q_cSX6, q_cV6, q_cVX6, q_th, q_sh0, q_sh1, q_sh2, q_sh3, q_sh4, q_toL0, q_toL1, q_gl0, q_gls, q_sl0, q_sls, q_k10, q_k1s, q_lgi, q_lgr, q_lgl, q_lgn, Bool.not_false, and_true, true_and, nz_2, nz_4, nz_5, nz_8, nz_10, nz_12, nz_14, nz_16, nz_40, nz_41, nz_64, nz_100, nz_1000, nz_1024, nz_4096, nz_10000, nz_100000, not_false_eq_true, bI_0, nI_add, pk_mul, nI_lt', nI_le', nI_eq', nI_z, nI_p, nI_e0, nI_l0, nI_le0, nI_clamp, up_eq, up_ne, not_true_eq_false, Classical.not_not, false_implies, true_implies, false_and, and_false, or_true, true_or, Nat.add_zero, pk_m1, m1_0, m1_n, m1_p, Nat.zero_le, forall_const]
      exact ⟨v0, v1, v2, hN, T, n, hR, hW, fun q σ' a b => ha _ (if_pos q) σ' a b, fun q => hb (if_neg q)⟩
    · have hp := hc2 rfl
      simp (disch := omega) only [if_pos, if_neg] at ha hb
      simp (disch := omega) only [bX9_doReadCommand_0, sp_X3_tryWatches, w0, w1, w4, w5, hl3, kN, e0, q_ci, q_cl, q_ild, q_lld, q_ald, q_ist, q_ast, q_lst, q_inc, q_b2, q_d2, q_u1, q_l2, q_ld2, q_lsh, q_lcmp, q_i2l, q_l2i, q_dupi, q_dupr, q_dup2, q_popi, q_popr, q_if1, q_if2, q_nn, q_sw, q_swn, q_swc, q_gf, q_gr, q_pf, q_pz, q_pc, q_ia, q_is, q_cs, q_zs, q_la, q_lw, q_aa, q_al, q_gs, q_acp, q_m2, q_m1, q_ir, q_zr, q_lr, q_ar, q_vr, q_cN0, q_cSX0, q_cV0, q_cVX0, q_cN1, q_cSX1, q_cV1, q_cVX1, q_cN2, q_cSX2, q_cV2, q_cVX2, q_cN3, q_cSX3, q_cV3, q_cVX3, q_cN4, q_cSX4, q_cV4, q_cVX4, q_cN5, q_cSX5, q_cV5, q_cVX5, q_cN6, q_cSX6, q_cV6, q_cVX6, q_th, q_sh0, q_sh1, q_sh2, q_sh3, q_sh4, q_toL0, q_toL1, q_gl0, q_gls, q_sl0, q_sls, q_k10, q_k1s, q_lgi, q_lgr, q_lgl, q_lgn, Bool.not_false, and_true, true_and, nz_2, nz_4, nz_5, nz_8, nz_10, nz_12, nz_14, nz_16, nz_40, nz_41, nz_64, nz_100, nz_1000, nz_1024, nz_4096, nz_10000, nz_100000, not_false_eq_true, bI_0, nI_add, pk_mul, nI_lt', nI_le', nI_eq', nI_z, nI_p, nI_e0, nI_l0, nI_le0, nI_clamp, up_eq, up_ne, not_true_eq_false, Classical.not_not, false_implies, true_implies, false_and, and_false, or_true, true_or, Nat.add_zero, pk_m1, m1_0, m1_n, m1_p, Nat.zero_le, forall_const]
      refine ⟨fun q => absurd q (by omega), fun _ => ⟨fun q => absurd q (by omega), fun _ => ⟨fun q => absurd q (by omega), fun _ => ⟨fun q => absurd q (by omega), fun _ => ⟨v0, hN, T, n, 40, hR, hW, rfl, by omega, hT, fun q σ' a b => ha _ rfl σ' a b, fun q => absurd ⟨?_, ?_⟩ q⟩⟩⟩⟩⟩
      · rw [← nI_one, nI_le' (by omega) (by omega)]; omega
      · first | omega | (rw [nI_le' (by omega) (by omega)]; omega)
  · exact h.elim
