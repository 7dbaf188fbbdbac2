def sp_L_errors : la_S := fun As A K => match As with
  | [.ref i] => i < 2 ∧ (∃ k, GB k (A i) ∧ k < 1000) ∧ K (some (.int (nI 1))) A
  | _ => False
set_option maxRecDepth 20000 in
set_option maxHeartbeats 4000000 in
theorem ok_L_errors {l : Launch} (hl : l.stackTraces = false) : la_Ok l yL_errors (Cond.code yL_errors cL_errors 7 (some .boolean)) 10 (30 * 10) 1000 sp_L_errors := by
  intro Y A As K hw h
  unfold sp_L_errors at h
  split at h
  rotate_left 1
  · exact h.elim
  next i =>
  refine vc_L_errors hl hw (ok_L_now hl) (ok_L_about hl) (ok_L_station hl) (ok_L_stock hl) (ok_L_finder hl) (ok_L_back hl) (ok_L_gap hl) (ok_L_windOf hl) (ok_L_setting hl) (ok_L_addStation hl) (ok_L_addFinder hl) (ok_L_wind hl) (ok_L_change hl) (ok_L_deliver hl) (ok_L_move hl) (ok_L_run hl) (ok_L_set hl) (ok_L_landing hl) (ok_L_finds hl) (ok_L_coming hl) (ok_L_lacks hl) (ok_L_ifDelivered hl) (ok_L_script hl) (ok_L_simulate hl) (ok_L_save hl) (ok_L_restore hl) (ok_L_append hl) (Nat.le_of_ble_eq_true rfl) (fun M h0 h88 h185 h266 h362 h455 h527 h528 h556 h577 h581 h582 h587 h690 h753 h810 h814 h815 h823 h826 h857 h865 h956 h960 h961 => ?_)
  show M 0 [.ref i, .null, .null, .null, .null, .null, .null] [] (A, 0)
  obtain ⟨hi, ⟨kk, hG, hkk⟩, h⟩ := h
  have hA : okA (A i) := hG.okA hkk
  have hW := hG.WF.1
  have hB : bK kk < 2 ^ 30 := by unfold bK; omega
  obtain ⟨e1, b1, e2, b2⟩ : (A i).1.1 1 = nI (cl ((A i).1.1 1)) ∧ cl ((A i).1.1 1) ≤ 5 ∧ (A i).1.1 2 = nI (cl ((A i).1.1 2)) ∧ cl ((A i).1.1 2) ≤ 6 := ⟨hW.2.2.1, hW.2.2.2.1, hW.2.2.2.2.1, hW.2.2.2.2.2.1⟩
  have hst1 : ∀ s, s < cl ((A i).1.1 1) → n_sondes (A i).1.1 s = nI (su (A i).1.1 (25 + 11 * s) 1 5) ∧ su (A i).1.1 (25 + 11 * s) 1 5 < 2 ^ 30 := fun s hs => ⟨(hG.2.1.1.st hB hs).2.1, Nat.lt_of_le_of_lt (hG.2.1.1.st hB hs).2.2 hB⟩
  have hmn : ∀ s, s < cl ((A i).1.1 1) → su (A i).1.1 (25 + 11 * s) 1 5 = 0 → n_most (A i).1.1 s = none := fun s hs => most_none hG.2.1.1 hB hs
  have h5' : 5 ≤ cl ((A i).1.1 1) → c_addStation (nI 0) (nI 0) (nI 1) (nI 0) (nI 0) (A i) = (2, 0, A i) := fun q => e_addS5 (by decide) q
  have h6' : 6 ≤ cl ((A i).1.1 2) → c_addFinder (nI 0) (nI 0) (nI 1) (A i) = (2, 0, A i) := fun q => e_addF6 (by decide) q
  have hlo : (A i).1.2.1.length ≤ 8 := hG.WF.2.2.1.1
  generalize hst : cl ((A i).1.1 1) = st at *
  generalize hfi : cl ((A i).1.1 2) = fi at *
  have nS := vS_no e1
  have nF := vF_no e2
  have H961 : ∀ L c, c ≤ 1000 → M 961 L [.int (nI 1)] (A, c) := fun L c hc => by
    refine h961 _ _ _ ?_
    simp (disch := omega) only [bL_errors_961, ql_ci, ql_cl, ql_ild, ql_lld, ql_ald, ql_ist, ql_lst, ql_inc, ql_b2, ql_d2, ql_u1, ql_l2, ql_ld2, ql_lsh, ql_lcmp, ql_i2l, ql_l2i, ql_popi, ql_if1, ql_if2, ql_sw, ql_swn, ql_swc, ql_cN0, ql_cN1, ql_cN2, ql_cN3, ql_cN4, ql_cN5, ql_cN6, ql_cV, ql_ir, ql_zr, ql_lr, q_sh0, q_sh1, q_sh2, q_sh3, q_sh4, q_toL0, q_toL1, q_gl0, q_gls, q_sl0, q_sls, q_k10, q_k1s, q_lgi, q_lgr, q_lgl, q_lgn, pk_div, pk_rem, pk_rm, Bool.not_false, and_true, true_and, nz_2, nz_4, nz_5, nz_8, nz_10, nz_12, nz_14, nz_16, nz_40, nz_41, nz_64, nz_100, nz_1000, nz_1024, nz_4096, nz_10000, nz_100000, not_false_eq_true, lup_eq, lup_up, lup_self, lgc_lt, lgc_gt, lgc_le, lgc_ge, lgc_eq, lr_a1, lr_i1, lr_s1, lr_a2, lr_s2, lr_s3, lr_0, t32, v_about_st, v_about_fi, bI_0, nI_add, pk_mul, nI_lt', nI_le', nI_eq', nI_z, nI_p, nI_e0, nI_l0, nI_le0, nI_clamp, up_eq, up_ne, not_true_eq_false, Classical.not_not, false_implies, true_implies, false_and, and_false, or_true, true_or, Nat.add_zero, pk_m1, m1_0, m1_n, m1_p, Nat.zero_le, forall_const, Nat.zero_add, Nat.reduceAdd, Nat.reduceEqDiff, or_false, false_or, Nat.one_ne_zero]
    exact ⟨hc, rfl, h⟩
  have H956 : ∀ L c, c ≤ 1000 → M 956 L [] (A, c) := fun L c hc => by
    refine h956 _ _ _ ?_
    simp (disch := omega) only [bL_errors_956, ql_ci, ql_cl, ql_ild, ql_lld, ql_ald, ql_ist, ql_lst, ql_inc, ql_b2, ql_d2, ql_u1, ql_l2, ql_ld2, ql_lsh, ql_lcmp, ql_i2l, ql_l2i, ql_popi, ql_if1, ql_if2, ql_sw, ql_swn, ql_swc, ql_cN0, ql_cN1, ql_cN2, ql_cN3, ql_cN4, ql_cN5, ql_cN6, ql_cV, ql_ir, ql_zr, ql_lr, q_sh0, q_sh1, q_sh2, q_sh3, q_sh4, q_toL0, q_toL1, q_gl0, q_gls, q_sl0, q_sls, q_k10, q_k1s, q_lgi, q_lgr, q_lgl, q_lgn, pk_div, pk_rem, pk_rm, Bool.not_false, and_true, true_and, nz_2, nz_4, nz_5, nz_8, nz_10, nz_12, nz_14, nz_16, nz_40, nz_41, nz_64, nz_100, nz_1000, nz_1024, nz_4096, nz_10000, nz_100000, not_false_eq_true, lup_eq, lup_up, lup_self, lgc_lt, lgc_gt, lgc_le, lgc_ge, lgc_eq, lr_a1, lr_i1, lr_s1, lr_a2, lr_s2, lr_s3, lr_0, t32, v_about_st, v_about_fi, bI_0, nI_add, pk_mul, nI_lt', nI_le', nI_eq', nI_z, nI_p, nI_e0, nI_l0, nI_le0, nI_clamp, up_eq, up_ne, not_true_eq_false, Classical.not_not, false_implies, true_implies, false_and, and_false, or_true, true_or, Nat.add_zero, pk_m1, m1_0, m1_n, m1_p, Nat.zero_le, forall_const, Nat.zero_add, Nat.reduceAdd, Nat.reduceEqDiff, or_false, false_or, Nat.one_ne_zero]
    exact H961 _ _ hc
  have H865 : ∀ x6 c, c ≤ 700 → M 865 [.ref i, .long (nowV (A i).1), .null, .int (nI st), .int (nI fi), .int (nI 1), x6] [] (A, c) := fun x6 c hc => by
    refine h865 _ _ _ ?_
    simp (disch := omega) only [bL_errors_865, sp_L_script, sp_L_simulate, sp_L_save, sp_L_restore, sp_L_append, sp_L_now, hi, hA, e_scr_0, e_scr_3, e_sim, e_save, e_restore, e_append, ql_ci, ql_cl, ql_ild, ql_lld, ql_ald, ql_ist, ql_lst, ql_inc, ql_b2, ql_d2, ql_u1, ql_l2, ql_ld2, ql_lsh, ql_lcmp, ql_i2l, ql_l2i, ql_popi, ql_if1, ql_if2, ql_sw, ql_swn, ql_swc, ql_cN0, ql_cN1, ql_cN2, ql_cN3, ql_cN4, ql_cN5, ql_cN6, ql_cV, ql_ir, ql_zr, ql_lr, q_sh0, q_sh1, q_sh2, q_sh3, q_sh4, q_toL0, q_toL1, q_gl0, q_gls, q_sl0, q_sls, q_k10, q_k1s, q_lgi, q_lgr, q_lgl, q_lgn, pk_div, pk_rem, pk_rm, Bool.not_false, and_true, true_and, nz_2, nz_4, nz_5, nz_8, nz_10, nz_12, nz_14, nz_16, nz_40, nz_41, nz_64, nz_100, nz_1000, nz_1024, nz_4096, nz_10000, nz_100000, not_false_eq_true, lup_eq, lup_up, lup_self, lgc_lt, lgc_gt, lgc_le, lgc_ge, lgc_eq, lr_a1, lr_i1, lr_s1, lr_a2, lr_s2, lr_s3, lr_0, t32, v_about_st, v_about_fi, bI_0, nI_add, pk_mul, nI_lt', nI_le', nI_eq', nI_z, nI_p, nI_e0, nI_l0, nI_le0, nI_clamp, up_eq, up_ne, not_true_eq_false, Classical.not_not, false_implies, true_implies, false_and, and_false, or_true, true_or, Nat.add_zero, pk_m1, m1_0, m1_n, m1_p, Nat.zero_le, forall_const, Nat.zero_add, Nat.reduceAdd, Nat.reduceEqDiff, or_false, false_or, Nat.one_ne_zero]
    repeat' first
      | assumption
      | omega
      | (exact H956 _ _ (by omega))
      | refine And.intro ?_ ?_
      | (intro (_ : _); first | (exfalso; omega) | skip)
  have H857 : ∀ x c, x < fi → c ≤ 690 → (∀ c', c' ≤ 690 → M 826 [.ref i, .long (nowV (A i).1), .null, .int (nI st), .int (nI fi), .int (nI 1), .int (nI (x + 1))] [] (A, c')) → M 857 [.ref i, .long (nowV (A i).1), .null, .int (nI st), .int (nI fi), .int (nI 1), .int (nI x)] [.int (nI 1)] (A, c) := fun x c hx hc k => by
    refine h857 _ _ _ ?_
    simp (disch := omega) only [bL_errors_857, ql_ci, ql_cl, ql_ild, ql_lld, ql_ald, ql_ist, ql_lst, ql_inc, ql_b2, ql_d2, ql_u1, ql_l2, ql_ld2, ql_lsh, ql_lcmp, ql_i2l, ql_l2i, ql_popi, ql_if1, ql_if2, ql_sw, ql_swn, ql_swc, ql_cN0, ql_cN1, ql_cN2, ql_cN3, ql_cN4, ql_cN5, ql_cN6, ql_cV, ql_ir, ql_zr, ql_lr, q_sh0, q_sh1, q_sh2, q_sh3, q_sh4, q_toL0, q_toL1, q_gl0, q_gls, q_sl0, q_sls, q_k10, q_k1s, q_lgi, q_lgr, q_lgl, q_lgn, pk_div, pk_rem, pk_rm, Bool.not_false, and_true, true_and, nz_2, nz_4, nz_5, nz_8, nz_10, nz_12, nz_14, nz_16, nz_40, nz_41, nz_64, nz_100, nz_1000, nz_1024, nz_4096, nz_10000, nz_100000, not_false_eq_true, lup_eq, lup_up, lup_self, lgc_lt, lgc_gt, lgc_le, lgc_ge, lgc_eq, lr_a1, lr_i1, lr_s1, lr_a2, lr_s2, lr_s3, lr_0, t32, v_about_st, v_about_fi, bI_0, nI_add, pk_mul, nI_lt', nI_le', nI_eq', nI_z, nI_p, nI_e0, nI_l0, nI_le0, nI_clamp, up_eq, up_ne, not_true_eq_false, Classical.not_not, false_implies, true_implies, false_and, and_false, or_true, true_or, Nat.add_zero, pk_m1, m1_0, m1_n, m1_p, Nat.zero_le, forall_const, Nat.zero_add, Nat.reduceAdd, Nat.reduceEqDiff, or_false, false_or, Nat.one_ne_zero]
    exact k c hc
  have H826 : ∀ d k c, k + d = fi → c + d ≤ 690 → M 826 [.ref i, .long (nowV (A i).1), .null, .int (nI st), .int (nI fi), .int (nI 1), .int (nI k)] [] (A, c) := by
    intro d
    induction d with
    | zero =>
      intro k c hk hc
      obtain rfl : k = fi := by omega
      refine h826 _ _ _ ?_
      simp (disch := omega) only [bL_errors_826, sp_L_finder, hi, hA, ql_ci, ql_cl, ql_ild, ql_lld, ql_ald, ql_ist, ql_lst, ql_inc, ql_b2, ql_d2, ql_u1, ql_l2, ql_ld2, ql_lsh, ql_lcmp, ql_i2l, ql_l2i, ql_popi, ql_if1, ql_if2, ql_sw, ql_swn, ql_swc, ql_cN0, ql_cN1, ql_cN2, ql_cN3, ql_cN4, ql_cN5, ql_cN6, ql_cV, ql_ir, ql_zr, ql_lr, q_sh0, q_sh1, q_sh2, q_sh3, q_sh4, q_toL0, q_toL1, q_gl0, q_gls, q_sl0, q_sls, q_k10, q_k1s, q_lgi, q_lgr, q_lgl, q_lgn, pk_div, pk_rem, pk_rm, Bool.not_false, and_true, true_and, nz_2, nz_4, nz_5, nz_8, nz_10, nz_12, nz_14, nz_16, nz_40, nz_41, nz_64, nz_100, nz_1000, nz_1024, nz_4096, nz_10000, nz_100000, not_false_eq_true, lup_eq, lup_up, lup_self, lgc_lt, lgc_gt, lgc_le, lgc_ge, lgc_eq, lr_a1, lr_i1, lr_s1, lr_a2, lr_s2, lr_s3, lr_0, t32, v_about_st, v_about_fi, bI_0, nI_add, pk_mul, nI_lt', nI_le', nI_eq', nI_z, nI_p, nI_e0, nI_l0, nI_le0, nI_clamp, up_eq, up_ne, not_true_eq_false, Classical.not_not, false_implies, true_implies, false_and, and_false, or_true, true_or, Nat.add_zero, pk_m1, m1_0, m1_n, m1_p, Nat.zero_le, forall_const, Nat.zero_add, Nat.reduceAdd, Nat.reduceEqDiff, or_false, false_or, Nat.one_ne_zero]
      exact ⟨fun _ => H865 _ _ (by omega), fun q => absurd (Nat.le_refl _) q⟩
    | succ d ih =>
      intro k c hk hc
      refine h826 _ _ _ ?_
      have f1 := e_finder_5 (vF_ok e2 b2 (show k < fi by omega))
      simp (disch := omega) only [bL_errors_826, sp_L_finder, hi, hA, f1, ql_ci, ql_cl, ql_ild, ql_lld, ql_ald, ql_ist, ql_lst, ql_inc, ql_b2, ql_d2, ql_u1, ql_l2, ql_ld2, ql_lsh, ql_lcmp, ql_i2l, ql_l2i, ql_popi, ql_if1, ql_if2, ql_sw, ql_swn, ql_swc, ql_cN0, ql_cN1, ql_cN2, ql_cN3, ql_cN4, ql_cN5, ql_cN6, ql_cV, ql_ir, ql_zr, ql_lr, q_sh0, q_sh1, q_sh2, q_sh3, q_sh4, q_toL0, q_toL1, q_gl0, q_gls, q_sl0, q_sls, q_k10, q_k1s, q_lgi, q_lgr, q_lgl, q_lgn, pk_div, pk_rem, pk_rm, Bool.not_false, and_true, true_and, nz_2, nz_4, nz_5, nz_8, nz_10, nz_12, nz_14, nz_16, nz_40, nz_41, nz_64, nz_100, nz_1000, nz_1024, nz_4096, nz_10000, nz_100000, not_false_eq_true, lup_eq, lup_up, lup_self, lgc_lt, lgc_gt, lgc_le, lgc_ge, lgc_eq, lr_a1, lr_i1, lr_s1, lr_a2, lr_s2, lr_s3, lr_0, t32, v_about_st, v_about_fi, bI_0, nI_add, pk_mul, nI_lt', nI_le', nI_eq', nI_z, nI_p, nI_e0, nI_l0, nI_le0, nI_clamp, up_eq, up_ne, not_true_eq_false, Classical.not_not, false_implies, true_implies, false_and, and_false, or_true, true_or, Nat.add_zero, pk_m1, m1_0, m1_n, m1_p, Nat.zero_le, forall_const, Nat.zero_add, Nat.reduceAdd, Nat.reduceEqDiff, or_false, false_or, Nat.one_ne_zero]
      refine ⟨fun q => absurd q (by omega), fun _ => ⟨by omega, ?_⟩⟩
      refine h857 _ _ _ ?_
      simp (disch := omega) only [bL_errors_857, ql_ci, ql_cl, ql_ild, ql_lld, ql_ald, ql_ist, ql_lst, ql_inc, ql_b2, ql_d2, ql_u1, ql_l2, ql_ld2, ql_lsh, ql_lcmp, ql_i2l, ql_l2i, ql_popi, ql_if1, ql_if2, ql_sw, ql_swn, ql_swc, ql_cN0, ql_cN1, ql_cN2, ql_cN3, ql_cN4, ql_cN5, ql_cN6, ql_cV, ql_ir, ql_zr, ql_lr, q_sh0, q_sh1, q_sh2, q_sh3, q_sh4, q_toL0, q_toL1, q_gl0, q_gls, q_sl0, q_sls, q_k10, q_k1s, q_lgi, q_lgr, q_lgl, q_lgn, pk_div, pk_rem, pk_rm, Bool.not_false, and_true, true_and, nz_2, nz_4, nz_5, nz_8, nz_10, nz_12, nz_14, nz_16, nz_40, nz_41, nz_64, nz_100, nz_1000, nz_1024, nz_4096, nz_10000, nz_100000, not_false_eq_true, lup_eq, lup_up, lup_self, lgc_lt, lgc_gt, lgc_le, lgc_ge, lgc_eq, lr_a1, lr_i1, lr_s1, lr_a2, lr_s2, lr_s3, lr_0, t32, v_about_st, v_about_fi, bI_0, nI_add, pk_mul, nI_lt', nI_le', nI_eq', nI_z, nI_p, nI_e0, nI_l0, nI_le0, nI_clamp, up_eq, up_ne, not_true_eq_false, Classical.not_not, false_implies, true_implies, false_and, and_false, or_true, true_or, Nat.add_zero, pk_m1, m1_0, m1_n, m1_p, Nat.zero_le, forall_const, Nat.zero_add, Nat.reduceAdd, Nat.reduceEqDiff, or_false, false_or, Nat.one_ne_zero]
      exact ih (k + 1) _ (by omega) (by omega)
  have H823 : ∀ x6 c, c ≤ 680 → M 823 [.ref i, .long (nowV (A i).1), .null, .int (nI st), .int (nI fi), .int (nI 1), x6] [] (A, c) := fun x6 c hc => by
    refine h823 _ _ _ ?_
    simp (disch := omega) only [bL_errors_823, ql_ci, ql_cl, ql_ild, ql_lld, ql_ald, ql_ist, ql_lst, ql_inc, ql_b2, ql_d2, ql_u1, ql_l2, ql_ld2, ql_lsh, ql_lcmp, ql_i2l, ql_l2i, ql_popi, ql_if1, ql_if2, ql_sw, ql_swn, ql_swc, ql_cN0, ql_cN1, ql_cN2, ql_cN3, ql_cN4, ql_cN5, ql_cN6, ql_cV, ql_ir, ql_zr, ql_lr, q_sh0, q_sh1, q_sh2, q_sh3, q_sh4, q_toL0, q_toL1, q_gl0, q_gls, q_sl0, q_sls, q_k10, q_k1s, q_lgi, q_lgr, q_lgl, q_lgn, pk_div, pk_rem, pk_rm, Bool.not_false, and_true, true_and, nz_2, nz_4, nz_5, nz_8, nz_10, nz_12, nz_14, nz_16, nz_40, nz_41, nz_64, nz_100, nz_1000, nz_1024, nz_4096, nz_10000, nz_100000, not_false_eq_true, lup_eq, lup_up, lup_self, lgc_lt, lgc_gt, lgc_le, lgc_ge, lgc_eq, lr_a1, lr_i1, lr_s1, lr_a2, lr_s2, lr_s3, lr_0, t32, v_about_st, v_about_fi, bI_0, nI_add, pk_mul, nI_lt', nI_le', nI_eq', nI_z, nI_p, nI_e0, nI_l0, nI_le0, nI_clamp, up_eq, up_ne, not_true_eq_false, Classical.not_not, false_implies, true_implies, false_and, and_false, or_true, true_or, Nat.add_zero, pk_m1, m1_0, m1_n, m1_p, Nat.zero_le, forall_const, Nat.zero_add, Nat.reduceAdd, Nat.reduceEqDiff, or_false, false_or, Nat.one_ne_zero]
    exact H826 fi 0 c (by omega) (by omega)
  have H587 : ∀ d k c, k + d = st → c + 20 * d ≤ 680 → M 587 [.ref i, .long (nowV (A i).1), .null, .int (nI st), .int (nI fi), .int (nI 1), .int (nI k)] [] (A, c) := by
    intro d
    induction d with
    | zero =>
      intro k c hk hc
      obtain rfl : k = st := by omega
      refine h587 _ _ _ ?_
      simp (disch := omega) only [bL_errors_587, sp_L_station, sp_L_stock, sp_L_change, sp_L_deliver, sp_L_ifDelivered, hi, hA, ql_ci, ql_cl, ql_ild, ql_lld, ql_ald, ql_ist, ql_lst, ql_inc, ql_b2, ql_d2, ql_u1, ql_l2, ql_ld2, ql_lsh, ql_lcmp, ql_i2l, ql_l2i, ql_popi, ql_if1, ql_if2, ql_sw, ql_swn, ql_swc, ql_cN0, ql_cN1, ql_cN2, ql_cN3, ql_cN4, ql_cN5, ql_cN6, ql_cV, ql_ir, ql_zr, ql_lr, q_sh0, q_sh1, q_sh2, q_sh3, q_sh4, q_toL0, q_toL1, q_gl0, q_gls, q_sl0, q_sls, q_k10, q_k1s, q_lgi, q_lgr, q_lgl, q_lgn, pk_div, pk_rem, pk_rm, Bool.not_false, and_true, true_and, nz_2, nz_4, nz_5, nz_8, nz_10, nz_12, nz_14, nz_16, nz_40, nz_41, nz_64, nz_100, nz_1000, nz_1024, nz_4096, nz_10000, nz_100000, not_false_eq_true, lup_eq, lup_up, lup_self, lgc_lt, lgc_gt, lgc_le, lgc_ge, lgc_eq, lr_a1, lr_i1, lr_s1, lr_a2, lr_s2, lr_s3, lr_0, t32, v_about_st, v_about_fi, bI_0, nI_add, pk_mul, nI_lt', nI_le', nI_eq', nI_z, nI_p, nI_e0, nI_l0, nI_le0, nI_clamp, up_eq, up_ne, not_true_eq_false, Classical.not_not, false_implies, true_implies, false_and, and_false, or_true, true_or, Nat.add_zero, pk_m1, m1_0, m1_n, m1_p, Nat.zero_le, forall_const, Nat.zero_add, Nat.reduceAdd, Nat.reduceEqDiff, or_false, false_or, Nat.one_ne_zero]
      exact ⟨fun _ => H823 _ _ (by omega), fun q => absurd (Nat.le_refl _) q⟩
    | succ d ih =>
      intro k c hk hc
      have hkst : k < st := by omega
      have hs := vS_ok e1 b1 hkst
      have H815 : ∀ c', c' ≤ c + 20 → M 815 [.ref i, .long (nowV (A i).1), .null, .int (nI st), .int (nI fi), .int (nI 1), .int (nI k)] [.int (nI 1)] (A, c') := fun c' hc' => by
        refine h815 _ _ _ ?_
        simp (disch := omega) only [bL_errors_815, ql_ci, ql_cl, ql_ild, ql_lld, ql_ald, ql_ist, ql_lst, ql_inc, ql_b2, ql_d2, ql_u1, ql_l2, ql_ld2, ql_lsh, ql_lcmp, ql_i2l, ql_l2i, ql_popi, ql_if1, ql_if2, ql_sw, ql_swn, ql_swc, ql_cN0, ql_cN1, ql_cN2, ql_cN3, ql_cN4, ql_cN5, ql_cN6, ql_cV, ql_ir, ql_zr, ql_lr, q_sh0, q_sh1, q_sh2, q_sh3, q_sh4, q_toL0, q_toL1, q_gl0, q_gls, q_sl0, q_sls, q_k10, q_k1s, q_lgi, q_lgr, q_lgl, q_lgn, pk_div, pk_rem, pk_rm, Bool.not_false, and_true, true_and, nz_2, nz_4, nz_5, nz_8, nz_10, nz_12, nz_14, nz_16, nz_40, nz_41, nz_64, nz_100, nz_1000, nz_1024, nz_4096, nz_10000, nz_100000, not_false_eq_true, lup_eq, lup_up, lup_self, lgc_lt, lgc_gt, lgc_le, lgc_ge, lgc_eq, lr_a1, lr_i1, lr_s1, lr_a2, lr_s2, lr_s3, lr_0, t32, v_about_st, v_about_fi, bI_0, nI_add, pk_mul, nI_lt', nI_le', nI_eq', nI_z, nI_p, nI_e0, nI_l0, nI_le0, nI_clamp, up_eq, up_ne, not_true_eq_false, Classical.not_not, false_implies, true_implies, false_and, and_false, or_true, true_or, Nat.add_zero, pk_m1, m1_0, m1_n, m1_p, Nat.zero_le, forall_const, Nat.zero_add, Nat.reduceAdd, Nat.reduceEqDiff, or_false, false_or, Nat.one_ne_zero]
        exact ih (k + 1) _ (by omega) (by omega)
      have H810 : ∀ c', c' ≤ c + 20 → M 810 [.ref i, .long (nowV (A i).1), .null, .int (nI st), .int (nI fi), .int (nI 1), .int (nI k)] [] (A, c') := fun c' hc' => by
        refine h810 _ _ _ ?_
        simp (disch := omega) only [bL_errors_810, ql_ci, ql_cl, ql_ild, ql_lld, ql_ald, ql_ist, ql_lst, ql_inc, ql_b2, ql_d2, ql_u1, ql_l2, ql_ld2, ql_lsh, ql_lcmp, ql_i2l, ql_l2i, ql_popi, ql_if1, ql_if2, ql_sw, ql_swn, ql_swc, ql_cN0, ql_cN1, ql_cN2, ql_cN3, ql_cN4, ql_cN5, ql_cN6, ql_cV, ql_ir, ql_zr, ql_lr, q_sh0, q_sh1, q_sh2, q_sh3, q_sh4, q_toL0, q_toL1, q_gl0, q_gls, q_sl0, q_sls, q_k10, q_k1s, q_lgi, q_lgr, q_lgl, q_lgn, pk_div, pk_rem, pk_rm, Bool.not_false, and_true, true_and, nz_2, nz_4, nz_5, nz_8, nz_10, nz_12, nz_14, nz_16, nz_40, nz_41, nz_64, nz_100, nz_1000, nz_1024, nz_4096, nz_10000, nz_100000, not_false_eq_true, lup_eq, lup_up, lup_self, lgc_lt, lgc_gt, lgc_le, lgc_ge, lgc_eq, lr_a1, lr_i1, lr_s1, lr_a2, lr_s2, lr_s3, lr_0, t32, v_about_st, v_about_fi, bI_0, nI_add, pk_mul, nI_lt', nI_le', nI_eq', nI_z, nI_p, nI_e0, nI_l0, nI_le0, nI_clamp, up_eq, up_ne, not_true_eq_false, Classical.not_not, false_implies, true_implies, false_and, and_false, or_true, true_or, Nat.add_zero, pk_m1, m1_0, m1_n, m1_p, Nat.zero_le, forall_const, Nat.zero_add, Nat.reduceAdd, Nat.reduceEqDiff, or_false, false_or, Nat.one_ne_zero]
        exact H815 _ hc'
      have H753 : ∀ c', c' ≤ c + 16 → M 753 [.ref i, .long (nowV (A i).1), .null, .int (nI st), .int (nI fi), .int (nI 1), .int (nI k)] [] (A, c') := fun c' hc' => by
        refine h753 _ _ _ ?_
        have f1 := e_land_4 hs
        have f2 := e_lacks_61 hs
        have f3 : v_about (nI 10) (A i).1 = lN (A i).1.2.1.length := by rw [v_about_i (by omega)]; exact nI_l (by omega)
        simp (disch := omega) only [bL_errors_753, sp_L_landing, sp_L_lacks, sp_L_about, sp_L_deliver, hi, hA, f1, f2, f3, l64_8, pk_lLT, ql_ci, ql_cl, ql_ild, ql_lld, ql_ald, ql_ist, ql_lst, ql_inc, ql_b2, ql_d2, ql_u1, ql_l2, ql_ld2, ql_lsh, ql_lcmp, ql_i2l, ql_l2i, ql_popi, ql_if1, ql_if2, ql_sw, ql_swn, ql_swc, ql_cN0, ql_cN1, ql_cN2, ql_cN3, ql_cN4, ql_cN5, ql_cN6, ql_cV, ql_ir, ql_zr, ql_lr, q_sh0, q_sh1, q_sh2, q_sh3, q_sh4, q_toL0, q_toL1, q_gl0, q_gls, q_sl0, q_sls, q_k10, q_k1s, q_lgi, q_lgr, q_lgl, q_lgn, pk_div, pk_rem, pk_rm, Bool.not_false, and_true, true_and, nz_2, nz_4, nz_5, nz_8, nz_10, nz_12, nz_14, nz_16, nz_40, nz_41, nz_64, nz_100, nz_1000, nz_1024, nz_4096, nz_10000, nz_100000, not_false_eq_true, lup_eq, lup_up, lup_self, lgc_lt, lgc_gt, lgc_le, lgc_ge, lgc_eq, lr_a1, lr_i1, lr_s1, lr_a2, lr_s2, lr_s3, lr_0, t32, v_about_st, v_about_fi, bI_0, nI_add, pk_mul, nI_lt', nI_le', nI_eq', nI_z, nI_p, nI_e0, nI_l0, nI_le0, nI_clamp, up_eq, up_ne, not_true_eq_false, Classical.not_not, false_implies, true_implies, false_and, and_false, or_true, true_or, Nat.add_zero, pk_m1, m1_0, m1_n, m1_p, Nat.zero_le, forall_const, Nat.zero_add, Nat.reduceAdd, Nat.reduceEqDiff, or_false, false_or, Nat.one_ne_zero]
        refine ⟨by omega, by omega, by omega, fun _ => H810 _ (by omega), fun q => ⟨by omega, ?_⟩⟩
        have f4 := e_del_s (a := A i) hs (by decide : okL (nI 1) (nI 1)) (Or.inr (by omega))
        simp (disch := omega) only [f4, ql_ci, ql_cl, ql_ild, ql_lld, ql_ald, ql_ist, ql_lst, ql_inc, ql_b2, ql_d2, ql_u1, ql_l2, ql_ld2, ql_lsh, ql_lcmp, ql_i2l, ql_l2i, ql_popi, ql_if1, ql_if2, ql_sw, ql_swn, ql_swc, ql_cN0, ql_cN1, ql_cN2, ql_cN3, ql_cN4, ql_cN5, ql_cN6, ql_cV, ql_ir, ql_zr, ql_lr, q_sh0, q_sh1, q_sh2, q_sh3, q_sh4, q_toL0, q_toL1, q_gl0, q_gls, q_sl0, q_sls, q_k10, q_k1s, q_lgi, q_lgr, q_lgl, q_lgn, pk_div, pk_rem, pk_rm, Bool.not_false, and_true, true_and, nz_2, nz_4, nz_5, nz_8, nz_10, nz_12, nz_14, nz_16, nz_40, nz_41, nz_64, nz_100, nz_1000, nz_1024, nz_4096, nz_10000, nz_100000, not_false_eq_true, lup_eq, lup_up, lup_self, lgc_lt, lgc_gt, lgc_le, lgc_ge, lgc_eq, lr_a1, lr_i1, lr_s1, lr_a2, lr_s2, lr_s3, lr_0, t32, v_about_st, v_about_fi, bI_0, nI_add, pk_mul, nI_lt', nI_le', nI_eq', nI_z, nI_p, nI_e0, nI_l0, nI_le0, nI_clamp, up_eq, up_ne, not_true_eq_false, Classical.not_not, false_implies, true_implies, false_and, and_false, or_true, true_or, Nat.add_zero, pk_m1, m1_0, m1_n, m1_p, Nat.zero_le, forall_const, Nat.zero_add, Nat.reduceAdd, Nat.reduceEqDiff, or_false, false_or, Nat.one_ne_zero]
        exact H810 _ (by omega)
      have H690 : ∀ c', c' ≤ c + 10 → M 690 [.ref i, .long (nowV (A i).1), .null, .int (nI st), .int (nI fi), .int (nI 1), .int (nI k)] [] (A, c') := fun c' hc' => by
        refine h690 _ _ _ ?_
        have f1 := e_ifd_a (g := nI 0) (k := nI 0) hs
        have f2 := e_mov_s (a := A i) hs hs (Or.inl rfl)
        obtain ⟨g1, g2⟩ := hst1 k hkst
        have f3 : v_station (nI k) (nI 4) (A i).1 = lN (su (A i).1.1 (25 + 11 * k) 1 5) := by rw [v_station_4 hs (by omega), g1, nI_l (by omega)]
        simp (disch := omega) only [bL_errors_690, sp_L_ifDelivered, sp_L_move, sp_L_station, hi, hA, f1, f2, f3, pk_lLT, ql_ci, ql_cl, ql_ild, ql_lld, ql_ald, ql_ist, ql_lst, ql_inc, ql_b2, ql_d2, ql_u1, ql_l2, ql_ld2, ql_lsh, ql_lcmp, ql_i2l, ql_l2i, ql_popi, ql_if1, ql_if2, ql_sw, ql_swn, ql_swc, ql_cN0, ql_cN1, ql_cN2, ql_cN3, ql_cN4, ql_cN5, ql_cN6, ql_cV, ql_ir, ql_zr, ql_lr, q_sh0, q_sh1, q_sh2, q_sh3, q_sh4, q_toL0, q_toL1, q_gl0, q_gls, q_sl0, q_sls, q_k10, q_k1s, q_lgi, q_lgr, q_lgl, q_lgn, pk_div, pk_rem, pk_rm, Bool.not_false, and_true, true_and, nz_2, nz_4, nz_5, nz_8, nz_10, nz_12, nz_14, nz_16, nz_40, nz_41, nz_64, nz_100, nz_1000, nz_1024, nz_4096, nz_10000, nz_100000, not_false_eq_true, lup_eq, lup_up, lup_self, lgc_lt, lgc_gt, lgc_le, lgc_ge, lgc_eq, lr_a1, lr_i1, lr_s1, lr_a2, lr_s2, lr_s3, lr_0, t32, v_about_st, v_about_fi, bI_0, nI_add, pk_mul, nI_lt', nI_le', nI_eq', nI_z, nI_p, nI_e0, nI_l0, nI_le0, nI_clamp, up_eq, up_ne, not_true_eq_false, Classical.not_not, false_implies, true_implies, false_and, and_false, or_true, true_or, Nat.add_zero, pk_m1, m1_0, m1_n, m1_p, Nat.zero_le, forall_const, Nat.zero_add, Nat.reduceAdd, Nat.reduceEqDiff, or_false, false_or, Nat.one_ne_zero]
        refine ⟨by omega, by omega, by omega, fun _ => H753 _ (by omega), fun q => ⟨by omega, by omega, ?_⟩⟩
        have hm := Nat.mod_lt (k + 1) (show 0 < st by omega)
        have f4 := e_mov_s (a := A i) hs (vS_ok e1 b1 hm) (Or.inr (by rw [cl_nI (by omega)]; exact hmn k hkst (by omega)))
        simp (disch := omega) only [f4, ql_ci, ql_cl, ql_ild, ql_lld, ql_ald, ql_ist, ql_lst, ql_inc, ql_b2, ql_d2, ql_u1, ql_l2, ql_ld2, ql_lsh, ql_lcmp, ql_i2l, ql_l2i, ql_popi, ql_if1, ql_if2, ql_sw, ql_swn, ql_swc, ql_cN0, ql_cN1, ql_cN2, ql_cN3, ql_cN4, ql_cN5, ql_cN6, ql_cV, ql_ir, ql_zr, ql_lr, q_sh0, q_sh1, q_sh2, q_sh3, q_sh4, q_toL0, q_toL1, q_gl0, q_gls, q_sl0, q_sls, q_k10, q_k1s, q_lgi, q_lgr, q_lgl, q_lgn, pk_div, pk_rem, pk_rm, Bool.not_false, and_true, true_and, nz_2, nz_4, nz_5, nz_8, nz_10, nz_12, nz_14, nz_16, nz_40, nz_41, nz_64, nz_100, nz_1000, nz_1024, nz_4096, nz_10000, nz_100000, not_false_eq_true, lup_eq, lup_up, lup_self, lgc_lt, lgc_gt, lgc_le, lgc_ge, lgc_eq, lr_a1, lr_i1, lr_s1, lr_a2, lr_s2, lr_s3, lr_0, t32, v_about_st, v_about_fi, bI_0, nI_add, pk_mul, nI_lt', nI_le', nI_eq', nI_z, nI_p, nI_e0, nI_l0, nI_le0, nI_clamp, up_eq, up_ne, not_true_eq_false, Classical.not_not, false_implies, true_implies, false_and, and_false, or_true, true_or, Nat.add_zero, pk_m1, m1_0, m1_n, m1_p, Nat.zero_le, forall_const, Nat.zero_add, Nat.reduceAdd, Nat.reduceEqDiff, or_false, false_or, Nat.one_ne_zero]
        exact H753 _ (by omega)
      refine h587 _ _ _ ?_
      have f1 := e_station_8 hs
      have f2 := e_stock_5 hs
      have f3 := e_chg_a (a := A i) hs (by decide : ¬ okH (nI 0) (nI 0))
      have f4 := e_del_a (a := A i) hs (by decide : ¬ okL (nI 1000) (nI 0))
      have f5 := e_del_s (a := A i) hs (by decide : okL (nI 0) (nI 0)) (Or.inl ⟨rfl, rfl⟩)
      have f6 := e_ifd_s hs (by decide : bt2 (nI 1) (nI 5) (nI 60))
      simp (disch := omega) only [bL_errors_587, sp_L_station, sp_L_stock, sp_L_change, sp_L_deliver, sp_L_ifDelivered, hi, hA, f1, f2, f3, f4, f5, f6, ql_ci, ql_cl, ql_ild, ql_lld, ql_ald, ql_ist, ql_lst, ql_inc, ql_b2, ql_d2, ql_u1, ql_l2, ql_ld2, ql_lsh, ql_lcmp, ql_i2l, ql_l2i, ql_popi, ql_if1, ql_if2, ql_sw, ql_swn, ql_swc, ql_cN0, ql_cN1, ql_cN2, ql_cN3, ql_cN4, ql_cN5, ql_cN6, ql_cV, ql_ir, ql_zr, ql_lr, q_sh0, q_sh1, q_sh2, q_sh3, q_sh4, q_toL0, q_toL1, q_gl0, q_gls, q_sl0, q_sls, q_k10, q_k1s, q_lgi, q_lgr, q_lgl, q_lgn, pk_div, pk_rem, pk_rm, Bool.not_false, and_true, true_and, nz_2, nz_4, nz_5, nz_8, nz_10, nz_12, nz_14, nz_16, nz_40, nz_41, nz_64, nz_100, nz_1000, nz_1024, nz_4096, nz_10000, nz_100000, not_false_eq_true, lup_eq, lup_up, lup_self, lgc_lt, lgc_gt, lgc_le, lgc_ge, lgc_eq, lr_a1, lr_i1, lr_s1, lr_a2, lr_s2, lr_s3, lr_0, t32, v_about_st, v_about_fi, bI_0, nI_add, pk_mul, nI_lt', nI_le', nI_eq', nI_z, nI_p, nI_e0, nI_l0, nI_le0, nI_clamp, up_eq, up_ne, not_true_eq_false, Classical.not_not, false_implies, true_implies, false_and, and_false, or_true, true_or, Nat.add_zero, pk_m1, m1_0, m1_n, m1_p, Nat.zero_le, forall_const, Nat.zero_add, Nat.reduceAdd, Nat.reduceEqDiff, or_false, false_or, Nat.one_ne_zero]
      refine ⟨fun q => absurd q (by omega), fun _ => ?_⟩
      repeat' first
        | assumption
        | omega
        | (exact H690 _ (by omega))
        | refine And.intro ?_ ?_
        | (intro (_ : _); first | (exfalso; omega) | skip)
  have H582 : ∀ x5 x6 c, c ≤ 570 → M 582 [.ref i, .long (nowV (A i).1), .null, .int (nI st), .int (nI fi), x5, x6] [.int (nI 1)] (A, c) := fun x5 x6 c hc => by
    refine h582 _ _ _ ?_
    simp (disch := omega) only [bL_errors_582, ql_ci, ql_cl, ql_ild, ql_lld, ql_ald, ql_ist, ql_lst, ql_inc, ql_b2, ql_d2, ql_u1, ql_l2, ql_ld2, ql_lsh, ql_lcmp, ql_i2l, ql_l2i, ql_popi, ql_if1, ql_if2, ql_sw, ql_swn, ql_swc, ql_cN0, ql_cN1, ql_cN2, ql_cN3, ql_cN4, ql_cN5, ql_cN6, ql_cV, ql_ir, ql_zr, ql_lr, q_sh0, q_sh1, q_sh2, q_sh3, q_sh4, q_toL0, q_toL1, q_gl0, q_gls, q_sl0, q_sls, q_k10, q_k1s, q_lgi, q_lgr, q_lgl, q_lgn, pk_div, pk_rem, pk_rm, Bool.not_false, and_true, true_and, nz_2, nz_4, nz_5, nz_8, nz_10, nz_12, nz_14, nz_16, nz_40, nz_41, nz_64, nz_100, nz_1000, nz_1024, nz_4096, nz_10000, nz_100000, not_false_eq_true, lup_eq, lup_up, lup_self, lgc_lt, lgc_gt, lgc_le, lgc_ge, lgc_eq, lr_a1, lr_i1, lr_s1, lr_a2, lr_s2, lr_s3, lr_0, t32, v_about_st, v_about_fi, bI_0, nI_add, pk_mul, nI_lt', nI_le', nI_eq', nI_z, nI_p, nI_e0, nI_l0, nI_le0, nI_clamp, up_eq, up_ne, not_true_eq_false, Classical.not_not, false_implies, true_implies, false_and, and_false, or_true, true_or, Nat.add_zero, pk_m1, m1_0, m1_n, m1_p, Nat.zero_le, forall_const, Nat.zero_add, Nat.reduceAdd, Nat.reduceEqDiff, or_false, false_or, Nat.one_ne_zero]
    exact H587 st 0 c (by omega) (by omega)
  have H577 : ∀ x5 x6 c, c ≤ 570 → M 577 [.ref i, .long (nowV (A i).1), .null, .int (nI st), .int (nI fi), x5, x6] [] (A, c) := fun x5 x6 c hc => by
    refine h577 _ _ _ ?_
    simp (disch := omega) only [bL_errors_577, ql_ci, ql_cl, ql_ild, ql_lld, ql_ald, ql_ist, ql_lst, ql_inc, ql_b2, ql_d2, ql_u1, ql_l2, ql_ld2, ql_lsh, ql_lcmp, ql_i2l, ql_l2i, ql_popi, ql_if1, ql_if2, ql_sw, ql_swn, ql_swc, ql_cN0, ql_cN1, ql_cN2, ql_cN3, ql_cN4, ql_cN5, ql_cN6, ql_cV, ql_ir, ql_zr, ql_lr, q_sh0, q_sh1, q_sh2, q_sh3, q_sh4, q_toL0, q_toL1, q_gl0, q_gls, q_sl0, q_sls, q_k10, q_k1s, q_lgi, q_lgr, q_lgl, q_lgn, pk_div, pk_rem, pk_rm, Bool.not_false, and_true, true_and, nz_2, nz_4, nz_5, nz_8, nz_10, nz_12, nz_14, nz_16, nz_40, nz_41, nz_64, nz_100, nz_1000, nz_1024, nz_4096, nz_10000, nz_100000, not_false_eq_true, lup_eq, lup_up, lup_self, lgc_lt, lgc_gt, lgc_le, lgc_ge, lgc_eq, lr_a1, lr_i1, lr_s1, lr_a2, lr_s2, lr_s3, lr_0, t32, v_about_st, v_about_fi, bI_0, nI_add, pk_mul, nI_lt', nI_le', nI_eq', nI_z, nI_p, nI_e0, nI_l0, nI_le0, nI_clamp, up_eq, up_ne, not_true_eq_false, Classical.not_not, false_implies, true_implies, false_and, and_false, or_true, true_or, Nat.add_zero, pk_m1, m1_0, m1_n, m1_p, Nat.zero_le, forall_const, Nat.zero_add, Nat.reduceAdd, Nat.reduceEqDiff, or_false, false_or, Nat.one_ne_zero]
    exact H582 _ _ _ hc
  have H556 : ∀ x5 x6 c, c ≤ 560 → M 556 [.ref i, .long (nowV (A i).1), .null, .int (nI st), .int (nI fi), x5, x6] [] (A, c) := fun x5 x6 c hc => by
    refine h556 _ _ _ ?_
    simp (disch := omega) only [bL_errors_556, sp_L_addFinder, hi, hA, ql_ci, ql_cl, ql_ild, ql_lld, ql_ald, ql_ist, ql_lst, ql_inc, ql_b2, ql_d2, ql_u1, ql_l2, ql_ld2, ql_lsh, ql_lcmp, ql_i2l, ql_l2i, ql_popi, ql_if1, ql_if2, ql_sw, ql_swn, ql_swc, ql_cN0, ql_cN1, ql_cN2, ql_cN3, ql_cN4, ql_cN5, ql_cN6, ql_cV, ql_ir, ql_zr, ql_lr, q_sh0, q_sh1, q_sh2, q_sh3, q_sh4, q_toL0, q_toL1, q_gl0, q_gls, q_sl0, q_sls, q_k10, q_k1s, q_lgi, q_lgr, q_lgl, q_lgn, pk_div, pk_rem, pk_rm, Bool.not_false, and_true, true_and, nz_2, nz_4, nz_5, nz_8, nz_10, nz_12, nz_14, nz_16, nz_40, nz_41, nz_64, nz_100, nz_1000, nz_1024, nz_4096, nz_10000, nz_100000, not_false_eq_true, lup_eq, lup_up, lup_self, lgc_lt, lgc_gt, lgc_le, lgc_ge, lgc_eq, lr_a1, lr_i1, lr_s1, lr_a2, lr_s2, lr_s3, lr_0, t32, v_about_st, v_about_fi, bI_0, nI_add, pk_mul, nI_lt', nI_le', nI_eq', nI_z, nI_p, nI_e0, nI_l0, nI_le0, nI_clamp, up_eq, up_ne, not_true_eq_false, Classical.not_not, false_implies, true_implies, false_and, and_false, or_true, true_or, Nat.add_zero, pk_m1, m1_0, m1_n, m1_p, Nat.zero_le, forall_const, Nat.zero_add, Nat.reduceAdd, Nat.reduceEqDiff, or_false, false_or, Nat.one_ne_zero]
    refine ⟨fun _ => H577 _ _ _ (by omega), fun q => ⟨by omega, ?_⟩⟩
    have f4 := h6' (by omega)
    simp (disch := omega) only [f4, ql_ci, ql_cl, ql_ild, ql_lld, ql_ald, ql_ist, ql_lst, ql_inc, ql_b2, ql_d2, ql_u1, ql_l2, ql_ld2, ql_lsh, ql_lcmp, ql_i2l, ql_l2i, ql_popi, ql_if1, ql_if2, ql_sw, ql_swn, ql_swc, ql_cN0, ql_cN1, ql_cN2, ql_cN3, ql_cN4, ql_cN5, ql_cN6, ql_cV, ql_ir, ql_zr, ql_lr, q_sh0, q_sh1, q_sh2, q_sh3, q_sh4, q_toL0, q_toL1, q_gl0, q_gls, q_sl0, q_sls, q_k10, q_k1s, q_lgi, q_lgr, q_lgl, q_lgn, pk_div, pk_rem, pk_rm, Bool.not_false, and_true, true_and, nz_2, nz_4, nz_5, nz_8, nz_10, nz_12, nz_14, nz_16, nz_40, nz_41, nz_64, nz_100, nz_1000, nz_1024, nz_4096, nz_10000, nz_100000, not_false_eq_true, lup_eq, lup_up, lup_self, lgc_lt, lgc_gt, lgc_le, lgc_ge, lgc_eq, lr_a1, lr_i1, lr_s1, lr_a2, lr_s2, lr_s3, lr_0, t32, v_about_st, v_about_fi, bI_0, nI_add, pk_mul, nI_lt', nI_le', nI_eq', nI_z, nI_p, nI_e0, nI_l0, nI_le0, nI_clamp, up_eq, up_ne, not_true_eq_false, Classical.not_not, false_implies, true_implies, false_and, and_false, or_true, true_or, Nat.add_zero, pk_m1, m1_0, m1_n, m1_p, Nat.zero_le, forall_const, Nat.zero_add, Nat.reduceAdd, Nat.reduceEqDiff, or_false, false_or, Nat.one_ne_zero]
    exact H577 _ _ _ (by omega)
  have H528 : ∀ x5 x6 c, c ≤ 550 → M 528 [.ref i, .long (nowV (A i).1), .null, .int (nI st), .int (nI fi), x5, x6] [.int (nI 1)] (A, c) := fun x5 x6 c hc => by
    refine h528 _ _ _ ?_
    simp (disch := omega) only [bL_errors_528, sp_L_addStation, hi, hA, ql_ci, ql_cl, ql_ild, ql_lld, ql_ald, ql_ist, ql_lst, ql_inc, ql_b2, ql_d2, ql_u1, ql_l2, ql_ld2, ql_lsh, ql_lcmp, ql_i2l, ql_l2i, ql_popi, ql_if1, ql_if2, ql_sw, ql_swn, ql_swc, ql_cN0, ql_cN1, ql_cN2, ql_cN3, ql_cN4, ql_cN5, ql_cN6, ql_cV, ql_ir, ql_zr, ql_lr, q_sh0, q_sh1, q_sh2, q_sh3, q_sh4, q_toL0, q_toL1, q_gl0, q_gls, q_sl0, q_sls, q_k10, q_k1s, q_lgi, q_lgr, q_lgl, q_lgn, pk_div, pk_rem, pk_rm, Bool.not_false, and_true, true_and, nz_2, nz_4, nz_5, nz_8, nz_10, nz_12, nz_14, nz_16, nz_40, nz_41, nz_64, nz_100, nz_1000, nz_1024, nz_4096, nz_10000, nz_100000, not_false_eq_true, lup_eq, lup_up, lup_self, lgc_lt, lgc_gt, lgc_le, lgc_ge, lgc_eq, lr_a1, lr_i1, lr_s1, lr_a2, lr_s2, lr_s3, lr_0, t32, v_about_st, v_about_fi, bI_0, nI_add, pk_mul, nI_lt', nI_le', nI_eq', nI_z, nI_p, nI_e0, nI_l0, nI_le0, nI_clamp, up_eq, up_ne, not_true_eq_false, Classical.not_not, false_implies, true_implies, false_and, and_false, or_true, true_or, Nat.add_zero, pk_m1, m1_0, m1_n, m1_p, Nat.zero_le, forall_const, Nat.zero_add, Nat.reduceAdd, Nat.reduceEqDiff, or_false, false_or, Nat.one_ne_zero]
    refine ⟨fun _ => H556 _ _ _ (by omega), fun q => ⟨by omega, ?_⟩⟩
    have f4 := h5' (by omega)
    simp (disch := omega) only [f4, ql_ci, ql_cl, ql_ild, ql_lld, ql_ald, ql_ist, ql_lst, ql_inc, ql_b2, ql_d2, ql_u1, ql_l2, ql_ld2, ql_lsh, ql_lcmp, ql_i2l, ql_l2i, ql_popi, ql_if1, ql_if2, ql_sw, ql_swn, ql_swc, ql_cN0, ql_cN1, ql_cN2, ql_cN3, ql_cN4, ql_cN5, ql_cN6, ql_cV, ql_ir, ql_zr, ql_lr, q_sh0, q_sh1, q_sh2, q_sh3, q_sh4, q_toL0, q_toL1, q_gl0, q_gls, q_sl0, q_sls, q_k10, q_k1s, q_lgi, q_lgr, q_lgl, q_lgn, pk_div, pk_rem, pk_rm, Bool.not_false, and_true, true_and, nz_2, nz_4, nz_5, nz_8, nz_10, nz_12, nz_14, nz_16, nz_40, nz_41, nz_64, nz_100, nz_1000, nz_1024, nz_4096, nz_10000, nz_100000, not_false_eq_true, lup_eq, lup_up, lup_self, lgc_lt, lgc_gt, lgc_le, lgc_ge, lgc_eq, lr_a1, lr_i1, lr_s1, lr_a2, lr_s2, lr_s3, lr_0, t32, v_about_st, v_about_fi, bI_0, nI_add, pk_mul, nI_lt', nI_le', nI_eq', nI_z, nI_p, nI_e0, nI_l0, nI_le0, nI_clamp, up_eq, up_ne, not_true_eq_false, Classical.not_not, false_implies, true_implies, false_and, and_false, or_true, true_or, Nat.add_zero, pk_m1, m1_0, m1_n, m1_p, Nat.zero_le, forall_const, Nat.zero_add, Nat.reduceAdd, Nat.reduceEqDiff, or_false, false_or, Nat.one_ne_zero]
    exact H556 _ _ _ (by omega)
  have H455 : ∀ x5 x6 c, c ≤ 400 → M 455 [.ref i, .long (nowV (A i).1), .null, .int (nI st), .int (nI fi), x5, x6] [] (A, c) := fun x5 x6 c hc => by
    refine h455 _ _ _ ?_
    have f1 := e_lacks (i := nI 0) e1
    simp (disch := omega) only [bL_errors_455, sp_L_finds, sp_L_coming, sp_L_lacks, sp_L_ifDelivered, hi, hA, e_finds, e_com_0, e_com_4, f1, e_ifd, ql_ci, ql_cl, ql_ild, ql_lld, ql_ald, ql_ist, ql_lst, ql_inc, ql_b2, ql_d2, ql_u1, ql_l2, ql_ld2, ql_lsh, ql_lcmp, ql_i2l, ql_l2i, ql_popi, ql_if1, ql_if2, ql_sw, ql_swn, ql_swc, ql_cN0, ql_cN1, ql_cN2, ql_cN3, ql_cN4, ql_cN5, ql_cN6, ql_cV, ql_ir, ql_zr, ql_lr, q_sh0, q_sh1, q_sh2, q_sh3, q_sh4, q_toL0, q_toL1, q_gl0, q_gls, q_sl0, q_sls, q_k10, q_k1s, q_lgi, q_lgr, q_lgl, q_lgn, pk_div, pk_rem, pk_rm, Bool.not_false, and_true, true_and, nz_2, nz_4, nz_5, nz_8, nz_10, nz_12, nz_14, nz_16, nz_40, nz_41, nz_64, nz_100, nz_1000, nz_1024, nz_4096, nz_10000, nz_100000, not_false_eq_true, lup_eq, lup_up, lup_self, lgc_lt, lgc_gt, lgc_le, lgc_ge, lgc_eq, lr_a1, lr_i1, lr_s1, lr_a2, lr_s2, lr_s3, lr_0, t32, v_about_st, v_about_fi, bI_0, nI_add, pk_mul, nI_lt', nI_le', nI_eq', nI_z, nI_p, nI_e0, nI_l0, nI_le0, nI_clamp, up_eq, up_ne, not_true_eq_false, Classical.not_not, false_implies, true_implies, false_and, and_false, or_true, true_or, Nat.add_zero, pk_m1, m1_0, m1_n, m1_p, Nat.zero_le, forall_const, Nat.zero_add, Nat.reduceAdd, Nat.reduceEqDiff, or_false, false_or, Nat.one_ne_zero]
    repeat' first
      | assumption
      | omega
      | (exact H528 _ _ _ (by omega))
      | refine And.intro ?_ ?_
      | (intro (_ : _); first | (exfalso; omega) | skip)
  have H362 : ∀ x5 x6 c, c ≤ 380 → M 362 [.ref i, .long (nowV (A i).1), .null, .int (nI st), .int (nI fi), x5, x6] [] (A, c) := fun x5 x6 c hc => by
    refine h362 _ _ _ ?_
    have f1 := e_run (a := A i) (by decide : ¬ bt2 (nI 1) (nI 0) (nI 40))
    have f2 := e_run (a := A i) (by decide : ¬ bt2 (nI 1) (nI 41) (nI 40))
    have f3 := e_set (a := A i) (by decide : ¬ okT (nI 0) (nI 31))
    have f4 := e_set (a := A i) (by decide : ¬ okT (nI 1) (nI 0))
    have f5 := e_set (a := A i) (by decide : ¬ okT (nI 4) (nI 100))
    have f6 := e_set (a := A i) (by decide : ¬ okT (nI 5) (nI 1))
    have f7 := e_land (i := nI 9) e1
    have f8 := e_mov_i (a := A i) (s := nI 0) (t := -1) (fun q => vS_m1 q.2)
    simp (disch := omega) only [bL_errors_362, sp_L_run, sp_L_set, sp_L_landing, sp_L_move, hi, hA, f1, f2, f3, f4, f5, f6, f7, f8, ql_ci, ql_cl, ql_ild, ql_lld, ql_ald, ql_ist, ql_lst, ql_inc, ql_b2, ql_d2, ql_u1, ql_l2, ql_ld2, ql_lsh, ql_lcmp, ql_i2l, ql_l2i, ql_popi, ql_if1, ql_if2, ql_sw, ql_swn, ql_swc, ql_cN0, ql_cN1, ql_cN2, ql_cN3, ql_cN4, ql_cN5, ql_cN6, ql_cV, ql_ir, ql_zr, ql_lr, q_sh0, q_sh1, q_sh2, q_sh3, q_sh4, q_toL0, q_toL1, q_gl0, q_gls, q_sl0, q_sls, q_k10, q_k1s, q_lgi, q_lgr, q_lgl, q_lgn, pk_div, pk_rem, pk_rm, Bool.not_false, and_true, true_and, nz_2, nz_4, nz_5, nz_8, nz_10, nz_12, nz_14, nz_16, nz_40, nz_41, nz_64, nz_100, nz_1000, nz_1024, nz_4096, nz_10000, nz_100000, not_false_eq_true, lup_eq, lup_up, lup_self, lgc_lt, lgc_gt, lgc_le, lgc_ge, lgc_eq, lr_a1, lr_i1, lr_s1, lr_a2, lr_s2, lr_s3, lr_0, t32, v_about_st, v_about_fi, bI_0, nI_add, pk_mul, nI_lt', nI_le', nI_eq', nI_z, nI_p, nI_e0, nI_l0, nI_le0, nI_clamp, up_eq, up_ne, not_true_eq_false, Classical.not_not, false_implies, true_implies, false_and, and_false, or_true, true_or, Nat.add_zero, pk_m1, m1_0, m1_n, m1_p, Nat.zero_le, forall_const, Nat.zero_add, Nat.reduceAdd, Nat.reduceEqDiff, or_false, false_or, Nat.one_ne_zero]
    repeat' first
      | assumption
      | omega
      | (exact H455 _ _ _ (by omega))
      | refine And.intro ?_ ?_
      | (intro (_ : _); first | (exfalso; omega) | skip)
  have H266 : ∀ x5 x6 c, c ≤ 350 → M 266 [.ref i, .long (nowV (A i).1), .null, .int (nI st), .int (nI fi), x5, x6] [] (A, c) := fun x5 x6 c hc => by
    refine h266 _ _ _ ?_
    have f1 := e_addF (a := A i) (by decide : ¬ okF (nI 0) (nI 0) (nI 0))
    have f2 := e_wind (a := A i) (by decide : ¬ okW (nI 4) (nI 0))
    have f3 := e_wind (a := A i) (by decide : ¬ okW (nI 0) (-21))
    have f4 := e_chg_i (a := A i) (h := nI 16) (z := nI 1) nS
    have f5 := e_del_i (a := A i) (g := nI 0) (k := nI 0) nS
    have f6 := e_mov_i (a := A i) (s := nI st) (t := nI 0) (fun q => nS q.1)
    have f8 := e_mov_i (a := A i) (s := nI 0) (t := -1) (fun q => vS_m1 q.2)
    simp (disch := omega) only [bL_errors_266, sp_L_addFinder, sp_L_wind, sp_L_change, sp_L_deliver, sp_L_move, hi, hA, f1, f2, f3, f4, f5, f6, f8, ql_ci, ql_cl, ql_ild, ql_lld, ql_ald, ql_ist, ql_lst, ql_inc, ql_b2, ql_d2, ql_u1, ql_l2, ql_ld2, ql_lsh, ql_lcmp, ql_i2l, ql_l2i, ql_popi, ql_if1, ql_if2, ql_sw, ql_swn, ql_swc, ql_cN0, ql_cN1, ql_cN2, ql_cN3, ql_cN4, ql_cN5, ql_cN6, ql_cV, ql_ir, ql_zr, ql_lr, q_sh0, q_sh1, q_sh2, q_sh3, q_sh4, q_toL0, q_toL1, q_gl0, q_gls, q_sl0, q_sls, q_k10, q_k1s, q_lgi, q_lgr, q_lgl, q_lgn, pk_div, pk_rem, pk_rm, Bool.not_false, and_true, true_and, nz_2, nz_4, nz_5, nz_8, nz_10, nz_12, nz_14, nz_16, nz_40, nz_41, nz_64, nz_100, nz_1000, nz_1024, nz_4096, nz_10000, nz_100000, not_false_eq_true, lup_eq, lup_up, lup_self, lgc_lt, lgc_gt, lgc_le, lgc_ge, lgc_eq, lr_a1, lr_i1, lr_s1, lr_a2, lr_s2, lr_s3, lr_0, t32, v_about_st, v_about_fi, bI_0, nI_add, pk_mul, nI_lt', nI_le', nI_eq', nI_z, nI_p, nI_e0, nI_l0, nI_le0, nI_clamp, up_eq, up_ne, not_true_eq_false, Classical.not_not, false_implies, true_implies, false_and, and_false, or_true, true_or, Nat.add_zero, pk_m1, m1_0, m1_n, m1_p, Nat.zero_le, forall_const, Nat.zero_add, Nat.reduceAdd, Nat.reduceEqDiff, or_false, false_or, Nat.one_ne_zero]
    repeat' first
      | assumption
      | omega
      | (exact H362 _ _ _ (by omega))
      | refine And.intro ?_ ?_
      | (intro (_ : _); first | (exfalso; omega) | skip)
  have H185 : ∀ x5 x6 c, c ≤ 320 → M 185 [.ref i, .long (nowV (A i).1), .null, .int (nI st), .int (nI fi), x5, x6] [] (A, c) := fun x5 x6 c hc => by
    refine h185 _ _ _ ?_
    have f1 := e_addS (a := A i) (by decide : ¬ okS (nI 0) (nI 0) (nI 6) (nI 0) (nI 0))
    have f2 := e_addS (a := A i) (by decide : ¬ okS (nI 0) (nI 0) (nI 1) (nI 1000) (nI 0))
    have f3 := e_addS (a := A i) (by decide : ¬ okS (nI 0) (nI 0) (nI 1) (nI 0) (nI 100))
    have f4 := e_addF (a := A i) (by decide : ¬ okF (-1) (nI 0) (nI 1))
    have f5 := e_addF (a := A i) (by decide : ¬ okF (nI 0) (nI 21) (nI 1))
    simp (disch := omega) only [bL_errors_185, sp_L_addStation, sp_L_addFinder, hi, hA, f1, f2, f3, f4, f5, ql_ci, ql_cl, ql_ild, ql_lld, ql_ald, ql_ist, ql_lst, ql_inc, ql_b2, ql_d2, ql_u1, ql_l2, ql_ld2, ql_lsh, ql_lcmp, ql_i2l, ql_l2i, ql_popi, ql_if1, ql_if2, ql_sw, ql_swn, ql_swc, ql_cN0, ql_cN1, ql_cN2, ql_cN3, ql_cN4, ql_cN5, ql_cN6, ql_cV, ql_ir, ql_zr, ql_lr, q_sh0, q_sh1, q_sh2, q_sh3, q_sh4, q_toL0, q_toL1, q_gl0, q_gls, q_sl0, q_sls, q_k10, q_k1s, q_lgi, q_lgr, q_lgl, q_lgn, pk_div, pk_rem, pk_rm, Bool.not_false, and_true, true_and, nz_2, nz_4, nz_5, nz_8, nz_10, nz_12, nz_14, nz_16, nz_40, nz_41, nz_64, nz_100, nz_1000, nz_1024, nz_4096, nz_10000, nz_100000, not_false_eq_true, lup_eq, lup_up, lup_self, lgc_lt, lgc_gt, lgc_le, lgc_ge, lgc_eq, lr_a1, lr_i1, lr_s1, lr_a2, lr_s2, lr_s3, lr_0, t32, v_about_st, v_about_fi, bI_0, nI_add, pk_mul, nI_lt', nI_le', nI_eq', nI_z, nI_p, nI_e0, nI_l0, nI_le0, nI_clamp, up_eq, up_ne, not_true_eq_false, Classical.not_not, false_implies, true_implies, false_and, and_false, or_true, true_or, Nat.add_zero, pk_m1, m1_0, m1_n, m1_p, Nat.zero_le, forall_const, Nat.zero_add, Nat.reduceAdd, Nat.reduceEqDiff, or_false, false_or, Nat.one_ne_zero]
    repeat' first
      | assumption
      | omega
      | (exact H266 _ _ _ (by omega))
      | refine And.intro ?_ ?_
      | (intro (_ : _); first | (exfalso; omega) | skip)
  have H88 : ∀ x5 x6 c, c ≤ 300 → M 88 [.ref i, .long (nowV (A i).1), .null, .int (nI st), .int (nI fi), x5, x6] [] (A, c) := fun x5 x6 c hc => by
    refine h88 _ _ _ ?_
    have f1 := e_addS (a := A i) (by decide : ¬ okS (nI 100) (nI 0) (nI 1) (nI 0) (nI 0))
    have f2 := e_addS (a := A i) (by decide : ¬ okS (nI 0) (nI 16) (nI 1) (nI 0) (nI 0))
    simp (disch := omega) only [bL_errors_88, sp_L_back, sp_L_gap, sp_L_windOf, sp_L_setting, sp_L_addStation, hi, hA, e_back_m, e_back_3, e_gap_m, e_wind_4, e_set_5, f1, f2, ql_ci, ql_cl, ql_ild, ql_lld, ql_ald, ql_ist, ql_lst, ql_inc, ql_b2, ql_d2, ql_u1, ql_l2, ql_ld2, ql_lsh, ql_lcmp, ql_i2l, ql_l2i, ql_popi, ql_if1, ql_if2, ql_sw, ql_swn, ql_swc, ql_cN0, ql_cN1, ql_cN2, ql_cN3, ql_cN4, ql_cN5, ql_cN6, ql_cV, ql_ir, ql_zr, ql_lr, q_sh0, q_sh1, q_sh2, q_sh3, q_sh4, q_toL0, q_toL1, q_gl0, q_gls, q_sl0, q_sls, q_k10, q_k1s, q_lgi, q_lgr, q_lgl, q_lgn, pk_div, pk_rem, pk_rm, Bool.not_false, and_true, true_and, nz_2, nz_4, nz_5, nz_8, nz_10, nz_12, nz_14, nz_16, nz_40, nz_41, nz_64, nz_100, nz_1000, nz_1024, nz_4096, nz_10000, nz_100000, not_false_eq_true, lup_eq, lup_up, lup_self, lgc_lt, lgc_gt, lgc_le, lgc_ge, lgc_eq, lr_a1, lr_i1, lr_s1, lr_a2, lr_s2, lr_s3, lr_0, t32, v_about_st, v_about_fi, bI_0, nI_add, pk_mul, nI_lt', nI_le', nI_eq', nI_z, nI_p, nI_e0, nI_l0, nI_le0, nI_clamp, up_eq, up_ne, not_true_eq_false, Classical.not_not, false_implies, true_implies, false_and, and_false, or_true, true_or, Nat.add_zero, pk_m1, m1_0, m1_n, m1_p, Nat.zero_le, forall_const, Nat.zero_add, Nat.reduceAdd, Nat.reduceEqDiff, or_false, false_or, Nat.one_ne_zero]
    repeat' first
      | assumption
      | omega
      | (exact H185 _ _ _ (by omega))
      | refine And.intro ?_ ?_
      | (intro (_ : _); first | (exfalso; omega) | skip)
  refine h0 _ _ _ ?_
  have f1 := e_station (i := nI 9) e1
  have f2 := e_stock (i := nI 9) e1
  have f3 := e_finder (i := nI 9) e2
  simp (disch := omega) only [bL_errors_0, sp_L_now, sp_L_about, sp_L_station, sp_L_stock, sp_L_finder, hi, hA, e1, e2, e_about_m, e_about_12, f1, f2, f3, ql_ci, ql_cl, ql_ild, ql_lld, ql_ald, ql_ist, ql_lst, ql_inc, ql_b2, ql_d2, ql_u1, ql_l2, ql_ld2, ql_lsh, ql_lcmp, ql_i2l, ql_l2i, ql_popi, ql_if1, ql_if2, ql_sw, ql_swn, ql_swc, ql_cN0, ql_cN1, ql_cN2, ql_cN3, ql_cN4, ql_cN5, ql_cN6, ql_cV, ql_ir, ql_zr, ql_lr, q_sh0, q_sh1, q_sh2, q_sh3, q_sh4, q_toL0, q_toL1, q_gl0, q_gls, q_sl0, q_sls, q_k10, q_k1s, q_lgi, q_lgr, q_lgl, q_lgn, pk_div, pk_rem, pk_rm, Bool.not_false, and_true, true_and, nz_2, nz_4, nz_5, nz_8, nz_10, nz_12, nz_14, nz_16, nz_40, nz_41, nz_64, nz_100, nz_1000, nz_1024, nz_4096, nz_10000, nz_100000, not_false_eq_true, lup_eq, lup_up, lup_self, lgc_lt, lgc_gt, lgc_le, lgc_ge, lgc_eq, lr_a1, lr_i1, lr_s1, lr_a2, lr_s2, lr_s3, lr_0, t32, v_about_st, v_about_fi, bI_0, nI_add, pk_mul, nI_lt', nI_le', nI_eq', nI_z, nI_p, nI_e0, nI_l0, nI_le0, nI_clamp, up_eq, up_ne, not_true_eq_false, Classical.not_not, false_implies, true_implies, false_and, and_false, or_true, true_or, Nat.add_zero, pk_m1, m1_0, m1_n, m1_p, Nat.zero_le, forall_const, Nat.zero_add, Nat.reduceAdd, Nat.reduceEqDiff, or_false, false_or, Nat.one_ne_zero]
  repeat' first
    | assumption
    | omega
    | (exact H88 _ _ _ (by omega))
    | refine And.intro ?_ ?_
    | (intro (_ : _); first | (exfalso; omega) | skip)
