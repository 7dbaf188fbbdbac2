def sp_L_now : la_S := fun As A K => match As with
  | [.ref i] => i < 2 ∧ okA (A i) ∧ K (some (.long (nowV (A i).1))) A
  | _ => False
set_option maxRecDepth 20000 in
set_option maxHeartbeats 4000000 in
theorem ok_L_now {l : Launch} (hl : l.stackTraces = false) : la_Ok l yL_now (Cond.code yL_now cL_now 6 (some .long)) 9 (30 * 9) 200 sp_L_now := by
  intro Y A As K hw h
  unfold sp_L_now at h
  split at h
  rotate_left 1
  · exact h.elim
  next i =>
  refine vc_L_now hl hw (ok_L_about hl) (ok_L_setting hl) (ok_L_windOf hl) (ok_L_station hl) (ok_L_stock hl) (ok_L_finder hl) (ok_L_gap hl) (ok_L_back hl) (Nat.le_of_ble_eq_true rfl) (fun M h0 h6 h32 h57 h90 h129 h173 h210 => ?_)
  show M 0 [.ref i, .null, .null, .null, .null, .null] [] (A, 0)
  obtain ⟨hi, hA, h⟩ := h
  obtain ⟨e1, b1, e2, b2⟩ : (A i).1.1 1 = nI (cl ((A i).1.1 1)) ∧ cl ((A i).1.1 1) ≤ 5 ∧ (A i).1.1 2 = nI (cl ((A i).1.1 2)) ∧ cl ((A i).1.1 2) ≤ 6 := by
    obtain ⟨T, hW, -⟩ := hA
    exact ⟨hW.1.1.2.2.1, hW.1.1.2.2.2.1, hW.1.1.2.2.2.2.1, hW.1.1.2.2.2.2.2.1⟩
  generalize hst : cl ((A i).1.1 1) = st at *
  generalize hfi : cl ((A i).1.1 2) = fi at *
  have L210 : ∀ d k v s f c, k + d = 6 → c + 4 * d ≤ 200 → v = fo4 (fun k => v_gap (nI k) (nI 0) (A i).1) (fun k => v_gap (nI k) (nI 1) (A i).1) (fun k => v_back (nI k) (nI 0) (A i).1) (fun k => v_back (nI k) (nI 2) (A i).1) k (nv6 (A i).1) → M 210 [.ref i, .long v, .null, .int s, .int f, .int (nI k)] [] (A, c) := by
    intro d
    induction d with
    | zero =>
      intro k v s f c hk hc hv
      obtain rfl : k = 6 := by omega
      refine h210 _ _ _ ?_
      simp (disch := omega) only [bL_now_210, ql_ci, ql_cl, ql_ild, ql_lld, ql_ald, ql_ist, ql_lst, ql_inc, ql_b2, ql_d2, ql_u1, ql_l2, ql_ld2, ql_lsh, ql_lcmp, ql_i2l, ql_l2i, ql_popi, ql_if1, ql_if2, ql_sw, ql_swn, ql_swc, ql_cN0, ql_cN1, ql_cN2, ql_cN3, ql_cN4, ql_cN5, ql_cN6, ql_cV, ql_ir, ql_zr, ql_lr, q_sh0, q_sh1, q_sh2, q_sh3, q_sh4, q_toL0, q_toL1, q_gl0, q_gls, q_sl0, q_sls, q_k10, q_k1s, q_lgi, q_lgr, q_lgl, q_lgn, pk_div, pk_rem, pk_rm, Bool.not_false, and_true, true_and, nz_2, nz_4, nz_5, nz_8, nz_10, nz_12, nz_14, nz_16, nz_40, nz_41, nz_64, nz_100, nz_1000, nz_1024, nz_4096, nz_10000, nz_100000, not_false_eq_true, lup_eq, lup_up, lup_self, lgc_lt, lgc_gt, lgc_le, lgc_ge, lgc_eq, lr_a1, lr_i1, lr_s1, lr_a2, lr_s2, lr_s3, lr_0, t32, v_about_st, v_about_fi, bI_0, nI_add, pk_mul, nI_lt', nI_le', nI_eq', nI_z, nI_p, nI_e0, nI_l0, nI_le0, nI_clamp, up_eq, up_ne, not_true_eq_false, Classical.not_not, false_implies, true_implies, false_and, and_false, or_true, true_or, Nat.add_zero, pk_m1, m1_0, m1_n, m1_p, Nat.zero_le, forall_const, Nat.zero_add, Nat.reduceAdd, Nat.reduceEqDiff, or_false, false_or, Nat.one_ne_zero]
      refine ⟨fun _ => ⟨by omega, by rw [hv, ← nowV_e]; exact h⟩, fun q => absurd (Nat.le_refl _) q⟩
    | succ d ih =>
      intro k v s f c hk hc hv
      refine h210 _ _ _ ?_
      simp (disch := omega) only [bL_now_210, sp_L_gap, sp_L_back, hi, hA, ql_ci, ql_cl, ql_ild, ql_lld, ql_ald, ql_ist, ql_lst, ql_inc, ql_b2, ql_d2, ql_u1, ql_l2, ql_ld2, ql_lsh, ql_lcmp, ql_i2l, ql_l2i, ql_popi, ql_if1, ql_if2, ql_sw, ql_swn, ql_swc, ql_cN0, ql_cN1, ql_cN2, ql_cN3, ql_cN4, ql_cN5, ql_cN6, ql_cV, ql_ir, ql_zr, ql_lr, q_sh0, q_sh1, q_sh2, q_sh3, q_sh4, q_toL0, q_toL1, q_gl0, q_gls, q_sl0, q_sls, q_k10, q_k1s, q_lgi, q_lgr, q_lgl, q_lgn, pk_div, pk_rem, pk_rm, Bool.not_false, and_true, true_and, nz_2, nz_4, nz_5, nz_8, nz_10, nz_12, nz_14, nz_16, nz_40, nz_41, nz_64, nz_100, nz_1000, nz_1024, nz_4096, nz_10000, nz_100000, not_false_eq_true, lup_eq, lup_up, lup_self, lgc_lt, lgc_gt, lgc_le, lgc_ge, lgc_eq, lr_a1, lr_i1, lr_s1, lr_a2, lr_s2, lr_s3, lr_0, t32, v_about_st, v_about_fi, bI_0, nI_add, pk_mul, nI_lt', nI_le', nI_eq', nI_z, nI_p, nI_e0, nI_l0, nI_le0, nI_clamp, up_eq, up_ne, not_true_eq_false, Classical.not_not, false_implies, true_implies, false_and, and_false, or_true, true_or, Nat.add_zero, pk_m1, m1_0, m1_n, m1_p, Nat.zero_le, forall_const, Nat.zero_add, Nat.reduceAdd, Nat.reduceEqDiff, or_false, false_or, Nat.one_ne_zero]
      refine ⟨fun q => absurd q (by omega), fun _ => ⟨by omega, by omega, by omega, by omega, ih (k + 1) _ s f _ (by omega) (by omega) (by rw [fo4, ← hv])⟩⟩
  have L173 : ∀ d k v (s : Int32) c, k + d = 5 * fi → c + d + 60 ≤ 200 → v = fo (fun k => v_finder (nI (k / 5)) (nI (k % 5)) (A i).1) k (nv5 (A i).1) → M 173 [.ref i, .long v, .null, .int s, .int (nI fi), .int (nI k)] [] (A, c) := by
    intro d
    induction d with
    | zero =>
      intro k v s c hk hc hv
      obtain rfl : k = 5 * fi := by omega
      refine h173 _ _ _ ?_
      simp (disch := omega) only [bL_now_173, sp_L_about, hi, hA, e1, e2, ql_ci, ql_cl, ql_ild, ql_lld, ql_ald, ql_ist, ql_lst, ql_inc, ql_b2, ql_d2, ql_u1, ql_l2, ql_ld2, ql_lsh, ql_lcmp, ql_i2l, ql_l2i, ql_popi, ql_if1, ql_if2, ql_sw, ql_swn, ql_swc, ql_cN0, ql_cN1, ql_cN2, ql_cN3, ql_cN4, ql_cN5, ql_cN6, ql_cV, ql_ir, ql_zr, ql_lr, q_sh0, q_sh1, q_sh2, q_sh3, q_sh4, q_toL0, q_toL1, q_gl0, q_gls, q_sl0, q_sls, q_k10, q_k1s, q_lgi, q_lgr, q_lgl, q_lgn, pk_div, pk_rem, pk_rm, Bool.not_false, and_true, true_and, nz_2, nz_4, nz_5, nz_8, nz_10, nz_12, nz_14, nz_16, nz_40, nz_41, nz_64, nz_100, nz_1000, nz_1024, nz_4096, nz_10000, nz_100000, not_false_eq_true, lup_eq, lup_up, lup_self, lgc_lt, lgc_gt, lgc_le, lgc_ge, lgc_eq, lr_a1, lr_i1, lr_s1, lr_a2, lr_s2, lr_s3, lr_0, t32, v_about_st, v_about_fi, bI_0, nI_add, pk_mul, nI_lt', nI_le', nI_eq', nI_z, nI_p, nI_e0, nI_l0, nI_le0, nI_clamp, up_eq, up_ne, not_true_eq_false, Classical.not_not, false_implies, true_implies, false_and, and_false, or_true, true_or, Nat.add_zero, pk_m1, m1_0, m1_n, m1_p, Nat.zero_le, forall_const, Nat.zero_add, Nat.reduceAdd, Nat.reduceEqDiff, or_false, false_or, Nat.one_ne_zero]
      refine ⟨fun _ => L210 6 0 v s (nI fi) c (by omega) (by omega) (by rw [hv, fo4_0, nv6_e, hfi]), fun q => absurd (Nat.le_refl _) q⟩
    | succ d ih =>
      intro k v s c hk hc hv
      refine h173 _ _ _ ?_
      simp (disch := omega) only [bL_now_173, sp_L_finder, hi, hA, ql_ci, ql_cl, ql_ild, ql_lld, ql_ald, ql_ist, ql_lst, ql_inc, ql_b2, ql_d2, ql_u1, ql_l2, ql_ld2, ql_lsh, ql_lcmp, ql_i2l, ql_l2i, ql_popi, ql_if1, ql_if2, ql_sw, ql_swn, ql_swc, ql_cN0, ql_cN1, ql_cN2, ql_cN3, ql_cN4, ql_cN5, ql_cN6, ql_cV, ql_ir, ql_zr, ql_lr, q_sh0, q_sh1, q_sh2, q_sh3, q_sh4, q_toL0, q_toL1, q_gl0, q_gls, q_sl0, q_sls, q_k10, q_k1s, q_lgi, q_lgr, q_lgl, q_lgn, pk_div, pk_rem, pk_rm, Bool.not_false, and_true, true_and, nz_2, nz_4, nz_5, nz_8, nz_10, nz_12, nz_14, nz_16, nz_40, nz_41, nz_64, nz_100, nz_1000, nz_1024, nz_4096, nz_10000, nz_100000, not_false_eq_true, lup_eq, lup_up, lup_self, lgc_lt, lgc_gt, lgc_le, lgc_ge, lgc_eq, lr_a1, lr_i1, lr_s1, lr_a2, lr_s2, lr_s3, lr_0, t32, v_about_st, v_about_fi, bI_0, nI_add, pk_mul, nI_lt', nI_le', nI_eq', nI_z, nI_p, nI_e0, nI_l0, nI_le0, nI_clamp, up_eq, up_ne, not_true_eq_false, Classical.not_not, false_implies, true_implies, false_and, and_false, or_true, true_or, Nat.add_zero, pk_m1, m1_0, m1_n, m1_p, Nat.zero_le, forall_const, Nat.zero_add, Nat.reduceAdd, Nat.reduceEqDiff, or_false, false_or, Nat.one_ne_zero]
      refine ⟨fun q => absurd q (by omega), fun _ => ⟨by omega, ih (k + 1) _ s _ (by omega) (by omega) (by rw [fo, ← hv])⟩⟩
  have L129 : ∀ d k v c, k + d = 5 * st → c + d + 100 ≤ 200 → v = fo (fun k => v_stock (nI (k / 5)) (nI (k % 5)) (A i).1) k (nv4 (A i).1) → M 129 [.ref i, .long v, .null, .int (nI st), .int (nI k), .null] [] (A, c) := by
    intro d
    induction d with
    | zero =>
      intro k v c hk hc hv
      obtain rfl : k = 5 * st := by omega
      refine h129 _ _ _ ?_
      simp (disch := omega) only [bL_now_129, sp_L_about, hi, hA, e1, e2, ql_ci, ql_cl, ql_ild, ql_lld, ql_ald, ql_ist, ql_lst, ql_inc, ql_b2, ql_d2, ql_u1, ql_l2, ql_ld2, ql_lsh, ql_lcmp, ql_i2l, ql_l2i, ql_popi, ql_if1, ql_if2, ql_sw, ql_swn, ql_swc, ql_cN0, ql_cN1, ql_cN2, ql_cN3, ql_cN4, ql_cN5, ql_cN6, ql_cV, ql_ir, ql_zr, ql_lr, q_sh0, q_sh1, q_sh2, q_sh3, q_sh4, q_toL0, q_toL1, q_gl0, q_gls, q_sl0, q_sls, q_k10, q_k1s, q_lgi, q_lgr, q_lgl, q_lgn, pk_div, pk_rem, pk_rm, Bool.not_false, and_true, true_and, nz_2, nz_4, nz_5, nz_8, nz_10, nz_12, nz_14, nz_16, nz_40, nz_41, nz_64, nz_100, nz_1000, nz_1024, nz_4096, nz_10000, nz_100000, not_false_eq_true, lup_eq, lup_up, lup_self, lgc_lt, lgc_gt, lgc_le, lgc_ge, lgc_eq, lr_a1, lr_i1, lr_s1, lr_a2, lr_s2, lr_s3, lr_0, t32, v_about_st, v_about_fi, bI_0, nI_add, pk_mul, nI_lt', nI_le', nI_eq', nI_z, nI_p, nI_e0, nI_l0, nI_le0, nI_clamp, up_eq, up_ne, not_true_eq_false, Classical.not_not, false_implies, true_implies, false_and, and_false, or_true, true_or, Nat.add_zero, pk_m1, m1_0, m1_n, m1_p, Nat.zero_le, forall_const, Nat.zero_add, Nat.reduceAdd, Nat.reduceEqDiff, or_false, false_or, Nat.one_ne_zero]
      refine ⟨fun _ => ⟨by omega, L173 (5 * fi) 0 v _ _ (by omega) (by omega) (by rw [hv, fo_0, nv5_e, hst])⟩, fun q => absurd (Nat.le_refl _) q⟩
    | succ d ih =>
      intro k v c hk hc hv
      refine h129 _ _ _ ?_
      simp (disch := omega) only [bL_now_129, sp_L_stock, hi, hA, ql_ci, ql_cl, ql_ild, ql_lld, ql_ald, ql_ist, ql_lst, ql_inc, ql_b2, ql_d2, ql_u1, ql_l2, ql_ld2, ql_lsh, ql_lcmp, ql_i2l, ql_l2i, ql_popi, ql_if1, ql_if2, ql_sw, ql_swn, ql_swc, ql_cN0, ql_cN1, ql_cN2, ql_cN3, ql_cN4, ql_cN5, ql_cN6, ql_cV, ql_ir, ql_zr, ql_lr, q_sh0, q_sh1, q_sh2, q_sh3, q_sh4, q_toL0, q_toL1, q_gl0, q_gls, q_sl0, q_sls, q_k10, q_k1s, q_lgi, q_lgr, q_lgl, q_lgn, pk_div, pk_rem, pk_rm, Bool.not_false, and_true, true_and, nz_2, nz_4, nz_5, nz_8, nz_10, nz_12, nz_14, nz_16, nz_40, nz_41, nz_64, nz_100, nz_1000, nz_1024, nz_4096, nz_10000, nz_100000, not_false_eq_true, lup_eq, lup_up, lup_self, lgc_lt, lgc_gt, lgc_le, lgc_ge, lgc_eq, lr_a1, lr_i1, lr_s1, lr_a2, lr_s2, lr_s3, lr_0, t32, v_about_st, v_about_fi, bI_0, nI_add, pk_mul, nI_lt', nI_le', nI_eq', nI_z, nI_p, nI_e0, nI_l0, nI_le0, nI_clamp, up_eq, up_ne, not_true_eq_false, Classical.not_not, false_implies, true_implies, false_and, and_false, or_true, true_or, Nat.add_zero, pk_m1, m1_0, m1_n, m1_p, Nat.zero_le, forall_const, Nat.zero_add, Nat.reduceAdd, Nat.reduceEqDiff, or_false, false_or, Nat.one_ne_zero]
      refine ⟨fun q => absurd q (by omega), fun _ => ⟨by omega, ih (k + 1) _ _ (by omega) (by omega) (by rw [fo, ← hv])⟩⟩
  have L90 : ∀ d k v c, k + d = 8 * st → c + d + 130 ≤ 200 → v = fo (fun k => v_station (nI (k / 8)) (nI (k % 8)) (A i).1) k (nv3 (A i).1) → M 90 [.ref i, .long v, .null, .int (nI st), .int (nI k), .null] [] (A, c) := by
    intro d
    induction d with
    | zero =>
      intro k v c hk hc hv
      obtain rfl : k = 8 * st := by omega
      refine h90 _ _ _ ?_
      simp (disch := omega) only [bL_now_90, sp_L_about, hi, hA, e1, e2, ql_ci, ql_cl, ql_ild, ql_lld, ql_ald, ql_ist, ql_lst, ql_inc, ql_b2, ql_d2, ql_u1, ql_l2, ql_ld2, ql_lsh, ql_lcmp, ql_i2l, ql_l2i, ql_popi, ql_if1, ql_if2, ql_sw, ql_swn, ql_swc, ql_cN0, ql_cN1, ql_cN2, ql_cN3, ql_cN4, ql_cN5, ql_cN6, ql_cV, ql_ir, ql_zr, ql_lr, q_sh0, q_sh1, q_sh2, q_sh3, q_sh4, q_toL0, q_toL1, q_gl0, q_gls, q_sl0, q_sls, q_k10, q_k1s, q_lgi, q_lgr, q_lgl, q_lgn, pk_div, pk_rem, pk_rm, Bool.not_false, and_true, true_and, nz_2, nz_4, nz_5, nz_8, nz_10, nz_12, nz_14, nz_16, nz_40, nz_41, nz_64, nz_100, nz_1000, nz_1024, nz_4096, nz_10000, nz_100000, not_false_eq_true, lup_eq, lup_up, lup_self, lgc_lt, lgc_gt, lgc_le, lgc_ge, lgc_eq, lr_a1, lr_i1, lr_s1, lr_a2, lr_s2, lr_s3, lr_0, t32, v_about_st, v_about_fi, bI_0, nI_add, pk_mul, nI_lt', nI_le', nI_eq', nI_z, nI_p, nI_e0, nI_l0, nI_le0, nI_clamp, up_eq, up_ne, not_true_eq_false, Classical.not_not, false_implies, true_implies, false_and, and_false, or_true, true_or, Nat.add_zero, pk_m1, m1_0, m1_n, m1_p, Nat.zero_le, forall_const, Nat.zero_add, Nat.reduceAdd, Nat.reduceEqDiff, or_false, false_or, Nat.one_ne_zero]
      refine ⟨fun _ => L129 (5 * st) 0 v _ (by omega) (by omega) (by rw [hv, fo_0, nv4_e, hst]), fun q => absurd (Nat.le_refl _) q⟩
    | succ d ih =>
      intro k v c hk hc hv
      refine h90 _ _ _ ?_
      simp (disch := omega) only [bL_now_90, sp_L_station, hi, hA, ql_ci, ql_cl, ql_ild, ql_lld, ql_ald, ql_ist, ql_lst, ql_inc, ql_b2, ql_d2, ql_u1, ql_l2, ql_ld2, ql_lsh, ql_lcmp, ql_i2l, ql_l2i, ql_popi, ql_if1, ql_if2, ql_sw, ql_swn, ql_swc, ql_cN0, ql_cN1, ql_cN2, ql_cN3, ql_cN4, ql_cN5, ql_cN6, ql_cV, ql_ir, ql_zr, ql_lr, q_sh0, q_sh1, q_sh2, q_sh3, q_sh4, q_toL0, q_toL1, q_gl0, q_gls, q_sl0, q_sls, q_k10, q_k1s, q_lgi, q_lgr, q_lgl, q_lgn, pk_div, pk_rem, pk_rm, Bool.not_false, and_true, true_and, nz_2, nz_4, nz_5, nz_8, nz_10, nz_12, nz_14, nz_16, nz_40, nz_41, nz_64, nz_100, nz_1000, nz_1024, nz_4096, nz_10000, nz_100000, not_false_eq_true, lup_eq, lup_up, lup_self, lgc_lt, lgc_gt, lgc_le, lgc_ge, lgc_eq, lr_a1, lr_i1, lr_s1, lr_a2, lr_s2, lr_s3, lr_0, t32, v_about_st, v_about_fi, bI_0, nI_add, pk_mul, nI_lt', nI_le', nI_eq', nI_z, nI_p, nI_e0, nI_l0, nI_le0, nI_clamp, up_eq, up_ne, not_true_eq_false, Classical.not_not, false_implies, true_implies, false_and, and_false, or_true, true_or, Nat.add_zero, pk_m1, m1_0, m1_n, m1_p, Nat.zero_le, forall_const, Nat.zero_add, Nat.reduceAdd, Nat.reduceEqDiff, or_false, false_or, Nat.one_ne_zero]
      refine ⟨fun q => absurd q (by omega), fun _ => ⟨by omega, ih (k + 1) _ _ (by omega) (by omega) (by rw [fo, ← hv])⟩⟩
  have L57 : ∀ d k v c, k + d = 4 → c + d + 171 ≤ 200 → v = fo (fun k => v_windOf (nI k) (A i).1) k (nv2 (A i).1) → M 57 [.ref i, .long v, .null, .int (nI k), .null, .null] [] (A, c) := by
    intro d
    induction d with
    | zero =>
      intro k v c hk hc hv
      obtain rfl : k = 4 := by omega
      refine h57 _ _ _ ?_
      simp (disch := omega) only [bL_now_57, sp_L_about, hi, hA, e1, e2, ql_ci, ql_cl, ql_ild, ql_lld, ql_ald, ql_ist, ql_lst, ql_inc, ql_b2, ql_d2, ql_u1, ql_l2, ql_ld2, ql_lsh, ql_lcmp, ql_i2l, ql_l2i, ql_popi, ql_if1, ql_if2, ql_sw, ql_swn, ql_swc, ql_cN0, ql_cN1, ql_cN2, ql_cN3, ql_cN4, ql_cN5, ql_cN6, ql_cV, ql_ir, ql_zr, ql_lr, q_sh0, q_sh1, q_sh2, q_sh3, q_sh4, q_toL0, q_toL1, q_gl0, q_gls, q_sl0, q_sls, q_k10, q_k1s, q_lgi, q_lgr, q_lgl, q_lgn, pk_div, pk_rem, pk_rm, Bool.not_false, and_true, true_and, nz_2, nz_4, nz_5, nz_8, nz_10, nz_12, nz_14, nz_16, nz_40, nz_41, nz_64, nz_100, nz_1000, nz_1024, nz_4096, nz_10000, nz_100000, not_false_eq_true, lup_eq, lup_up, lup_self, lgc_lt, lgc_gt, lgc_le, lgc_ge, lgc_eq, lr_a1, lr_i1, lr_s1, lr_a2, lr_s2, lr_s3, lr_0, t32, v_about_st, v_about_fi, bI_0, nI_add, pk_mul, nI_lt', nI_le', nI_eq', nI_z, nI_p, nI_e0, nI_l0, nI_le0, nI_clamp, up_eq, up_ne, not_true_eq_false, Classical.not_not, false_implies, true_implies, false_and, and_false, or_true, true_or, Nat.add_zero, pk_m1, m1_0, m1_n, m1_p, Nat.zero_le, forall_const, Nat.zero_add, Nat.reduceAdd, Nat.reduceEqDiff, or_false, false_or, Nat.one_ne_zero]
      refine ⟨fun _ => ⟨by omega, L90 (8 * st) 0 v _ (by omega) (by omega) (by rw [hv, fo_0, nv3_e])⟩, fun q => absurd (Nat.le_refl _) q⟩
    | succ d ih =>
      intro k v c hk hc hv
      refine h57 _ _ _ ?_
      simp (disch := omega) only [bL_now_57, sp_L_windOf, hi, hA, ql_ci, ql_cl, ql_ild, ql_lld, ql_ald, ql_ist, ql_lst, ql_inc, ql_b2, ql_d2, ql_u1, ql_l2, ql_ld2, ql_lsh, ql_lcmp, ql_i2l, ql_l2i, ql_popi, ql_if1, ql_if2, ql_sw, ql_swn, ql_swc, ql_cN0, ql_cN1, ql_cN2, ql_cN3, ql_cN4, ql_cN5, ql_cN6, ql_cV, ql_ir, ql_zr, ql_lr, q_sh0, q_sh1, q_sh2, q_sh3, q_sh4, q_toL0, q_toL1, q_gl0, q_gls, q_sl0, q_sls, q_k10, q_k1s, q_lgi, q_lgr, q_lgl, q_lgn, pk_div, pk_rem, pk_rm, Bool.not_false, and_true, true_and, nz_2, nz_4, nz_5, nz_8, nz_10, nz_12, nz_14, nz_16, nz_40, nz_41, nz_64, nz_100, nz_1000, nz_1024, nz_4096, nz_10000, nz_100000, not_false_eq_true, lup_eq, lup_up, lup_self, lgc_lt, lgc_gt, lgc_le, lgc_ge, lgc_eq, lr_a1, lr_i1, lr_s1, lr_a2, lr_s2, lr_s3, lr_0, t32, v_about_st, v_about_fi, bI_0, nI_add, pk_mul, nI_lt', nI_le', nI_eq', nI_z, nI_p, nI_e0, nI_l0, nI_le0, nI_clamp, up_eq, up_ne, not_true_eq_false, Classical.not_not, false_implies, true_implies, false_and, and_false, or_true, true_or, Nat.add_zero, pk_m1, m1_0, m1_n, m1_p, Nat.zero_le, forall_const, Nat.zero_add, Nat.reduceAdd, Nat.reduceEqDiff, or_false, false_or, Nat.one_ne_zero]
      refine ⟨fun q => absurd q (by omega), fun _ => ⟨by omega, ih (k + 1) _ _ (by omega) (by omega) (by rw [fo, ← hv])⟩⟩
  have L32 : ∀ d k v c, k + d = 5 → c + d + 175 ≤ 200 → v = fo (fun k => v_setting (nI k) (A i).1) k (nv1 (A i).1) → M 32 [.ref i, .long v, .null, .int (nI k), .null, .null] [] (A, c) := by
    intro d
    induction d with
    | zero =>
      intro k v c hk hc hv
      obtain rfl : k = 5 := by omega
      refine h32 _ _ _ ?_
      simp (disch := omega) only [bL_now_32, sp_L_about, hi, hA, e1, e2, ql_ci, ql_cl, ql_ild, ql_lld, ql_ald, ql_ist, ql_lst, ql_inc, ql_b2, ql_d2, ql_u1, ql_l2, ql_ld2, ql_lsh, ql_lcmp, ql_i2l, ql_l2i, ql_popi, ql_if1, ql_if2, ql_sw, ql_swn, ql_swc, ql_cN0, ql_cN1, ql_cN2, ql_cN3, ql_cN4, ql_cN5, ql_cN6, ql_cV, ql_ir, ql_zr, ql_lr, q_sh0, q_sh1, q_sh2, q_sh3, q_sh4, q_toL0, q_toL1, q_gl0, q_gls, q_sl0, q_sls, q_k10, q_k1s, q_lgi, q_lgr, q_lgl, q_lgn, pk_div, pk_rem, pk_rm, Bool.not_false, and_true, true_and, nz_2, nz_4, nz_5, nz_8, nz_10, nz_12, nz_14, nz_16, nz_40, nz_41, nz_64, nz_100, nz_1000, nz_1024, nz_4096, nz_10000, nz_100000, not_false_eq_true, lup_eq, lup_up, lup_self, lgc_lt, lgc_gt, lgc_le, lgc_ge, lgc_eq, lr_a1, lr_i1, lr_s1, lr_a2, lr_s2, lr_s3, lr_0, t32, v_about_st, v_about_fi, bI_0, nI_add, pk_mul, nI_lt', nI_le', nI_eq', nI_z, nI_p, nI_e0, nI_l0, nI_le0, nI_clamp, up_eq, up_ne, not_true_eq_false, Classical.not_not, false_implies, true_implies, false_and, and_false, or_true, true_or, Nat.add_zero, pk_m1, m1_0, m1_n, m1_p, Nat.zero_le, forall_const, Nat.zero_add, Nat.reduceAdd, Nat.reduceEqDiff, or_false, false_or, Nat.one_ne_zero]
      refine ⟨fun _ => L57 4 0 v _ (by omega) (by omega) (by rw [hv, fo_0, nv2_e]), fun q => absurd (Nat.le_refl _) q⟩
    | succ d ih =>
      intro k v c hk hc hv
      refine h32 _ _ _ ?_
      simp (disch := omega) only [bL_now_32, sp_L_setting, hi, hA, ql_ci, ql_cl, ql_ild, ql_lld, ql_ald, ql_ist, ql_lst, ql_inc, ql_b2, ql_d2, ql_u1, ql_l2, ql_ld2, ql_lsh, ql_lcmp, ql_i2l, ql_l2i, ql_popi, ql_if1, ql_if2, ql_sw, ql_swn, ql_swc, ql_cN0, ql_cN1, ql_cN2, ql_cN3, ql_cN4, ql_cN5, ql_cN6, ql_cV, ql_ir, ql_zr, ql_lr, q_sh0, q_sh1, q_sh2, q_sh3, q_sh4, q_toL0, q_toL1, q_gl0, q_gls, q_sl0, q_sls, q_k10, q_k1s, q_lgi, q_lgr, q_lgl, q_lgn, pk_div, pk_rem, pk_rm, Bool.not_false, and_true, true_and, nz_2, nz_4, nz_5, nz_8, nz_10, nz_12, nz_14, nz_16, nz_40, nz_41, nz_64, nz_100, nz_1000, nz_1024, nz_4096, nz_10000, nz_100000, not_false_eq_true, lup_eq, lup_up, lup_self, lgc_lt, lgc_gt, lgc_le, lgc_ge, lgc_eq, lr_a1, lr_i1, lr_s1, lr_a2, lr_s2, lr_s3, lr_0, t32, v_about_st, v_about_fi, bI_0, nI_add, pk_mul, nI_lt', nI_le', nI_eq', nI_z, nI_p, nI_e0, nI_l0, nI_le0, nI_clamp, up_eq, up_ne, not_true_eq_false, Classical.not_not, false_implies, true_implies, false_and, and_false, or_true, true_or, Nat.add_zero, pk_m1, m1_0, m1_n, m1_p, Nat.zero_le, forall_const, Nat.zero_add, Nat.reduceAdd, Nat.reduceEqDiff, or_false, false_or, Nat.one_ne_zero]
      refine ⟨fun q => absurd q (by omega), fun _ => ⟨by omega, ih (k + 1) _ _ (by omega) (by omega) (by rw [fo, ← hv])⟩⟩
  have L6 : ∀ d k v c, k + d = 12 → c + d + 180 ≤ 200 → v = fo (fun k => v_about (nI k) (A i).1) k 163 → M 6 [.ref i, .long v, .null, .int (nI k), .null, .null] [] (A, c) := by
    intro d
    induction d with
    | zero =>
      intro k v c hk hc hv
      obtain rfl : k = 12 := by omega
      refine h6 _ _ _ ?_
      simp (disch := omega) only [bL_now_6, sp_L_about, hi, hA, e1, e2, ql_ci, ql_cl, ql_ild, ql_lld, ql_ald, ql_ist, ql_lst, ql_inc, ql_b2, ql_d2, ql_u1, ql_l2, ql_ld2, ql_lsh, ql_lcmp, ql_i2l, ql_l2i, ql_popi, ql_if1, ql_if2, ql_sw, ql_swn, ql_swc, ql_cN0, ql_cN1, ql_cN2, ql_cN3, ql_cN4, ql_cN5, ql_cN6, ql_cV, ql_ir, ql_zr, ql_lr, q_sh0, q_sh1, q_sh2, q_sh3, q_sh4, q_toL0, q_toL1, q_gl0, q_gls, q_sl0, q_sls, q_k10, q_k1s, q_lgi, q_lgr, q_lgl, q_lgn, pk_div, pk_rem, pk_rm, Bool.not_false, and_true, true_and, nz_2, nz_4, nz_5, nz_8, nz_10, nz_12, nz_14, nz_16, nz_40, nz_41, nz_64, nz_100, nz_1000, nz_1024, nz_4096, nz_10000, nz_100000, not_false_eq_true, lup_eq, lup_up, lup_self, lgc_lt, lgc_gt, lgc_le, lgc_ge, lgc_eq, lr_a1, lr_i1, lr_s1, lr_a2, lr_s2, lr_s3, lr_0, t32, v_about_st, v_about_fi, bI_0, nI_add, pk_mul, nI_lt', nI_le', nI_eq', nI_z, nI_p, nI_e0, nI_l0, nI_le0, nI_clamp, up_eq, up_ne, not_true_eq_false, Classical.not_not, false_implies, true_implies, false_and, and_false, or_true, true_or, Nat.add_zero, pk_m1, m1_0, m1_n, m1_p, Nat.zero_le, forall_const, Nat.zero_add, Nat.reduceAdd, Nat.reduceEqDiff, or_false, false_or, Nat.one_ne_zero]
      refine ⟨fun _ => L32 5 0 v _ (by omega) (by omega) (by rw [hv, fo_0, nv1_e]), fun q => absurd (Nat.le_refl _) q⟩
    | succ d ih =>
      intro k v c hk hc hv
      refine h6 _ _ _ ?_
      simp (disch := omega) only [bL_now_6, sp_L_about, hi, hA, ql_ci, ql_cl, ql_ild, ql_lld, ql_ald, ql_ist, ql_lst, ql_inc, ql_b2, ql_d2, ql_u1, ql_l2, ql_ld2, ql_lsh, ql_lcmp, ql_i2l, ql_l2i, ql_popi, ql_if1, ql_if2, ql_sw, ql_swn, ql_swc, ql_cN0, ql_cN1, ql_cN2, ql_cN3, ql_cN4, ql_cN5, ql_cN6, ql_cV, ql_ir, ql_zr, ql_lr, q_sh0, q_sh1, q_sh2, q_sh3, q_sh4, q_toL0, q_toL1, q_gl0, q_gls, q_sl0, q_sls, q_k10, q_k1s, q_lgi, q_lgr, q_lgl, q_lgn, pk_div, pk_rem, pk_rm, Bool.not_false, and_true, true_and, nz_2, nz_4, nz_5, nz_8, nz_10, nz_12, nz_14, nz_16, nz_40, nz_41, nz_64, nz_100, nz_1000, nz_1024, nz_4096, nz_10000, nz_100000, not_false_eq_true, lup_eq, lup_up, lup_self, lgc_lt, lgc_gt, lgc_le, lgc_ge, lgc_eq, lr_a1, lr_i1, lr_s1, lr_a2, lr_s2, lr_s3, lr_0, t32, v_about_st, v_about_fi, bI_0, nI_add, pk_mul, nI_lt', nI_le', nI_eq', nI_z, nI_p, nI_e0, nI_l0, nI_le0, nI_clamp, up_eq, up_ne, not_true_eq_false, Classical.not_not, false_implies, true_implies, false_and, and_false, or_true, true_or, Nat.add_zero, pk_m1, m1_0, m1_n, m1_p, Nat.zero_le, forall_const, Nat.zero_add, Nat.reduceAdd, Nat.reduceEqDiff, or_false, false_or, Nat.one_ne_zero]
      refine ⟨fun q => absurd q (by omega), fun _ => ⟨by omega, ih (k + 1) _ _ (by omega) (by omega) (by rw [fo, ← hv])⟩⟩
  refine h0 _ _ _ ?_
  simp (disch := omega) only [bL_now_0, ql_ci, ql_cl, ql_ild, ql_lld, ql_ald, ql_ist, ql_lst, ql_inc, ql_b2, ql_d2, ql_u1, ql_l2, ql_ld2, ql_lsh, ql_lcmp, ql_i2l, ql_l2i, ql_popi, ql_if1, ql_if2, ql_sw, ql_swn, ql_swc, ql_cN0, ql_cN1, ql_cN2, ql_cN3, ql_cN4, ql_cN5, ql_cN6, ql_cV, ql_ir, ql_zr, ql_lr, q_sh0, q_sh1, q_sh2, q_sh3, q_sh4, q_toL0, q_toL1, q_gl0, q_gls, q_sl0, q_sls, q_k10, q_k1s, q_lgi, q_lgr, q_lgl, q_lgn, pk_div, pk_rem, pk_rm, Bool.not_false, and_true, true_and, nz_2, nz_4, nz_5, nz_8, nz_10, nz_12, nz_14, nz_16, nz_40, nz_41, nz_64, nz_100, nz_1000, nz_1024, nz_4096, nz_10000, nz_100000, not_false_eq_true, lup_eq, lup_up, lup_self, lgc_lt, lgc_gt, lgc_le, lgc_ge, lgc_eq, lr_a1, lr_i1, lr_s1, lr_a2, lr_s2, lr_s3, lr_0, t32, v_about_st, v_about_fi, bI_0, nI_add, pk_mul, nI_lt', nI_le', nI_eq', nI_z, nI_p, nI_e0, nI_l0, nI_le0, nI_clamp, up_eq, up_ne, not_true_eq_false, Classical.not_not, false_implies, true_implies, false_and, and_false, or_true, true_or, Nat.add_zero, pk_m1, m1_0, m1_n, m1_p, Nat.zero_le, forall_const, Nat.zero_add, Nat.reduceAdd, Nat.reduceEqDiff, or_false, false_or, Nat.one_ne_zero]
  exact L6 12 0 163 0 (by omega) (by omega) fo_0.symm
