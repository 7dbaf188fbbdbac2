/-! signs that are told -/
def ap1 (c : Nat) (a : aS) : aS := aTxt a (fun i => if i = aM a then c else aT a i) (aM a + 1)
theorem ap1_M {c : Nat} {a : aS} : aM (ap1 c a) = aM a + 1 := rfl
theorem ap1_ok {c : Nat} {a : aS} : okA (ap1 c a) = okA a := rfl
theorem ap1_1 {c : Nat} {a : aS} : (ap1 c a).1 = a.1 := rfl
theorem c_append_ok {c : Nat} {a : aS} (hc : c ≤ 255) (hm : aM a < 120) : c_append (nI c) a = (0, nI (aM a + 1), ap1 c a) := by
  have hb : bt2 (nI 0) (nI c) (nI 255) := ⟨nI_pos' (by omega), by rw [nI_le' (by omega) (by omega)]; exact hc⟩
  unfold c_append
  rw [if_pos hb, if_neg (by omega), cl_nI (by omega)]
  rfl
def sp_L_says : la_S := fun As A K => match As with
  | [.ref i, .int c] => i < 2 ∧ okA (A i) ∧ ∃ k, c = nI k ∧ k ≤ 255 ∧ aM (A i) < 120 ∧ K (some (.int (nI 1))) (lup A i (ap1 k (A i)))
  | _ => False
set_option maxRecDepth 20000 in
set_option maxHeartbeats 4000000 in
theorem ok_L_says {l : Launch} (hl : l.stackTraces = false) : la_Ok l yL_says (Cond.code yL_says cL_says 2 (some .boolean)) 8 (30 * 8) 1 sp_L_says := by
  intro Y A As K hw h
  unfold sp_L_says at h
  split at h
  rotate_left 1
  · exact h.elim
  next i c =>
  refine vc_L_says hl hw (ok_L_append hl) (Nat.le_of_ble_eq_true rfl) (fun M h0 h15 => ?_)
  show M 0 [.ref i, .int c] [] (A, 0)
  obtain ⟨hi, hA, k, rfl, hk, hm, h⟩ := h
  have f1 := c_append_ok hk hm
  have f2 : (nI (aM (A i) + 1)).toInt64 = lN (aM (A i) + 1) := nI_l (by omega)
  have f3 : (lN (aM (A i) + 1) ≤ lN 0) = False := by rw [pk_lLE (by omega) (by omega)]; exact propext ⟨fun q => by omega, fun q => q.elim⟩
  have H15 : ∀ L, M 15 L [.int (nI 1)] (lup A i (ap1 k (A i)), 1) := fun L => by
    refine h15 _ _ _ ?_
    simp (disch := omega) only [bL_says_15, ql_ci, ql_cl, ql_ild, ql_lld, ql_ald, ql_ist, ql_lst, ql_inc, ql_b2, ql_d2, ql_u1, ql_l2, ql_ld2, ql_lsh, ql_lcmp, ql_i2l, ql_l2i, ql_popi, ql_if1, ql_if2, ql_sw, ql_swn, ql_swc, ql_cN0, ql_cN1, ql_cN2, ql_cN3, ql_cN4, ql_cN5, ql_cN6, ql_cV, ql_ir, ql_zr, ql_lr, q_sh0, q_sh1, q_sh2, q_sh3, q_sh4, q_toL0, q_toL1, q_gl0, q_gls, q_sl0, q_sls, q_k10, q_k1s, q_lgi, q_lgr, q_lgl, q_lgn, pk_div, pk_rem, pk_rm, Bool.not_false, and_true, true_and, nz_2, nz_4, nz_5, nz_8, nz_10, nz_12, nz_14, nz_16, nz_40, nz_41, nz_64, nz_100, nz_1000, nz_1024, nz_4096, nz_10000, nz_100000, not_false_eq_true, lup_eq, lup_up, lup_self, lgc_lt, lgc_gt, lgc_le, lgc_ge, lgc_eq, lr_a1, lr_i1, lr_s1, lr_a2, lr_s2, lr_s3, lr_0, t32, v_about_st, v_about_fi, bI_0, nI_add, pk_mul, nI_lt', nI_le', nI_eq', nI_z, nI_p, nI_e0, nI_l0, nI_le0, nI_clamp, up_eq, up_ne, not_true_eq_false, Classical.not_not, false_implies, true_implies, false_and, and_false, or_true, true_or, Nat.add_zero, pk_m1, m1_0, m1_n, m1_p, Nat.zero_le, forall_const, Nat.zero_add, Nat.reduceAdd, Nat.reduceEqDiff, or_false, false_or, Nat.one_ne_zero]
    exact ⟨by omega, rfl, h⟩
  refine h0 _ _ _ ?_
  simp (disch := omega) only [bL_says_0, sp_L_append, hi, hA, f1, f2, f3, ql_ci, ql_cl, ql_ild, ql_lld, ql_ald, ql_ist, ql_lst, ql_inc, ql_b2, ql_d2, ql_u1, ql_l2, ql_ld2, ql_lsh, ql_lcmp, ql_i2l, ql_l2i, ql_popi, ql_if1, ql_if2, ql_sw, ql_swn, ql_swc, ql_cN0, ql_cN1, ql_cN2, ql_cN3, ql_cN4, ql_cN5, ql_cN6, ql_cV, ql_ir, ql_zr, ql_lr, q_sh0, q_sh1, q_sh2, q_sh3, q_sh4, q_toL0, q_toL1, q_gl0, q_gls, q_sl0, q_sls, q_k10, q_k1s, q_lgi, q_lgr, q_lgl, q_lgn, pk_div, pk_rem, pk_rm, Bool.not_false, and_true, true_and, nz_2, nz_4, nz_5, nz_8, nz_10, nz_12, nz_14, nz_16, nz_40, nz_41, nz_64, nz_100, nz_1000, nz_1024, nz_4096, nz_10000, nz_100000, not_false_eq_true, lup_eq, lup_up, lup_self, lgc_lt, lgc_gt, lgc_le, lgc_ge, lgc_eq, lr_a1, lr_i1, lr_s1, lr_a2, lr_s2, lr_s3, lr_0, t32, v_about_st, v_about_fi, bI_0, nI_add, pk_mul, nI_lt', nI_le', nI_eq', nI_z, nI_p, nI_e0, nI_l0, nI_le0, nI_clamp, up_eq, up_ne, not_true_eq_false, Classical.not_not, false_implies, true_implies, false_and, and_false, or_true, true_or, Nat.add_zero, pk_m1, m1_0, m1_n, m1_p, Nat.zero_le, forall_const, Nat.zero_add, Nat.reduceAdd, Nat.reduceEqDiff, or_false, false_or, Nat.one_ne_zero]
  repeat' first
    | assumption
    | omega
    | (exact H15 _ (by omega))
    | refine And.intro ?_ ?_
    | (intro (_ : _); first | (exfalso; omega) | skip)
  exact H15 _
def sp_L_two : la_S := fun As A K => match As with
  | [.ref i, .int c] => i < 2 ∧ okA (A i) ∧ ∃ k, c = nI k ∧ k ≤ 99 ∧ aM (A i) + 1 < 120 ∧ K (some (.int (nI 1))) (lup A i (ap1 (48 + k % 10) (ap1 (48 + k / 10) (A i))))
  | _ => False
set_option maxRecDepth 20000 in
set_option maxHeartbeats 4000000 in
theorem ok_L_two {l : Launch} (hl : l.stackTraces = false) : la_Ok l yL_two (Cond.code yL_two cL_two 2 (some .boolean)) 9 (30 * 9) 2 sp_L_two := by
  intro Y A As K hw h
  unfold sp_L_two at h
  split at h
  rotate_left 1
  · exact h.elim
  next i c =>
  refine vc_L_two hl hw (ok_L_says hl) (Nat.le_of_ble_eq_true rfl) (fun M h0 h32 h33 => ?_)
  show M 0 [.ref i, .int c] [] (A, 0)
  obtain ⟨hi, hA, k, rfl, hk, hm, h⟩ := h
  have H33 : ∀ L, M 33 L [.int (nI 1)] (lup A i (ap1 (48 + k % 10) (ap1 (48 + k / 10) (A i))), 2) := fun L => by
    refine h33 _ _ _ ?_
    simp (disch := omega) only [bL_two_33, ql_ci, ql_cl, ql_ild, ql_lld, ql_ald, ql_ist, ql_lst, ql_inc, ql_b2, ql_d2, ql_u1, ql_l2, ql_ld2, ql_lsh, ql_lcmp, ql_i2l, ql_l2i, ql_popi, ql_if1, ql_if2, ql_sw, ql_swn, ql_swc, ql_cN0, ql_cN1, ql_cN2, ql_cN3, ql_cN4, ql_cN5, ql_cN6, ql_cV, ql_ir, ql_zr, ql_lr, q_sh0, q_sh1, q_sh2, q_sh3, q_sh4, q_toL0, q_toL1, q_gl0, q_gls, q_sl0, q_sls, q_k10, q_k1s, q_lgi, q_lgr, q_lgl, q_lgn, pk_div, pk_rem, pk_rm, Bool.not_false, and_true, true_and, nz_2, nz_4, nz_5, nz_8, nz_10, nz_12, nz_14, nz_16, nz_40, nz_41, nz_64, nz_100, nz_1000, nz_1024, nz_4096, nz_10000, nz_100000, not_false_eq_true, lup_eq, lup_up, lup_self, lgc_lt, lgc_gt, lgc_le, lgc_ge, lgc_eq, lr_a1, lr_i1, lr_s1, lr_a2, lr_s2, lr_s3, lr_0, t32, v_about_st, v_about_fi, bI_0, nI_add, pk_mul, nI_lt', nI_le', nI_eq', nI_z, nI_p, nI_e0, nI_l0, nI_le0, nI_clamp, up_eq, up_ne, not_true_eq_false, Classical.not_not, false_implies, true_implies, false_and, and_false, or_true, true_or, Nat.add_zero, pk_m1, m1_0, m1_n, m1_p, Nat.zero_le, forall_const, Nat.zero_add, Nat.reduceAdd, Nat.reduceEqDiff, or_false, false_or, Nat.one_ne_zero]
    exact ⟨by omega, rfl, h⟩
  refine h0 _ _ _ ?_
  simp (disch := omega) only [bL_two_0, sp_L_says, hi, hA, ql_ci, ql_cl, ql_ild, ql_lld, ql_ald, ql_ist, ql_lst, ql_inc, ql_b2, ql_d2, ql_u1, ql_l2, ql_ld2, ql_lsh, ql_lcmp, ql_i2l, ql_l2i, ql_popi, ql_if1, ql_if2, ql_sw, ql_swn, ql_swc, ql_cN0, ql_cN1, ql_cN2, ql_cN3, ql_cN4, ql_cN5, ql_cN6, ql_cV, ql_ir, ql_zr, ql_lr, q_sh0, q_sh1, q_sh2, q_sh3, q_sh4, q_toL0, q_toL1, q_gl0, q_gls, q_sl0, q_sls, q_k10, q_k1s, q_lgi, q_lgr, q_lgl, q_lgn, pk_div, pk_rem, pk_rm, Bool.not_false, and_true, true_and, nz_2, nz_4, nz_5, nz_8, nz_10, nz_12, nz_14, nz_16, nz_40, nz_41, nz_64, nz_100, nz_1000, nz_1024, nz_4096, nz_10000, nz_100000, not_false_eq_true, lup_eq, lup_up, lup_self, lgc_lt, lgc_gt, lgc_le, lgc_ge, lgc_eq, lr_a1, lr_i1, lr_s1, lr_a2, lr_s2, lr_s3, lr_0, t32, v_about_st, v_about_fi, bI_0, nI_add, pk_mul, nI_lt', nI_le', nI_eq', nI_z, nI_p, nI_e0, nI_l0, nI_le0, nI_clamp, up_eq, up_ne, not_true_eq_false, Classical.not_not, false_implies, true_implies, false_and, and_false, or_true, true_or, Nat.add_zero, pk_m1, m1_0, m1_n, m1_p, Nat.zero_le, forall_const, Nat.zero_add, Nat.reduceAdd, Nat.reduceEqDiff, or_false, false_or, Nat.one_ne_zero]
  refine ⟨by omega, _, rfl, by omega, by omega, ?_⟩
  simp (disch := omega) only [ap1_ok, ap1_M, hA, ql_ci, ql_cl, ql_ild, ql_lld, ql_ald, ql_ist, ql_lst, ql_inc, ql_b2, ql_d2, ql_u1, ql_l2, ql_ld2, ql_lsh, ql_lcmp, ql_i2l, ql_l2i, ql_popi, ql_if1, ql_if2, ql_sw, ql_swn, ql_swc, ql_cN0, ql_cN1, ql_cN2, ql_cN3, ql_cN4, ql_cN5, ql_cN6, ql_cV, ql_ir, ql_zr, ql_lr, q_sh0, q_sh1, q_sh2, q_sh3, q_sh4, q_toL0, q_toL1, q_gl0, q_gls, q_sl0, q_sls, q_k10, q_k1s, q_lgi, q_lgr, q_lgl, q_lgn, pk_div, pk_rem, pk_rm, Bool.not_false, and_true, true_and, nz_2, nz_4, nz_5, nz_8, nz_10, nz_12, nz_14, nz_16, nz_40, nz_41, nz_64, nz_100, nz_1000, nz_1024, nz_4096, nz_10000, nz_100000, not_false_eq_true, lup_eq, lup_up, lup_self, lgc_lt, lgc_gt, lgc_le, lgc_ge, lgc_eq, lr_a1, lr_i1, lr_s1, lr_a2, lr_s2, lr_s3, lr_0, t32, v_about_st, v_about_fi, bI_0, nI_add, pk_mul, nI_lt', nI_le', nI_eq', nI_z, nI_p, nI_e0, nI_l0, nI_le0, nI_clamp, up_eq, up_ne, not_true_eq_false, Classical.not_not, false_implies, true_implies, false_and, and_false, or_true, true_or, Nat.add_zero, pk_m1, m1_0, m1_n, m1_p, Nat.zero_le, forall_const, Nat.zero_add, Nat.reduceAdd, Nat.reduceEqDiff, or_false, false_or, Nat.one_ne_zero]
  refine ⟨by omega, _, rfl, by omega, by omega, ?_⟩
  exact H33 _
