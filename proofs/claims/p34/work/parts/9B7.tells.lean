def sp_L_tells : la_S := fun As A K => match As with
  | [.ref i, .int x, .int y] => i < 2 ∧ okA (A i) ∧ ∃ u v, x = nI u ∧ y = nI v ∧ u < 2 ^ 31 ∧ v < 2 ^ 31 ∧ K (some (.int (nI 1))) (lup A i (tellA u v (A i)))
  | _ => False
theorem clr_s {a : aS} : (c_clearText a).2.1 = nI (aM a) := rfl
theorem clr_ok {a : aS} : okA (c_clearText a).2.2 = okA a := rfl
theorem clr_M {a : aS} : aM (c_clearText a).2.2 = 0 := rfl
theorem shr_tv {u k : Nat} (hu : u < 2 ^ 31) (hk : k < 3) : nI u >>> (nI k &&& 31) = nI (u / 2 ^ k) := by
  have : ∀ k, k < 3 → ((nI k &&& 31 : Int32).toBitVec.smod 32).toNat = k := by decide
  exact pk_shrN hu _ k (this k hk)
set_option maxRecDepth 20000 in
set_option maxHeartbeats 4000000 in
theorem ok_L_tells {l : Launch} (hl : l.stackTraces = false) : la_Ok l yL_tells (Cond.code yL_tells cL_tells 7 (some .boolean)) 10 (30 * 10) 150 sp_L_tells := by
  intro Y A As K hw h
  unfold sp_L_tells at h
  split at h
  rotate_left 1
  · exact h.elim
  next i x y =>
  refine vc_L_tells hl hw (ok_L_says hl) (ok_L_two hl) (Nat.le_of_ble_eq_true rfl) (fun M h0 h20 h21 h25 h115 h213 h249 h274 h275 h282 h366 h370 h371 => ?_)
  show M 0 [.ref i, .int x, .int y, .null, .null, .null, .null] [] (A, 0)
  obtain ⟨hi, hA, u, v, rfl, rfl, hu, hv, h⟩ := h
  generalize ha : A i = a at *
  have H371 : ∀ L c, c ≤ 150 → M 371 L [.int (nI 1)] (lup A i (tellA u v a), c) := fun L c hc => by
    refine h371 _ _ _ ?_
    simp (disch := omega) only [bL_tells_371, ql_ci, ql_cl, ql_ild, ql_lld, ql_ald, ql_ist, ql_lst, ql_inc, ql_b2, ql_d2, ql_u1, ql_l2, ql_ld2, ql_lsh, ql_lcmp, ql_i2l, ql_l2i, ql_popi, ql_if1, ql_if2, ql_sw, ql_swn, ql_swc, ql_cN0, ql_cN1, ql_cN2, ql_cN3, ql_cN4, ql_cN5, ql_cN6, ql_cV, ql_ir, ql_zr, ql_lr, q_sh0, q_sh1, q_sh2, q_sh3, q_sh4, q_toL0, q_toL1, q_gl0, q_gls, q_sl0, q_sls, q_k10, q_k1s, q_lgi, q_lgr, q_lgl, q_lgn, pk_div, pk_rem, pk_rm, Bool.not_false, and_true, true_and, nz_2, nz_4, nz_5, nz_8, nz_10, nz_12, nz_14, nz_16, nz_40, nz_41, nz_64, nz_100, nz_1000, nz_1024, nz_4096, nz_10000, nz_100000, not_false_eq_true, lup_eq, lup_up, lup_self, lgc_lt, lgc_gt, lgc_le, lgc_ge, lgc_eq, lr_a1, lr_i1, lr_s1, lr_a2, lr_s2, lr_s3, lr_0, t32, v_about_st, v_about_fi, bI_0, nI_add, pk_mul, nI_lt', nI_le', nI_eq', nI_z, nI_p, nI_e0, nI_l0, nI_le0, nI_clamp, up_eq, up_ne, not_true_eq_false, Classical.not_not, false_implies, true_implies, false_and, and_false, or_true, true_or, Nat.add_zero, pk_m1, m1_0, m1_n, m1_p, Nat.zero_le, forall_const, Nat.zero_add, Nat.reduceAdd, Nat.reduceEqDiff, or_false, false_or, Nat.one_ne_zero]
    exact ⟨hc, rfl, h⟩
  have H366 : ∀ L c, c ≤ 150 → M 366 L [] (lup A i (tellA u v a), c) := fun L c hc => by
    refine h366 _ _ _ ?_
    simp (disch := omega) only [bL_tells_366, ql_ci, ql_cl, ql_ild, ql_lld, ql_ald, ql_ist, ql_lst, ql_inc, ql_b2, ql_d2, ql_u1, ql_l2, ql_ld2, ql_lsh, ql_lcmp, ql_i2l, ql_l2i, ql_popi, ql_if1, ql_if2, ql_sw, ql_swn, ql_swc, ql_cN0, ql_cN1, ql_cN2, ql_cN3, ql_cN4, ql_cN5, ql_cN6, ql_cV, ql_ir, ql_zr, ql_lr, q_sh0, q_sh1, q_sh2, q_sh3, q_sh4, q_toL0, q_toL1, q_gl0, q_gls, q_sl0, q_sls, q_k10, q_k1s, q_lgi, q_lgr, q_lgl, q_lgn, pk_div, pk_rem, pk_rm, Bool.not_false, and_true, true_and, nz_2, nz_4, nz_5, nz_8, nz_10, nz_12, nz_14, nz_16, nz_40, nz_41, nz_64, nz_100, nz_1000, nz_1024, nz_4096, nz_10000, nz_100000, not_false_eq_true, lup_eq, lup_up, lup_self, lgc_lt, lgc_gt, lgc_le, lgc_ge, lgc_eq, lr_a1, lr_i1, lr_s1, lr_a2, lr_s2, lr_s3, lr_0, t32, v_about_st, v_about_fi, bI_0, nI_add, pk_mul, nI_lt', nI_le', nI_eq', nI_z, nI_p, nI_e0, nI_l0, nI_le0, nI_clamp, up_eq, up_ne, not_true_eq_false, Classical.not_not, false_implies, true_implies, false_and, and_false, or_true, true_or, Nat.add_zero, pk_m1, m1_0, m1_n, m1_p, Nat.zero_le, forall_const, Nat.zero_add, Nat.reduceAdd, Nat.reduceEqDiff, or_false, false_or, Nat.one_ne_zero]
    exact H371 _ _ hc
  sorry
