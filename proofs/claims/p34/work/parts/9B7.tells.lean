def sp_L_tells : la_S := fun As A K => match As with
  | [.ref i, .int x, .int y] => i < 2 ∧ okA (A i) ∧ aM (A i) ≤ 120 ∧ ∃ u v, x = nI u ∧ y = nI v ∧ u < 2 ^ 31 ∧ v < 2 ^ 31 ∧ K (some (.int (nI 1))) (lup A i (tellA u v (A i)))
  | _ => False
theorem clr_s {a : aS} : (c_clearText a).2.1 = nI (aM a) := rfl
theorem clr_ok {a : aS} : okA (c_clearText a).2.2 = okA a := rfl
theorem clr_M {a : aS} : aM (c_clearText a).2.2 = 0 := rfl
theorem shr_tv {u k : Nat} (hu : u < 2 ^ 31) (hk : k < 3) : nI u >>> (nI k &&& 31) = nI (u / 2 ^ k) := by
  have : ∀ k, k < 3 → ((nI k &&& 31 : Int32).toBitVec.smod 32).toNat = k := by decide
  exact pk_shrN hu _ k (this k hk)
set_option maxRecDepth 20000 in
set_option maxHeartbeats 4000000 in
theorem ok_L_tells {l : Launch} (hl : l.stackTraces = false) : la_Ok l yL_tells (Cond.code yL_tells cL_tells 7 (some .boolean)) 10 (30 * 10) 150 sp_L_tells := by
  intro Y A As K hw h
  unfold sp_L_tells at h
  split at h
  rotate_left 1
  · exact h.elim
  next i x y =>
  refine vc_L_tells hl hw (ok_L_says hl) (ok_L_two hl) (Nat.le_of_ble_eq_true rfl) (fun M h0 h20 h21 h25 h115 h213 h249 h274 h275 h282 h366 h370 h371 => ?_)
  show M 0 [.ref i, .int x, .int y, .null, .null, .null, .null] [] (A, 0)
  obtain ⟨hi, hA, hm120, u, v, rfl, rfl, hu, hv, h⟩ := h
  generalize ha : A i = a at *
  have H371 : ∀ L c, c ≤ 150 → M 371 L [.int (nI 1)] (lup A i (tellA u v a), c) := fun L c hc => by
    refine h371 _ _ _ ?_
    simp (disch := omega) only [bL_tells_371, ql_ci, ql_cl, ql_ild, ql_lld, ql_ald, ql_ist, ql_lst, ql_inc, ql_b2, ql_d2, ql_u1, ql_l2, ql_ld2, ql_lsh, ql_lcmp, ql_i2l, ql_l2i, ql_popi, ql_if1, ql_if2, ql_sw, ql_swn, ql_swc, ql_cN0, ql_cN1, ql_cN2, ql_cN3, ql_cN4, ql_cN5, ql_cN6, ql_cV, ql_ir, ql_zr, ql_lr, q_sh0, q_sh1, q_sh2, q_sh3, q_sh4, q_toL0, q_toL1, q_gl0, q_gls, q_sl0, q_sls, q_k10, q_k1s, q_lgi, q_lgr, q_lgl, q_lgn, pk_div, pk_rem, pk_rm, Bool.not_false, and_true, true_and, nz_2, nz_4, nz_5, nz_8, nz_10, nz_12, nz_14, nz_16, nz_40, nz_41, nz_64, nz_100, nz_1000, nz_1024, nz_4096, nz_10000, nz_100000, not_false_eq_true, lup_eq, lup_up, lup_self, lgc_lt, lgc_gt, lgc_le, lgc_ge, lgc_eq, lr_a1, lr_i1, lr_s1, lr_a2, lr_s2, lr_s3, lr_0, t32, v_about_st, v_about_fi, bI_0, nI_add, pk_mul, nI_lt', nI_le', nI_eq', nI_z, nI_p, nI_e0, nI_l0, nI_le0, nI_clamp, up_eq, up_ne, not_true_eq_false, Classical.not_not, false_implies, true_implies, false_and, and_false, or_true, true_or, Nat.add_zero, pk_m1, m1_0, m1_n, m1_p, Nat.zero_le, forall_const, Nat.zero_add, Nat.reduceAdd, Nat.reduceEqDiff, or_false, false_or, Nat.one_ne_zero]
    exact ⟨hc, rfl, h⟩
  have H366 : ∀ L c, c ≤ 150 → M 366 L [] (lup A i (tellA u v a), c) := fun L c hc => by
    refine h366 _ _ _ ?_
    simp (disch := omega) only [bL_tells_366, ql_ci, ql_cl, ql_ild, ql_lld, ql_ald, ql_ist, ql_lst, ql_inc, ql_b2, ql_d2, ql_u1, ql_l2, ql_ld2, ql_lsh, ql_lcmp, ql_i2l, ql_l2i, ql_popi, ql_if1, ql_if2, ql_sw, ql_swn, ql_swc, ql_cN0, ql_cN1, ql_cN2, ql_cN3, ql_cN4, ql_cN5, ql_cN6, ql_cV, ql_ir, ql_zr, ql_lr, q_sh0, q_sh1, q_sh2, q_sh3, q_sh4, q_toL0, q_toL1, q_gl0, q_gls, q_sl0, q_sls, q_k10, q_k1s, q_lgi, q_lgr, q_lgl, q_lgn, pk_div, pk_rem, pk_rm, Bool.not_false, and_true, true_and, nz_2, nz_4, nz_5, nz_8, nz_10, nz_12, nz_14, nz_16, nz_40, nz_41, nz_64, nz_100, nz_1000, nz_1024, nz_4096, nz_10000, nz_100000, not_false_eq_true, lup_eq, lup_up, lup_self, lgc_lt, lgc_gt, lgc_le, lgc_ge, lgc_eq, lr_a1, lr_i1, lr_s1, lr_a2, lr_s2, lr_s3, lr_0, t32, v_about_st, v_about_fi, bI_0, nI_add, pk_mul, nI_lt', nI_le', nI_eq', nI_z, nI_p, nI_e0, nI_l0, nI_le0, nI_clamp, up_eq, up_ne, not_true_eq_false, Classical.not_not, false_implies, true_implies, false_and, and_false, or_true, true_or, Nat.add_zero, pk_m1, m1_0, m1_n, m1_p, Nat.zero_le, forall_const, Nat.zero_add, Nat.reduceAdd, Nat.reduceEqDiff, or_false, false_or, Nat.one_ne_zero]
    exact H371 _ _ hc
  have Hit : ∀ k b c, k < 3 → okA b → aM b ≤ 90 → c ≤ 100 → (∀ x5 x6 c', c' ≤ c + 21 → M 25 [.ref i, .int (nI u), .int (nI v), .int (nI 1), .int (nI (k + 1)), x5, x6] [] (lup A i (apl (pc (tv u k) (tw v k) k) b), c')) → ∀ x5 x6, M 25 [.ref i, .int (nI u), .int (nI v), .int (nI 1), .int (nI k), x5, x6] [] (lup A i b, c) := by
    intro k b c hk hb hm hc ih x5 x6
    have ht1 : tv u k < 200000 := by unfold tv; omega
    have ht2 : tw v k < 200000 := by unfold tw; omega
    have s1 := shr_tv hu hk
    have s2 := shr_tv hv hk
    have q1 : u / 2 ^ k < 2 ^ 31 := Nat.lt_of_le_of_lt (Nat.div_le_self _ _) hu
    have q2 : v / 2 ^ k < 2 ^ 31 := Nat.lt_of_le_of_lt (Nat.div_le_self _ _) hv
    have f1 : u / 2 ^ k % 100000 + 101 * k = tv u k := rfl
    have f2 : v / 2 ^ k % 100000 + 103 * k = tw v k := rfl
    generalize hV : tv u k = V at *
    generalize hW : tw v k = W at *
    have H275 : ∀ x3 c', c' ≤ c + 21 → M 275 [.ref i, .int (nI u), .int (nI v), x3, .int (nI k), .int (nI V), .int (nI W)] [.int (nI 1)] (lup A i (apl (pc V W k) b), c') := fun x3 c' hc' => by
      refine h275 _ _ _ ?_
      simp (disch := omega) only [bL_tells_275, ql_ci, ql_cl, ql_ild, ql_lld, ql_ald, ql_ist, ql_lst, ql_inc, ql_b2, ql_d2, ql_u1, ql_l2, ql_ld2, ql_lsh, ql_lcmp, ql_i2l, ql_l2i, ql_popi, ql_if1, ql_if2, ql_sw, ql_swn, ql_swc, ql_cN0, ql_cN1, ql_cN2, ql_cN3, ql_cN4, ql_cN5, ql_cN6, ql_cV, ql_ir, ql_zr, ql_lr, q_sh0, q_sh1, q_sh2, q_sh3, q_sh4, q_toL0, q_toL1, q_gl0, q_gls, q_sl0, q_sls, q_k10, q_k1s, q_lgi, q_lgr, q_lgl, q_lgn, pk_div, pk_rem, pk_rm, Bool.not_false, and_true, true_and, nz_2, nz_4, nz_5, nz_8, nz_10, nz_12, nz_14, nz_16, nz_40, nz_41, nz_64, nz_100, nz_1000, nz_1024, nz_4096, nz_10000, nz_100000, not_false_eq_true, lup_eq, lup_up, lup_self, lgc_lt, lgc_gt, lgc_le, lgc_ge, lgc_eq, lr_a1, lr_i1, lr_s1, lr_a2, lr_s2, lr_s3, lr_0, t32, v_about_st, v_about_fi, bI_0, nI_add, pk_mul, nI_lt', nI_le', nI_eq', nI_z, nI_p, nI_e0, nI_l0, nI_le0, nI_clamp, up_eq, up_ne, not_true_eq_false, Classical.not_not, false_implies, true_implies, false_and, and_false, or_true, true_or, Nat.add_zero, pk_m1, m1_0, m1_n, m1_p, Nat.zero_le, forall_const, Nat.zero_add, Nat.reduceAdd, Nat.reduceEqDiff, or_false, false_or, Nat.one_ne_zero]
      exact ih _ _ _ hc'
    have H249 : ∀ x3 q b3 c', q ≤ 255 → okA b3 → aM b3 ≤ 110 → c' ≤ c + 18 → apl [q, 48 + (V / 13 % 9) / 10, 48 + (V / 13 % 9) % 10] b3 = apl (pc V W k) b → M 249 [.ref i, .int (nI u), .int (nI v), x3, .int (nI k), .int (nI V), .int (nI W)] [.int (nI q), .ref i] (lup A i b3, c') := fun x3 q b3 c' hq hb3 hm3 hc' e => by
      refine h249 _ _ _ ?_
      simp (disch := omega) only [bL_tells_249, sp_L_says, sp_L_two, hi, hb3, ap1_ok, ap1_M, ql_ci, ql_cl, ql_ild, ql_lld, ql_ald, ql_ist, ql_lst, ql_inc, ql_b2, ql_d2, ql_u1, ql_l2, ql_ld2, ql_lsh, ql_lcmp, ql_i2l, ql_l2i, ql_popi, ql_if1, ql_if2, ql_sw, ql_swn, ql_swc, ql_cN0, ql_cN1, ql_cN2, ql_cN3, ql_cN4, ql_cN5, ql_cN6, ql_cV, ql_ir, ql_zr, ql_lr, q_sh0, q_sh1, q_sh2, q_sh3, q_sh4, q_toL0, q_toL1, q_gl0, q_gls, q_sl0, q_sls, q_k10, q_k1s, q_lgi, q_lgr, q_lgl, q_lgn, pk_div, pk_rem, pk_rm, Bool.not_false, and_true, true_and, nz_2, nz_4, nz_5, nz_8, nz_10, nz_12, nz_14, nz_16, nz_40, nz_41, nz_64, nz_100, nz_1000, nz_1024, nz_4096, nz_10000, nz_100000, not_false_eq_true, lup_eq, lup_up, lup_self, lgc_lt, lgc_gt, lgc_le, lgc_ge, lgc_eq, lr_a1, lr_i1, lr_s1, lr_a2, lr_s2, lr_s3, lr_0, t32, v_about_st, v_about_fi, bI_0, nI_add, pk_mul, nI_lt', nI_le', nI_eq', nI_z, nI_p, nI_e0, nI_l0, nI_le0, nI_clamp, up_eq, up_ne, not_true_eq_false, Classical.not_not, false_implies, true_implies, false_and, and_false, or_true, true_or, Nat.add_zero, pk_m1, m1_0, m1_n, m1_p, Nat.zero_le, forall_const, Nat.zero_add, Nat.reduceAdd, Nat.reduceEqDiff, or_false, false_or, Nat.one_ne_zero]
      refine ⟨by omega, _, rfl, by omega, by omega, by omega, _, rfl, by omega, by omega, ?_⟩
      have := H275 x3 (c' + 1 + 2) (by omega)
      rw [← e] at this
      exact this
    have H213 : ∀ x3 b2 c', okA b2 → aM b2 ≤ 108 → c' ≤ c + 16 → apl (pcW V W k) b2 = apl (pc V W k) b → M 213 [.ref i, .int (nI u), .int (nI v), x3, .int (nI k), .int (nI V), .int (nI W)] [] (lup A i b2, c') := fun x3 b2 c' hb2 hm2 hc' e => by
      refine h213 _ _ _ ?_
      simp (disch := omega) only [bL_tells_213, sp_L_says, hi, hb2, ap1_ok, ap1_M, ql_ci, ql_cl, ql_ild, ql_lld, ql_ald, ql_ist, ql_lst, ql_inc, ql_b2, ql_d2, ql_u1, ql_l2, ql_ld2, ql_lsh, ql_lcmp, ql_i2l, ql_l2i, ql_popi, ql_if1, ql_if2, ql_sw, ql_swn, ql_swc, ql_cN0, ql_cN1, ql_cN2, ql_cN3, ql_cN4, ql_cN5, ql_cN6, ql_cV, ql_ir, ql_zr, ql_lr, q_sh0, q_sh1, q_sh2, q_sh3, q_sh4, q_toL0, q_toL1, q_gl0, q_gls, q_sl0, q_sls, q_k10, q_k1s, q_lgi, q_lgr, q_lgl, q_lgn, pk_div, pk_rem, pk_rm, Bool.not_false, and_true, true_and, nz_2, nz_4, nz_5, nz_8, nz_10, nz_12, nz_14, nz_16, nz_40, nz_41, nz_64, nz_100, nz_1000, nz_1024, nz_4096, nz_10000, nz_100000, not_false_eq_true, lup_eq, lup_up, lup_self, lgc_lt, lgc_gt, lgc_le, lgc_ge, lgc_eq, lr_a1, lr_i1, lr_s1, lr_a2, lr_s2, lr_s3, lr_0, t32, v_about_st, v_about_fi, bI_0, nI_add, pk_mul, nI_lt', nI_le', nI_eq', nI_z, nI_p, nI_e0, nI_l0, nI_le0, nI_clamp, up_eq, up_ne, not_true_eq_false, Classical.not_not, false_implies, true_implies, false_and, and_false, or_true, true_or, Nat.add_zero, pk_m1, m1_0, m1_n, m1_p, Nat.zero_le, forall_const, Nat.zero_add, Nat.reduceAdd, Nat.reduceEqDiff, or_false, false_or, Nat.one_ne_zero]
      refine ⟨by omega, _, rfl, by omega, by omega, by omega, _, rfl, by omega, by omega, fun q => ?_, fun q => ?_⟩
      · refine H249 x3 43 _ _ (by omega) (by rw [ap1_ok, ap1_ok]; exact hb2) (by rw [ap1_M, ap1_M]; omega) (by omega) ?_
        rw [← e]
        unfold pcW
        rw [if_neg q]
        rfl
      · refine H249 x3 45 _ _ (by omega) (by rw [ap1_ok, ap1_ok]; exact hb2) (by rw [ap1_M, ap1_M]; omega) (by omega) ?_
        rw [← e]
        unfold pcW
        rw [if_pos q]
        rfl
    have H115 : ∀ x3 b1 c', okA b1 → aM b1 ≤ 98 → c' ≤ c + 6 → apl ([48 + (W / 5 % 80) / 10, 48 + (W / 5 % 80) % 10, 48 + W / 400 % 6] ++ pcF V W ++ pcW V W k) b1 = apl (pc V W k) b → M 115 [.ref i, .int (nI u), .int (nI v), x3, .int (nI k), .int (nI V), .int (nI W)] [] (lup A i b1, c') := fun x3 b1 c' hb1 hm1 hc' e => by
      refine h115 _ _ _ ?_
      simp (disch := omega) only [bL_tells_115, sp_L_says, sp_L_two, hi, hb1, ap1_ok, ap1_M, ql_ci, ql_cl, ql_ild, ql_lld, ql_ald, ql_ist, ql_lst, ql_inc, ql_b2, ql_d2, ql_u1, ql_l2, ql_ld2, ql_lsh, ql_lcmp, ql_i2l, ql_l2i, ql_popi, ql_if1, ql_if2, ql_sw, ql_swn, ql_swc, ql_cN0, ql_cN1, ql_cN2, ql_cN3, ql_cN4, ql_cN5, ql_cN6, ql_cV, ql_ir, ql_zr, ql_lr, q_sh0, q_sh1, q_sh2, q_sh3, q_sh4, q_toL0, q_toL1, q_gl0, q_gls, q_sl0, q_sls, q_k10, q_k1s, q_lgi, q_lgr, q_lgl, q_lgn, pk_div, pk_rem, pk_rm, Bool.not_false, and_true, true_and, nz_2, nz_4, nz_5, nz_8, nz_10, nz_12, nz_14, nz_16, nz_40, nz_41, nz_64, nz_100, nz_1000, nz_1024, nz_4096, nz_10000, nz_100000, not_false_eq_true, lup_eq, lup_up, lup_self, lgc_lt, lgc_gt, lgc_le, lgc_ge, lgc_eq, lr_a1, lr_i1, lr_s1, lr_a2, lr_s2, lr_s3, lr_0, t32, v_about_st, v_about_fi, bI_0, nI_add, pk_mul, nI_lt', nI_le', nI_eq', nI_z, nI_p, nI_e0, nI_l0, nI_le0, nI_clamp, up_eq, up_ne, not_true_eq_false, Classical.not_not, false_implies, true_implies, false_and, and_false, or_true, true_or, Nat.add_zero, pk_m1, m1_0, m1_n, m1_p, Nat.zero_le, forall_const, Nat.zero_add, Nat.reduceAdd, Nat.reduceEqDiff, or_false, false_or, Nat.one_ne_zero]
      refine ⟨by omega, _, rfl, by omega, by omega, by omega, _, rfl, by omega, by omega, by omega, _, rfl, by omega, by omega, by omega, _, rfl, by omega, by omega, by omega, _, rfl, by omega, by omega, by omega, _, rfl, by omega, by omega, ?_⟩
      refine H213 x3 _ _ (by simp only [ap1_ok]; exact hb1) (by simp only [ap1_M]; omega) (by omega) ?_
      rw [← e, apl_app]
      rfl
    refine h25 _ _ _ ?_
    simp (disch := omega) only [bL_tells_25, sp_L_says, sp_L_two, hi, hb, ap1_ok, ap1_M, s1, s2, f1, f2, ql_ci, ql_cl, ql_ild, ql_lld, ql_ald, ql_ist, ql_lst, ql_inc, ql_b2, ql_d2, ql_u1, ql_l2, ql_ld2, ql_lsh, ql_lcmp, ql_i2l, ql_l2i, ql_popi, ql_if1, ql_if2, ql_sw, ql_swn, ql_swc, ql_cN0, ql_cN1, ql_cN2, ql_cN3, ql_cN4, ql_cN5, ql_cN6, ql_cV, ql_ir, ql_zr, ql_lr, q_sh0, q_sh1, q_sh2, q_sh3, q_sh4, q_toL0, q_toL1, q_gl0, q_gls, q_sl0, q_sls, q_k10, q_k1s, q_lgi, q_lgr, q_lgl, q_lgn, pk_div, pk_rem, pk_rm, Bool.not_false, and_true, true_and, nz_2, nz_4, nz_5, nz_8, nz_10, nz_12, nz_14, nz_16, nz_40, nz_41, nz_64, nz_100, nz_1000, nz_1024, nz_4096, nz_10000, nz_100000, not_false_eq_true, lup_eq, lup_up, lup_self, lgc_lt, lgc_gt, lgc_le, lgc_ge, lgc_eq, lr_a1, lr_i1, lr_s1, lr_a2, lr_s2, lr_s3, lr_0, t32, v_about_st, v_about_fi, bI_0, nI_add, pk_mul, nI_lt', nI_le', nI_eq', nI_z, nI_p, nI_e0, nI_l0, nI_le0, nI_clamp, up_eq, up_ne, not_true_eq_false, Classical.not_not, false_implies, true_implies, false_and, and_false, or_true, true_or, Nat.add_zero, pk_m1, m1_0, m1_n, m1_p, Nat.zero_le, forall_const, Nat.zero_add, Nat.reduceAdd, Nat.reduceEqDiff, or_false, false_or, Nat.one_ne_zero]
    refine ⟨fun q => absurd q (by omega), fun _ => ⟨by omega, _, rfl, by omega, by omega, by omega, _, rfl, by omega, by omega, by omega, _, rfl, by omega, by omega, by omega, _, rfl, by omega, by omega, ?_⟩⟩
    refine H115 _ _ _ (by simp only [ap1_ok]; exact hb) (by simp only [ap1_M]; omega) (by omega) ?_
    unfold pc
    rw [List.append_assoc, apl_app, apl_app (l := pcS V W ++ pcF V W), apl_app (l := pcS V W)]
    rw [apl_app]
    rfl
  have H282 : ∀ x4 x5 x6 b c, okA b → aM b ≤ 80 → c ≤ 130 → apl (pcE u v) b = tellA u v a → M 282 [.ref i, .int (nI u), .int (nI v), .int (nI 1), x4, x5, x6] [] (lup A i b, c) := fun x4 x5 x6 b c hb hm hc e => by
    refine h282 _ _ _ ?_
    simp (disch := omega) only [bL_tells_282, sp_L_says, sp_L_two, hi, hb, ap1_ok, ap1_M, eP_s, ql_ci, ql_cl, ql_ild, ql_lld, ql_ald, ql_ist, ql_lst, ql_inc, ql_b2, ql_d2, ql_u1, ql_l2, ql_ld2, ql_lsh, ql_lcmp, ql_i2l, ql_l2i, ql_popi, ql_if1, ql_if2, ql_sw, ql_swn, ql_swc, ql_cN0, ql_cN1, ql_cN2, ql_cN3, ql_cN4, ql_cN5, ql_cN6, ql_cV, ql_ir, ql_zr, ql_lr, q_sh0, q_sh1, q_sh2, q_sh3, q_sh4, q_toL0, q_toL1, q_gl0, q_gls, q_sl0, q_sls, q_k10, q_k1s, q_lgi, q_lgr, q_lgl, q_lgn, pk_div, pk_rem, pk_rm, Bool.not_false, and_true, true_and, nz_2, nz_4, nz_5, nz_8, nz_10, nz_12, nz_14, nz_16, nz_40, nz_41, nz_64, nz_100, nz_1000, nz_1024, nz_4096, nz_10000, nz_100000, not_false_eq_true, lup_eq, lup_up, lup_self, lgc_lt, lgc_gt, lgc_le, lgc_ge, lgc_eq, lr_a1, lr_i1, lr_s1, lr_a2, lr_s2, lr_s3, lr_0, t32, v_about_st, v_about_fi, bI_0, nI_add, pk_mul, nI_lt', nI_le', nI_eq', nI_z, nI_p, nI_e0, nI_l0, nI_le0, nI_clamp, up_eq, up_ne, not_true_eq_false, Classical.not_not, false_implies, true_implies, false_and, and_false, or_true, true_or, Nat.add_zero, pk_m1, m1_0, m1_n, m1_p, Nat.zero_le, forall_const, Nat.zero_add, Nat.reduceAdd, Nat.reduceEqDiff, or_false, false_or, Nat.one_ne_zero]
    have e2 : ap1 (49 + v % 5) (ap1 114 (ap1 (48 + u / 3 % 4) (ap1 (48 + (1 + v % 60) % 10) (ap1 (48 + (1 + v % 60) / 10) (ap1 (48 + u % 3) (ap1 100 b)))))) = tellA u v a := e
    refine ⟨by omega, _, rfl, by omega, by omega, by omega, _, rfl, by omega, by omega, by omega, _, rfl, by omega, by omega, by omega, _, rfl, by omega, by omega, by omega, _, rfl, by omega, by omega, by omega, _, rfl, by omega, by omega, by omega, fun q => absurd ?_ q, fun _ => ?_⟩
    · rw [e2]; exact tellA_err
    · rw [e2]; exact H366 _ _ (by omega)
  have L3 : ∀ b c x5 x6, okA b → aM b ≤ 80 → c ≤ 130 → apl (pcE u v) b = tellA u v a → M 25 [.ref i, .int (nI u), .int (nI v), .int (nI 1), .int (nI 3), x5, x6] [] (lup A i b, c) := fun b c x5 x6 hb hm hc e => by
    refine h25 _ _ _ ?_
    simp (disch := omega) only [bL_tells_25, ql_ci, ql_cl, ql_ild, ql_lld, ql_ald, ql_ist, ql_lst, ql_inc, ql_b2, ql_d2, ql_u1, ql_l2, ql_ld2, ql_lsh, ql_lcmp, ql_i2l, ql_l2i, ql_popi, ql_if1, ql_if2, ql_sw, ql_swn, ql_swc, ql_cN0, ql_cN1, ql_cN2, ql_cN3, ql_cN4, ql_cN5, ql_cN6, ql_cV, ql_ir, ql_zr, ql_lr, q_sh0, q_sh1, q_sh2, q_sh3, q_sh4, q_toL0, q_toL1, q_gl0, q_gls, q_sl0, q_sls, q_k10, q_k1s, q_lgi, q_lgr, q_lgl, q_lgn, pk_div, pk_rem, pk_rm, Bool.not_false, and_true, true_and, nz_2, nz_4, nz_5, nz_8, nz_10, nz_12, nz_14, nz_16, nz_40, nz_41, nz_64, nz_100, nz_1000, nz_1024, nz_4096, nz_10000, nz_100000, not_false_eq_true, lup_eq, lup_up, lup_self, lgc_lt, lgc_gt, lgc_le, lgc_ge, lgc_eq, lr_a1, lr_i1, lr_s1, lr_a2, lr_s2, lr_s3, lr_0, t32, v_about_st, v_about_fi, bI_0, nI_add, pk_mul, nI_lt', nI_le', nI_eq', nI_z, nI_p, nI_e0, nI_l0, nI_le0, nI_clamp, up_eq, up_ne, not_true_eq_false, Classical.not_not, false_implies, true_implies, false_and, and_false, or_true, true_or, Nat.add_zero, pk_m1, m1_0, m1_n, m1_p, Nat.zero_le, forall_const, Nat.zero_add, Nat.reduceAdd, Nat.reduceEqDiff, or_false, false_or, Nat.one_ne_zero]
    exact ⟨fun _ => H282 _ _ _ b c hb hm hc e, fun q => absurd (Nat.le_refl _) q⟩
  have H21 : ∀ x3 x4 x5 x6, M 21 [.ref i, .int (nI u), .int (nI v), x3, x4, x5, x6] [.int (nI 1)] (lup A i (ap1 78 (c_clearText a).2.2), 2) := fun x3 x4 x5 x6 => by
    have o0 : okA (ap1 78 (c_clearText a).2.2) := by rw [ap1_ok, clr_ok]; exact hA
    have m0 : aM (ap1 78 (c_clearText a).2.2) = 1 := by rw [ap1_M, clr_M]
    refine h21 _ _ _ ?_
    simp (disch := omega) only [bL_tells_21, ql_ci, ql_cl, ql_ild, ql_lld, ql_ald, ql_ist, ql_lst, ql_inc, ql_b2, ql_d2, ql_u1, ql_l2, ql_ld2, ql_lsh, ql_lcmp, ql_i2l, ql_l2i, ql_popi, ql_if1, ql_if2, ql_sw, ql_swn, ql_swc, ql_cN0, ql_cN1, ql_cN2, ql_cN3, ql_cN4, ql_cN5, ql_cN6, ql_cV, ql_ir, ql_zr, ql_lr, q_sh0, q_sh1, q_sh2, q_sh3, q_sh4, q_toL0, q_toL1, q_gl0, q_gls, q_sl0, q_sls, q_k10, q_k1s, q_lgi, q_lgr, q_lgl, q_lgn, pk_div, pk_rem, pk_rm, Bool.not_false, and_true, true_and, nz_2, nz_4, nz_5, nz_8, nz_10, nz_12, nz_14, nz_16, nz_40, nz_41, nz_64, nz_100, nz_1000, nz_1024, nz_4096, nz_10000, nz_100000, not_false_eq_true, lup_eq, lup_up, lup_self, lgc_lt, lgc_gt, lgc_le, lgc_ge, lgc_eq, lr_a1, lr_i1, lr_s1, lr_a2, lr_s2, lr_s3, lr_0, t32, v_about_st, v_about_fi, bI_0, nI_add, pk_mul, nI_lt', nI_le', nI_eq', nI_z, nI_p, nI_e0, nI_l0, nI_le0, nI_clamp, up_eq, up_ne, not_true_eq_false, Classical.not_not, false_implies, true_implies, false_and, and_false, or_true, true_or, Nat.add_zero, pk_m1, m1_0, m1_n, m1_p, Nat.zero_le, forall_const, Nat.zero_add, Nat.reduceAdd, Nat.reduceEqDiff, or_false, false_or, Nat.one_ne_zero]
    refine Hit 0 _ 2 (by omega) o0 (by omega) (by omega) (fun _ _ c' hc' => ?_) _ _
    refine Hit 1 _ c' (by omega) (by rw [apl_ok]; exact o0) (by rw [apl_M, pc_len]; omega) (by omega) (fun _ _ c2 hc2 => ?_) _ _
    refine Hit 2 _ c2 (by omega) (by rw [apl_ok, apl_ok]; exact o0) (by rw [apl_M, apl_M, pc_len, pc_len]; omega) (by omega) (fun _ _ c3 hc3 => ?_) _ _
    refine L3 _ c3 _ _ (by rw [apl_ok, apl_ok, apl_ok]; exact o0) (by rw [apl_M, apl_M, apl_M, pc_len, pc_len, pc_len]; omega) (by omega) ?_
    unfold tellA tl
    rw [apl_app, apl_app, apl_app, apl_app]
    rfl
  refine h0 _ _ _ ?_
  have hneg : (nI (aM a) < 0) = False := propext ⟨fun q => absurd q (Int32.not_lt.mpr (nI_pos' (by omega))), fun q => q.elim⟩
  simp (disch := omega) only [bL_tells_0, sp_L_says, hi, hA, ha, clr_s, clr_ok, clr_M, hneg, ql_ci, ql_cl, ql_ild, ql_lld, ql_ald, ql_ist, ql_lst, ql_inc, ql_b2, ql_d2, ql_u1, ql_l2, ql_ld2, ql_lsh, ql_lcmp, ql_i2l, ql_l2i, ql_popi, ql_if1, ql_if2, ql_sw, ql_swn, ql_swc, ql_cN0, ql_cN1, ql_cN2, ql_cN3, ql_cN4, ql_cN5, ql_cN6, ql_cV, ql_ir, ql_zr, ql_lr, q_sh0, q_sh1, q_sh2, q_sh3, q_sh4, q_toL0, q_toL1, q_gl0, q_gls, q_sl0, q_sls, q_k10, q_k1s, q_lgi, q_lgr, q_lgl, q_lgn, pk_div, pk_rem, pk_rm, Bool.not_false, and_true, true_and, nz_2, nz_4, nz_5, nz_8, nz_10, nz_12, nz_14, nz_16, nz_40, nz_41, nz_64, nz_100, nz_1000, nz_1024, nz_4096, nz_10000, nz_100000, not_false_eq_true, lup_eq, lup_up, lup_self, lgc_lt, lgc_gt, lgc_le, lgc_ge, lgc_eq, lr_a1, lr_i1, lr_s1, lr_a2, lr_s2, lr_s3, lr_0, t32, v_about_st, v_about_fi, bI_0, nI_add, pk_mul, nI_lt', nI_le', nI_eq', nI_z, nI_p, nI_e0, nI_l0, nI_le0, nI_clamp, up_eq, up_ne, not_true_eq_false, Classical.not_not, false_implies, true_implies, false_and, and_false, or_true, true_or, Nat.add_zero, pk_m1, m1_0, m1_n, m1_p, Nat.zero_le, forall_const, Nat.zero_add, Nat.reduceAdd, Nat.reduceEqDiff, or_false, false_or, Nat.one_ne_zero]
  exact ⟨by omega, by omega, _, rfl, by omega, by omega, H21 _ _ _ _⟩
