/-! an act of the law, as a value -/
def act_s (z st : Nat) : Nat := if st = 0 then z % 5 else if z % 13 = 0 then z % 5 else z % st
def pR (xs : List String) (r : cR) : Int64 × aS := (lr xs r, r.2.2)
def actZ (x z s : Nat) (a : aS) : Int64 × aS :=
  if x = 0 then pR [x_ar, x_st] (c_addStation (nI (z % 100)) (nI (z / 100 % 16)) (nI (1 + z / 1600 % 5)) (nI (z / 8000 % 100)) (nI (z / 7 % 6)) a)
  else if x ≤ 2 then pR [x_ar, x_st] (c_addFinder (nI (z % 100)) (nI (4 + z / 100 % 17)) (nI (1 + z / 1700 % 12)) a)
  else if x ≤ 5 then pR [x_ar] (c_wind (nI (z % 4)) (nI (z / 4 % 41) - nI 20) a)
  else if x ≤ 7 then pR [x_ix, x_ar] (c_change (nI s) (nI (z / 5 % 16)) (nI (1 + z / 80 % 5)) a)
  else if x ≤ 10 then pR [x_ix, x_ar, x_st] (c_deliver (nI s) (nI (z / 5 % 50)) (nI (z / 250 % 4)) a)
  else if x ≤ 12 then pR [x_ix, x_st] (c_move (nI s) (nI (z / 5 % 5)) a)
  else if x = 13 then pR [x_ar] (c_set (nI (z % 5)) (nI (if z % 5 = 0 then 1 + z / 5 % 9 else if z % 5 = 1 then 1 + z / 5 % 5 else z / 5 % 40)) a)
  else if x = 14 then pR [x_st] (c_undo a)
  else if x = 15 then (if z % 2 = 0 then pR [x_ix] (c_save (nI (z / 2) &&& nI 1) a) else pR [x_ix, x_st] (c_restore (nI (z / 2) &&& nI 1) a))
  else pR [x_ar] (c_run (nI (1 + z % (if z % 4 = 0 then 40 else 6))) a)
def actR (u v : Nat) (a : aS) : Int64 × aS := actZ (u % 24) (v / 4) (act_s (v / 4) (cl (a.1.1 1))) a
theorem actZ_G {x z s k : Nat} {a : aS} (h : GB k a) (hk : k < 1000) : GB (k + 1) (actZ x z s a).2 := by
  unfold actZ
  split
  · exact cG_addStation _ _ _ _ _ k a h hk
  · split
    · exact cG_addFinder _ _ _ k a h hk
    · split
      · exact cG_wind _ _ k a h hk
      · split
        · exact cG_change _ _ _ k a h hk
        · split
          · exact cG_deliver _ _ _ k a h hk
          · split
            · exact cG_move _ _ k a h hk
            · split
              · exact cG_set _ _ k a h hk
              · split
                · exact cG_undo k a h hk
                · split
                  · split
                    · exact cG_save _ k a h hk
                    · exact cG_restore _ k a h hk
                  · exact cG_run _ k a h hk
theorem actR_G {u v k : Nat} {a : aS} (h : GB k a) (hk : k < 1000) : GB (k + 1) (actR u v a).2 := actZ_G h hk
def sp_L_act : la_S := fun As A K => match As with
  | [.ref i, .int x, .int y] => i < 2 ∧ okA (A i) ∧ ∃ u v, x = nI u ∧ y = nI v ∧ u < 2 ^ 31 ∧ v < 2 ^ 31 ∧ K (some (.long (actR u v (A i)).1)) (lup A i (actR u v (A i)).2)
  | _ => False
set_option maxRecDepth 20000 in
set_option maxHeartbeats 4000000 in
theorem ok_L_act {l : Launch} (hl : l.stackTraces = false) : la_Ok l yL_act (Cond.code yL_act cL_act 7 (some .long)) 10 (30 * 10) 3 sp_L_act := by
  intro Y A As K hw h
  unfold sp_L_act at h
  split at h
  rotate_left 1
  · exact h.elim
  next i x y =>
  refine vc_L_act hl hw (ok_L_about hl) (ok_L_addStation hl) (ok_L_undo hl) (ok_L_restore hl) (ok_L_save hl) (ok_L_addFinder hl) (ok_L_wind hl) (ok_L_change hl) (ok_L_deliver hl) (ok_L_move hl) (ok_L_set hl) (ok_L_run hl) (Nat.le_of_ble_eq_true rfl) (fun M h0 h24 h34 h160 h188 h205 h226 h246 h304 h340 h357 => ?_)
  show M 0 [.ref i, .int x, .int y, .null, .null, .null, .null] [] (A, 0)
  obtain ⟨hi, hA, u, v, rfl, rfl, hu, hv, h⟩ := h
  obtain ⟨e1, b1⟩ : (A i).1.1 1 = nI (cl ((A i).1.1 1)) ∧ cl ((A i).1.1 1) ≤ 5 := by
    obtain ⟨T, hW, -⟩ := hA
    exact ⟨hW.1.1.2.2.1, hW.1.1.2.2.2.1⟩
  unfold actR at h
  generalize hst : cl ((A i).1.1 1) = st at *
  generalize hz : v / 4 = z at *
  generalize hx : u % 24 = x at *
  have hz9 : z < 2 ^ 31 := by omega
  have hx9 : x < 24 := by omega
  have H34 : ∀ x6, M 34 [.ref i, .int (nI u), .int (nI v), .int (nI z), .int (nI st), .null, x6] [.int (nI (act_s z st))] (A, 1) := by
    intro x6
    generalize act_s z st = s at *
    have H160 : 0 < x → x ≤ 2 → M 160 [.ref i, .int (nI u), .int (nI v), .int (nI z), .int (nI st), .int (nI s), x6] [] (A, 1) := fun q1 q2 => by
      have h' : actZ x z s (A i) = pR [x_ar, x_st] (c_addFinder (nI (z % 100)) (nI (4 + z / 100 % 17)) (nI (1 + z / 1700 % 12)) (A i)) := by unfold actZ; rw [if_neg (by omega), if_pos q2]
      rw [h'] at h
      refine h160 _ _ _ ?_
      simp (disch := omega) only [bL_act_160, sp_L_addFinder, hi, hA, ql_ci, ql_cl, ql_ild, ql_lld, ql_ald, ql_ist, ql_lst, ql_inc, ql_b2, ql_d2, ql_u1, ql_l2, ql_ld2, ql_lsh, ql_lcmp, ql_i2l, ql_l2i, ql_popi, ql_if1, ql_if2, ql_sw, ql_swn, ql_swc, ql_cN0, ql_cN1, ql_cN2, ql_cN3, ql_cN4, ql_cN5, ql_cN6, ql_cV, ql_ir, ql_zr, ql_lr, q_sh0, q_sh1, q_sh2, q_sh3, q_sh4, q_toL0, q_toL1, q_gl0, q_gls, q_sl0, q_sls, q_k10, q_k1s, q_lgi, q_lgr, q_lgl, q_lgn, pk_div, pk_rem, pk_rm, Bool.not_false, and_true, true_and, nz_2, nz_4, nz_5, nz_8, nz_10, nz_12, nz_14, nz_16, nz_40, nz_41, nz_64, nz_100, nz_1000, nz_1024, nz_4096, nz_10000, nz_100000, not_false_eq_true, lup_eq, lup_up, lup_self, lgc_lt, lgc_gt, lgc_le, lgc_ge, lgc_eq, lr_a1, lr_i1, lr_s1, lr_a2, lr_s2, lr_s3, lr_0, t32, v_about_st, v_about_fi, bI_0, nI_add, pk_mul, nI_lt', nI_le', nI_eq', nI_z, nI_p, nI_e0, nI_l0, nI_le0, nI_clamp, up_eq, up_ne, not_true_eq_false, Classical.not_not, false_implies, true_implies, false_and, and_false, or_true, true_or, Nat.add_zero, pk_m1, m1_0, m1_n, m1_p, Nat.zero_le, forall_const, Nat.zero_add, Nat.reduceAdd, Nat.reduceEqDiff, or_false, false_or, Nat.one_ne_zero]
      refine ⟨by omega, by omega, ?_⟩
      exact h
    have H188 : 2 < x → x ≤ 5 → M 188 [.ref i, .int (nI u), .int (nI v), .int (nI z), .int (nI st), .int (nI s), x6] [] (A, 1) := fun q1 q2 => by
      have h' : actZ x z s (A i) = pR [x_ar] (c_wind (nI (z % 4)) (nI (z / 4 % 41) - nI 20) (A i)) := by unfold actZ; rw [if_neg (by omega), if_neg (by omega), if_pos q2]
      rw [h'] at h
      refine h188 _ _ _ ?_
      simp (disch := omega) only [bL_act_188, sp_L_wind, hi, hA, ql_ci, ql_cl, ql_ild, ql_lld, ql_ald, ql_ist, ql_lst, ql_inc, ql_b2, ql_d2, ql_u1, ql_l2, ql_ld2, ql_lsh, ql_lcmp, ql_i2l, ql_l2i, ql_popi, ql_if1, ql_if2, ql_sw, ql_swn, ql_swc, ql_cN0, ql_cN1, ql_cN2, ql_cN3, ql_cN4, ql_cN5, ql_cN6, ql_cV, ql_ir, ql_zr, ql_lr, q_sh0, q_sh1, q_sh2, q_sh3, q_sh4, q_toL0, q_toL1, q_gl0, q_gls, q_sl0, q_sls, q_k10, q_k1s, q_lgi, q_lgr, q_lgl, q_lgn, pk_div, pk_rem, pk_rm, Bool.not_false, and_true, true_and, nz_2, nz_4, nz_5, nz_8, nz_10, nz_12, nz_14, nz_16, nz_40, nz_41, nz_64, nz_100, nz_1000, nz_1024, nz_4096, nz_10000, nz_100000, not_false_eq_true, lup_eq, lup_up, lup_self, lgc_lt, lgc_gt, lgc_le, lgc_ge, lgc_eq, lr_a1, lr_i1, lr_s1, lr_a2, lr_s2, lr_s3, lr_0, t32, v_about_st, v_about_fi, bI_0, nI_add, pk_mul, nI_lt', nI_le', nI_eq', nI_z, nI_p, nI_e0, nI_l0, nI_le0, nI_clamp, up_eq, up_ne, not_true_eq_false, Classical.not_not, false_implies, true_implies, false_and, and_false, or_true, true_or, Nat.add_zero, pk_m1, m1_0, m1_n, m1_p, Nat.zero_le, forall_const, Nat.zero_add, Nat.reduceAdd, Nat.reduceEqDiff, or_false, false_or, Nat.one_ne_zero]
      refine ⟨by omega, by omega, ?_⟩
      exact h
    have H205 : 5 < x → x ≤ 7 → M 205 [.ref i, .int (nI u), .int (nI v), .int (nI z), .int (nI st), .int (nI s), x6] [] (A, 1) := fun q1 q2 => by
      have h' : actZ x z s (A i) = pR [x_ix, x_ar] (c_change (nI s) (nI (z / 5 % 16)) (nI (1 + z / 80 % 5)) (A i)) := by unfold actZ; rw [if_neg (by omega), if_neg (by omega), if_neg (by omega), if_pos q2]
      rw [h'] at h
      refine h205 _ _ _ ?_
      simp (disch := omega) only [bL_act_205, sp_L_change, hi, hA, ql_ci, ql_cl, ql_ild, ql_lld, ql_ald, ql_ist, ql_lst, ql_inc, ql_b2, ql_d2, ql_u1, ql_l2, ql_ld2, ql_lsh, ql_lcmp, ql_i2l, ql_l2i, ql_popi, ql_if1, ql_if2, ql_sw, ql_swn, ql_swc, ql_cN0, ql_cN1, ql_cN2, ql_cN3, ql_cN4, ql_cN5, ql_cN6, ql_cV, ql_ir, ql_zr, ql_lr, q_sh0, q_sh1, q_sh2, q_sh3, q_sh4, q_toL0, q_toL1, q_gl0, q_gls, q_sl0, q_sls, q_k10, q_k1s, q_lgi, q_lgr, q_lgl, q_lgn, pk_div, pk_rem, pk_rm, Bool.not_false, and_true, true_and, nz_2, nz_4, nz_5, nz_8, nz_10, nz_12, nz_14, nz_16, nz_40, nz_41, nz_64, nz_100, nz_1000, nz_1024, nz_4096, nz_10000, nz_100000, not_false_eq_true, lup_eq, lup_up, lup_self, lgc_lt, lgc_gt, lgc_le, lgc_ge, lgc_eq, lr_a1, lr_i1, lr_s1, lr_a2, lr_s2, lr_s3, lr_0, t32, v_about_st, v_about_fi, bI_0, nI_add, pk_mul, nI_lt', nI_le', nI_eq', nI_z, nI_p, nI_e0, nI_l0, nI_le0, nI_clamp, up_eq, up_ne, not_true_eq_false, Classical.not_not, false_implies, true_implies, false_and, and_false, or_true, true_or, Nat.add_zero, pk_m1, m1_0, m1_n, m1_p, Nat.zero_le, forall_const, Nat.zero_add, Nat.reduceAdd, Nat.reduceEqDiff, or_false, false_or, Nat.one_ne_zero]
      refine ⟨by omega, by omega, ?_⟩
      exact h
    have H226 : 7 < x → x ≤ 10 → M 226 [.ref i, .int (nI u), .int (nI v), .int (nI z), .int (nI st), .int (nI s), x6] [] (A, 1) := fun q1 q2 => by
      have h' : actZ x z s (A i) = pR [x_ix, x_ar, x_st] (c_deliver (nI s) (nI (z / 5 % 50)) (nI (z / 250 % 4)) (A i)) := by unfold actZ; rw [if_neg (by omega), if_neg (by omega), if_neg (by omega), if_neg (by omega), if_pos q2]
      rw [h'] at h
      refine h226 _ _ _ ?_
      simp (disch := omega) only [bL_act_226, sp_L_deliver, hi, hA, ql_ci, ql_cl, ql_ild, ql_lld, ql_ald, ql_ist, ql_lst, ql_inc, ql_b2, ql_d2, ql_u1, ql_l2, ql_ld2, ql_lsh, ql_lcmp, ql_i2l, ql_l2i, ql_popi, ql_if1, ql_if2, ql_sw, ql_swn, ql_swc, ql_cN0, ql_cN1, ql_cN2, ql_cN3, ql_cN4, ql_cN5, ql_cN6, ql_cV, ql_ir, ql_zr, ql_lr, q_sh0, q_sh1, q_sh2, q_sh3, q_sh4, q_toL0, q_toL1, q_gl0, q_gls, q_sl0, q_sls, q_k10, q_k1s, q_lgi, q_lgr, q_lgl, q_lgn, pk_div, pk_rem, pk_rm, Bool.not_false, and_true, true_and, nz_2, nz_4, nz_5, nz_8, nz_10, nz_12, nz_14, nz_16, nz_40, nz_41, nz_64, nz_100, nz_1000, nz_1024, nz_4096, nz_10000, nz_100000, not_false_eq_true, lup_eq, lup_up, lup_self, lgc_lt, lgc_gt, lgc_le, lgc_ge, lgc_eq, lr_a1, lr_i1, lr_s1, lr_a2, lr_s2, lr_s3, lr_0, t32, v_about_st, v_about_fi, bI_0, nI_add, pk_mul, nI_lt', nI_le', nI_eq', nI_z, nI_p, nI_e0, nI_l0, nI_le0, nI_clamp, up_eq, up_ne, not_true_eq_false, Classical.not_not, false_implies, true_implies, false_and, and_false, or_true, true_or, Nat.add_zero, pk_m1, m1_0, m1_n, m1_p, Nat.zero_le, forall_const, Nat.zero_add, Nat.reduceAdd, Nat.reduceEqDiff, or_false, false_or, Nat.one_ne_zero]
      refine ⟨by omega, by omega, ?_⟩
      exact h
    have H246 : 10 < x → x ≤ 12 → M 246 [.ref i, .int (nI u), .int (nI v), .int (nI z), .int (nI st), .int (nI s), x6] [] (A, 1) := fun q1 q2 => by
      have h' : actZ x z s (A i) = pR [x_ix, x_st] (c_move (nI s) (nI (z / 5 % 5)) (A i)) := by unfold actZ; rw [if_neg (by omega), if_neg (by omega), if_neg (by omega), if_neg (by omega), if_neg (by omega), if_pos q2]
      rw [h'] at h
      refine h246 _ _ _ ?_
      simp (disch := omega) only [bL_act_246, sp_L_move, hi, hA, ql_ci, ql_cl, ql_ild, ql_lld, ql_ald, ql_ist, ql_lst, ql_inc, ql_b2, ql_d2, ql_u1, ql_l2, ql_ld2, ql_lsh, ql_lcmp, ql_i2l, ql_l2i, ql_popi, ql_if1, ql_if2, ql_sw, ql_swn, ql_swc, ql_cN0, ql_cN1, ql_cN2, ql_cN3, ql_cN4, ql_cN5, ql_cN6, ql_cV, ql_ir, ql_zr, ql_lr, q_sh0, q_sh1, q_sh2, q_sh3, q_sh4, q_toL0, q_toL1, q_gl0, q_gls, q_sl0, q_sls, q_k10, q_k1s, q_lgi, q_lgr, q_lgl, q_lgn, pk_div, pk_rem, pk_rm, Bool.not_false, and_true, true_and, nz_2, nz_4, nz_5, nz_8, nz_10, nz_12, nz_14, nz_16, nz_40, nz_41, nz_64, nz_100, nz_1000, nz_1024, nz_4096, nz_10000, nz_100000, not_false_eq_true, lup_eq, lup_up, lup_self, lgc_lt, lgc_gt, lgc_le, lgc_ge, lgc_eq, lr_a1, lr_i1, lr_s1, lr_a2, lr_s2, lr_s3, lr_0, t32, v_about_st, v_about_fi, bI_0, nI_add, pk_mul, nI_lt', nI_le', nI_eq', nI_z, nI_p, nI_e0, nI_l0, nI_le0, nI_clamp, up_eq, up_ne, not_true_eq_false, Classical.not_not, false_implies, true_implies, false_and, and_false, or_true, true_or, Nat.add_zero, pk_m1, m1_0, m1_n, m1_p, Nat.zero_le, forall_const, Nat.zero_add, Nat.reduceAdd, Nat.reduceEqDiff, or_false, false_or, Nat.one_ne_zero]
      refine ⟨by omega, by omega, ?_⟩
      exact h
    have H357 : ∀ m, 15 < x → m = (if z % 4 = 0 then 40 else 6) → M 357 [.ref i, .int (nI u), .int (nI v), .int (nI z), .int (nI st), .int (nI s), x6] [.int (nI m), .int (nI z), .int (nI 1), .ref i] (A, 1) := fun m q1 q2 => by
      have h' : actZ x z s (A i) = pR [x_ar] (c_run (nI (1 + z % (if z % 4 = 0 then 40 else 6))) (A i)) := by unfold actZ; rw [if_neg (by omega), if_neg (by omega), if_neg (by omega), if_neg (by omega), if_neg (by omega), if_neg (by omega), if_neg (by omega), if_neg (by omega), if_neg (by omega)]
      rw [h', ← q2] at h
      have hm : 0 < m ∧ m < 2 ^ 31 := by rw [q2]; split <;> omega
      obtain ⟨hm1, hm2⟩ := hm
      refine h357 _ _ _ ?_
      simp (disch := omega) only [bL_act_357, sp_L_run, hi, hA, ql_ci, ql_cl, ql_ild, ql_lld, ql_ald, ql_ist, ql_lst, ql_inc, ql_b2, ql_d2, ql_u1, ql_l2, ql_ld2, ql_lsh, ql_lcmp, ql_i2l, ql_l2i, ql_popi, ql_if1, ql_if2, ql_sw, ql_swn, ql_swc, ql_cN0, ql_cN1, ql_cN2, ql_cN3, ql_cN4, ql_cN5, ql_cN6, ql_cV, ql_ir, ql_zr, ql_lr, q_sh0, q_sh1, q_sh2, q_sh3, q_sh4, q_toL0, q_toL1, q_gl0, q_gls, q_sl0, q_sls, q_k10, q_k1s, q_lgi, q_lgr, q_lgl, q_lgn, pk_div, pk_rem, pk_rm, Bool.not_false, and_true, true_and, nz_2, nz_4, nz_5, nz_8, nz_10, nz_12, nz_14, nz_16, nz_40, nz_41, nz_64, nz_100, nz_1000, nz_1024, nz_4096, nz_10000, nz_100000, not_false_eq_true, lup_eq, lup_up, lup_self, lgc_lt, lgc_gt, lgc_le, lgc_ge, lgc_eq, lr_a1, lr_i1, lr_s1, lr_a2, lr_s2, lr_s3, lr_0, t32, v_about_st, v_about_fi, bI_0, nI_add, pk_mul, nI_lt', nI_le', nI_eq', nI_z, nI_p, nI_e0, nI_l0, nI_le0, nI_clamp, up_eq, up_ne, not_true_eq_false, Classical.not_not, false_implies, true_implies, false_and, and_false, or_true, true_or, Nat.add_zero, pk_m1, m1_0, m1_n, m1_p, Nat.zero_le, forall_const, Nat.zero_add, Nat.reduceAdd, Nat.reduceEqDiff, or_false, false_or, Nat.one_ne_zero]
      refine ⟨by omega, by omega, by omega, ?_⟩
      exact h
    have H304 : ∀ L w, x = 13 → w = (if z % 5 = 0 then 1 + z / 5 % 9 else if z % 5 = 1 then 1 + z / 5 % 5 else z / 5 % 40) → M 304 L [.int (nI w), .int (nI (z % 5)), .ref i] (A, 1) := fun L w q1 q2 => by
      have h' : actZ x z s (A i) = pR [x_ar] (c_set (nI (z % 5)) (nI w) (A i)) := by rw [q2]; unfold actZ; rw [if_neg (by omega), if_neg (by omega), if_neg (by omega), if_neg (by omega), if_neg (by omega), if_neg (by omega), if_pos q1]
      rw [h'] at h
      refine h304 _ _ _ ?_
      simp (disch := omega) only [bL_act_304, sp_L_set, hi, hA, ql_ci, ql_cl, ql_ild, ql_lld, ql_ald, ql_ist, ql_lst, ql_inc, ql_b2, ql_d2, ql_u1, ql_l2, ql_ld2, ql_lsh, ql_lcmp, ql_i2l, ql_l2i, ql_popi, ql_if1, ql_if2, ql_sw, ql_swn, ql_swc, ql_cN0, ql_cN1, ql_cN2, ql_cN3, ql_cN4, ql_cN5, ql_cN6, ql_cV, ql_ir, ql_zr, ql_lr, q_sh0, q_sh1, q_sh2, q_sh3, q_sh4, q_toL0, q_toL1, q_gl0, q_gls, q_sl0, q_sls, q_k10, q_k1s, q_lgi, q_lgr, q_lgl, q_lgn, pk_div, pk_rem, pk_rm, Bool.not_false, and_true, true_and, nz_2, nz_4, nz_5, nz_8, nz_10, nz_12, nz_14, nz_16, nz_40, nz_41, nz_64, nz_100, nz_1000, nz_1024, nz_4096, nz_10000, nz_100000, not_false_eq_true, lup_eq, lup_up, lup_self, lgc_lt, lgc_gt, lgc_le, lgc_ge, lgc_eq, lr_a1, lr_i1, lr_s1, lr_a2, lr_s2, lr_s3, lr_0, t32, v_about_st, v_about_fi, bI_0, nI_add, pk_mul, nI_lt', nI_le', nI_eq', nI_z, nI_p, nI_e0, nI_l0, nI_le0, nI_clamp, up_eq, up_ne, not_true_eq_false, Classical.not_not, false_implies, true_implies, false_and, and_false, or_true, true_or, Nat.add_zero, pk_m1, m1_0, m1_n, m1_p, Nat.zero_le, forall_const, Nat.zero_add, Nat.reduceAdd, Nat.reduceEqDiff, or_false, false_or, Nat.one_ne_zero]
      exact ⟨by omega, by omega, h⟩
    have H340 : ∀ L q A', K (some (.long q)) A' → M 340 L [.long q] (A', 2) := fun L q A' hq => by
      refine h340 _ _ _ ?_
      simp (disch := omega) only [bL_act_340, ql_ci, ql_cl, ql_ild, ql_lld, ql_ald, ql_ist, ql_lst, ql_inc, ql_b2, ql_d2, ql_u1, ql_l2, ql_ld2, ql_lsh, ql_lcmp, ql_i2l, ql_l2i, ql_popi, ql_if1, ql_if2, ql_sw, ql_swn, ql_swc, ql_cN0, ql_cN1, ql_cN2, ql_cN3, ql_cN4, ql_cN5, ql_cN6, ql_cV, ql_ir, ql_zr, ql_lr, q_sh0, q_sh1, q_sh2, q_sh3, q_sh4, q_toL0, q_toL1, q_gl0, q_gls, q_sl0, q_sls, q_k10, q_k1s, q_lgi, q_lgr, q_lgl, q_lgn, pk_div, pk_rem, pk_rm, Bool.not_false, and_true, true_and, nz_2, nz_4, nz_5, nz_8, nz_10, nz_12, nz_14, nz_16, nz_40, nz_41, nz_64, nz_100, nz_1000, nz_1024, nz_4096, nz_10000, nz_100000, not_false_eq_true, lup_eq, lup_up, lup_self, lgc_lt, lgc_gt, lgc_le, lgc_ge, lgc_eq, lr_a1, lr_i1, lr_s1, lr_a2, lr_s2, lr_s3, lr_0, t32, v_about_st, v_about_fi, bI_0, nI_add, pk_mul, nI_lt', nI_le', nI_eq', nI_z, nI_p, nI_e0, nI_l0, nI_le0, nI_clamp, up_eq, up_ne, not_true_eq_false, Classical.not_not, false_implies, true_implies, false_and, and_false, or_true, true_or, Nat.add_zero, pk_m1, m1_0, m1_n, m1_p, Nat.zero_le, forall_const, Nat.zero_add, Nat.reduceAdd, Nat.reduceEqDiff, or_false, false_or, Nat.one_ne_zero]
      exact ⟨by omega, hq⟩
    refine h34 _ _ _ ?_
    simp (disch := omega) only [bL_act_34, sp_L_addStation, sp_L_undo, sp_L_save, sp_L_restore, hi, hA, hx, ql_ci, ql_cl, ql_ild, ql_lld, ql_ald, ql_ist, ql_lst, ql_inc, ql_b2, ql_d2, ql_u1, ql_l2, ql_ld2, ql_lsh, ql_lcmp, ql_i2l, ql_l2i, ql_popi, ql_if1, ql_if2, ql_sw, ql_swn, ql_swc, ql_cN0, ql_cN1, ql_cN2, ql_cN3, ql_cN4, ql_cN5, ql_cN6, ql_cV, ql_ir, ql_zr, ql_lr, q_sh0, q_sh1, q_sh2, q_sh3, q_sh4, q_toL0, q_toL1, q_gl0, q_gls, q_sl0, q_sls, q_k10, q_k1s, q_lgi, q_lgr, q_lgl, q_lgn, pk_div, pk_rem, pk_rm, Bool.not_false, and_true, true_and, nz_2, nz_4, nz_5, nz_8, nz_10, nz_12, nz_14, nz_16, nz_40, nz_41, nz_64, nz_100, nz_1000, nz_1024, nz_4096, nz_10000, nz_100000, not_false_eq_true, lup_eq, lup_up, lup_self, lgc_lt, lgc_gt, lgc_le, lgc_ge, lgc_eq, lr_a1, lr_i1, lr_s1, lr_a2, lr_s2, lr_s3, lr_0, t32, v_about_st, v_about_fi, bI_0, nI_add, pk_mul, nI_lt', nI_le', nI_eq', nI_z, nI_p, nI_e0, nI_l0, nI_le0, nI_clamp, up_eq, up_ne, not_true_eq_false, Classical.not_not, false_implies, true_implies, false_and, and_false, or_true, true_or, Nat.add_zero, pk_m1, m1_0, m1_n, m1_p, Nat.zero_le, forall_const, Nat.zero_add, Nat.reduceAdd, Nat.reduceEqDiff, or_false, false_or, Nat.one_ne_zero]
    repeat' first
      | omega
      | (exact H160 (by omega) (by omega))
      | (exact H188 (by omega) (by omega))
      | (exact H205 (by omega) (by omega))
      | (exact H226 (by omega) (by omega))
      | (exact H246 (by omega) (by omega))
      | (exact H357 40 (by omega) (by rw [if_pos (by omega)]))
      | (exact H357 6 (by omega) (by rw [if_neg (by omega)]))
      | (exact H304 _ _ (by omega) (by rw [if_pos (by omega)]))
      | (exact H304 _ _ (by omega) (by rw [if_neg (by omega), if_pos (by omega)]))
      | (exact H304 _ _ (by omega) (by rw [if_neg (by omega), if_neg (by omega)]))
      | (refine H340 _ _ _ ?_)
      | refine And.intro ?_ ?_
      | (intro (_ : _))
    · have h' : actZ x z s (A i) = pR [x_ar, x_st] (c_addStation (nI (z % 100)) (nI (z / 100 % 16)) (nI (1 + z / 1600 % 5)) (nI (z / 8000 % 100)) (nI (z / 7 % 6)) (A i)) := by unfold actZ; rw [if_pos (by omega)]
      rw [h'] at h
      exact h
    · have h' : actZ x z s (A i) = pR [x_st] (c_undo (A i)) := by unfold actZ; rw [if_neg (by omega), if_neg (by omega), if_neg (by omega), if_neg (by omega), if_neg (by omega), if_neg (by omega), if_neg (by omega), if_pos (by omega)]
      rw [h'] at h
      exact h
    · have h' : actZ x z s (A i) = pR [x_ix, x_st] (c_restore (nI (z / 2) &&& nI 1) (A i)) := by unfold actZ; rw [if_neg (by omega), if_neg (by omega), if_neg (by omega), if_neg (by omega), if_neg (by omega), if_neg (by omega), if_neg (by omega), if_neg (by omega), if_pos (show x = 15 by omega), if_neg (by omega)]
      rw [h'] at h
      exact h
    · have h' : actZ x z s (A i) = pR [x_ix] (c_save (nI (z / 2) &&& nI 1) (A i)) := by unfold actZ; rw [if_neg (by omega), if_neg (by omega), if_neg (by omega), if_neg (by omega), if_neg (by omega), if_neg (by omega), if_neg (by omega), if_neg (by omega), if_pos (show x = 15 by omega), if_pos (by omega)]
      rw [h'] at h
      exact h
  have H24 : act_s z st = z % 5 → M 24 [.ref i, .int (nI u), .int (nI v), .int (nI z), .int (nI st), .null, .null] [] (A, 1) := fun q => by
    refine h24 _ _ _ ?_
    simp (disch := omega) only [bL_act_24, ql_ci, ql_cl, ql_ild, ql_lld, ql_ald, ql_ist, ql_lst, ql_inc, ql_b2, ql_d2, ql_u1, ql_l2, ql_ld2, ql_lsh, ql_lcmp, ql_i2l, ql_l2i, ql_popi, ql_if1, ql_if2, ql_sw, ql_swn, ql_swc, ql_cN0, ql_cN1, ql_cN2, ql_cN3, ql_cN4, ql_cN5, ql_cN6, ql_cV, ql_ir, ql_zr, ql_lr, q_sh0, q_sh1, q_sh2, q_sh3, q_sh4, q_toL0, q_toL1, q_gl0, q_gls, q_sl0, q_sls, q_k10, q_k1s, q_lgi, q_lgr, q_lgl, q_lgn, pk_div, pk_rem, pk_rm, Bool.not_false, and_true, true_and, nz_2, nz_4, nz_5, nz_8, nz_10, nz_12, nz_14, nz_16, nz_40, nz_41, nz_64, nz_100, nz_1000, nz_1024, nz_4096, nz_10000, nz_100000, not_false_eq_true, lup_eq, lup_up, lup_self, lgc_lt, lgc_gt, lgc_le, lgc_ge, lgc_eq, lr_a1, lr_i1, lr_s1, lr_a2, lr_s2, lr_s3, lr_0, t32, v_about_st, v_about_fi, bI_0, nI_add, pk_mul, nI_lt', nI_le', nI_eq', nI_z, nI_p, nI_e0, nI_l0, nI_le0, nI_clamp, up_eq, up_ne, not_true_eq_false, Classical.not_not, false_implies, true_implies, false_and, and_false, or_true, true_or, Nat.add_zero, pk_m1, m1_0, m1_n, m1_p, Nat.zero_le, forall_const, Nat.zero_add, Nat.reduceAdd, Nat.reduceEqDiff, or_false, false_or, Nat.one_ne_zero]
    rw [← q]
    exact H34 _
  refine h0 _ _ _ ?_
  simp (disch := omega) only [bL_act_0, sp_L_about, hi, hA, e1, hz, ql_ci, ql_cl, ql_ild, ql_lld, ql_ald, ql_ist, ql_lst, ql_inc, ql_b2, ql_d2, ql_u1, ql_l2, ql_ld2, ql_lsh, ql_lcmp, ql_i2l, ql_l2i, ql_popi, ql_if1, ql_if2, ql_sw, ql_swn, ql_swc, ql_cN0, ql_cN1, ql_cN2, ql_cN3, ql_cN4, ql_cN5, ql_cN6, ql_cV, ql_ir, ql_zr, ql_lr, q_sh0, q_sh1, q_sh2, q_sh3, q_sh4, q_toL0, q_toL1, q_gl0, q_gls, q_sl0, q_sls, q_k10, q_k1s, q_lgi, q_lgr, q_lgl, q_lgn, pk_div, pk_rem, pk_rm, Bool.not_false, and_true, true_and, nz_2, nz_4, nz_5, nz_8, nz_10, nz_12, nz_14, nz_16, nz_40, nz_41, nz_64, nz_100, nz_1000, nz_1024, nz_4096, nz_10000, nz_100000, not_false_eq_true, lup_eq, lup_up, lup_self, lgc_lt, lgc_gt, lgc_le, lgc_ge, lgc_eq, lr_a1, lr_i1, lr_s1, lr_a2, lr_s2, lr_s3, lr_0, t32, v_about_st, v_about_fi, bI_0, nI_add, pk_mul, nI_lt', nI_le', nI_eq', nI_z, nI_p, nI_e0, nI_l0, nI_le0, nI_clamp, up_eq, up_ne, not_true_eq_false, Classical.not_not, false_implies, true_implies, false_and, and_false, or_true, true_or, Nat.add_zero, pk_m1, m1_0, m1_n, m1_p, Nat.zero_le, forall_const, Nat.zero_add, Nat.reduceAdd, Nat.reduceEqDiff, or_false, false_or, Nat.one_ne_zero]
  refine ⟨by omega, fun q => H24 (if_pos q), fun q => ⟨fun q2 => ⟨q, ?_⟩, fun q2 => H24 (by unfold act_s; rw [if_neg q, if_pos q2])⟩⟩
  rw [pk_rem hz9 (by omega) (by omega), show z % st = act_s z st by unfold act_s; rw [if_neg q, if_neg q2]]
  exact H34 _
