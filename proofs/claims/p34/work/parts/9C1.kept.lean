def inV (v lo hi : Int64) : Int32 := if lo ≤ v ∧ v ≤ hi then nI 1 else nI 0
theorem inV_ok {v lo hi : Int64} (h1 : lo ≤ v) (h2 : v ≤ hi) : inV v lo hi = nI 1 := if_pos ⟨h1, h2⟩
theorem inV_nn {a b c : Nat} (hb : b < 2 ^ 62) (h1 : a ≤ b) (h2 : b ≤ c) (hc : c < 2 ^ 62) : inV (lN b) (lN a) (lN c) = nI 1 := inV_ok (by rw [pk_lLE (by omega) (by omega)]; exact h1) (by rw [pk_lLE (by omega) (by omega)]; exact h2)
theorem lN_m1 {w : Nat} (h : w < 2 ^ 31) : ¬ lN w = -1 := fun q => by
  have e := congrArg Int64.toInt q
  rw [pk_lT (by omega)] at e
  have e1 : (-1 : Int64).toInt = -1 := by decide
  rw [e1] at e
  omega
def sp_L_in : la_S := fun As A K => match As with
  | [.long v, .long lo, .long hi] => K (some (.int (inV v lo hi))) A
  | _ => False
set_option maxRecDepth 20000 in
set_option maxHeartbeats 4000000 in
theorem ok_L_in {l : Launch} (hl : l.stackTraces = false) : la_Ok l yL_in (Cond.code yL_in cL_in 6 (some .boolean)) 1 (30 * 1) 0 sp_L_in := by
  intro Y A As K hw h
  unfold sp_L_in at h
  split at h
  rotate_left 1
  · exact h.elim
  next v lo hi =>
  refine vc_L_in hl hw  (Nat.le_of_ble_eq_true rfl) (fun M h0 h17 h18 => ?_)
  show M 0 [.long v, .null, .long lo, .null, .long hi, .null] [] (A, 0)
  have H18 : ∀ L, M 18 L [.int (inV v lo hi)] (A, 0) := fun L => by
    refine h18 _ _ _ ?_
    simp (disch := omega) only [bL_in_18, ql_ci, ql_cl, ql_ild, ql_lld, ql_ald, ql_ist, ql_lst, ql_inc, ql_b2, ql_d2, ql_u1, ql_l2, ql_ld2, ql_lsh, ql_lcmp, ql_i2l, ql_l2i, ql_popi, ql_if1, ql_if2, ql_sw, ql_swn, ql_swc, ql_cN0, ql_cN1, ql_cN2, ql_cN3, ql_cN4, ql_cN5, ql_cN6, ql_cV, ql_ir, ql_zr, ql_lr, q_sh0, q_sh1, q_sh2, q_sh3, q_sh4, q_toL0, q_toL1, q_gl0, q_gls, q_sl0, q_sls, q_k10, q_k1s, q_lgi, q_lgr, q_lgl, q_lgn, pk_div, pk_rem, pk_rm, Bool.not_false, and_true, true_and, nz_2, nz_4, nz_5, nz_8, nz_10, nz_12, nz_14, nz_16, nz_40, nz_41, nz_64, nz_100, nz_1000, nz_1024, nz_4096, nz_10000, nz_100000, not_false_eq_true, lup_eq, lup_up, lup_self, lgc_lt, lgc_gt, lgc_le, lgc_ge, lgc_eq, lr_a1, lr_i1, lr_s1, lr_a2, lr_s2, lr_s3, lr_0, t32, v_about_st, v_about_fi, bI_0, nI_add, pk_mul, nI_lt', nI_le', nI_eq', nI_z, nI_p, nI_e0, nI_l0, nI_le0, nI_clamp, up_eq, up_ne, not_true_eq_false, Classical.not_not, false_implies, true_implies, false_and, and_false, or_true, true_or, Nat.add_zero, pk_m1, m1_0, m1_n, m1_p, Nat.zero_le, forall_const, Nat.zero_add, Nat.reduceAdd, Nat.reduceEqDiff, or_false, false_or, Nat.one_ne_zero]
    refine ⟨?_, h⟩
    unfold inV
    split
    · exact Or.inr rfl
    · exact Or.inl rfl
  have H17 : ¬ (lo ≤ v ∧ v ≤ hi) → ∀ L, M 17 L [] (A, 0) := fun q L => by
    refine h17 _ _ _ ?_
    simp (disch := omega) only [bL_in_17, ql_ci, ql_cl, ql_ild, ql_lld, ql_ald, ql_ist, ql_lst, ql_inc, ql_b2, ql_d2, ql_u1, ql_l2, ql_ld2, ql_lsh, ql_lcmp, ql_i2l, ql_l2i, ql_popi, ql_if1, ql_if2, ql_sw, ql_swn, ql_swc, ql_cN0, ql_cN1, ql_cN2, ql_cN3, ql_cN4, ql_cN5, ql_cN6, ql_cV, ql_ir, ql_zr, ql_lr, q_sh0, q_sh1, q_sh2, q_sh3, q_sh4, q_toL0, q_toL1, q_gl0, q_gls, q_sl0, q_sls, q_k10, q_k1s, q_lgi, q_lgr, q_lgl, q_lgn, pk_div, pk_rem, pk_rm, Bool.not_false, and_true, true_and, nz_2, nz_4, nz_5, nz_8, nz_10, nz_12, nz_14, nz_16, nz_40, nz_41, nz_64, nz_100, nz_1000, nz_1024, nz_4096, nz_10000, nz_100000, not_false_eq_true, lup_eq, lup_up, lup_self, lgc_lt, lgc_gt, lgc_le, lgc_ge, lgc_eq, lr_a1, lr_i1, lr_s1, lr_a2, lr_s2, lr_s3, lr_0, t32, v_about_st, v_about_fi, bI_0, nI_add, pk_mul, nI_lt', nI_le', nI_eq', nI_z, nI_p, nI_e0, nI_l0, nI_le0, nI_clamp, up_eq, up_ne, not_true_eq_false, Classical.not_not, false_implies, true_implies, false_and, and_false, or_true, true_or, Nat.add_zero, pk_m1, m1_0, m1_n, m1_p, Nat.zero_le, forall_const, Nat.zero_add, Nat.reduceAdd, Nat.reduceEqDiff, or_false, false_or, Nat.one_ne_zero]
    have := H18 L
    unfold inV at this
    rw [if_neg q] at this
    exact this
  refine h0 _ _ _ ?_
  simp (disch := omega) only [bL_in_0, ql_ci, ql_cl, ql_ild, ql_lld, ql_ald, ql_ist, ql_lst, ql_inc, ql_b2, ql_d2, ql_u1, ql_l2, ql_ld2, ql_lsh, ql_lcmp, ql_i2l, ql_l2i, ql_popi, ql_if1, ql_if2, ql_sw, ql_swn, ql_swc, ql_cN0, ql_cN1, ql_cN2, ql_cN3, ql_cN4, ql_cN5, ql_cN6, ql_cV, ql_ir, ql_zr, ql_lr, q_sh0, q_sh1, q_sh2, q_sh3, q_sh4, q_toL0, q_toL1, q_gl0, q_gls, q_sl0, q_sls, q_k10, q_k1s, q_lgi, q_lgr, q_lgl, q_lgn, pk_div, pk_rem, pk_rm, Bool.not_false, and_true, true_and, nz_2, nz_4, nz_5, nz_8, nz_10, nz_12, nz_14, nz_16, nz_40, nz_41, nz_64, nz_100, nz_1000, nz_1024, nz_4096, nz_10000, nz_100000, not_false_eq_true, lup_eq, lup_up, lup_self, lgc_lt, lgc_gt, lgc_le, lgc_ge, lgc_eq, lr_a1, lr_i1, lr_s1, lr_a2, lr_s2, lr_s3, lr_0, t32, v_about_st, v_about_fi, bI_0, nI_add, pk_mul, nI_lt', nI_le', nI_eq', nI_z, nI_p, nI_e0, nI_l0, nI_le0, nI_clamp, up_eq, up_ne, not_true_eq_false, Classical.not_not, false_implies, true_implies, false_and, and_false, or_true, true_or, Nat.add_zero, pk_m1, m1_0, m1_n, m1_p, Nat.zero_le, forall_const, Nat.zero_add, Nat.reduceAdd, Nat.reduceEqDiff, or_false, false_or, Nat.one_ne_zero]
  refine ⟨fun q => H17 (fun c => absurd q (Int64.not_lt.mpr c.1)) _, fun q1 => ⟨fun q => H17 (fun c => absurd q (Int64.not_lt.mpr c.2)) _, fun q2 => ?_⟩⟩
  have := H18 [.long v, .null, .long lo, .null, .long hi, .null]
  unfold inV at this
  rw [if_pos ⟨Int64.not_lt.mp q1, Int64.not_lt.mp q2⟩] at this
  exact this
def sp_L_kept : la_S := fun As A K => match As with
  | [.ref i] => i < 2 ∧ (∃ k, GB k (A i) ∧ k < 1000) ∧ K (some (.int (nI 1))) A
  | _ => False
theorem l64_6 : (6 : Int64) = lN 6 := rfl
theorem l64_5' : (5 : Int64) = lN 5 := rfl
theorem l64_3' : (3 : Int64) = lN 3 := rfl
theorem l64_4' : (4 : Int64) = lN 4 := rfl
theorem l64_99' : (99 : Int64) = lN 99 := rfl
theorem l64_100' : (100 : Int64) = lN 100 := rfl
set_option maxRecDepth 20000 in
set_option maxHeartbeats 4000000 in
theorem ok_L_kept {l : Launch} (hl : l.stackTraces = false) : la_Ok l yL_kept (Cond.code yL_kept cL_kept 18 (some .boolean)) 9 (30 * 9) 2000 sp_L_kept := by
  intro Y A As K hw h
  unfold sp_L_kept at h
  split at h
  rotate_left 1
  · exact h.elim
  next i =>
  refine vc_L_kept hl hw (ok_L_about hl) (ok_L_in hl) (ok_L_station hl) (ok_L_stock hl) (ok_L_windOf hl) (ok_L_landing hl) (ok_L_finder hl) (ok_L_finds hl) (ok_L_back hl) (ok_L_gap hl) (Nat.le_of_ble_eq_true rfl) (fun M h0 h53 h54 h59 h76 h174 h192 h222 h229 h230 h235 h302 h311 h319 h325 h328 h407 h438 h439 h447 h457 h531 h532 h544 h641 h659 h671 h696 h700 h701 => ?_)
  show M 0 [.ref i, .null, .null, .null, .null, .null, .null, .null, .null, .null, .null, .null, .null, .null, .null, .null, .null, .null] [] (A, 0)
  obtain ⟨hi, ⟨kk, hG, hkk⟩, h⟩ := h
  have hA : okA (A i) := hG.okA hkk
  have hW := hG.WF.1
  have hB := hG.B hkk
  obtain ⟨e1, b1, e2, b2⟩ : (A i).1.1 1 = nI (cl ((A i).1.1 1)) ∧ cl ((A i).1.1 1) ≤ 5 ∧ (A i).1.1 2 = nI (cl ((A i).1.1 2)) ∧ cl ((A i).1.1 2) ≤ 6 := ⟨hW.2.2.1, hW.2.2.2.1, hW.2.2.2.2.1, hW.2.2.2.2.2.1⟩
  generalize ha : A i = a at *
  have B30 : su a.1.1 30 11 (cl (a.1.1 1)) = cl (a.1.1 4) := hG.kn.2.2.2.2.1.1
  have B31 : su a.1.1 31 11 (cl (a.1.1 1)) = cl (a.1.1 5) := hG.kn.2.2.2.2.1.2.1
  have B79 : su a.1.1 79 4 (cl (a.1.1 2)) = cl (a.1.1 7) + cl (a.1.1 8) + a.1.2.2.1.length + 0 := hG.kn.2.2.2.2.1.2.2.1
  have B4 : cl (a.1.1 4) = su a.1.1 79 4 (cl (a.1.1 2)) + cl (a.1.1 6) + 0 := hG.kn.2.2.2.2.1.2.2.2
  have Btot : tot a.1.1 (cl (a.1.1 1)) < 2 ^ 30 := Nat.lt_of_le_of_lt hG.kn.2.2.2.1.2.1 hB
  obtain ⟨B7, B8, B6, Bf, Br⟩ := hG.su79 hkk
  have Bg := (hG.gp hkk).2.1
  have hT := (hG.T hkk).2
  have hlen := hG.len
  have hgp := v_gp hG hkk
  have A2 := v_ab_2 hG hkk
  have A4 := v_ab_4 hG hkk
  have A5 := v_ab_5 hG hkk
  have A6 := v_ab_6 hG hkk
  have A7 := v_ab_7 hG hkk
  have A8 := v_ab_8 hG hkk
  have A9 := v_ab_9 hG
  have A11 := v_ab_11 hG hkk
  have Aend := v_bk_end hG
  have mS : ∀ s, s ≤ cl (a.1.1 1) → su a.1.1 30 11 s < 2 ^ 30 ∧ su a.1.1 31 11 s < 2 ^ 30 ∧ tot a.1.1 s < 2 ^ 30 := by
    have m : ∀ (b d m s : Nat), s ≤ m → su a.1.1 b d s ≤ su a.1.1 b d m := fun b d m s hs => by
      induction m with
      | zero => rw [show s = 0 by omega]; exact Nat.le_refl _
      | succ m ih =>
        by_cases q : s = m + 1
        · rw [q]; exact Nat.le_refl _
        · rw [su]; have := ih (by omega); omega
    have mt : ∀ (m s : Nat), s ≤ m → tot a.1.1 s ≤ tot a.1.1 m := fun m s hs => by
      induction m with
      | zero => rw [show s = 0 by omega]; exact Nat.le_refl _
      | succ m ih =>
        by_cases q : s = m + 1
        · rw [q]; exact Nat.le_refl _
        · rw [tot]; have := ih (by omega); omega
    intro s hs
    have q1 := m 30 11 _ s hs
    have q2 := m 31 11 _ s hs
    have q3 := mt _ s hs
    exact ⟨by omega, by omega, by omega⟩
  generalize hst : cl (a.1.1 1) = st at *
  generalize hfi : cl (a.1.1 2) = fi at *
  have H701 : ∀ L c, c ≤ 2000 → M 701 L [.int (nI 1)] (A, c) := fun L c hc => by
    refine h701 _ _ _ ?_
    simp (disch := omega) only [bL_kept_701, ql_ci, ql_cl, ql_ild, ql_lld, ql_ald, ql_ist, ql_lst, ql_inc, ql_b2, ql_d2, ql_u1, ql_l2, ql_ld2, ql_lsh, ql_lcmp, ql_i2l, ql_l2i, ql_popi, ql_if1, ql_if2, ql_sw, ql_swn, ql_swc, ql_cN0, ql_cN1, ql_cN2, ql_cN3, ql_cN4, ql_cN5, ql_cN6, ql_cV, ql_ir, ql_zr, ql_lr, q_sh0, q_sh1, q_sh2, q_sh3, q_sh4, q_toL0, q_toL1, q_gl0, q_gls, q_sl0, q_sls, q_k10, q_k1s, q_lgi, q_lgr, q_lgl, q_lgn, pk_div, pk_rem, pk_rm, Bool.not_false, and_true, true_and, nz_2, nz_4, nz_5, nz_8, nz_10, nz_12, nz_14, nz_16, nz_40, nz_41, nz_64, nz_100, nz_1000, nz_1024, nz_4096, nz_10000, nz_100000, not_false_eq_true, lup_eq, lup_up, lup_self, lgc_lt, lgc_gt, lgc_le, lgc_ge, lgc_eq, lr_a1, lr_i1, lr_s1, lr_a2, lr_s2, lr_s3, lr_0, t32, v_about_st, v_about_fi, bI_0, nI_add, pk_mul, nI_lt', nI_le', nI_eq', nI_z, nI_p, nI_e0, nI_l0, nI_le0, nI_clamp, up_eq, up_ne, not_true_eq_false, Classical.not_not, false_implies, true_implies, false_and, and_false, or_true, true_or, Nat.add_zero, pk_m1, m1_0, m1_n, m1_p, Nat.zero_le, forall_const, Nat.zero_add, Nat.reduceAdd, Nat.reduceEqDiff, or_false, false_or, Nat.one_ne_zero]
    exact ⟨hc, rfl, h⟩
  have H696 : ∀ L c, c ≤ 2000 → M 696 L [] (A, c) := fun L c hc => by
    refine h696 _ _ _ ?_
    simp (disch := omega) only [bL_kept_696, ql_ci, ql_cl, ql_ild, ql_lld, ql_ald, ql_ist, ql_lst, ql_inc, ql_b2, ql_d2, ql_u1, ql_l2, ql_ld2, ql_lsh, ql_lcmp, ql_i2l, ql_l2i, ql_popi, ql_if1, ql_if2, ql_sw, ql_swn, ql_swc, ql_cN0, ql_cN1, ql_cN2, ql_cN3, ql_cN4, ql_cN5, ql_cN6, ql_cV, ql_ir, ql_zr, ql_lr, q_sh0, q_sh1, q_sh2, q_sh3, q_sh4, q_toL0, q_toL1, q_gl0, q_gls, q_sl0, q_sls, q_k10, q_k1s, q_lgi, q_lgr, q_lgl, q_lgn, pk_div, pk_rem, pk_rm, Bool.not_false, and_true, true_and, nz_2, nz_4, nz_5, nz_8, nz_10, nz_12, nz_14, nz_16, nz_40, nz_41, nz_64, nz_100, nz_1000, nz_1024, nz_4096, nz_10000, nz_100000, not_false_eq_true, lup_eq, lup_up, lup_self, lgc_lt, lgc_gt, lgc_le, lgc_ge, lgc_eq, lr_a1, lr_i1, lr_s1, lr_a2, lr_s2, lr_s3, lr_0, t32, v_about_st, v_about_fi, bI_0, nI_add, pk_mul, nI_lt', nI_le', nI_eq', nI_z, nI_p, nI_e0, nI_l0, nI_le0, nI_clamp, up_eq, up_ne, not_true_eq_false, Classical.not_not, false_implies, true_implies, false_and, and_false, or_true, true_or, Nat.add_zero, pk_m1, m1_0, m1_n, m1_p, Nat.zero_le, forall_const, Nat.zero_add, Nat.reduceAdd, Nat.reduceEqDiff, or_false, false_or, Nat.one_ne_zero]
    exact H701 _ _ hc
  have H671 : ∀ x12 x13 x14 x15 x16 x17 b c, c ≤ 1900 → (cl (a.1.1 5) = 0 ∧ b = nI 1 ∨ 0 < cl (a.1.1 5) ∧ b = nI 0) → M 671 [.ref i, .int (nI st), .int (nI fi), .long (lN (cl (a.1.1 4))), .null, .long (lN (cl (a.1.1 5))), .null, .long (lN (tot a.1.1 st)), .null, .long (lN (su a.1.1 79 4 fi)), .null, .int (nI 1), x12, x13, x14, x15, x16, x17] [.int b, .int b] (A, c) := fun x12 x13 x14 x15 x16 x17 b c hc hb => by
    refine h671 _ _ _ ?_
    simp (disch := omega) only [bL_kept_671, sp_L_gap, sp_L_about, hi, hA, ha, A2, ql_ci, ql_cl, ql_ild, ql_lld, ql_ald, ql_ist, ql_lst, ql_inc, ql_b2, ql_d2, ql_u1, ql_l2, ql_ld2, ql_lsh, ql_lcmp, ql_i2l, ql_l2i, ql_popi, ql_if1, ql_if2, ql_sw, ql_swn, ql_swc, ql_cN0, ql_cN1, ql_cN2, ql_cN3, ql_cN4, ql_cN5, ql_cN6, ql_cV, ql_ir, ql_zr, ql_lr, q_sh0, q_sh1, q_sh2, q_sh3, q_sh4, q_toL0, q_toL1, q_gl0, q_gls, q_sl0, q_sls, q_k10, q_k1s, q_lgi, q_lgr, q_lgl, q_lgn, pk_div, pk_rem, pk_rm, Bool.not_false, and_true, true_and, nz_2, nz_4, nz_5, nz_8, nz_10, nz_12, nz_14, nz_16, nz_40, nz_41, nz_64, nz_100, nz_1000, nz_1024, nz_4096, nz_10000, nz_100000, not_false_eq_true, lup_eq, lup_up, lup_self, lgc_lt, lgc_gt, lgc_le, lgc_ge, lgc_eq, lr_a1, lr_i1, lr_s1, lr_a2, lr_s2, lr_s3, lr_0, t32, v_about_st, v_about_fi, bI_0, nI_add, pk_mul, nI_lt', nI_le', nI_eq', nI_z, nI_p, nI_e0, nI_l0, nI_le0, nI_clamp, up_eq, up_ne, not_true_eq_false, Classical.not_not, false_implies, true_implies, false_and, and_false, or_true, true_or, Nat.add_zero, pk_m1, m1_0, m1_n, m1_p, Nat.zero_le, forall_const, Nat.zero_add, Nat.reduceAdd, Nat.reduceEqDiff, or_false, false_or, Nat.one_ne_zero]
    refine ⟨fun _ => H696 _ _ (by omega), fun q => ?_⟩
    rw [pk_lLT (by omega) (by omega)] at q
    rcases hgp with ⟨g1, g2⟩ | ⟨g1, w, g2, g3⟩
    · omega
    · rw [g3, pk_lLE (by omega) (by omega)]
      exact ⟨by omega, by omega, fun q2 => absurd q2 (by omega), fun _ => H696 _ _ (by omega)⟩
  have H659 : ∀ x12 x13 x14 x15 x16 x17 b c, c ≤ 1900 → (cl (a.1.1 5) = 0 ∧ b = nI 1 ∨ 0 < cl (a.1.1 5) ∧ b = nI 0) → M 659 [.ref i, .int (nI st), .int (nI fi), .long (lN (cl (a.1.1 4))), .null, .long (lN (cl (a.1.1 5))), .null, .long (lN (tot a.1.1 st)), .null, .long (lN (su a.1.1 79 4 fi)), .null, .int (nI 1), x12, x13, x14, x15, x16, x17] [.int b] (A, c) := fun x12 x13 x14 x15 x16 x17 b c hc hb => by
    refine h659 _ _ _ ?_
    simp (disch := omega) only [bL_kept_659, pk_lEQ, ql_ci, ql_cl, ql_ild, ql_lld, ql_ald, ql_ist, ql_lst, ql_inc, ql_b2, ql_d2, ql_u1, ql_l2, ql_ld2, ql_lsh, ql_lcmp, ql_i2l, ql_l2i, ql_popi, ql_if1, ql_if2, ql_sw, ql_swn, ql_swc, ql_cN0, ql_cN1, ql_cN2, ql_cN3, ql_cN4, ql_cN5, ql_cN6, ql_cV, ql_ir, ql_zr, ql_lr, q_sh0, q_sh1, q_sh2, q_sh3, q_sh4, q_toL0, q_toL1, q_gl0, q_gls, q_sl0, q_sls, q_k10, q_k1s, q_lgi, q_lgr, q_lgl, q_lgn, pk_div, pk_rem, pk_rm, Bool.not_false, and_true, true_and, nz_2, nz_4, nz_5, nz_8, nz_10, nz_12, nz_14, nz_16, nz_40, nz_41, nz_64, nz_100, nz_1000, nz_1024, nz_4096, nz_10000, nz_100000, not_false_eq_true, lup_eq, lup_up, lup_self, lgc_lt, lgc_gt, lgc_le, lgc_ge, lgc_eq, lr_a1, lr_i1, lr_s1, lr_a2, lr_s2, lr_s3, lr_0, t32, v_about_st, v_about_fi, bI_0, nI_add, pk_mul, nI_lt', nI_le', nI_eq', nI_z, nI_p, nI_e0, nI_l0, nI_le0, nI_clamp, up_eq, up_ne, not_true_eq_false, Classical.not_not, false_implies, true_implies, false_and, and_false, or_true, true_or, Nat.add_zero, pk_m1, m1_0, m1_n, m1_p, Nat.zero_le, forall_const, Nat.zero_add, Nat.reduceAdd, Nat.reduceEqDiff, or_false, false_or, Nat.one_ne_zero]
    rcases hb with ⟨g1, rfl⟩ | ⟨g1, rfl⟩
    · exact ⟨fun q => absurd g1 q, fun _ => H671 _ _ _ _ _ _ _ _ hc (Or.inl ⟨g1, rfl⟩)⟩
    · exact ⟨fun _ => H671 _ _ _ _ _ _ _ _ hc (Or.inr ⟨g1, rfl⟩), fun q => by omega⟩
  have H641 : ∀ x12 x13 x14 x15 x16 x17 c, c ≤ 1890 → M 641 [.ref i, .int (nI st), .int (nI fi), .long (lN (cl (a.1.1 4))), .null, .long (lN (cl (a.1.1 5))), .null, .long (lN (tot a.1.1 st)), .null, .long (lN (su a.1.1 79 4 fi)), .null, .int (nI 1), x12, x13, x14, x15, x16, x17] [] (A, c) := fun x12 x13 x14 x15 x16 x17 c hc => by
    refine h641 _ _ _ ?_
    rcases hgp with ⟨g1, g2⟩ | ⟨g1, w, g2, g3⟩
    · simp (disch := omega) only [bL_kept_641, sp_L_gap, hi, hA, ha, g2, ql_ci, ql_cl, ql_ild, ql_lld, ql_ald, ql_ist, ql_lst, ql_inc, ql_b2, ql_d2, ql_u1, ql_l2, ql_ld2, ql_lsh, ql_lcmp, ql_i2l, ql_l2i, ql_popi, ql_if1, ql_if2, ql_sw, ql_swn, ql_swc, ql_cN0, ql_cN1, ql_cN2, ql_cN3, ql_cN4, ql_cN5, ql_cN6, ql_cV, ql_ir, ql_zr, ql_lr, q_sh0, q_sh1, q_sh2, q_sh3, q_sh4, q_toL0, q_toL1, q_gl0, q_gls, q_sl0, q_sls, q_k10, q_k1s, q_lgi, q_lgr, q_lgl, q_lgn, pk_div, pk_rem, pk_rm, Bool.not_false, and_true, true_and, nz_2, nz_4, nz_5, nz_8, nz_10, nz_12, nz_14, nz_16, nz_40, nz_41, nz_64, nz_100, nz_1000, nz_1024, nz_4096, nz_10000, nz_100000, not_false_eq_true, lup_eq, lup_up, lup_self, lgc_lt, lgc_gt, lgc_le, lgc_ge, lgc_eq, lr_a1, lr_i1, lr_s1, lr_a2, lr_s2, lr_s3, lr_0, t32, v_about_st, v_about_fi, bI_0, nI_add, pk_mul, nI_lt', nI_le', nI_eq', nI_z, nI_p, nI_e0, nI_l0, nI_le0, nI_clamp, up_eq, up_ne, not_true_eq_false, Classical.not_not, false_implies, true_implies, false_and, and_false, or_true, true_or, Nat.add_zero, pk_m1, m1_0, m1_n, m1_p, Nat.zero_le, forall_const, Nat.zero_add, Nat.reduceAdd, Nat.reduceEqDiff, or_false, false_or, Nat.one_ne_zero]
      exact ⟨by omega, H659 _ _ _ _ _ _ _ _ (by omega) (Or.inl ⟨g1, rfl⟩)⟩
    · have g4 := lN_m1 (w := w) (by omega)
      simp (disch := omega) only [bL_kept_641, sp_L_gap, hi, hA, ha, g3, g4, ql_ci, ql_cl, ql_ild, ql_lld, ql_ald, ql_ist, ql_lst, ql_inc, ql_b2, ql_d2, ql_u1, ql_l2, ql_ld2, ql_lsh, ql_lcmp, ql_i2l, ql_l2i, ql_popi, ql_if1, ql_if2, ql_sw, ql_swn, ql_swc, ql_cN0, ql_cN1, ql_cN2, ql_cN3, ql_cN4, ql_cN5, ql_cN6, ql_cV, ql_ir, ql_zr, ql_lr, q_sh0, q_sh1, q_sh2, q_sh3, q_sh4, q_toL0, q_toL1, q_gl0, q_gls, q_sl0, q_sls, q_k10, q_k1s, q_lgi, q_lgr, q_lgl, q_lgn, pk_div, pk_rem, pk_rm, Bool.not_false, and_true, true_and, nz_2, nz_4, nz_5, nz_8, nz_10, nz_12, nz_14, nz_16, nz_40, nz_41, nz_64, nz_100, nz_1000, nz_1024, nz_4096, nz_10000, nz_100000, not_false_eq_true, lup_eq, lup_up, lup_self, lgc_lt, lgc_gt, lgc_le, lgc_ge, lgc_eq, lr_a1, lr_i1, lr_s1, lr_a2, lr_s2, lr_s3, lr_0, t32, v_about_st, v_about_fi, bI_0, nI_add, pk_mul, nI_lt', nI_le', nI_eq', nI_z, nI_p, nI_e0, nI_l0, nI_le0, nI_clamp, up_eq, up_ne, not_true_eq_false, Classical.not_not, false_implies, true_implies, false_and, and_false, or_true, true_or, Nat.add_zero, pk_m1, m1_0, m1_n, m1_p, Nat.zero_le, forall_const, Nat.zero_add, Nat.reduceAdd, Nat.reduceEqDiff, or_false, false_or, Nat.one_ne_zero]
      exact ⟨by omega, H659 _ _ _ _ _ _ _ _ (by omega) (Or.inr ⟨g1, rfl⟩)⟩
  have H544 : ∀ x12 x13 x14 x15 x16 x17 c, c ≤ 1800 → M 544 [.ref i, .int (nI st), .int (nI fi), .long (lN (cl (a.1.1 4))), .null, .long (lN (cl (a.1.1 5))), .null, .long (lN (tot a.1.1 st)), .null, .long (lN (su a.1.1 79 4 fi)), .null, .int (nI 1), x12, x13, x14, x15, x16, x17] [] (A, c) := fun x12 x13 x14 x15 x16 x17 c hc => by
    refine h544 _ _ _ ?_
    have f1 : cl (a.1.1 7) + cl (a.1.1 8) + a.1.2.2.1.length = su a.1.1 79 4 fi := by omega
    have f2 : su a.1.1 79 4 fi + cl (a.1.1 6) = cl (a.1.1 4) := by omega
    simp (disch := omega) only [bL_kept_544, sp_L_about, sp_L_back, hi, hA, ha, A4, A5, A6, A7, A8, A9, A11, lN_add, lN_i, f1, f2, Aend, ql_ci, ql_cl, ql_ild, ql_lld, ql_ald, ql_ist, ql_lst, ql_inc, ql_b2, ql_d2, ql_u1, ql_l2, ql_ld2, ql_lsh, ql_lcmp, ql_i2l, ql_l2i, ql_popi, ql_if1, ql_if2, ql_sw, ql_swn, ql_swc, ql_cN0, ql_cN1, ql_cN2, ql_cN3, ql_cN4, ql_cN5, ql_cN6, ql_cV, ql_ir, ql_zr, ql_lr, q_sh0, q_sh1, q_sh2, q_sh3, q_sh4, q_toL0, q_toL1, q_gl0, q_gls, q_sl0, q_sls, q_k10, q_k1s, q_lgi, q_lgr, q_lgl, q_lgn, pk_div, pk_rem, pk_rm, Bool.not_false, and_true, true_and, nz_2, nz_4, nz_5, nz_8, nz_10, nz_12, nz_14, nz_16, nz_40, nz_41, nz_64, nz_100, nz_1000, nz_1024, nz_4096, nz_10000, nz_100000, not_false_eq_true, lup_eq, lup_up, lup_self, lgc_lt, lgc_gt, lgc_le, lgc_ge, lgc_eq, lr_a1, lr_i1, lr_s1, lr_a2, lr_s2, lr_s3, lr_0, t32, v_about_st, v_about_fi, bI_0, nI_add, pk_mul, nI_lt', nI_le', nI_eq', nI_z, nI_p, nI_e0, nI_l0, nI_le0, nI_clamp, up_eq, up_ne, not_true_eq_false, Classical.not_not, false_implies, true_implies, false_and, and_false, or_true, true_or, Nat.add_zero, pk_m1, m1_0, m1_n, m1_p, Nat.zero_le, forall_const, Nat.zero_add, Nat.reduceAdd, Nat.reduceEqDiff, or_false, false_or, Nat.one_ne_zero]
    repeat' first
      | assumption
      | omega
      | (exact H641 _ _ _ _ _ _ _ (by omega))
      | refine And.intro ?_ ?_
      | (intro (_ : _); first | (exfalso; omega) | skip)
  have H457 : ∀ d k w x15 x16 x17 c, k + d = a.1.2.2.1.length → c + 5 * d ≤ 1700 → cl (a.1.1 0) ≤ w → w ≤ 50000 → (∀ q x, k ≤ q → a.1.2.2.1[q]? = some x → w ≤ x.1) → M 457 [.ref i, .int (nI st), .int (nI fi), .long (lN (cl (a.1.1 4))), .null, .long (lN (cl (a.1.1 5))), .null, .long (lN (tot a.1.1 st)), .null, .long (lN (su a.1.1 79 4 fi)), .null, .int (nI 1), .long (lN w), .null, .int (nI k), x15, x16, x17] [] (A, c) := by
    intro d
    induction d with
    | zero =>
      intro k w x15 x16 x17 c hk hc h1 h2 h3
      refine h457 _ _ _ ?_
      simp (disch := omega) only [bL_kept_457, sp_L_about, hi, hA, ha, A9, nI_l, pk_lLE, ql_ci, ql_cl, ql_ild, ql_lld, ql_ald, ql_ist, ql_lst, ql_inc, ql_b2, ql_d2, ql_u1, ql_l2, ql_ld2, ql_lsh, ql_lcmp, ql_i2l, ql_l2i, ql_popi, ql_if1, ql_if2, ql_sw, ql_swn, ql_swc, ql_cN0, ql_cN1, ql_cN2, ql_cN3, ql_cN4, ql_cN5, ql_cN6, ql_cV, ql_ir, ql_zr, ql_lr, q_sh0, q_sh1, q_sh2, q_sh3, q_sh4, q_toL0, q_toL1, q_gl0, q_gls, q_sl0, q_sls, q_k10, q_k1s, q_lgi, q_lgr, q_lgl, q_lgn, pk_div, pk_rem, pk_rm, Bool.not_false, and_true, true_and, nz_2, nz_4, nz_5, nz_8, nz_10, nz_12, nz_14, nz_16, nz_40, nz_41, nz_64, nz_100, nz_1000, nz_1024, nz_4096, nz_10000, nz_100000, not_false_eq_true, lup_eq, lup_up, lup_self, lgc_lt, lgc_gt, lgc_le, lgc_ge, lgc_eq, lr_a1, lr_i1, lr_s1, lr_a2, lr_s2, lr_s3, lr_0, t32, v_about_st, v_about_fi, bI_0, nI_add, pk_mul, nI_lt', nI_le', nI_eq', nI_z, nI_p, nI_e0, nI_l0, nI_le0, nI_clamp, up_eq, up_ne, not_true_eq_false, Classical.not_not, false_implies, true_implies, false_and, and_false, or_true, true_or, Nat.add_zero, pk_m1, m1_0, m1_n, m1_p, Nat.zero_le, forall_const, Nat.zero_add, Nat.reduceAdd, Nat.reduceEqDiff, or_false, false_or, Nat.one_ne_zero]
      exact ⟨by omega, fun _ => H544 _ _ _ _ _ _ _ (by omega), fun q => absurd (show a.1.2.2.1.length ≤ k by omega) q⟩
    | succ d ih =>
      intro k w x15 x16 x17 c hk hc h1 h2 h3
      obtain ⟨w', s', m', g0, g1, g2, g3, g4, g5, g6, g7, g8⟩ := v_bk hG hkk (q := k) (by omega)
      rw [hst] at g3
      have hww : w ≤ w' := h3 k _ (Nat.le_refl _) g0
      have i1 := inV_nn (a := 0) (b := s') (c := st - 1) (by omega) (by omega) (by omega) (by omega)
      have i2 := inV_nn (a := 1) (b := m') (c := 4) (by omega) (by omega) (by omega) (by omega)
      have e3 : (nI st - nI 1).toInt64 = lN (st - 1) := by rw [pk_sub (by omega)]; exact nI_l (by omega)
      refine h457 _ _ _ ?_
      simp (disch := omega) only [bL_kept_457, sp_L_about, sp_L_back, sp_L_in, hi, hA, ha, A9, nI_l, pk_lLE, pk_lLT, g6, g7, g8, e3, i1, l64_4', i2, ql_ci, ql_cl, ql_ild, ql_lld, ql_ald, ql_ist, ql_lst, ql_inc, ql_b2, ql_d2, ql_u1, ql_l2, ql_ld2, ql_lsh, ql_lcmp, ql_i2l, ql_l2i, ql_popi, ql_if1, ql_if2, ql_sw, ql_swn, ql_swc, ql_cN0, ql_cN1, ql_cN2, ql_cN3, ql_cN4, ql_cN5, ql_cN6, ql_cV, ql_ir, ql_zr, ql_lr, q_sh0, q_sh1, q_sh2, q_sh3, q_sh4, q_toL0, q_toL1, q_gl0, q_gls, q_sl0, q_sls, q_k10, q_k1s, q_lgi, q_lgr, q_lgl, q_lgn, pk_div, pk_rem, pk_rm, Bool.not_false, and_true, true_and, nz_2, nz_4, nz_5, nz_8, nz_10, nz_12, nz_14, nz_16, nz_40, nz_41, nz_64, nz_100, nz_1000, nz_1024, nz_4096, nz_10000, nz_100000, not_false_eq_true, lup_eq, lup_up, lup_self, lgc_lt, lgc_gt, lgc_le, lgc_ge, lgc_eq, lr_a1, lr_i1, lr_s1, lr_a2, lr_s2, lr_s3, lr_0, t32, v_about_st, v_about_fi, bI_0, nI_add, pk_mul, nI_lt', nI_le', nI_eq', nI_z, nI_p, nI_e0, nI_l0, nI_le0, nI_clamp, up_eq, up_ne, not_true_eq_false, Classical.not_not, false_implies, true_implies, false_and, and_false, or_true, true_or, Nat.add_zero, pk_m1, m1_0, m1_n, m1_p, Nat.zero_le, forall_const, Nat.zero_add, Nat.reduceAdd, Nat.reduceEqDiff, or_false, false_or, Nat.one_ne_zero]
      refine ⟨by omega, fun q => absurd q (by omega), fun _ => ⟨by omega, fun q => absurd q (by omega), fun _ => ?_⟩⟩
      refine ⟨by omega, by omega, by omega, by omega, ?_⟩
      refine h532 _ _ _ ?_
      simp (disch := omega) only [bL_kept_532, ql_ci, ql_cl, ql_ild, ql_lld, ql_ald, ql_ist, ql_lst, ql_inc, ql_b2, ql_d2, ql_u1, ql_l2, ql_ld2, ql_lsh, ql_lcmp, ql_i2l, ql_l2i, ql_popi, ql_if1, ql_if2, ql_sw, ql_swn, ql_swc, ql_cN0, ql_cN1, ql_cN2, ql_cN3, ql_cN4, ql_cN5, ql_cN6, ql_cV, ql_ir, ql_zr, ql_lr, q_sh0, q_sh1, q_sh2, q_sh3, q_sh4, q_toL0, q_toL1, q_gl0, q_gls, q_sl0, q_sls, q_k10, q_k1s, q_lgi, q_lgr, q_lgl, q_lgn, pk_div, pk_rem, pk_rm, Bool.not_false, and_true, true_and, nz_2, nz_4, nz_5, nz_8, nz_10, nz_12, nz_14, nz_16, nz_40, nz_41, nz_64, nz_100, nz_1000, nz_1024, nz_4096, nz_10000, nz_100000, not_false_eq_true, lup_eq, lup_up, lup_self, lgc_lt, lgc_gt, lgc_le, lgc_ge, lgc_eq, lr_a1, lr_i1, lr_s1, lr_a2, lr_s2, lr_s3, lr_0, t32, v_about_st, v_about_fi, bI_0, nI_add, pk_mul, nI_lt', nI_le', nI_eq', nI_z, nI_p, nI_e0, nI_l0, nI_le0, nI_clamp, up_eq, up_ne, not_true_eq_false, Classical.not_not, false_implies, true_implies, false_and, and_false, or_true, true_or, Nat.add_zero, pk_m1, m1_0, m1_n, m1_p, Nat.zero_le, forall_const, Nat.zero_add, Nat.reduceAdd, Nat.reduceEqDiff, or_false, false_or, Nat.one_ne_zero]
      refine ih (k + 1) w' _ _ _ _ (by omega) (by omega) (by omega) (by omega) (fun q x hq hx => ?_)
      have hs := hG.WF.2.2.2.1.2.1
      obtain ⟨q1, q2⟩ := List.getElem?_eq_some_iff.mp hx
      obtain ⟨q3, q4⟩ := List.getElem?_eq_some_iff.mp g0
      have := List.pairwise_iff_getElem.mp hs k q q3 q1 (by omega)
      rw [q4, q2] at this
      exact this
  have H447 : ∀ x12 x13 x14 x15 x16 x17 c, c ≤ 900 → M 447 [.ref i, .int (nI st), .int (nI fi), .long (lN (cl (a.1.1 4))), .null, .long (lN (cl (a.1.1 5))), .null, .long (lN (tot a.1.1 st)), .null, .long (lN (su a.1.1 79 4 fi)), .null, .int (nI 1), .int x12, x13, x14, x15, x16, x17] [] (A, c) := fun x12 x13 x14 x15 x16 x17 c hc => by
    refine h447 _ _ _ ?_
    simp (disch := omega) only [bL_kept_447, sp_L_about, hi, hA, ha, A2, ql_ci, ql_cl, ql_ild, ql_lld, ql_ald, ql_ist, ql_lst, ql_inc, ql_b2, ql_d2, ql_u1, ql_l2, ql_ld2, ql_lsh, ql_lcmp, ql_i2l, ql_l2i, ql_popi, ql_if1, ql_if2, ql_sw, ql_swn, ql_swc, ql_cN0, ql_cN1, ql_cN2, ql_cN3, ql_cN4, ql_cN5, ql_cN6, ql_cV, ql_ir, ql_zr, ql_lr, q_sh0, q_sh1, q_sh2, q_sh3, q_sh4, q_toL0, q_toL1, q_gl0, q_gls, q_sl0, q_sls, q_k10, q_k1s, q_lgi, q_lgr, q_lgl, q_lgn, pk_div, pk_rem, pk_rm, Bool.not_false, and_true, true_and, nz_2, nz_4, nz_5, nz_8, nz_10, nz_12, nz_14, nz_16, nz_40, nz_41, nz_64, nz_100, nz_1000, nz_1024, nz_4096, nz_10000, nz_100000, not_false_eq_true, lup_eq, lup_up, lup_self, lgc_lt, lgc_gt, lgc_le, lgc_ge, lgc_eq, lr_a1, lr_i1, lr_s1, lr_a2, lr_s2, lr_s3, lr_0, t32, v_about_st, v_about_fi, bI_0, nI_add, pk_mul, nI_lt', nI_le', nI_eq', nI_z, nI_p, nI_e0, nI_l0, nI_le0, nI_clamp, up_eq, up_ne, not_true_eq_false, Classical.not_not, false_implies, true_implies, false_and, and_false, or_true, true_or, Nat.add_zero, pk_m1, m1_0, m1_n, m1_p, Nat.zero_le, forall_const, Nat.zero_add, Nat.reduceAdd, Nat.reduceEqDiff, or_false, false_or, Nat.one_ne_zero]
    refine ⟨by omega, H457 a.1.2.2.1.length 0 _ _ _ _ _ (by omega) (by omega) (Nat.le_refl _) (by omega) (fun q x _ hx => ?_)⟩
    exact (by have := (hG.WF.2.2.2.1.1 x (List.mem_of_getElem? hx)).1; omega)
  have H328 : ∀ d f x13 x14 x15 x16 x17 c, f + d = fi → c + 10 * d ≤ 800 → M 328 [.ref i, .int (nI st), .int (nI fi), .long (lN (cl (a.1.1 4))), .null, .long (lN (cl (a.1.1 5))), .null, .long (lN (tot a.1.1 st)), .null, .long (lN (su a.1.1 79 4 f)), .null, .int (nI 1), .int (nI f), x13, x14, x15, x16, x17] [] (A, c) := by
    intro d
    induction d with
    | zero =>
      intro f x13 x14 x15 x16 x17 c hf hc
      obtain rfl : f = fi := by omega
      refine h328 _ _ _ ?_
      simp (disch := omega) only [bL_kept_328, ql_ci, ql_cl, ql_ild, ql_lld, ql_ald, ql_ist, ql_lst, ql_inc, ql_b2, ql_d2, ql_u1, ql_l2, ql_ld2, ql_lsh, ql_lcmp, ql_i2l, ql_l2i, ql_popi, ql_if1, ql_if2, ql_sw, ql_swn, ql_swc, ql_cN0, ql_cN1, ql_cN2, ql_cN3, ql_cN4, ql_cN5, ql_cN6, ql_cV, ql_ir, ql_zr, ql_lr, q_sh0, q_sh1, q_sh2, q_sh3, q_sh4, q_toL0, q_toL1, q_gl0, q_gls, q_sl0, q_sls, q_k10, q_k1s, q_lgi, q_lgr, q_lgl, q_lgn, pk_div, pk_rem, pk_rm, Bool.not_false, and_true, true_and, nz_2, nz_4, nz_5, nz_8, nz_10, nz_12, nz_14, nz_16, nz_40, nz_41, nz_64, nz_100, nz_1000, nz_1024, nz_4096, nz_10000, nz_100000, not_false_eq_true, lup_eq, lup_up, lup_self, lgc_lt, lgc_gt, lgc_le, lgc_ge, lgc_eq, lr_a1, lr_i1, lr_s1, lr_a2, lr_s2, lr_s3, lr_0, t32, v_about_st, v_about_fi, bI_0, nI_add, pk_mul, nI_lt', nI_le', nI_eq', nI_z, nI_p, nI_e0, nI_l0, nI_le0, nI_clamp, up_eq, up_ne, not_true_eq_false, Classical.not_not, false_implies, true_implies, false_and, and_false, or_true, true_or, Nat.add_zero, pk_m1, m1_0, m1_n, m1_p, Nat.zero_le, forall_const, Nat.zero_add, Nat.reduceAdd, Nat.reduceEqDiff, or_false, false_or, Nat.one_ne_zero]
      exact ⟨fun _ => H447 _ _ _ _ _ _ _ (by omega), fun q => absurd (Nat.le_refl _) q⟩
    | succ d ih =>
      intro f x13 x14 x15 x16 x17 c hf hc
      have hff : f < cl (a.1.1 2) := by omega
      obtain ⟨p, hp, ep, g0, g4⟩ := fi_facts hG hff
      obtain ⟨b, g5, hb, eb⟩ := v_fds hG hff hp ep
      have g3 := v_fi_3 hG hkk hff
      obtain ⟨p2, hp2, ep2, g6, -⟩ := fi_facts hG (show b < cl (a.1.1 2) by omega)
      obtain rfl : p2 = p := by rw [ep2] at eb; exact nI_inj (by omega) (by omega) eb
      have H439 : ∀ x13 x14 x15 x16 x17 c', c' ≤ c + 10 → M 439 [.ref i, .int (nI st), .int (nI fi), .long (lN (cl (a.1.1 4))), .null, .long (lN (cl (a.1.1 5))), .null, .long (lN (tot a.1.1 st)), .null, .long (lN (su a.1.1 79 4 (f + 1))), .null, .int (nI 1), .int (nI f), x13, x14, x15, x16, x17] [.int (nI 1)] (A, c') := fun x13 x14 x15 x16 x17 c' hc' => by
        refine h439 _ _ _ ?_
        simp (disch := omega) only [bL_kept_439, ql_ci, ql_cl, ql_ild, ql_lld, ql_ald, ql_ist, ql_lst, ql_inc, ql_b2, ql_d2, ql_u1, ql_l2, ql_ld2, ql_lsh, ql_lcmp, ql_i2l, ql_l2i, ql_popi, ql_if1, ql_if2, ql_sw, ql_swn, ql_swc, ql_cN0, ql_cN1, ql_cN2, ql_cN3, ql_cN4, ql_cN5, ql_cN6, ql_cV, ql_ir, ql_zr, ql_lr, q_sh0, q_sh1, q_sh2, q_sh3, q_sh4, q_toL0, q_toL1, q_gl0, q_gls, q_sl0, q_sls, q_k10, q_k1s, q_lgi, q_lgr, q_lgl, q_lgn, pk_div, pk_rem, pk_rm, Bool.not_false, and_true, true_and, nz_2, nz_4, nz_5, nz_8, nz_10, nz_12, nz_14, nz_16, nz_40, nz_41, nz_64, nz_100, nz_1000, nz_1024, nz_4096, nz_10000, nz_100000, not_false_eq_true, lup_eq, lup_up, lup_self, lgc_lt, lgc_gt, lgc_le, lgc_ge, lgc_eq, lr_a1, lr_i1, lr_s1, lr_a2, lr_s2, lr_s3, lr_0, t32, v_about_st, v_about_fi, bI_0, nI_add, pk_mul, nI_lt', nI_le', nI_eq', nI_z, nI_p, nI_e0, nI_l0, nI_le0, nI_clamp, up_eq, up_ne, not_true_eq_false, Classical.not_not, false_implies, true_implies, false_and, and_false, or_true, true_or, Nat.add_zero, pk_m1, m1_0, m1_n, m1_p, Nat.zero_le, forall_const, Nat.zero_add, Nat.reduceAdd, Nat.reduceEqDiff, or_false, false_or, Nat.one_ne_zero]
        exact ih (f + 1) _ _ _ _ _ _ (by omega) (by omega)
      have H407 : ∀ x13 c', c' ≤ c + 8 → M 407 [.ref i, .int (nI st), .int (nI fi), .long (lN (cl (a.1.1 4))), .null, .long (lN (cl (a.1.1 5))), .null, .long (lN (tot a.1.1 st)), .null, .long (lN (su a.1.1 79 4 (f + 1))), .null, .int (nI 1), .int (nI f), .int x13, .int (nI p2), .int (nI b), x16, x17] [] (A, c') := fun x13 c' hc' => by
        refine h407 _ _ _ ?_
        have nb := m1_ne (k := b) (by omega)
        simp (disch := omega) only [bL_kept_407, sp_L_finder, hi, hA, ha, nb, g6, nI_l, ql_ci, ql_cl, ql_ild, ql_lld, ql_ald, ql_ist, ql_lst, ql_inc, ql_b2, ql_d2, ql_u1, ql_l2, ql_ld2, ql_lsh, ql_lcmp, ql_i2l, ql_l2i, ql_popi, ql_if1, ql_if2, ql_sw, ql_swn, ql_swc, ql_cN0, ql_cN1, ql_cN2, ql_cN3, ql_cN4, ql_cN5, ql_cN6, ql_cV, ql_ir, ql_zr, ql_lr, q_sh0, q_sh1, q_sh2, q_sh3, q_sh4, q_toL0, q_toL1, q_gl0, q_gls, q_sl0, q_sls, q_k10, q_k1s, q_lgi, q_lgr, q_lgl, q_lgn, pk_div, pk_rem, pk_rm, Bool.not_false, and_true, true_and, nz_2, nz_4, nz_5, nz_8, nz_10, nz_12, nz_14, nz_16, nz_40, nz_41, nz_64, nz_100, nz_1000, nz_1024, nz_4096, nz_10000, nz_100000, not_false_eq_true, lup_eq, lup_up, lup_self, lgc_lt, lgc_gt, lgc_le, lgc_ge, lgc_eq, lr_a1, lr_i1, lr_s1, lr_a2, lr_s2, lr_s3, lr_0, t32, v_about_st, v_about_fi, bI_0, nI_add, pk_mul, nI_lt', nI_le', nI_eq', nI_z, nI_p, nI_e0, nI_l0, nI_le0, nI_clamp, up_eq, up_ne, not_true_eq_false, Classical.not_not, false_implies, true_implies, false_and, and_false, or_true, true_or, Nat.add_zero, pk_m1, m1_0, m1_n, m1_p, Nat.zero_le, forall_const, Nat.zero_add, Nat.reduceAdd, Nat.reduceEqDiff, or_false, false_or, Nat.one_ne_zero]
        exact ⟨by omega, fun q => absurd q (by omega), fun _ => H439 _ _ _ _ _ _ (by omega)⟩
      refine h328 _ _ _ ?_
      rcases hst0 : st with _ | st'
      · subst hst0
        have g4' : v_finder (nI f) (nI 4) a.1 = (-1 : Int32).toInt64 := by rw [g4, hst]; rfl
        simp (disch := omega) only [bL_kept_328, sp_L_finder, sp_L_finds, hi, hA, ha, g0, g3, g4', g5, lN_add, lN_i, ql_ci, ql_cl, ql_ild, ql_lld, ql_ald, ql_ist, ql_lst, ql_inc, ql_b2, ql_d2, ql_u1, ql_l2, ql_ld2, ql_lsh, ql_lcmp, ql_i2l, ql_l2i, ql_popi, ql_if1, ql_if2, ql_sw, ql_swn, ql_swc, ql_cN0, ql_cN1, ql_cN2, ql_cN3, ql_cN4, ql_cN5, ql_cN6, ql_cV, ql_ir, ql_zr, ql_lr, q_sh0, q_sh1, q_sh2, q_sh3, q_sh4, q_toL0, q_toL1, q_gl0, q_gls, q_sl0, q_sls, q_k10, q_k1s, q_lgi, q_lgr, q_lgl, q_lgn, pk_div, pk_rem, pk_rm, Bool.not_false, and_true, true_and, nz_2, nz_4, nz_5, nz_8, nz_10, nz_12, nz_14, nz_16, nz_40, nz_41, nz_64, nz_100, nz_1000, nz_1024, nz_4096, nz_10000, nz_100000, not_false_eq_true, lup_eq, lup_up, lup_self, lgc_lt, lgc_gt, lgc_le, lgc_ge, lgc_eq, lr_a1, lr_i1, lr_s1, lr_a2, lr_s2, lr_s3, lr_0, t32, v_about_st, v_about_fi, bI_0, nI_add, pk_mul, nI_lt', nI_le', nI_eq', nI_z, nI_p, nI_e0, nI_l0, nI_le0, nI_clamp, up_eq, up_ne, not_true_eq_false, Classical.not_not, false_implies, true_implies, false_and, and_false, or_true, true_or, Nat.add_zero, pk_m1, m1_0, m1_n, m1_p, Nat.zero_le, forall_const, Nat.zero_add, Nat.reduceAdd, Nat.reduceEqDiff, or_false, false_or, Nat.one_ne_zero]
        refine ⟨fun q => absurd q (by omega), fun _ => ⟨by omega, by omega, by omega, by omega, ?_⟩⟩
        exact H407 _ _ (by omega)
      · obtain ⟨x, hx⟩ := n_near_some (f := a.1.1) (p := nI p2) st (by omega)
        have hxl := n_near_lt _ _ hx
        have g4' : v_finder (nI f) (nI 4) a.1 = (nI x).toInt64 := by rw [g4, hst, hx]; rfl
        have i1 := inV_nn (a := 0) (b := x) (c := st - 1) (by omega) (by omega) (by omega) (by omega)
        have e3 : (nI st - nI 1).toInt64 = lN (st - 1) := by rw [pk_sub (by omega)]; exact nI_l (by omega)
        have n0 : ¬ nI st = 0 := by rw [nI_e0 (by omega)]; omega
        rw [← hst0]
        simp (disch := omega) only [bL_kept_328, sp_L_finder, sp_L_finds, sp_L_in, hi, hA, ha, g0, g3, g4', g5, lN_add, lN_i, n0, e3, nI_l, i1, ql_ci, ql_cl, ql_ild, ql_lld, ql_ald, ql_ist, ql_lst, ql_inc, ql_b2, ql_d2, ql_u1, ql_l2, ql_ld2, ql_lsh, ql_lcmp, ql_i2l, ql_l2i, ql_popi, ql_if1, ql_if2, ql_sw, ql_swn, ql_swc, ql_cN0, ql_cN1, ql_cN2, ql_cN3, ql_cN4, ql_cN5, ql_cN6, ql_cV, ql_ir, ql_zr, ql_lr, q_sh0, q_sh1, q_sh2, q_sh3, q_sh4, q_toL0, q_toL1, q_gl0, q_gls, q_sl0, q_sls, q_k10, q_k1s, q_lgi, q_lgr, q_lgl, q_lgn, pk_div, pk_rem, pk_rm, Bool.not_false, and_true, true_and, nz_2, nz_4, nz_5, nz_8, nz_10, nz_12, nz_14, nz_16, nz_40, nz_41, nz_64, nz_100, nz_1000, nz_1024, nz_4096, nz_10000, nz_100000, not_false_eq_true, lup_eq, lup_up, lup_self, lgc_lt, lgc_gt, lgc_le, lgc_ge, lgc_eq, lr_a1, lr_i1, lr_s1, lr_a2, lr_s2, lr_s3, lr_0, t32, v_about_st, v_about_fi, bI_0, nI_add, pk_mul, nI_lt', nI_le', nI_eq', nI_z, nI_p, nI_e0, nI_l0, nI_le0, nI_clamp, up_eq, up_ne, not_true_eq_false, Classical.not_not, false_implies, true_implies, false_and, and_false, or_true, true_or, Nat.add_zero, pk_m1, m1_0, m1_n, m1_p, Nat.zero_le, forall_const, Nat.zero_add, Nat.reduceAdd, Nat.reduceEqDiff, or_false, false_or, Nat.one_ne_zero]
        refine ⟨fun q => absurd q (by omega), fun _ => ⟨by omega, by omega, by omega, by omega, by omega, ?_⟩⟩
        exact H407 _ _ (by omega)
  have H325 : ∀ x12 x13 x14 x15 x16 x17 c, c ≤ 700 → M 325 [.ref i, .int (nI st), .int (nI fi), .long (lN (cl (a.1.1 4))), .null, .long (lN (cl (a.1.1 5))), .null, .long (lN (tot a.1.1 st)), .null, .long (lN (0)), .null, .int (nI 1), .int x12, x13, x14, x15, x16, x17] [] (A, c) := fun x12 x13 x14 x15 x16 x17 c hc => by
    refine h325 _ _ _ ?_
    simp (disch := omega) only [bL_kept_325, ql_ci, ql_cl, ql_ild, ql_lld, ql_ald, ql_ist, ql_lst, ql_inc, ql_b2, ql_d2, ql_u1, ql_l2, ql_ld2, ql_lsh, ql_lcmp, ql_i2l, ql_l2i, ql_popi, ql_if1, ql_if2, ql_sw, ql_swn, ql_swc, ql_cN0, ql_cN1, ql_cN2, ql_cN3, ql_cN4, ql_cN5, ql_cN6, ql_cV, ql_ir, ql_zr, ql_lr, q_sh0, q_sh1, q_sh2, q_sh3, q_sh4, q_toL0, q_toL1, q_gl0, q_gls, q_sl0, q_sls, q_k10, q_k1s, q_lgi, q_lgr, q_lgl, q_lgn, pk_div, pk_rem, pk_rm, Bool.not_false, and_true, true_and, nz_2, nz_4, nz_5, nz_8, nz_10, nz_12, nz_14, nz_16, nz_40, nz_41, nz_64, nz_100, nz_1000, nz_1024, nz_4096, nz_10000, nz_100000, not_false_eq_true, lup_eq, lup_up, lup_self, lgc_lt, lgc_gt, lgc_le, lgc_ge, lgc_eq, lr_a1, lr_i1, lr_s1, lr_a2, lr_s2, lr_s3, lr_0, t32, v_about_st, v_about_fi, bI_0, nI_add, pk_mul, nI_lt', nI_le', nI_eq', nI_z, nI_p, nI_e0, nI_l0, nI_le0, nI_clamp, up_eq, up_ne, not_true_eq_false, Classical.not_not, false_implies, true_implies, false_and, and_false, or_true, true_or, Nat.add_zero, pk_m1, m1_0, m1_n, m1_p, Nat.zero_le, forall_const, Nat.zero_add, Nat.reduceAdd, Nat.reduceEqDiff, or_false, false_or, Nat.one_ne_zero]
    exact H328 fi 0 _ _ _ _ _ c (by omega) (by omega)
  have H59 : ∀ d s x13 x14 x15 x16 x17 c, s + d = st → c + 60 * d ≤ 600 → M 59 [.ref i, .int (nI st), .int (nI fi), .long (lN (su a.1.1 30 11 s)), .null, .long (lN (su a.1.1 31 11 s)), .null, .long (lN (tot a.1.1 s)), .null, .long (lN (0)), .null, .int (nI 1), .int (nI s), x13, x14, x15, x16, x17] [] (A, c) := by
    intro d
    induction d with
    | zero =>
      intro s x13 x14 x15 x16 x17 c hs hc
      obtain rfl : s = st := by omega
      refine h59 _ _ _ ?_
      simp (disch := omega) only [bL_kept_59, ql_ci, ql_cl, ql_ild, ql_lld, ql_ald, ql_ist, ql_lst, ql_inc, ql_b2, ql_d2, ql_u1, ql_l2, ql_ld2, ql_lsh, ql_lcmp, ql_i2l, ql_l2i, ql_popi, ql_if1, ql_if2, ql_sw, ql_swn, ql_swc, ql_cN0, ql_cN1, ql_cN2, ql_cN3, ql_cN4, ql_cN5, ql_cN6, ql_cV, ql_ir, ql_zr, ql_lr, q_sh0, q_sh1, q_sh2, q_sh3, q_sh4, q_toL0, q_toL1, q_gl0, q_gls, q_sl0, q_sls, q_k10, q_k1s, q_lgi, q_lgr, q_lgl, q_lgn, pk_div, pk_rem, pk_rm, Bool.not_false, and_true, true_and, nz_2, nz_4, nz_5, nz_8, nz_10, nz_12, nz_14, nz_16, nz_40, nz_41, nz_64, nz_100, nz_1000, nz_1024, nz_4096, nz_10000, nz_100000, not_false_eq_true, lup_eq, lup_up, lup_self, lgc_lt, lgc_gt, lgc_le, lgc_ge, lgc_eq, lr_a1, lr_i1, lr_s1, lr_a2, lr_s2, lr_s3, lr_0, t32, v_about_st, v_about_fi, bI_0, nI_add, pk_mul, nI_lt', nI_le', nI_eq', nI_z, nI_p, nI_e0, nI_l0, nI_le0, nI_clamp, up_eq, up_ne, not_true_eq_false, Classical.not_not, false_implies, true_implies, false_and, and_false, or_true, true_or, Nat.add_zero, pk_m1, m1_0, m1_n, m1_p, Nat.zero_le, forall_const, Nat.zero_add, Nat.reduceAdd, Nat.reduceEqDiff, or_false, false_or, Nat.one_ne_zero]
      refine ⟨fun _ => ?_, fun q => absurd (Nat.le_refl _) q⟩
      rw [B30, B31]
      exact H325 _ _ _ _ _ _ _ (by omega)
    | succ d ih =>
      intro s x13 x14 x15 x16 x17 c hs hc
      have hss : s < cl (a.1.1 1) := by omega
      obtain ⟨p, z, hh, g, hp, hz1, hz5, h15, hg, ep, eh, ez, eg, S0, S1, S2, S3⟩ := st_facts hG hkk hss
      obtain ⟨S4, B4'⟩ := v_st_4 hG hkk hss
      have S5 := v_st_5 hG hkk hss
      have S6 := v_st_6 hG hkk hss
      have S7 := v_st_7 hG hss
      have hd := n_deed_lt (f := (n_arr a.1).1) (s := s)
      have hq := hours_eq hG hkk hss h15 eh
      have H319 : ∀ x13 x14 x15 x16 x17 c', c' ≤ c + 58 → M 319 [.ref i, .int (nI st), .int (nI fi), .long (lN (su a.1.1 30 11 (s + 1))), .null, .long (lN (su a.1.1 31 11 (s + 1))), .null, .long (lN (tot a.1.1 (s + 1))), .null, .long (lN (0)), .null, .int (nI 1), .int (nI s), x13, x14, x15, x16, x17] [] (A, c') := fun x13 x14 x15 x16 x17 c' hc' => by
        refine h319 _ _ _ ?_
        simp (disch := omega) only [bL_kept_319, ql_ci, ql_cl, ql_ild, ql_lld, ql_ald, ql_ist, ql_lst, ql_inc, ql_b2, ql_d2, ql_u1, ql_l2, ql_ld2, ql_lsh, ql_lcmp, ql_i2l, ql_l2i, ql_popi, ql_if1, ql_if2, ql_sw, ql_swn, ql_swc, ql_cN0, ql_cN1, ql_cN2, ql_cN3, ql_cN4, ql_cN5, ql_cN6, ql_cV, ql_ir, ql_zr, ql_lr, q_sh0, q_sh1, q_sh2, q_sh3, q_sh4, q_toL0, q_toL1, q_gl0, q_gls, q_sl0, q_sls, q_k10, q_k1s, q_lgi, q_lgr, q_lgl, q_lgn, pk_div, pk_rem, pk_rm, Bool.not_false, and_true, true_and, nz_2, nz_4, nz_5, nz_8, nz_10, nz_12, nz_14, nz_16, nz_40, nz_41, nz_64, nz_100, nz_1000, nz_1024, nz_4096, nz_10000, nz_100000, not_false_eq_true, lup_eq, lup_up, lup_self, lgc_lt, lgc_gt, lgc_le, lgc_ge, lgc_eq, lr_a1, lr_i1, lr_s1, lr_a2, lr_s2, lr_s3, lr_0, t32, v_about_st, v_about_fi, bI_0, nI_add, pk_mul, nI_lt', nI_le', nI_eq', nI_z, nI_p, nI_e0, nI_l0, nI_le0, nI_clamp, up_eq, up_ne, not_true_eq_false, Classical.not_not, false_implies, true_implies, false_and, and_false, or_true, true_or, Nat.add_zero, pk_m1, m1_0, m1_n, m1_p, Nat.zero_le, forall_const, Nat.zero_add, Nat.reduceAdd, Nat.reduceEqDiff, or_false, false_or, Nat.one_ne_zero]
        exact ih (s + 1) _ _ _ _ _ _ (by omega) (by omega)
      have H235 : ∀ d2 j x13 x16 x17 c', j + d2 = 4 → c' + 8 * d2 ≤ c + 57 → M 235 [.ref i, .int (nI st), .int (nI fi), .long (lN (su a.1.1 30 11 (s + 1))), .null, .long (lN (su a.1.1 31 11 (s + 1))), .null, .long (lN (tot a.1.1 (s + 1))), .null, .long (lN (0)), .null, .int (nI 1), .int (nI s), .long x13, .null, .int (nI j), x16, x17] [] (A, c') := by
        intro d2
        induction d2 with
        | zero =>
          intro j x13 x16 x17 c' hj hc'
          obtain rfl : j = 4 := by omega
          refine h235 _ _ _ ?_
          simp (disch := omega) only [bL_kept_235, ql_ci, ql_cl, ql_ild, ql_lld, ql_ald, ql_ist, ql_lst, ql_inc, ql_b2, ql_d2, ql_u1, ql_l2, ql_ld2, ql_lsh, ql_lcmp, ql_i2l, ql_l2i, ql_popi, ql_if1, ql_if2, ql_sw, ql_swn, ql_swc, ql_cN0, ql_cN1, ql_cN2, ql_cN3, ql_cN4, ql_cN5, ql_cN6, ql_cV, ql_ir, ql_zr, ql_lr, q_sh0, q_sh1, q_sh2, q_sh3, q_sh4, q_toL0, q_toL1, q_gl0, q_gls, q_sl0, q_sls, q_k10, q_k1s, q_lgi, q_lgr, q_lgl, q_lgn, pk_div, pk_rem, pk_rm, Bool.not_false, and_true, true_and, nz_2, nz_4, nz_5, nz_8, nz_10, nz_12, nz_14, nz_16, nz_40, nz_41, nz_64, nz_100, nz_1000, nz_1024, nz_4096, nz_10000, nz_100000, not_false_eq_true, lup_eq, lup_up, lup_self, lgc_lt, lgc_gt, lgc_le, lgc_ge, lgc_eq, lr_a1, lr_i1, lr_s1, lr_a2, lr_s2, lr_s3, lr_0, t32, v_about_st, v_about_fi, bI_0, nI_add, pk_mul, nI_lt', nI_le', nI_eq', nI_z, nI_p, nI_e0, nI_l0, nI_le0, nI_clamp, up_eq, up_ne, not_true_eq_false, Classical.not_not, false_implies, true_implies, false_and, and_false, or_true, true_or, Nat.add_zero, pk_m1, m1_0, m1_n, m1_p, Nat.zero_le, forall_const, Nat.zero_add, Nat.reduceAdd, Nat.reduceEqDiff, or_false, false_or, Nat.one_ne_zero]
          exact ⟨fun _ => H319 _ _ _ _ _ _ (by omega), fun q => absurd (Nat.le_refl _) q⟩
        | succ d2 ih2 =>
          intro j x13 x16 x17 c' hj hc'
          obtain ⟨v, hv, ev, S8⟩ := v_wnd hG (show j < 4 by omega)
          have S9 := land_eq hG hkk hss (show j < 4 by omega) hp hz5 hv ep ez ev
          have H302 : ∀ y w16 c2, c2 ≤ c' + 7 → M 302 [.ref i, .int (nI st), .int (nI fi), .long (lN (su a.1.1 30 11 (s + 1))), .null, .long (lN (su a.1.1 31 11 (s + 1))), .null, .long (lN (tot a.1.1 (s + 1))), .null, .long (lN (0)), .null, .int (nI 1), .int (nI s), .long x13, .null, .int (nI j), .long w16, .null] [.long y, .long y] (A, c2) := fun y w16 c2 hc2 => by
            refine h302 _ _ _ ?_
            simp (disch := omega) only [bL_kept_302, ql_ci, ql_cl, ql_ild, ql_lld, ql_ald, ql_ist, ql_lst, ql_inc, ql_b2, ql_d2, ql_u1, ql_l2, ql_ld2, ql_lsh, ql_lcmp, ql_i2l, ql_l2i, ql_popi, ql_if1, ql_if2, ql_sw, ql_swn, ql_swc, ql_cN0, ql_cN1, ql_cN2, ql_cN3, ql_cN4, ql_cN5, ql_cN6, ql_cV, ql_ir, ql_zr, ql_lr, q_sh0, q_sh1, q_sh2, q_sh3, q_sh4, q_toL0, q_toL1, q_gl0, q_gls, q_sl0, q_sls, q_k10, q_k1s, q_lgi, q_lgr, q_lgl, q_lgn, pk_div, pk_rem, pk_rm, Bool.not_false, and_true, true_and, nz_2, nz_4, nz_5, nz_8, nz_10, nz_12, nz_14, nz_16, nz_40, nz_41, nz_64, nz_100, nz_1000, nz_1024, nz_4096, nz_10000, nz_100000, not_false_eq_true, lup_eq, lup_up, lup_self, lgc_lt, lgc_gt, lgc_le, lgc_ge, lgc_eq, lr_a1, lr_i1, lr_s1, lr_a2, lr_s2, lr_s3, lr_0, t32, v_about_st, v_about_fi, bI_0, nI_add, pk_mul, nI_lt', nI_le', nI_eq', nI_z, nI_p, nI_e0, nI_l0, nI_le0, nI_clamp, up_eq, up_ne, not_true_eq_false, Classical.not_not, false_implies, true_implies, false_and, and_false, or_true, true_or, Nat.add_zero, pk_m1, m1_0, m1_n, m1_p, Nat.zero_le, forall_const, Nat.zero_add, Nat.reduceAdd, Nat.reduceEqDiff, or_false, false_or, Nat.one_ne_zero]
            refine h311 _ _ _ ?_
            simp (disch := omega) only [bL_kept_311, ql_ci, ql_cl, ql_ild, ql_lld, ql_ald, ql_ist, ql_lst, ql_inc, ql_b2, ql_d2, ql_u1, ql_l2, ql_ld2, ql_lsh, ql_lcmp, ql_i2l, ql_l2i, ql_popi, ql_if1, ql_if2, ql_sw, ql_swn, ql_swc, ql_cN0, ql_cN1, ql_cN2, ql_cN3, ql_cN4, ql_cN5, ql_cN6, ql_cV, ql_ir, ql_zr, ql_lr, q_sh0, q_sh1, q_sh2, q_sh3, q_sh4, q_toL0, q_toL1, q_gl0, q_gls, q_sl0, q_sls, q_k10, q_k1s, q_lgi, q_lgr, q_lgl, q_lgn, pk_div, pk_rem, pk_rm, Bool.not_false, and_true, true_and, nz_2, nz_4, nz_5, nz_8, nz_10, nz_12, nz_14, nz_16, nz_40, nz_41, nz_64, nz_100, nz_1000, nz_1024, nz_4096, nz_10000, nz_100000, not_false_eq_true, lup_eq, lup_up, lup_self, lgc_lt, lgc_gt, lgc_le, lgc_ge, lgc_eq, lr_a1, lr_i1, lr_s1, lr_a2, lr_s2, lr_s3, lr_0, t32, v_about_st, v_about_fi, bI_0, nI_add, pk_mul, nI_lt', nI_le', nI_eq', nI_z, nI_p, nI_e0, nI_l0, nI_le0, nI_clamp, up_eq, up_ne, not_true_eq_false, Classical.not_not, false_implies, true_implies, false_and, and_false, or_true, true_or, Nat.add_zero, pk_m1, m1_0, m1_n, m1_p, Nat.zero_le, forall_const, Nat.zero_add, Nat.reduceAdd, Nat.reduceEqDiff, or_false, false_or, Nat.one_ne_zero]
            exact ih2 (j + 1) _ _ _ _ (by omega) (by omega)
          refine h235 _ _ _ ?_
          simp (disch := omega) only [bL_kept_235, sp_L_station, sp_L_windOf, sp_L_landing, sp_L_in, hi, hA, ha, S0, S2, S8, l64_99', l64_100', inV, ql_ci, ql_cl, ql_ild, ql_lld, ql_ald, ql_ist, ql_lst, ql_inc, ql_b2, ql_d2, ql_u1, ql_l2, ql_ld2, ql_lsh, ql_lcmp, ql_i2l, ql_l2i, ql_popi, ql_if1, ql_if2, ql_sw, ql_swn, ql_swc, ql_cN0, ql_cN1, ql_cN2, ql_cN3, ql_cN4, ql_cN5, ql_cN6, ql_cV, ql_ir, ql_zr, ql_lr, q_sh0, q_sh1, q_sh2, q_sh3, q_sh4, q_toL0, q_toL1, q_gl0, q_gls, q_sl0, q_sls, q_k10, q_k1s, q_lgi, q_lgr, q_lgl, q_lgn, pk_div, pk_rem, pk_rm, Bool.not_false, and_true, true_and, nz_2, nz_4, nz_5, nz_8, nz_10, nz_12, nz_14, nz_16, nz_40, nz_41, nz_64, nz_100, nz_1000, nz_1024, nz_4096, nz_10000, nz_100000, not_false_eq_true, lup_eq, lup_up, lup_self, lgc_lt, lgc_gt, lgc_le, lgc_ge, lgc_eq, lr_a1, lr_i1, lr_s1, lr_a2, lr_s2, lr_s3, lr_0, t32, v_about_st, v_about_fi, bI_0, nI_add, pk_mul, nI_lt', nI_le', nI_eq', nI_z, nI_p, nI_e0, nI_l0, nI_le0, nI_clamp, up_eq, up_ne, not_true_eq_false, Classical.not_not, false_implies, true_implies, false_and, and_false, or_true, true_or, Nat.add_zero, pk_m1, m1_0, m1_n, m1_p, Nat.zero_le, forall_const, Nat.zero_add, Nat.reduceAdd, Nat.reduceEqDiff, or_false, false_or, Nat.one_ne_zero]
          rw [S9]
          generalize lN p + (lN (80 + v) - lN 100) * lN z = y
          refine ⟨fun q => absurd q (by omega), fun _ => ⟨by omega, by omega, by omega, by omega, by omega, ?_⟩⟩
          by_cases hin : lN 0 ≤ y ∧ y ≤ lN 99
          · rw [if_pos hin, if_pos hin]
            exact ⟨fun q => absurd q (by decide), fun _ => H302 y _ _ (by omega)⟩
          · rw [if_neg hin, if_neg hin]
            exact ⟨fun _ => H302 (-1) _ _ (by omega), fun q => absurd rfl q⟩
      have H230 : ∀ x13 x15 x16 x17 c', c' ≤ c + 20 → M 230 [.ref i, .int (nI st), .int (nI fi), .long (lN (su a.1.1 30 11 (s + 1))), .null, .long (lN (su a.1.1 31 11 (s + 1))), .null, .long (lN (tot a.1.1 (s + 1))), .null, .long (lN (0)), .null, .int (nI 1), .int (nI s), .long x13, .null, x15, x16, x17] [.int (nI 1)] (A, c') := fun x13 x15 x16 x17 c' hc' => by
        refine h230 _ _ _ ?_
        simp (disch := omega) only [bL_kept_230, ql_ci, ql_cl, ql_ild, ql_lld, ql_ald, ql_ist, ql_lst, ql_inc, ql_b2, ql_d2, ql_u1, ql_l2, ql_ld2, ql_lsh, ql_lcmp, ql_i2l, ql_l2i, ql_popi, ql_if1, ql_if2, ql_sw, ql_swn, ql_swc, ql_cN0, ql_cN1, ql_cN2, ql_cN3, ql_cN4, ql_cN5, ql_cN6, ql_cV, ql_ir, ql_zr, ql_lr, q_sh0, q_sh1, q_sh2, q_sh3, q_sh4, q_toL0, q_toL1, q_gl0, q_gls, q_sl0, q_sls, q_k10, q_k1s, q_lgi, q_lgr, q_lgl, q_lgn, pk_div, pk_rem, pk_rm, Bool.not_false, and_true, true_and, nz_2, nz_4, nz_5, nz_8, nz_10, nz_12, nz_14, nz_16, nz_40, nz_41, nz_64, nz_100, nz_1000, nz_1024, nz_4096, nz_10000, nz_100000, not_false_eq_true, lup_eq, lup_up, lup_self, lgc_lt, lgc_gt, lgc_le, lgc_ge, lgc_eq, lr_a1, lr_i1, lr_s1, lr_a2, lr_s2, lr_s3, lr_0, t32, v_about_st, v_about_fi, bI_0, nI_add, pk_mul, nI_lt', nI_le', nI_eq', nI_z, nI_p, nI_e0, nI_l0, nI_le0, nI_clamp, up_eq, up_ne, not_true_eq_false, Classical.not_not, false_implies, true_implies, false_and, and_false, or_true, true_or, Nat.add_zero, pk_m1, m1_0, m1_n, m1_p, Nat.zero_le, forall_const, Nat.zero_add, Nat.reduceAdd, Nat.reduceEqDiff, or_false, false_or, Nat.one_ne_zero]
        exact H235 4 0 _ _ _ _ (by omega) (by omega)
      have H222 : ∀ x13 x15 x16 x17 b c', c' ≤ c + 20 → M 222 [.ref i, .int (nI st), .int (nI fi), .long (lN (su a.1.1 30 11 (s + 1))), .null, .long (lN (su a.1.1 31 11 (s + 1))), .null, .long (lN (tot a.1.1 (s + 1))), .null, .long (lN (0)), .null, .int (nI 1), .int (nI s), .long x13, .null, x15, x16, x17] [.int b, .int b] (A, c') := fun x13 x15 x16 x17 b c' hc' => by
        refine h222 _ _ _ ?_
        simp (disch := omega) only [bL_kept_222, ql_ci, ql_cl, ql_ild, ql_lld, ql_ald, ql_ist, ql_lst, ql_inc, ql_b2, ql_d2, ql_u1, ql_l2, ql_ld2, ql_lsh, ql_lcmp, ql_i2l, ql_l2i, ql_popi, ql_if1, ql_if2, ql_sw, ql_swn, ql_swc, ql_cN0, ql_cN1, ql_cN2, ql_cN3, ql_cN4, ql_cN5, ql_cN6, ql_cV, ql_ir, ql_zr, ql_lr, q_sh0, q_sh1, q_sh2, q_sh3, q_sh4, q_toL0, q_toL1, q_gl0, q_gls, q_sl0, q_sls, q_k10, q_k1s, q_lgi, q_lgr, q_lgl, q_lgn, pk_div, pk_rem, pk_rm, Bool.not_false, and_true, true_and, nz_2, nz_4, nz_5, nz_8, nz_10, nz_12, nz_14, nz_16, nz_40, nz_41, nz_64, nz_100, nz_1000, nz_1024, nz_4096, nz_10000, nz_100000, not_false_eq_true, lup_eq, lup_up, lup_self, lgc_lt, lgc_gt, lgc_le, lgc_ge, lgc_eq, lr_a1, lr_i1, lr_s1, lr_a2, lr_s2, lr_s3, lr_0, t32, v_about_st, v_about_fi, bI_0, nI_add, pk_mul, nI_lt', nI_le', nI_eq', nI_z, nI_p, nI_e0, nI_l0, nI_le0, nI_clamp, up_eq, up_ne, not_true_eq_false, Classical.not_not, false_implies, true_implies, false_and, and_false, or_true, true_or, Nat.add_zero, pk_m1, m1_0, m1_n, m1_p, Nat.zero_le, forall_const, Nat.zero_add, Nat.reduceAdd, Nat.reduceEqDiff, or_false, false_or, Nat.one_ne_zero]
        exact H230 _ _ _ _ _ hc'
      have H192 : ∀ x13 x15 x16 x17 b c', c' ≤ c + 16 → (lN (n_deed (n_arr a.1).1 s) = lN 0 ∧ b = nI 1 ∨ ¬ lN (n_deed (n_arr a.1).1 s) = lN 0 ∧ b = nI 0) → M 192 [.ref i, .int (nI st), .int (nI fi), .long (lN (su a.1.1 30 11 (s + 1))), .null, .long (lN (su a.1.1 31 11 (s + 1))), .null, .long (lN (tot a.1.1 (s + 1))), .null, .long (lN (0)), .null, .int (nI 1), .int (nI s), .long x13, .null, x15, x16, x17] [.int b] (A, c') := fun x13 x15 x16 x17 b c' hc' hb => by
        refine h192 _ _ _ ?_
        have l4 : ¬ lN 4 = 0 := by decide
        simp (disch := omega) only [bL_kept_192, sp_L_station, sp_L_about, hi, hA, ha, S1, A2, l64_4', l4, pk_lRem, lN_i, ← hq, ql_ci, ql_cl, ql_ild, ql_lld, ql_ald, ql_ist, ql_lst, ql_inc, ql_b2, ql_d2, ql_u1, ql_l2, ql_ld2, ql_lsh, ql_lcmp, ql_i2l, ql_l2i, ql_popi, ql_if1, ql_if2, ql_sw, ql_swn, ql_swc, ql_cN0, ql_cN1, ql_cN2, ql_cN3, ql_cN4, ql_cN5, ql_cN6, ql_cV, ql_ir, ql_zr, ql_lr, q_sh0, q_sh1, q_sh2, q_sh3, q_sh4, q_toL0, q_toL1, q_gl0, q_gls, q_sl0, q_sls, q_k10, q_k1s, q_lgi, q_lgr, q_lgl, q_lgn, pk_div, pk_rem, pk_rm, Bool.not_false, and_true, true_and, nz_2, nz_4, nz_5, nz_8, nz_10, nz_12, nz_14, nz_16, nz_40, nz_41, nz_64, nz_100, nz_1000, nz_1024, nz_4096, nz_10000, nz_100000, not_false_eq_true, lup_eq, lup_up, lup_self, lgc_lt, lgc_gt, lgc_le, lgc_ge, lgc_eq, lr_a1, lr_i1, lr_s1, lr_a2, lr_s2, lr_s3, lr_0, t32, v_about_st, v_about_fi, bI_0, nI_add, pk_mul, nI_lt', nI_le', nI_eq', nI_z, nI_p, nI_e0, nI_l0, nI_le0, nI_clamp, up_eq, up_ne, not_true_eq_false, Classical.not_not, false_implies, true_implies, false_and, and_false, or_true, true_or, Nat.add_zero, pk_m1, m1_0, m1_n, m1_p, Nat.zero_le, forall_const, Nat.zero_add, Nat.reduceAdd, Nat.reduceEqDiff, or_false, false_or, Nat.one_ne_zero]
        refine ⟨by omega, by omega, ?_⟩
        rcases hb with ⟨q1, rfl⟩ | ⟨q1, rfl⟩
        · exact ⟨fun q => absurd q1 q, fun _ => H222 _ _ _ _ _ _ (by omega)⟩
        · exact ⟨fun _ => H222 _ _ _ _ _ _ (by omega), fun q => absurd q q1⟩
      have H174 : ∀ x13 x15 x16 x17 c', c' ≤ c + 14 → M 174 [.ref i, .int (nI st), .int (nI fi), .long (lN (su a.1.1 30 11 (s + 1))), .null, .long (lN (su a.1.1 31 11 (s + 1))), .null, .long (lN (tot a.1.1 (s + 1))), .null, .long (lN (0)), .null, .int (nI 1), .int (nI s), .long x13, .null, x15, x16, x17] [] (A, c') := fun x13 x15 x16 x17 c' hc' => by
        refine h174 _ _ _ ?_
        simp (disch := omega) only [bL_kept_174, sp_L_station, hi, hA, ha, S7, ql_ci, ql_cl, ql_ild, ql_lld, ql_ald, ql_ist, ql_lst, ql_inc, ql_b2, ql_d2, ql_u1, ql_l2, ql_ld2, ql_lsh, ql_lcmp, ql_i2l, ql_l2i, ql_popi, ql_if1, ql_if2, ql_sw, ql_swn, ql_swc, ql_cN0, ql_cN1, ql_cN2, ql_cN3, ql_cN4, ql_cN5, ql_cN6, ql_cV, ql_ir, ql_zr, ql_lr, q_sh0, q_sh1, q_sh2, q_sh3, q_sh4, q_toL0, q_toL1, q_gl0, q_gls, q_sl0, q_sls, q_k10, q_k1s, q_lgi, q_lgr, q_lgl, q_lgn, pk_div, pk_rem, pk_rm, Bool.not_false, and_true, true_and, nz_2, nz_4, nz_5, nz_8, nz_10, nz_12, nz_14, nz_16, nz_40, nz_41, nz_64, nz_100, nz_1000, nz_1024, nz_4096, nz_10000, nz_100000, not_false_eq_true, lup_eq, lup_up, lup_self, lgc_lt, lgc_gt, lgc_le, lgc_ge, lgc_eq, lr_a1, lr_i1, lr_s1, lr_a2, lr_s2, lr_s3, lr_0, t32, v_about_st, v_about_fi, bI_0, nI_add, pk_mul, nI_lt', nI_le', nI_eq', nI_z, nI_p, nI_e0, nI_l0, nI_le0, nI_clamp, up_eq, up_ne, not_true_eq_false, Classical.not_not, false_implies, true_implies, false_and, and_false, or_true, true_or, Nat.add_zero, pk_m1, m1_0, m1_n, m1_p, Nat.zero_le, forall_const, Nat.zero_add, Nat.reduceAdd, Nat.reduceEqDiff, or_false, false_or, Nat.one_ne_zero]
        exact ⟨by omega, fun q => H192 _ _ _ _ _ _ (by omega) (Or.inr ⟨q, rfl⟩), fun q => H192 _ _ _ _ _ _ (by omega) (Or.inl ⟨q, rfl⟩)⟩
      have H76 : ∀ d2 j x16 x17 c', j + d2 = 5 → c' + d2 ≤ c + 5 → M 76 [.ref i, .int (nI st), .int (nI fi), .long (lN (su a.1.1 30 11 s)), .null, .long (lN (su a.1.1 31 11 s)), .null, .long (lN (tot a.1.1 s)), .null, .long (lN (0)), .null, .int (nI 1), .int (nI s), .long (lN (su a.1.1 (25 + 11 * s) 1 j)), .null, .int (nI j), x16, x17] [] (A, c') := by
        intro d2
        induction d2 with
        | zero =>
          intro j x16 x17 c' hj hc'
          obtain rfl : j = 5 := by omega
          refine h76 _ _ _ ?_
          have i1 := inV_nn (a := 0) (b := n_deed (n_arr a.1).1 s) (c := 3) (by omega) (by omega) (by omega) (by omega)
          have t1 : tot a.1.1 s + su a.1.1 (25 + 11 * s) 1 5 = tot a.1.1 (s + 1) := rfl
          have t2 : su a.1.1 30 11 s + cl (a.1.1 (30 + 11 * s)) = su a.1.1 30 11 (s + 1) := rfl
          have t3 : su a.1.1 31 11 s + cl (a.1.1 (31 + 11 * s)) = su a.1.1 31 11 (s + 1) := rfl
          have n0 : (lN g < lN 0) = False := by rw [pk_lLT (by omega) (by omega)]; exact propext ⟨fun q => by omega, fun q => q.elim⟩
          simp (disch := omega) only [bL_kept_76, sp_L_station, sp_L_in, hi, hA, ha, S3, S4, S5, S6, S7, lN_add, l64_3', i1, t1, t2, t3, n0, ql_ci, ql_cl, ql_ild, ql_lld, ql_ald, ql_ist, ql_lst, ql_inc, ql_b2, ql_d2, ql_u1, ql_l2, ql_ld2, ql_lsh, ql_lcmp, ql_i2l, ql_l2i, ql_popi, ql_if1, ql_if2, ql_sw, ql_swn, ql_swc, ql_cN0, ql_cN1, ql_cN2, ql_cN3, ql_cN4, ql_cN5, ql_cN6, ql_cV, ql_ir, ql_zr, ql_lr, q_sh0, q_sh1, q_sh2, q_sh3, q_sh4, q_toL0, q_toL1, q_gl0, q_gls, q_sl0, q_sls, q_k10, q_k1s, q_lgi, q_lgr, q_lgl, q_lgn, pk_div, pk_rem, pk_rm, Bool.not_false, and_true, true_and, nz_2, nz_4, nz_5, nz_8, nz_10, nz_12, nz_14, nz_16, nz_40, nz_41, nz_64, nz_100, nz_1000, nz_1024, nz_4096, nz_10000, nz_100000, not_false_eq_true, lup_eq, lup_up, lup_self, lgc_lt, lgc_gt, lgc_le, lgc_ge, lgc_eq, lr_a1, lr_i1, lr_s1, lr_a2, lr_s2, lr_s3, lr_0, t32, v_about_st, v_about_fi, bI_0, nI_add, pk_mul, nI_lt', nI_le', nI_eq', nI_z, nI_p, nI_e0, nI_l0, nI_le0, nI_clamp, up_eq, up_ne, not_true_eq_false, Classical.not_not, false_implies, true_implies, false_and, and_false, or_true, true_or, Nat.add_zero, pk_m1, m1_0, m1_n, m1_p, Nat.zero_le, forall_const, Nat.zero_add, Nat.reduceAdd, Nat.reduceEqDiff, or_false, false_or, Nat.one_ne_zero]
          refine ⟨fun _ => ?_, fun q => absurd (Nat.le_refl _) q⟩
          repeat' first
            | assumption
            | omega
            | (exact H174 _ _ _ _ _ (by omega))
            | refine And.intro ?_ ?_
            | (intro (_ : _); first | (exfalso; omega) | skip)
        | succ d2 ih2 =>
          intro j x16 x17 c' hj hc'
          obtain ⟨K1, K2⟩ := v_stk hG hkk hss (show j ≤ 4 by omega)
          have t1 : su a.1.1 (25 + 11 * s) 1 j + cl (a.1.1 (25 + 11 * s + j)) = su a.1.1 (25 + 11 * s) 1 (j + 1) := by rw [su, Nat.one_mul]
          refine h76 _ _ _ ?_
          simp (disch := omega) only [bL_kept_76, sp_L_stock, hi, hA, ha, K1, lN_add, t1, ql_ci, ql_cl, ql_ild, ql_lld, ql_ald, ql_ist, ql_lst, ql_inc, ql_b2, ql_d2, ql_u1, ql_l2, ql_ld2, ql_lsh, ql_lcmp, ql_i2l, ql_l2i, ql_popi, ql_if1, ql_if2, ql_sw, ql_swn, ql_swc, ql_cN0, ql_cN1, ql_cN2, ql_cN3, ql_cN4, ql_cN5, ql_cN6, ql_cV, ql_ir, ql_zr, ql_lr, q_sh0, q_sh1, q_sh2, q_sh3, q_sh4, q_toL0, q_toL1, q_gl0, q_gls, q_sl0, q_sls, q_k10, q_k1s, q_lgi, q_lgr, q_lgl, q_lgn, pk_div, pk_rem, pk_rm, Bool.not_false, and_true, true_and, nz_2, nz_4, nz_5, nz_8, nz_10, nz_12, nz_14, nz_16, nz_40, nz_41, nz_64, nz_100, nz_1000, nz_1024, nz_4096, nz_10000, nz_100000, not_false_eq_true, lup_eq, lup_up, lup_self, lgc_lt, lgc_gt, lgc_le, lgc_ge, lgc_eq, lr_a1, lr_i1, lr_s1, lr_a2, lr_s2, lr_s3, lr_0, t32, v_about_st, v_about_fi, bI_0, nI_add, pk_mul, nI_lt', nI_le', nI_eq', nI_z, nI_p, nI_e0, nI_l0, nI_le0, nI_clamp, up_eq, up_ne, not_true_eq_false, Classical.not_not, false_implies, true_implies, false_and, and_false, or_true, true_or, Nat.add_zero, pk_m1, m1_0, m1_n, m1_p, Nat.zero_le, forall_const, Nat.zero_add, Nat.reduceAdd, Nat.reduceEqDiff, or_false, false_or, Nat.one_ne_zero]
          exact ⟨fun q => absurd q (by omega), fun _ => ⟨by omega, ih2 (j + 1) _ _ _ (by omega) (by omega)⟩⟩
      refine h59 _ _ _ ?_
      simp (disch := omega) only [bL_kept_59, ql_ci, ql_cl, ql_ild, ql_lld, ql_ald, ql_ist, ql_lst, ql_inc, ql_b2, ql_d2, ql_u1, ql_l2, ql_ld2, ql_lsh, ql_lcmp, ql_i2l, ql_l2i, ql_popi, ql_if1, ql_if2, ql_sw, ql_swn, ql_swc, ql_cN0, ql_cN1, ql_cN2, ql_cN3, ql_cN4, ql_cN5, ql_cN6, ql_cV, ql_ir, ql_zr, ql_lr, q_sh0, q_sh1, q_sh2, q_sh3, q_sh4, q_toL0, q_toL1, q_gl0, q_gls, q_sl0, q_sls, q_k10, q_k1s, q_lgi, q_lgr, q_lgl, q_lgn, pk_div, pk_rem, pk_rm, Bool.not_false, and_true, true_and, nz_2, nz_4, nz_5, nz_8, nz_10, nz_12, nz_14, nz_16, nz_40, nz_41, nz_64, nz_100, nz_1000, nz_1024, nz_4096, nz_10000, nz_100000, not_false_eq_true, lup_eq, lup_up, lup_self, lgc_lt, lgc_gt, lgc_le, lgc_ge, lgc_eq, lr_a1, lr_i1, lr_s1, lr_a2, lr_s2, lr_s3, lr_0, t32, v_about_st, v_about_fi, bI_0, nI_add, pk_mul, nI_lt', nI_le', nI_eq', nI_z, nI_p, nI_e0, nI_l0, nI_le0, nI_clamp, up_eq, up_ne, not_true_eq_false, Classical.not_not, false_implies, true_implies, false_and, and_false, or_true, true_or, Nat.add_zero, pk_m1, m1_0, m1_n, m1_p, Nat.zero_le, forall_const, Nat.zero_add, Nat.reduceAdd, Nat.reduceEqDiff, or_false, false_or, Nat.one_ne_zero]
      exact ⟨fun q => absurd q (by omega), fun _ => H76 5 0 _ _ _ (by omega) (by omega)⟩
  have H54 : ∀ x11 x12 x13 x14 x15 x16 x17 c, c ≤ 10 → M 54 [.ref i, .int (nI st), .int (nI fi), .long (lN 0), .null, .long (lN 0), .null, .long (lN 0), .null, .long (lN 0), .null, x11, x12, x13, x14, x15, x16, x17] [.int (nI 1)] (A, c) := fun x11 x12 x13 x14 x15 x16 x17 c hc => by
    refine h54 _ _ _ ?_
    simp (disch := omega) only [bL_kept_54, ql_ci, ql_cl, ql_ild, ql_lld, ql_ald, ql_ist, ql_lst, ql_inc, ql_b2, ql_d2, ql_u1, ql_l2, ql_ld2, ql_lsh, ql_lcmp, ql_i2l, ql_l2i, ql_popi, ql_if1, ql_if2, ql_sw, ql_swn, ql_swc, ql_cN0, ql_cN1, ql_cN2, ql_cN3, ql_cN4, ql_cN5, ql_cN6, ql_cV, ql_ir, ql_zr, ql_lr, q_sh0, q_sh1, q_sh2, q_sh3, q_sh4, q_toL0, q_toL1, q_gl0, q_gls, q_sl0, q_sls, q_k10, q_k1s, q_lgi, q_lgr, q_lgl, q_lgn, pk_div, pk_rem, pk_rm, Bool.not_false, and_true, true_and, nz_2, nz_4, nz_5, nz_8, nz_10, nz_12, nz_14, nz_16, nz_40, nz_41, nz_64, nz_100, nz_1000, nz_1024, nz_4096, nz_10000, nz_100000, not_false_eq_true, lup_eq, lup_up, lup_self, lgc_lt, lgc_gt, lgc_le, lgc_ge, lgc_eq, lr_a1, lr_i1, lr_s1, lr_a2, lr_s2, lr_s3, lr_0, t32, v_about_st, v_about_fi, bI_0, nI_add, pk_mul, nI_lt', nI_le', nI_eq', nI_z, nI_p, nI_e0, nI_l0, nI_le0, nI_clamp, up_eq, up_ne, not_true_eq_false, Classical.not_not, false_implies, true_implies, false_and, and_false, or_true, true_or, Nat.add_zero, pk_m1, m1_0, m1_n, m1_p, Nat.zero_le, forall_const, Nat.zero_add, Nat.reduceAdd, Nat.reduceEqDiff, or_false, false_or, Nat.one_ne_zero]
    exact H59 st 0 _ _ _ _ _ c (by omega) (by omega)
  refine h0 _ _ _ ?_
  have i1 := inV_nn (a := 0) (b := st) (c := 5) (by omega) (by omega) (by omega) (by omega)
  have i2 := inV_nn (a := 0) (b := fi) (c := 6) (by omega) (by omega) (by omega) (by omega)
  simp (disch := omega) only [bL_kept_0, sp_L_about, sp_L_in, hi, hA, ha, e1, e2, nI_l, lN_i, l64_5', l64_6, i1, i2, ql_ci, ql_cl, ql_ild, ql_lld, ql_ald, ql_ist, ql_lst, ql_inc, ql_b2, ql_d2, ql_u1, ql_l2, ql_ld2, ql_lsh, ql_lcmp, ql_i2l, ql_l2i, ql_popi, ql_if1, ql_if2, ql_sw, ql_swn, ql_swc, ql_cN0, ql_cN1, ql_cN2, ql_cN3, ql_cN4, ql_cN5, ql_cN6, ql_cV, ql_ir, ql_zr, ql_lr, q_sh0, q_sh1, q_sh2, q_sh3, q_sh4, q_toL0, q_toL1, q_gl0, q_gls, q_sl0, q_sls, q_k10, q_k1s, q_lgi, q_lgr, q_lgl, q_lgn, pk_div, pk_rem, pk_rm, Bool.not_false, and_true, true_and, nz_2, nz_4, nz_5, nz_8, nz_10, nz_12, nz_14, nz_16, nz_40, nz_41, nz_64, nz_100, nz_1000, nz_1024, nz_4096, nz_10000, nz_100000, not_false_eq_true, lup_eq, lup_up, lup_self, lgc_lt, lgc_gt, lgc_le, lgc_ge, lgc_eq, lr_a1, lr_i1, lr_s1, lr_a2, lr_s2, lr_s3, lr_0, t32, v_about_st, v_about_fi, bI_0, nI_add, pk_mul, nI_lt', nI_le', nI_eq', nI_z, nI_p, nI_e0, nI_l0, nI_le0, nI_clamp, up_eq, up_ne, not_true_eq_false, Classical.not_not, false_implies, true_implies, false_and, and_false, or_true, true_or, Nat.add_zero, pk_m1, m1_0, m1_n, m1_p, Nat.zero_le, forall_const, Nat.zero_add, Nat.reduceAdd, Nat.reduceEqDiff, or_false, false_or, Nat.one_ne_zero]
  repeat' first
    | assumption
    | omega
    | (exact H54 _ _ _ _ _ _ _ _ (by omega))
    | refine And.intro ?_ ?_
    | (intro (_ : _); first | (exfalso; omega) | skip)
