theorem up_self {σ : ab_H} {a k : Nat} : ab_up σ a k (σ a k) = σ := by
  funext b j; unfold ab_up; split
  · next q => rw [q.1, q.2]
  · rfl
theorem up_rset {σ : ab_H} {a b k : Nat} {r : nF} {x : Int32} (h : a ≠ b) : ab_up (rset σ a r) b k x = rset (ab_up σ b k x) a r := by
  funext v j
  unfold ab_up rset
  by_cases hv : v = a
  · subst hv; simp [h]
  · simp [hv]
theorem up_up {σ : ab_H} {a k : Nat} {x y : Int32} : ab_up (ab_up σ a k x) a k y = ab_up σ a k y := by
  funext v j; unfold ab_up; split <;> rfl
/-- the least that is left over of the gas of a station that is watched -/
def n_bey (n : nT) (s : Nat) : Int32 := (n_arr n).1 (24 + 11 * s) - (n_arr n).1 (23 + 11 * s)
def n_min (n : nT) (s : Nat) (l : Int32) : Int32 := if n_deed (n_arr n).1 s = 0 then l else if n_bey n s < l then n_bey n s else l
def n_ls (n : nT) (v l : Int32) : Nat → Int32
  | 0 => l
  | k + 1 => if nI k = v then n_min n k (n_ls n v l k) else n_ls n v l k
def n_lr (n : nT) (v l : Int32) : Nat → Int32
  | 0 => l
  | k + 1 => n_ls (n_run k n) v (n_lr n v l k) (cl ((n_run k n).1 1))
theorem n_loop_ge {T : Nat} {n : nT} (h : WFm T 0 n) (hT : T < 100000) : ∀ k, k ≤ cl (n.1 1) → ∀ s c, k ≤ s → s < 5 → c < 11 → (n_loop k n).1 (21 + 11 * s + c) = n.1 (21 + 11 * s + c)
  | 0, _, _, _, _, _, _ => rfl
  | k + 1, hk, s, c, hs, hs5, hc => by
    have h5 : cl (n.1 1) ≤ 5 := h.1.2.2.2.1
    obtain ⟨h1, h2, h3⟩ := n_loop_W h hT k (by omega)
    show (n_step _ _).1 _ = _
    rw [n_step_i h1.1 (by omega) (by omega) (by omega) (by omega) (by omega) (by omega) (by omega) (by omega) (fun m hm => by omega) (fun j hj => by omega)]
    exact n_loop_ge h hT k (by omega) s c (by omega) hs5 hc
theorem n_deed_cg {f g : nF} {s : Nat} (e0 : f 0 = g 0) (e : ∀ c, c < 11 → f (21 + 11 * s + c) = g (21 + 11 * s + c)) : n_deed f s = n_deed g s := by
  have x1 := e 1 (by omega); have x2 := e 2 (by omega); have x3 := e 3 (by omega); have x4 := e 4 (by omega); have x5 := e 5 (by omega); have x6 := e 6 (by omega); have x7 := e 7 (by omega); have x8 := e 8 (by omega)
  rw [ix21_1] at x1; rw [ix21_2] at x2; rw [ix21_3] at x3; rw [ix21_4] at x4; rw [ix21_5] at x5; rw [ix21_6] at x6; rw [ix21_7] at x7; rw [ix21_8] at x8
  unfold n_deed n_hb n_most
  rw [e0, x1, x2, x3, x4, x5, x6, x7, x8]
def sp_X10_watchIn : ab_S := fun w As σ K => match As with
  | [.ref x, .ref a] => x = 8 ∧ ab_kd w 8 = 10 ∧ wR w a ∧ a ≠ 8 ∧ ∃ n T, RM (σ a) n ∧ WF T n ∧ T < 100000 ∧ ∀ r', RM r' (n_watch n) → K none (rset (ab_up σ 8 14 (n_ls n (σ 8 13) (σ 8 14) (cl (n.1 1)))) a r')
  | _ => False
def sp_X10_runIn : ab_S := fun w As σ K => match As with
  | [.ref x, .ref a, .int c] => x = 8 ∧ ab_kd w 8 = 10 ∧ wR w a ∧ a ≠ 8 ∧ ∃ n T c', RM (σ a) n ∧ WF T n ∧ c = nI c' ∧ T + c' < 100000 ∧ c' < 1000 ∧ ∀ r', RM r' (n_run c' n) → K (some (.int ((n_run c' n).1 4 - n.1 4))) (rset (ab_up σ 8 14 (n_lr n (σ 8 13) (σ 8 14) c')) a r')
  | _ => False
set_option maxRecDepth 20000 in
set_option maxHeartbeats 4000000 in
theorem ok_X10_watchIn {l : Launch} (hl : l.stackTraces = false) : ab_OkN l yX10_watchIn (Cond.code yX10_watchIn cX10_watchIn 5 none) 4 sp_X10_watchIn := by
  intro w σ As Kn hI h
  unfold sp_X10_watchIn at h
  split at h
  rotate_left 1
  · exact h.elim
  next x a =>
    obtain ⟨a, rfl⟩ : ∃ z : Nat, z = a := ⟨_, rfl⟩
    obtain ⟨rfl, k8, ⟨ka, la⟩, ha8, n, T, hR, hW, hT, h⟩ := h
    have h8a : (8 : Nat) ≠ a := fun q => ha8 q.symm
    refine vc_X10_watchIn hl hI (ok_X10_arrive hl) (ok_X10_deed hl) (ok_X10_stationAt hl) (ok_X10_tellGap hl) (ok_X10_release hl) (Nat.le_of_ble_eq_true rfl) (fun M h0 h6 h67 h70 h96 => h0 [.ref 8, .ref a, .null, .null, .null] [] σ ?_)
    have hWa := WF_arr hW hT
    have w0 : vp_in (nI 0) 304 := vp_in_nI (by omega) (by omega)
    have w1 : vp_in (nI 1) 304 := vp_in_nI (by omega) (by omega)
    have ec1 : (n_arr n).1 1 = n.1 1 := n_arr_i hW (by omega)
    have hc1 : n.1 1 = nI (cl (n.1 1)) := hW.1.2.2.1
    have h5 : cl (n.1 1) ≤ 5 := hW.1.2.2.2.1
    have e13 : ∀ l, ab_up σ 8 14 l 8 13 = σ 8 13 := fun l => up_nep (by omega)
    have e14 : ∀ l, ab_up σ 8 14 l 8 14 = l := fun l => up_eqp rfl rfl
    have e138 : ∀ τ r, rset τ a r 8 = τ 8 := fun τ r => rset_ne h8a
    have hups : ∀ τ r y, ab_up (rset τ a r) 8 14 y = rset (ab_up τ 8 14 y) a r := fun τ r y => up_rset ha8
    have hupu : ∀ l y, ab_up (ab_up σ 8 14 l) 8 14 y = ab_up σ 8 14 y := fun l y => up_up
    generalize hv : σ 8 13 = v at *
    have H6 : ∀ d k r x3 x4, k + d = cl (n.1 1) → RM r (n_loop k (n_arr n)) → M 6 [.ref 8, .ref a, .int (nI k), x3, x4] [] (rset (ab_up σ 8 14 (n_ls n v (σ 8 14) k)) a r) := by
      intro d
      induction d with
      | zero =>
        intro k r x3 x4 hk hr
        have hkc : k = cl (n.1 1) := by omega
        subst hkc
        refine h6 _ _ _ ?_
        obtain ⟨q1, q2, q3⟩ := n_loop_W hWa hT (cl (n.1 1)) (by rw [ec1]; exact Nat.le_refl _)
        have r1 : r 1 = nI (cl (n.1 1)) := by rw [hr.1 1 (by omega) (by omega) (by omega) (by omega), q2, ec1]; exact hc1
        have r0 : r 0 = (n_loop (cl (n.1 1)) (n_arr n)).1 0 := hr.1 0 (by omega) (by omega) (by omega) (by omega)
        simp (disch := omega) only [bX10_watchIn_6, ka, la, r1, r0, q_ci, q_cl, q_ild, q_lld, q_ald, q_ist, q_ast, q_lst, q_inc, q_b2, q_d2, q_u1, q_l2, q_ld2, q_lsh, q_lcmp, q_i2l, q_l2i, q_dupi, q_dupr, q_dup2, q_popi, q_popr, q_if1, q_if2, q_nn, q_sw, q_swn, q_swc, q_gf, q_gr, q_pf, q_pz, q_pc, q_ia, q_is, q_cs, q_zs, q_la, q_lw, q_aa, q_al, q_gs, q_acp, q_m2, q_m1, q_ir, q_zr, q_lr, q_ar, q_vr, q_cN0, q_cSX0, q_cV0, q_cVX0, q_cN1, q_cSX1, q_cV1, q_cVX1, q_cN2, q_cSX2, q_cV2, q_cVX2, q_cN3, q_cSX3, q_cV3, q_cVX3, q_cN4, q_cSX4, q_cV4, q_cVX4, q_cN5, q_cSX5, q_cV5, q_cVX5, q_cN6, q_cSX6, q_cV6, q_cVX6, q_th, q_sh0, q_sh1, q_sh2, q_sh3, q_sh4, q_toL0, q_toL1, q_gl0, q_gls, q_sl0, q_sls, q_k10, q_k1s, q_lgi, q_lgr, q_lgl, q_lgn, Bool.not_false, and_true, true_and, nz_2, nz_4, nz_5, nz_8, nz_10, nz_12, nz_14, nz_16, nz_40, nz_41, nz_64, nz_100, nz_1000, nz_1024, nz_4096, nz_10000, nz_100000, not_false_eq_true, bI_0, nI_add, pk_mul, nI_lt', nI_le', nI_eq', nI_z, nI_p, nI_e0, nI_l0, nI_le0, nI_clamp, up_eq, up_ne, not_true_eq_false, Classical.not_not, false_implies, true_implies, false_and, and_false, or_true, true_or, Nat.add_zero, pk_m1, m1_0, m1_n, m1_p, Nat.zero_le, forall_const, Nat.zero_add, Nat.reduceAdd, Nat.reduceEqDiff, or_false, false_or, Nat.one_ne_zero, l64_2, l64_3, l64_4, l64_5, l64_7, l64_9, l64_10, l64_11, l64_15, l64_20, l64_30, l64_40, l64_60, l64_99, l64_255, l64_999, le64l, le64r, le64b, le64n, rset_eq, rset_upd, rset_rset, upd_nep, upd_eqp, ix21_4k, ix21_1, ix21_2, ix21_3, ix21_4, ix21_5, ix21_6, ix21_7, ix21_8, ix21_9, ix21_10, ix76_1, ix76_2, ix76_3, ix100_1, ix100_2, ix100_3]
        refine ⟨w1, fun _ => ⟨w0, w0, h _ ?_⟩, fun q => absurd (Nat.le_refl _) q⟩
        unfold n_watch n_tick
        rw [ec1, nI_one]
        exact hr.up _ (by omega) (by omega) (by omega) (by omega)
      | succ d ih =>
        intro k r x3 x4 hk hr
        refine h6 _ _ _ ?_
        obtain ⟨q1, q2, q3⟩ := n_loop_W hWa hT k (by rw [ec1]; omega)
        have hge := n_loop_ge hWa hT k (by rw [ec1]; omega) k
        have hdc : n_deed (n_loop k (n_arr n)).1 k = n_deed (n_arr n).1 k := n_deed_cg q3 (fun c hc => hge c (Nat.le_refl _) (by omega) hc)
        have hWQ := q1.q hT (by omega)
        have r1 : r 1 = nI (cl (n.1 1)) := by rw [hr.1 1 (by omega) (by omega) (by omega) (by omega), q2, ec1]; exact hc1
        have r23 : r (23 + 11 * k) = (n_arr n).1 (23 + 11 * k) := by
          rw [hr.1 _ (by omega) (by omega) (by omega) (by omega)]
          have := hge 2 (Nat.le_refl _) (by omega) (by omega); rw [ix21_2] at this; exact this
        have r24 : r (24 + 11 * k) = (n_arr n).1 (24 + 11 * k) := by
          rw [hr.1 _ (by omega) (by omega) (by omega) (by omega)]
          have := hge 3 (Nat.le_refl _) (by omega) (by omega); rw [ix21_3] at this; exact this
        have v23 : vp_in (nI (23 + 11 * k)) 304 := vp_in_nI (by omega) (by omega)
        have v24 : vp_in (nI (24 + 11 * k)) 304 := vp_in_nI (by omega) (by omega)
        have hd3 := @n_deed_lt (n_loop k (n_arr n)).1 k
        have hkc : k < cl ((n_loop k (n_arr n)).1 1) := by rw [q2, ec1]; omega
        have hst : n_loop (k + 1) (n_arr n) = n_step (n_loop k (n_arr n)) k := rfl
        have hls : n_ls n v (σ 8 14) (k + 1) = if nI k = v then n_min n k (n_ls n v (σ 8 14) k) else n_ls n v (σ 8 14) k := rfl
        have ih := fun r x3 x4 => ih (k + 1) r x3 x4 (by omega)
        rw [hst] at ih
        unfold n_min n_bey at hls
        rw [← hdc] at hls
        generalize n_loop k (n_arr n) = N at *
        generalize hl0 : n_ls n v (σ 8 14) k = l at *
        generalize hl1 : n_ls n v (σ 8 14) (k + 1) = l' at *
        have f96 : ∀ r' x3 x4, RM r' (n_step N k) → M 96 [.ref 8, .ref a, .int (nI k), x3, x4] [] (rset (ab_up σ 8 14 l') a r') := by
          intro r' x3 x4 hr'
          refine h96 _ _ _ ?_
          simp (disch := omega) only [bX10_watchIn_96, q_ci, q_cl, q_ild, q_lld, q_ald, q_ist, q_ast, q_lst, q_inc, q_b2, q_d2, q_u1, q_l2, q_ld2, q_lsh, q_lcmp, q_i2l, q_l2i, q_dupi, q_dupr, q_dup2, q_popi, q_popr, q_if1, q_if2, q_nn, q_sw, q_swn, q_swc, q_gf, q_gr, q_pf, q_pz, q_pc, q_ia, q_is, q_cs, q_zs, q_la, q_lw, q_aa, q_al, q_gs, q_acp, q_m2, q_m1, q_ir, q_zr, q_lr, q_ar, q_vr, q_cN0, q_cSX0, q_cV0, q_cVX0, q_cN1, q_cSX1, q_cV1, q_cVX1, q_cN2, q_cSX2, q_cV2, q_cVX2, q_cN3, q_cSX3, q_cV3, q_cVX3, q_cN4, q_cSX4, q_cV4, q_cVX4, q_cN5, q_cSX5, q_cV5, q_cVX5, q_cN6, q_cSX6, q_cV6, q_cVX6, q_th, q_sh0, q_sh1, q_sh2, q_sh3, q_sh4, q_toL0, q_toL1, q_gl0, q_gls, q_sl0, q_sls, q_k10, q_k1s, q_lgi, q_lgr, q_lgl, q_lgn, Bool.not_false, and_true, true_and, nz_2, nz_4, nz_5, nz_8, nz_10, nz_12, nz_14, nz_16, nz_40, nz_41, nz_64, nz_100, nz_1000, nz_1024, nz_4096, nz_10000, nz_100000, not_false_eq_true, bI_0, nI_add, pk_mul, nI_lt', nI_le', nI_eq', nI_z, nI_p, nI_e0, nI_l0, nI_le0, nI_clamp, up_eq, up_ne, not_true_eq_false, Classical.not_not, false_implies, true_implies, false_and, and_false, or_true, true_or, Nat.add_zero, pk_m1, m1_0, m1_n, m1_p, Nat.zero_le, forall_const, Nat.zero_add, Nat.reduceAdd, Nat.reduceEqDiff, or_false, false_or, Nat.one_ne_zero, l64_2, l64_3, l64_4, l64_5, l64_7, l64_9, l64_10, l64_11, l64_15, l64_20, l64_30, l64_40, l64_60, l64_99, l64_255, l64_999, le64l, le64r, le64b, le64n, rset_eq, rset_upd, rset_rset, upd_nep, upd_eqp, ix21_4k, ix21_1, ix21_2, ix21_3, ix21_4, ix21_5, ix21_6, ix21_7, ix21_8, ix21_9, ix21_10, ix76_1, ix76_2, ix76_3, ix100_1, ix100_2, ix100_3]
          exact ih r' _ _ hr'
        have f70 : ∀ x4, M 70 [.ref 8, .ref a, .int (nI k), .int (nI (n_deed N.1 k)), x4] [] (rset (ab_up σ 8 14 l') a r) := by
          intro x4
          refine h70 _ _ _ ?_
          simp (disch := omega) only [bX10_watchIn_70, sp_X10_tellGap, sp_X10_release, ka, la, q_ci, q_cl, q_ild, q_lld, q_ald, q_ist, q_ast, q_lst, q_inc, q_b2, q_d2, q_u1, q_l2, q_ld2, q_lsh, q_lcmp, q_i2l, q_l2i, q_dupi, q_dupr, q_dup2, q_popi, q_popr, q_if1, q_if2, q_nn, q_sw, q_swn, q_swc, q_gf, q_gr, q_pf, q_pz, q_pc, q_ia, q_is, q_cs, q_zs, q_la, q_lw, q_aa, q_al, q_gs, q_acp, q_m2, q_m1, q_ir, q_zr, q_lr, q_ar, q_vr, q_cN0, q_cSX0, q_cV0, q_cVX0, q_cN1, q_cSX1, q_cV1, q_cVX1, q_cN2, q_cSX2, q_cV2, q_cVX2, q_cN3, q_cSX3, q_cV3, q_cVX3, q_cN4, q_cSX4, q_cV4, q_cVX4, q_cN5, q_cSX5, q_cV5, q_cVX5, q_cN6, q_cSX6, q_cV6, q_cVX6, q_th, q_sh0, q_sh1, q_sh2, q_sh3, q_sh4, q_toL0, q_toL1, q_gl0, q_gls, q_sl0, q_sls, q_k10, q_k1s, q_lgi, q_lgr, q_lgl, q_lgn, Bool.not_false, and_true, true_and, nz_2, nz_4, nz_5, nz_8, nz_10, nz_12, nz_14, nz_16, nz_40, nz_41, nz_64, nz_100, nz_1000, nz_1024, nz_4096, nz_10000, nz_100000, not_false_eq_true, bI_0, nI_add, pk_mul, nI_lt', nI_le', nI_eq', nI_z, nI_p, nI_e0, nI_l0, nI_le0, nI_clamp, up_eq, up_ne, not_true_eq_false, Classical.not_not, false_implies, true_implies, false_and, and_false, or_true, true_or, Nat.add_zero, pk_m1, m1_0, m1_n, m1_p, Nat.zero_le, forall_const, Nat.zero_add, Nat.reduceAdd, Nat.reduceEqDiff, or_false, false_or, Nat.one_ne_zero, l64_2, l64_3, l64_4, l64_5, l64_7, l64_9, l64_10, l64_11, l64_15, l64_20, l64_30, l64_40, l64_60, l64_99, l64_255, l64_999, le64l, le64r, le64b, le64n, rset_eq, rset_upd, rset_rset, upd_nep, upd_eqp, ix21_4k, ix21_1, ix21_2, ix21_3, ix21_4, ix21_5, ix21_6, ix21_7, ix21_8, ix21_9, ix21_10, ix76_1, ix76_2, ix76_3, ix100_1, ix100_2, ix100_3]
          refine ⟨fun p1 => ⟨fun p2 => f96 _ _ _ ?_, fun p2 => ?_⟩, fun p1 => ?_⟩
          · unfold n_step; rw [if_pos (by omega)]; exact hr
          · rw [show nI (n_deed N.1 k) - nI 1 = nI (n_deed N.1 k - 1) from pk_sub (by omega)]
            refine ⟨⟨ka, la⟩, N, k, n_deed N.1 k - 1, hr, hWQ, rfl, rfl, by omega, by omega, fun r' hr' => f96 _ _ _ ?_⟩
            unfold n_step; rw [if_neg (by omega), if_neg (by omega)]; exact hr'
          · obtain ⟨q, hq⟩ : ∃ q, n_most N.1 k = some q := by
              refine Option.ne_none_iff_exists'.mp (fun q => ?_)
              unfold n_deed at p1
              rw [q] at p1
              split at p1
              · omega
              · split at p1
                · omega
                · simp at p1
            refine ⟨⟨ka, la⟩, T, k, N, k, q, hr, q1, by omega, rfl, hkc, hq, hT, fun r' hr' => f96 _ _ _ ?_⟩
            unfold n_step; rw [if_neg (by omega), if_pos p1]; exact hr'
        simp (disch := omega) only [bX10_watchIn_6, sp_X10_deed, sp_X10_stationAt, k8, ka, la, r1, r23, r24, e138, e13, e14, q_ci, q_cl, q_ild, q_lld, q_ald, q_ist, q_ast, q_lst, q_inc, q_b2, q_d2, q_u1, q_l2, q_ld2, q_lsh, q_lcmp, q_i2l, q_l2i, q_dupi, q_dupr, q_dup2, q_popi, q_popr, q_if1, q_if2, q_nn, q_sw, q_swn, q_swc, q_gf, q_gr, q_pf, q_pz, q_pc, q_ia, q_is, q_cs, q_zs, q_la, q_lw, q_aa, q_al, q_gs, q_acp, q_m2, q_m1, q_ir, q_zr, q_lr, q_ar, q_vr, q_cN0, q_cSX0, q_cV0, q_cVX0, q_cN1, q_cSX1, q_cV1, q_cVX1, q_cN2, q_cSX2, q_cV2, q_cVX2, q_cN3, q_cSX3, q_cV3, q_cVX3, q_cN4, q_cSX4, q_cV4, q_cVX4, q_cN5, q_cSX5, q_cV5, q_cVX5, q_cN6, q_cSX6, q_cV6, q_cVX6, q_th, q_sh0, q_sh1, q_sh2, q_sh3, q_sh4, q_toL0, q_toL1, q_gl0, q_gls, q_sl0, q_sls, q_k10, q_k1s, q_lgi, q_lgr, q_lgl, q_lgn, Bool.not_false, and_true, true_and, nz_2, nz_4, nz_5, nz_8, nz_10, nz_12, nz_14, nz_16, nz_40, nz_41, nz_64, nz_100, nz_1000, nz_1024, nz_4096, nz_10000, nz_100000, not_false_eq_true, bI_0, nI_add, pk_mul, nI_lt', nI_le', nI_eq', nI_z, nI_p, nI_e0, nI_l0, nI_le0, nI_clamp, up_eq, up_ne, not_true_eq_false, Classical.not_not, false_implies, true_implies, false_and, and_false, or_true, true_or, Nat.add_zero, pk_m1, m1_0, m1_n, m1_p, Nat.zero_le, forall_const, Nat.zero_add, Nat.reduceAdd, Nat.reduceEqDiff, or_false, false_or, Nat.one_ne_zero, l64_2, l64_3, l64_4, l64_5, l64_7, l64_9, l64_10, l64_11, l64_15, l64_20, l64_30, l64_40, l64_60, l64_99, l64_255, l64_999, le64l, le64r, le64b, le64n, rset_eq, rset_upd, rset_rset, upd_nep, upd_eqp, ix21_4k, ix21_1, ix21_2, ix21_3, ix21_4, ix21_5, ix21_6, ix21_7, ix21_8, ix21_9, ix21_10, ix76_1, ix76_2, ix76_3, ix100_1, ix100_2, ix100_3]
        refine ⟨w1, fun q => absurd q (by omega), fun _ => ⟨⟨ka, la⟩, N, k, hr, hWQ.1, by have := hWQ.2.1; omega, rfl, by omega, ?_⟩⟩
        simp (disch := omega) only [e138, e13, e14, sp_X10_stationAt, k8, ka, la, r23, r24, q_ci, q_cl, q_ild, q_lld, q_ald, q_ist, q_ast, q_lst, q_inc, q_b2, q_d2, q_u1, q_l2, q_ld2, q_lsh, q_lcmp, q_i2l, q_l2i, q_dupi, q_dupr, q_dup2, q_popi, q_popr, q_if1, q_if2, q_nn, q_sw, q_swn, q_swc, q_gf, q_gr, q_pf, q_pz, q_pc, q_ia, q_is, q_cs, q_zs, q_la, q_lw, q_aa, q_al, q_gs, q_acp, q_m2, q_m1, q_ir, q_zr, q_lr, q_ar, q_vr, q_cN0, q_cSX0, q_cV0, q_cVX0, q_cN1, q_cSX1, q_cV1, q_cVX1, q_cN2, q_cSX2, q_cV2, q_cVX2, q_cN3, q_cSX3, q_cV3, q_cVX3, q_cN4, q_cSX4, q_cV4, q_cVX4, q_cN5, q_cSX5, q_cV5, q_cVX5, q_cN6, q_cSX6, q_cV6, q_cVX6, q_th, q_sh0, q_sh1, q_sh2, q_sh3, q_sh4, q_toL0, q_toL1, q_gl0, q_gls, q_sl0, q_sls, q_k10, q_k1s, q_lgi, q_lgr, q_lgl, q_lgn, Bool.not_false, and_true, true_and, nz_2, nz_4, nz_5, nz_8, nz_10, nz_12, nz_14, nz_16, nz_40, nz_41, nz_64, nz_100, nz_1000, nz_1024, nz_4096, nz_10000, nz_100000, not_false_eq_true, bI_0, nI_add, pk_mul, nI_lt', nI_le', nI_eq', nI_z, nI_p, nI_e0, nI_l0, nI_le0, nI_clamp, up_eq, up_ne, not_true_eq_false, Classical.not_not, false_implies, true_implies, false_and, and_false, or_true, true_or, Nat.add_zero, pk_m1, m1_0, m1_n, m1_p, Nat.zero_le, forall_const, Nat.zero_add, Nat.reduceAdd, Nat.reduceEqDiff, or_false, false_or, Nat.one_ne_zero, l64_2, l64_3, l64_4, l64_5, l64_7, l64_9, l64_10, l64_11, l64_15, l64_20, l64_30, l64_40, l64_60, l64_99, l64_255, l64_999, le64l, le64r, le64b, le64n, rset_eq, rset_upd, rset_rset, upd_nep, upd_eqp, ix21_4k, ix21_1, ix21_2, ix21_3, ix21_4, ix21_5, ix21_6, ix21_7, ix21_8, ix21_9, ix21_10, ix76_1, ix76_2, ix76_3, ix100_1, ix100_2, ix100_3]
        refine ⟨fun p => ?_, fun p => ⟨fun p2 => ?_, fun p2 => ⟨v24, v23, fun p3 => h67 _ _ _ ?_, fun p3 => h67 _ _ _ ?_⟩⟩⟩
        · rw [if_neg p] at hls
          rw [hls] at f70
          exact f70 _
        · rw [if_pos p, if_pos p2] at hls
          rw [hls] at f70
          exact f70 _
        · rw [if_pos p, if_neg p2, if_neg (Int32.not_lt.mpr p3)] at hls
          rw [hls] at f70
          simp (disch := omega) only [bX10_watchIn_67, k8, hups, hupu, q_ci, q_cl, q_ild, q_lld, q_ald, q_ist, q_ast, q_lst, q_inc, q_b2, q_d2, q_u1, q_l2, q_ld2, q_lsh, q_lcmp, q_i2l, q_l2i, q_dupi, q_dupr, q_dup2, q_popi, q_popr, q_if1, q_if2, q_nn, q_sw, q_swn, q_swc, q_gf, q_gr, q_pf, q_pz, q_pc, q_ia, q_is, q_cs, q_zs, q_la, q_lw, q_aa, q_al, q_gs, q_acp, q_m2, q_m1, q_ir, q_zr, q_lr, q_ar, q_vr, q_cN0, q_cSX0, q_cV0, q_cVX0, q_cN1, q_cSX1, q_cV1, q_cVX1, q_cN2, q_cSX2, q_cV2, q_cVX2, q_cN3, q_cSX3, q_cV3, q_cVX3, q_cN4, q_cSX4, q_cV4, q_cVX4, q_cN5, q_cSX5, q_cV5, q_cVX5, q_cN6, q_cSX6, q_cV6, q_cVX6, q_th, q_sh0, q_sh1, q_sh2, q_sh3, q_sh4, q_toL0, q_toL1, q_gl0, q_gls, q_sl0, q_sls, q_k10, q_k1s, q_lgi, q_lgr, q_lgl, q_lgn, Bool.not_false, and_true, true_and, nz_2, nz_4, nz_5, nz_8, nz_10, nz_12, nz_14, nz_16, nz_40, nz_41, nz_64, nz_100, nz_1000, nz_1024, nz_4096, nz_10000, nz_100000, not_false_eq_true, bI_0, nI_add, pk_mul, nI_lt', nI_le', nI_eq', nI_z, nI_p, nI_e0, nI_l0, nI_le0, nI_clamp, up_eq, up_ne, not_true_eq_false, Classical.not_not, false_implies, true_implies, false_and, and_false, or_true, true_or, Nat.add_zero, pk_m1, m1_0, m1_n, m1_p, Nat.zero_le, forall_const, Nat.zero_add, Nat.reduceAdd, Nat.reduceEqDiff, or_false, false_or, Nat.one_ne_zero, l64_2, l64_3, l64_4, l64_5, l64_7, l64_9, l64_10, l64_11, l64_15, l64_20, l64_30, l64_40, l64_60, l64_99, l64_255, l64_999, le64l, le64r, le64b, le64n, rset_eq, rset_upd, rset_rset, upd_nep, upd_eqp, ix21_4k, ix21_1, ix21_2, ix21_3, ix21_4, ix21_5, ix21_6, ix21_7, ix21_8, ix21_9, ix21_10, ix76_1, ix76_2, ix76_3, ix100_1, ix100_2, ix100_3]
          exact f70 _
        · rw [if_pos p, if_neg p2, if_pos (Int32.not_le.mp p3)] at hls
          rw [hls] at f70
          simp (disch := omega) only [bX10_watchIn_67, k8, hups, hupu, q_ci, q_cl, q_ild, q_lld, q_ald, q_ist, q_ast, q_lst, q_inc, q_b2, q_d2, q_u1, q_l2, q_ld2, q_lsh, q_lcmp, q_i2l, q_l2i, q_dupi, q_dupr, q_dup2, q_popi, q_popr, q_if1, q_if2, q_nn, q_sw, q_swn, q_swc, q_gf, q_gr, q_pf, q_pz, q_pc, q_ia, q_is, q_cs, q_zs, q_la, q_lw, q_aa, q_al, q_gs, q_acp, q_m2, q_m1, q_ir, q_zr, q_lr, q_ar, q_vr, q_cN0, q_cSX0, q_cV0, q_cVX0, q_cN1, q_cSX1, q_cV1, q_cVX1, q_cN2, q_cSX2, q_cV2, q_cVX2, q_cN3, q_cSX3, q_cV3, q_cVX3, q_cN4, q_cSX4, q_cV4, q_cVX4, q_cN5, q_cSX5, q_cV5, q_cVX5, q_cN6, q_cSX6, q_cV6, q_cVX6, q_th, q_sh0, q_sh1, q_sh2, q_sh3, q_sh4, q_toL0, q_toL1, q_gl0, q_gls, q_sl0, q_sls, q_k10, q_k1s, q_lgi, q_lgr, q_lgl, q_lgn, Bool.not_false, and_true, true_and, nz_2, nz_4, nz_5, nz_8, nz_10, nz_12, nz_14, nz_16, nz_40, nz_41, nz_64, nz_100, nz_1000, nz_1024, nz_4096, nz_10000, nz_100000, not_false_eq_true, bI_0, nI_add, pk_mul, nI_lt', nI_le', nI_eq', nI_z, nI_p, nI_e0, nI_l0, nI_le0, nI_clamp, up_eq, up_ne, not_true_eq_false, Classical.not_not, false_implies, true_implies, false_and, and_false, or_true, true_or, Nat.add_zero, pk_m1, m1_0, m1_n, m1_p, Nat.zero_le, forall_const, Nat.zero_add, Nat.reduceAdd, Nat.reduceEqDiff, or_false, false_or, Nat.one_ne_zero, l64_2, l64_3, l64_4, l64_5, l64_7, l64_9, l64_10, l64_11, l64_15, l64_20, l64_30, l64_40, l64_60, l64_99, l64_255, l64_999, le64l, le64r, le64b, le64n, rset_eq, rset_upd, rset_rset, upd_nep, upd_eqp, ix21_4k, ix21_1, ix21_2, ix21_3, ix21_4, ix21_5, ix21_6, ix21_7, ix21_8, ix21_9, ix21_10, ix76_1, ix76_2, ix76_3, ix100_1, ix100_2, ix100_3]
          exact f70 _
    simp (disch := omega) only [bX10_watchIn_0, sp_X10_arrive, ka, la, q_ci, q_cl, q_ild, q_lld, q_ald, q_ist, q_ast, q_lst, q_inc, q_b2, q_d2, q_u1, q_l2, q_ld2, q_lsh, q_lcmp, q_i2l, q_l2i, q_dupi, q_dupr, q_dup2, q_popi, q_popr, q_if1, q_if2, q_nn, q_sw, q_swn, q_swc, q_gf, q_gr, q_pf, q_pz, q_pc, q_ia, q_is, q_cs, q_zs, q_la, q_lw, q_aa, q_al, q_gs, q_acp, q_m2, q_m1, q_ir, q_zr, q_lr, q_ar, q_vr, q_cN0, q_cSX0, q_cV0, q_cVX0, q_cN1, q_cSX1, q_cV1, q_cVX1, q_cN2, q_cSX2, q_cV2, q_cVX2, q_cN3, q_cSX3, q_cV3, q_cVX3, q_cN4, q_cSX4, q_cV4, q_cVX4, q_cN5, q_cSX5, q_cV5, q_cVX5, q_cN6, q_cSX6, q_cV6, q_cVX6, q_th, q_sh0, q_sh1, q_sh2, q_sh3, q_sh4, q_toL0, q_toL1, q_gl0, q_gls, q_sl0, q_sls, q_k10, q_k1s, q_lgi, q_lgr, q_lgl, q_lgn, Bool.not_false, and_true, true_and, nz_2, nz_4, nz_5, nz_8, nz_10, nz_12, nz_14, nz_16, nz_40, nz_41, nz_64, nz_100, nz_1000, nz_1024, nz_4096, nz_10000, nz_100000, not_false_eq_true, bI_0, nI_add, pk_mul, nI_lt', nI_le', nI_eq', nI_z, nI_p, nI_e0, nI_l0, nI_le0, nI_clamp, up_eq, up_ne, not_true_eq_false, Classical.not_not, false_implies, true_implies, false_and, and_false, or_true, true_or, Nat.add_zero, pk_m1, m1_0, m1_n, m1_p, Nat.zero_le, forall_const, Nat.zero_add, Nat.reduceAdd, Nat.reduceEqDiff, or_false, false_or, Nat.one_ne_zero, l64_2, l64_3, l64_4, l64_5, l64_7, l64_9, l64_10, l64_11, l64_15, l64_20, l64_30, l64_40, l64_60, l64_99, l64_255, l64_999, le64l, le64r, le64b, le64n, rset_eq, rset_upd, rset_rset, upd_nep, upd_eqp, ix21_4k, ix21_1, ix21_2, ix21_3, ix21_4, ix21_5, ix21_6, ix21_7, ix21_8, ix21_9, ix21_10, ix76_1, ix76_2, ix76_3, ix100_1, ix100_2, ix100_3]
    refine ⟨⟨ka, la⟩, n, hR, hW.q hT, fun r' hr' => ?_⟩
    have := H6 _ 0 r' .null .null (Nat.zero_add _) hr'
    rw [show n_ls n v (σ 8 14) 0 = σ 8 14 from rfl, up_self] at this
    exact this
set_option maxRecDepth 20000 in
set_option maxHeartbeats 4000000 in
theorem ok_X10_runIn {l : Launch} (hl : l.stackTraces = false) : ab_OkN l yX10_runIn (Cond.code yX10_runIn cX10_runIn 5 (some .int)) 5 sp_X10_runIn := by
  intro w σ As Kn hI h
  unfold sp_X10_runIn at h
  split at h
  rotate_left 1
  · exact h.elim
  next x a c =>
    obtain ⟨a, rfl⟩ : ∃ z : Nat, z = a := ⟨_, rfl⟩
    obtain ⟨rfl, k8, ⟨ka, la⟩, ha8, n, T, c, hR, hW, rfl, hT, hc1, h⟩ := h
    have h8a : (8 : Nat) ≠ a := fun q => ha8 q.symm
    refine vc_X10_runIn hl hI (ok_X10_watchIn hl) (Nat.le_of_ble_eq_true rfl) (fun M h0 h7 => h0 [.ref 8, .ref a, .int (nI c), .null, .null] [] σ ?_)
    have w4 : vp_in (nI 4) 304 := vp_in_nI (by omega) (by omega)
    have e4 : σ a 4 = n.1 4 := hR.1 4 (by omega) (by omega) (by omega) (by omega)
    have e13 : ∀ l, ab_up σ 8 14 l 8 13 = σ 8 13 := fun l => up_nep (by omega)
    have e14 : ∀ l, ab_up σ 8 14 l 8 14 = l := fun l => up_eqp rfl rfl
    have e138 : ∀ τ r, rset τ a r 8 = τ 8 := fun τ r => rset_ne h8a
    have hups : ∀ τ r y, ab_up (rset τ a r) 8 14 y = rset (ab_up τ 8 14 y) a r := fun τ r y => up_rset ha8
    have hupu : ∀ l y, ab_up (ab_up σ 8 14 l) 8 14 y = ab_up σ 8 14 y := fun l y => up_up
    have H : ∀ d k r, k + d = c → RM r (n_run k n) → M 7 [.ref 8, .ref a, .int (nI c), .int (n.1 4), .int (nI k)] [] (rset (ab_up σ 8 14 (n_lr n (σ 8 13) (σ 8 14) k)) a r) := by
      intro d
      induction d with
      | zero =>
        intro k r hk hr
        have hkc : k = c := by omega
        subst hkc
        refine h7 _ _ _ ?_
        have r4 : r 4 = (n_run k n).1 4 := hr.1 4 (by omega) (by omega) (by omega) (by omega)
        simp (disch := omega) only [bX10_runIn_7, ka, la, r4, q_ci, q_cl, q_ild, q_lld, q_ald, q_ist, q_ast, q_lst, q_inc, q_b2, q_d2, q_u1, q_l2, q_ld2, q_lsh, q_lcmp, q_i2l, q_l2i, q_dupi, q_dupr, q_dup2, q_popi, q_popr, q_if1, q_if2, q_nn, q_sw, q_swn, q_swc, q_gf, q_gr, q_pf, q_pz, q_pc, q_ia, q_is, q_cs, q_zs, q_la, q_lw, q_aa, q_al, q_gs, q_acp, q_m2, q_m1, q_ir, q_zr, q_lr, q_ar, q_vr, q_cN0, q_cSX0, q_cV0, q_cVX0, q_cN1, q_cSX1, q_cV1, q_cVX1, q_cN2, q_cSX2, q_cV2, q_cVX2, q_cN3, q_cSX3, q_cV3, q_cVX3, q_cN4, q_cSX4, q_cV4, q_cVX4, q_cN5, q_cSX5, q_cV5, q_cVX5, q_cN6, q_cSX6, q_cV6, q_cVX6, q_th, q_sh0, q_sh1, q_sh2, q_sh3, q_sh4, q_toL0, q_toL1, q_gl0, q_gls, q_sl0, q_sls, q_k10, q_k1s, q_lgi, q_lgr, q_lgl, q_lgn, Bool.not_false, and_true, true_and, nz_2, nz_4, nz_5, nz_8, nz_10, nz_12, nz_14, nz_16, nz_40, nz_41, nz_64, nz_100, nz_1000, nz_1024, nz_4096, nz_10000, nz_100000, not_false_eq_true, bI_0, nI_add, pk_mul, nI_lt', nI_le', nI_eq', nI_z, nI_p, nI_e0, nI_l0, nI_le0, nI_clamp, up_eq, up_ne, not_true_eq_false, Classical.not_not, false_implies, true_implies, false_and, and_false, or_true, true_or, Nat.add_zero, pk_m1, m1_0, m1_n, m1_p, Nat.zero_le, forall_const, Nat.zero_add, Nat.reduceAdd, Nat.reduceEqDiff, or_false, false_or, Nat.one_ne_zero, l64_2, l64_3, l64_4, l64_5, l64_7, l64_9, l64_10, l64_11, l64_15, l64_20, l64_30, l64_40, l64_60, l64_99, l64_255, l64_999, le64l, le64r, le64b, le64n, rset_eq, rset_upd, rset_rset, upd_nep, upd_eqp, ix21_4k, ix21_1, ix21_2, ix21_3, ix21_4, ix21_5, ix21_6, ix21_7, ix21_8, ix21_9, ix21_10, ix76_1, ix76_2, ix76_3, ix100_1, ix100_2, ix100_3]
        exact ⟨fun _ => ⟨w4, h r hr⟩, fun q => absurd (Nat.le_refl _) q⟩
      | succ d ih =>
        intro k r hk hr
        refine h7 _ _ _ ?_
        have hWk := WF_run hW k (by omega)
        simp (disch := omega) only [bX10_runIn_7, sp_X10_watchIn, k8, ka, la, q_ci, q_cl, q_ild, q_lld, q_ald, q_ist, q_ast, q_lst, q_inc, q_b2, q_d2, q_u1, q_l2, q_ld2, q_lsh, q_lcmp, q_i2l, q_l2i, q_dupi, q_dupr, q_dup2, q_popi, q_popr, q_if1, q_if2, q_nn, q_sw, q_swn, q_swc, q_gf, q_gr, q_pf, q_pz, q_pc, q_ia, q_is, q_cs, q_zs, q_la, q_lw, q_aa, q_al, q_gs, q_acp, q_m2, q_m1, q_ir, q_zr, q_lr, q_ar, q_vr, q_cN0, q_cSX0, q_cV0, q_cVX0, q_cN1, q_cSX1, q_cV1, q_cVX1, q_cN2, q_cSX2, q_cV2, q_cVX2, q_cN3, q_cSX3, q_cV3, q_cVX3, q_cN4, q_cSX4, q_cV4, q_cVX4, q_cN5, q_cSX5, q_cV5, q_cVX5, q_cN6, q_cSX6, q_cV6, q_cVX6, q_th, q_sh0, q_sh1, q_sh2, q_sh3, q_sh4, q_toL0, q_toL1, q_gl0, q_gls, q_sl0, q_sls, q_k10, q_k1s, q_lgi, q_lgr, q_lgl, q_lgn, Bool.not_false, and_true, true_and, nz_2, nz_4, nz_5, nz_8, nz_10, nz_12, nz_14, nz_16, nz_40, nz_41, nz_64, nz_100, nz_1000, nz_1024, nz_4096, nz_10000, nz_100000, not_false_eq_true, bI_0, nI_add, pk_mul, nI_lt', nI_le', nI_eq', nI_z, nI_p, nI_e0, nI_l0, nI_le0, nI_clamp, up_eq, up_ne, not_true_eq_false, Classical.not_not, false_implies, true_implies, false_and, and_false, or_true, true_or, Nat.add_zero, pk_m1, m1_0, m1_n, m1_p, Nat.zero_le, forall_const, Nat.zero_add, Nat.reduceAdd, Nat.reduceEqDiff, or_false, false_or, Nat.one_ne_zero, l64_2, l64_3, l64_4, l64_5, l64_7, l64_9, l64_10, l64_11, l64_15, l64_20, l64_30, l64_40, l64_60, l64_99, l64_255, l64_999, le64l, le64r, le64b, le64n, rset_eq, rset_upd, rset_rset, upd_nep, upd_eqp, ix21_4k, ix21_1, ix21_2, ix21_3, ix21_4, ix21_5, ix21_6, ix21_7, ix21_8, ix21_9, ix21_10, ix76_1, ix76_2, ix76_3, ix100_1, ix100_2, ix100_3]
        refine ⟨fun q => absurd q (by omega), fun _ => ⟨⟨ka, la⟩, ha8, n_run k n, T + k, hr, hWk, by omega, fun r' hr' => ?_⟩⟩
        have := ih (k + 1) r' (by omega) hr'
        simp only [hups, hupu, e138, e13, e14, rset_rset]
        exact this
    simp (disch := omega) only [bX10_runIn_0, ka, la, e4, q_ci, q_cl, q_ild, q_lld, q_ald, q_ist, q_ast, q_lst, q_inc, q_b2, q_d2, q_u1, q_l2, q_ld2, q_lsh, q_lcmp, q_i2l, q_l2i, q_dupi, q_dupr, q_dup2, q_popi, q_popr, q_if1, q_if2, q_nn, q_sw, q_swn, q_swc, q_gf, q_gr, q_pf, q_pz, q_pc, q_ia, q_is, q_cs, q_zs, q_la, q_lw, q_aa, q_al, q_gs, q_acp, q_m2, q_m1, q_ir, q_zr, q_lr, q_ar, q_vr, q_cN0, q_cSX0, q_cV0, q_cVX0, q_cN1, q_cSX1, q_cV1, q_cVX1, q_cN2, q_cSX2, q_cV2, q_cVX2, q_cN3, q_cSX3, q_cV3, q_cVX3, q_cN4, q_cSX4, q_cV4, q_cVX4, q_cN5, q_cSX5, q_cV5, q_cVX5, q_cN6, q_cSX6, q_cV6, q_cVX6, q_th, q_sh0, q_sh1, q_sh2, q_sh3, q_sh4, q_toL0, q_toL1, q_gl0, q_gls, q_sl0, q_sls, q_k10, q_k1s, q_lgi, q_lgr, q_lgl, q_lgn, Bool.not_false, and_true, true_and, nz_2, nz_4, nz_5, nz_8, nz_10, nz_12, nz_14, nz_16, nz_40, nz_41, nz_64, nz_100, nz_1000, nz_1024, nz_4096, nz_10000, nz_100000, not_false_eq_true, bI_0, nI_add, pk_mul, nI_lt', nI_le', nI_eq', nI_z, nI_p, nI_e0, nI_l0, nI_le0, nI_clamp, up_eq, up_ne, not_true_eq_false, Classical.not_not, false_implies, true_implies, false_and, and_false, or_true, true_or, Nat.add_zero, pk_m1, m1_0, m1_n, m1_p, Nat.zero_le, forall_const, Nat.zero_add, Nat.reduceAdd, Nat.reduceEqDiff, or_false, false_or, Nat.one_ne_zero, l64_2, l64_3, l64_4, l64_5, l64_7, l64_9, l64_10, l64_11, l64_15, l64_20, l64_30, l64_40, l64_60, l64_99, l64_255, l64_999, le64l, le64r, le64b, le64n, rset_eq, rset_upd, rset_rset, upd_nep, upd_eqp, ix21_4k, ix21_1, ix21_2, ix21_3, ix21_4, ix21_5, ix21_6, ix21_7, ix21_8, ix21_9, ix21_10, ix76_1, ix76_2, ix76_3, ix100_1, ix100_2, ix100_3]
    have := H c 0 (σ a) (by omega) hR
    rw [show n_lr n (σ 8 13) (σ 8 14) 0 = σ 8 14 from rfl, up_self, rset_self] at this
    exact ⟨w4, this⟩
