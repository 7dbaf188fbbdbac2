theorem WQ.num {n : nT} {f : nF} (h : WQ n) (e0 : f 0 = n.1 0) (e1 : f 1 = n.1 1) (e2 : f 2 = n.1 2) : WQ (f, n.2) := by
  unfold WQ cOK at *
  dsimp only
  rw [e0, e1, e2]
  exact h
def sp_X10_release : ab_S := fun w As σ K => match As with
  | [.ref a, .int i] => wR w a ∧ ∃ T m n k q, RM (σ a) n ∧ WFm T m n ∧ m < 5 ∧ i = nI k ∧ k < cl (n.1 1) ∧ n_most n.1 k = some q ∧ T < 100000 ∧ ∀ r', RM r' (n_rel n k) → K none (rset σ a r')
  | _ => False
set_option maxRecDepth 20000 in
set_option maxHeartbeats 4000000 in
theorem ok_X10_release {l : Launch} (hl : l.stackTraces = false) : ab_OkN l yX10_release (Cond.code yX10_release cX10_release 5 none) 3 sp_X10_release := by
  intro w σ As Kn hI h
  unfold sp_X10_release at h
  split at h
  rotate_left 1
  · exact h.elim
  next a i =>
    obtain ⟨a, rfl⟩ : ∃ z : Nat, z = a := ⟨_, rfl⟩
    obtain ⟨⟨ka, la⟩, T, m, n, k, q, hR, hW, hm5, rfl, hk, hq, hT, ha⟩ := h
    refine vc_X10_release hl hI (ok_X10_mostFlown hl) (ok_X10_stationAt hl) (ok_X10_landingOf hl) (ok_X10_finderOf hl) (ok_X10_finderAt hl) (ok_X10_stationOf hl) (ok_X10_sendBack hl) (Nat.le_of_ble_eq_true rfl) (fun M h0 h80 h155 => ?_)
    suffices HS : M 0 [.ref a, .int (nI k), .null, .null, .null] [] (rset σ a (σ a)) from (by rw [rset_self] at HS; exact HS)
    refine h0 _ _ _ ?_
    have hr := hR.1
    have hc := hW.cOK
    have h5 := hc.2
    have hq4 := n_most_lt hq
    have hT0 := hW.1.2.1
    have hWQ := hW.q hT (by omega)
    have w0 : vp_in (nI 0) 304 := vp_in_nI (by omega) (by omega)
    have w4 : vp_in (nI 4) 304 := vp_in_nI (by omega) (by omega)
    have w6 : vp_in (nI 6) 304 := vp_in_nI (by omega) (by omega)
    have w8 : vp_in (nI 8) 304 := vp_in_nI (by omega) (by omega)
    have w13 : vp_in (nI 13) 304 := vp_in_nI (by omega) (by omega)
    have v23 : vp_in (nI (23 + 11 * k)) 304 := vp_in_nI (by omega) (by omega)
    have v24 : vp_in (nI (24 + 11 * k)) 304 := vp_in_nI (by omega) (by omega)
    have v25 : vp_in (nI (25 + 11 * k + q)) 304 := vp_in_nI (by omega) (by omega)
    have v30 : vp_in (nI (30 + 11 * k)) 304 := vp_in_nI (by omega) (by omega)
    have eq : oI (n_most n.1 k) = nI q := by rw [hq]; rfl
    have er : nI (cl (n.1 0)) - nI (cl (n.1 0)) / nI 4 * nI 4 = nI (cl (n.1 0) % 4) := pk_rem (by omega) (by decide) (by decide)
    have e0 : σ a 0 = nI (cl (n.1 0)) := (hr 0 (by omega) (by omega) (by omega) (by omega)).trans hW.1.1
    have e4 : σ a 4 = n.1 4 := hr 4 (by omega) (by omega) (by omega) (by omega)
    have e23 : σ a (23 + 11 * k) = n.1 (23 + 11 * k) := hr _ (by omega) (by omega) (by omega) (by omega)
    have e24 : σ a (24 + 11 * k) = n.1 (24 + 11 * k) := hr _ (by omega) (by omega) (by omega) (by omega)
    have e25 : σ a (25 + 11 * k + q) = n.1 (25 + 11 * k + q) := hr _ (by omega) (by omega) (by omega) (by omega)
    have e30 : σ a (30 + 11 * k) = n.1 (30 + 11 * k) := hr _ (by omega) (by omega) (by omega) (by omega)
    have hR1 : RM (upd (upd (upd (upd (σ a) (24 + 11 * k) (n.1 (24 + 11 * k) - n.1 (23 + 11 * k))) (25 + 11 * k + q) (n.1 (25 + 11 * k + q) - nI 1)) (30 + 11 * k) (n.1 (30 + 11 * k) + nI 1)) 4 (n.1 4 + nI 1)) (n_up1 n.1 k q, n.2) := by
      have A1 := (((hR.up (i := 24 + 11 * k) (n.1 (24 + 11 * k) - n.1 (23 + 11 * k)) (by omega) (by omega) (by omega) (by omega)).up (i := 25 + 11 * k + q) (n.1 (25 + 11 * k + q) - nI 1) (by omega) (by omega) (by omega) (by omega)).up (i := 30 + 11 * k) (n.1 (30 + 11 * k) + nI 1) (by omega) (by omega) (by omega) (by omega)).up (i := 4) (n.1 4 + nI 1) (by omega) (by omega) (by omega) (by omega)
      have e : upd (upd (upd (upd n.1 (24 + 11 * k) (n.1 (24 + 11 * k) - n.1 (23 + 11 * k))) (25 + 11 * k + q) (n.1 (25 + 11 * k + q) - nI 1)) (30 + 11 * k) (n.1 (30 + 11 * k) + nI 1)) 4 (n.1 4 + nI 1) = n_up1 n.1 k q := by
        unfold n_up1
        rw [nI_one, upd_comm (f := n.1) (i := 24 + 11 * k) (j := 25 + 11 * k + q) (by omega)]
      rw [← e]
      exact A1
    have eix : 21 + 11 * k + (4 + q) = 25 + 11 * k + q := by omega
    simp (disch := omega) only [bX10_release_0, sp_X10_mostFlown, sp_X10_stationAt, ka, la, e0, q_ci, q_cl, q_ild, q_lld, q_ald, q_ist, q_ast, q_lst, q_inc, q_b2, q_d2, q_u1, q_l2, q_ld2, q_lsh, q_lcmp, q_i2l, q_l2i, q_dupi, q_dupr, q_dup2, q_popi, q_popr, q_if1, q_if2, q_nn, q_sw, q_swn, q_swc, q_gf, q_gr, q_pf, q_pz, q_pc, q_ia, q_is, q_cs, q_zs, q_la, q_lw, q_aa, q_al, q_gs, q_acp, q_m2, q_m1, q_ir, q_zr, q_lr, q_ar, q_vr, q_cN0, q_cSX0, q_cV0, q_cVX0, q_cN1, q_cSX1, q_cV1, q_cVX1, q_cN2, q_cSX2, q_cV2, q_cVX2, q_cN3, q_cSX3, q_cV3, q_cVX3, q_cN4, q_cSX4, q_cV4, q_cVX4, q_cN5, q_cSX5, q_cV5, q_cVX5, q_cN6, q_cSX6, q_cV6, q_cVX6, q_th, q_sh0, q_sh1, q_sh2, q_sh3, q_sh4, q_toL0, q_toL1, q_gl0, q_gls, q_sl0, q_sls, q_k10, q_k1s, q_lgi, q_lgr, q_lgl, q_lgn, Bool.not_false, and_true, true_and, nz_2, nz_4, nz_5, nz_8, nz_10, nz_12, nz_14, nz_16, nz_40, nz_41, nz_64, nz_100, nz_1000, nz_1024, nz_4096, nz_10000, nz_100000, not_false_eq_true, bI_0, nI_add, pk_mul, nI_lt', nI_le', nI_eq', nI_z, nI_p, nI_e0, nI_l0, nI_le0, nI_clamp, up_eq, up_ne, not_true_eq_false, Classical.not_not, false_implies, true_implies, false_and, and_false, or_true, true_or, Nat.add_zero, pk_m1, m1_0, m1_n, m1_p, Nat.zero_le, forall_const, Nat.zero_add, Nat.reduceAdd, Nat.reduceEqDiff, or_false, false_or, Nat.one_ne_zero, l64_2, l64_3, l64_4, l64_5, l64_7, l64_9, l64_10, l64_11, l64_15, l64_20, l64_30, l64_40, l64_60, l64_99, l64_255, l64_999, le64l, le64r, le64b, le64n, rset_eq, rset_upd, rset_rset, upd_nep, upd_eqp, ix21_4k, ix21_1, ix21_2, ix21_3, ix21_4, ix21_5, ix21_6, ix21_7, ix21_8, ix21_9, ix21_10, ix76_1, ix76_2, ix76_3, ix100_1, ix100_2, ix100_3]
    refine ⟨⟨ka, la⟩, n, k, hR, rfl, by omega, ?_⟩
    have eu : upd (upd (upd (upd (σ a) (24 + 11 * k) (n.1 (24 + 11 * k) - n.1 (23 + 11 * k))) (25 + 11 * k + q) (n.1 (25 + 11 * k + q) - nI 1)) (30 + 11 * k) (n.1 (30 + 11 * k) + nI 1)) 4 (n.1 4 + nI 1) 0 = nI (cl (n.1 0)) := by simp (disch := omega) only [upd_nep]; exact e0
    simp (disch := omega) only [eq, sp_X10_stationAt, sp_X10_landingOf, ka, la, e0, e4, e23, e24, e25, e30, er, eix, eu, q_ci, q_cl, q_ild, q_lld, q_ald, q_ist, q_ast, q_lst, q_inc, q_b2, q_d2, q_u1, q_l2, q_ld2, q_lsh, q_lcmp, q_i2l, q_l2i, q_dupi, q_dupr, q_dup2, q_popi, q_popr, q_if1, q_if2, q_nn, q_sw, q_swn, q_swc, q_gf, q_gr, q_pf, q_pz, q_pc, q_ia, q_is, q_cs, q_zs, q_la, q_lw, q_aa, q_al, q_gs, q_acp, q_m2, q_m1, q_ir, q_zr, q_lr, q_ar, q_vr, q_cN0, q_cSX0, q_cV0, q_cVX0, q_cN1, q_cSX1, q_cV1, q_cVX1, q_cN2, q_cSX2, q_cV2, q_cVX2, q_cN3, q_cSX3, q_cV3, q_cVX3, q_cN4, q_cSX4, q_cV4, q_cVX4, q_cN5, q_cSX5, q_cV5, q_cVX5, q_cN6, q_cSX6, q_cV6, q_cVX6, q_th, q_sh0, q_sh1, q_sh2, q_sh3, q_sh4, q_toL0, q_toL1, q_gl0, q_gls, q_sl0, q_sls, q_k10, q_k1s, q_lgi, q_lgr, q_lgl, q_lgn, Bool.not_false, and_true, true_and, nz_2, nz_4, nz_5, nz_8, nz_10, nz_12, nz_14, nz_16, nz_40, nz_41, nz_64, nz_100, nz_1000, nz_1024, nz_4096, nz_10000, nz_100000, not_false_eq_true, bI_0, nI_add, pk_mul, nI_lt', nI_le', nI_eq', nI_z, nI_p, nI_e0, nI_l0, nI_le0, nI_clamp, up_eq, up_ne, not_true_eq_false, Classical.not_not, false_implies, true_implies, false_and, and_false, or_true, true_or, Nat.add_zero, pk_m1, m1_0, m1_n, m1_p, Nat.zero_le, forall_const, Nat.zero_add, Nat.reduceAdd, Nat.reduceEqDiff, or_false, false_or, Nat.one_ne_zero, l64_2, l64_3, l64_4, l64_5, l64_7, l64_9, l64_10, l64_11, l64_15, l64_20, l64_30, l64_40, l64_60, l64_99, l64_255, l64_999, le64l, le64r, le64b, le64n, rset_eq, rset_upd, rset_rset, upd_nep, upd_eqp, ix21_4k, ix21_1, ix21_2, ix21_3, ix21_4, ix21_5, ix21_6, ix21_7, ix21_8, ix21_9, ix21_10, ix76_1, ix76_2, ix76_3, ix100_1, ix100_2, ix100_3]
    generalize hr1 : upd (upd (upd (upd (σ a) (24 + 11 * k) (n.1 (24 + 11 * k) - n.1 (23 + 11 * k))) (25 + 11 * k + q) (n.1 (25 + 11 * k + q) - nI 1)) (30 + 11 * k) (n.1 (30 + 11 * k) + nI 1)) 4 (n.1 4 + nI 1) = r1 at hR1 ⊢
    have hui := fun i => @n_up1_i n.1 k q i
    have hWF : WFf T (n_up1 n.1 k q) := hW.1.of (hui 0 (by omega) (by omega) (by omega) (by omega)) (hui 1 (by omega) (by omega) (by omega) (by omega)) (hui 2 (by omega) (by omega) (by omega) (by omega)) (hui 12 (by omega) (by omega) (by omega) (by omega)) (hui 13 (by omega) (by omega) (by omega) (by omega)) (fun s hs => ⟨hui _ (by omega) (by omega) (by omega) (by omega), hui _ (by omega) (by omega) (by omega) (by omega)⟩) (fun j hj => ⟨hui _ (by omega) (by omega) (by omega) (by omega), hui _ (by omega) (by omega) (by omega) (by omega), hui _ (by omega) (by omega) (by omega) (by omega)⟩)
    have hu0 := hui 0 (by omega) (by omega) (by omega) (by omega)
    have hu1 := hui 1 (by omega) (by omega) (by omega) (by omega)
    have hu2 := hui 2 (by omega) (by omega) (by omega) (by omega)
    have er0 : n_rel n k = match n_find (n_up1 n.1 k q) k with
      | none => (upd (n_up1 n.1 k q) 6 (n_up1 n.1 k q 6 + 1), n.2)
      | some kk =>
        let g := upd (n_up1 n.1 k q) (79 + 4 * kk) (n_up1 n.1 k q (79 + 4 * kk) + 1)
        if g 13 ≤ nI (q + 1) then (upd g 8 (g 8 + 1), n.2)
        else (g, n.2.1, n_ins (cl (g 0) + cl (g (78 + 4 * kk)), (n_near g (g (76 + 4 * kk)) (cl (g 1))).getD 0, q + 1) n.2.2.1, n.2.2.2) := by
      unfold n_rel; rw [hq]; rfl
    have hB0 : cl (n.1 0) = cl (n_up1 n.1 k q 0) := by rw [hu0]
    generalize hFF : n_up1 n.1 k q = F at *
    have H80 : ∀ p y, M 80 [.ref a, .int (nI k), .int (nI q), .int p, y] [.int (oI (n_find F k))] (rset σ a r1) := by
      intro p y
      refine h80 _ _ _ ?_
      have hrF := hR1.1
      cases hf : n_find F k with
      | none =>
        rw [hf] at er0
        rw [er0] at ha
        have ez : oI none = -1 := rfl
        have e6 : r1 6 = F 6 := hrF 6 (by omega) (by omega) (by omega) (by omega)
        simp (disch := omega) only [bX10_release_80, ez, ka, la, e6, q_ci, q_cl, q_ild, q_lld, q_ald, q_ist, q_ast, q_lst, q_inc, q_b2, q_d2, q_u1, q_l2, q_ld2, q_lsh, q_lcmp, q_i2l, q_l2i, q_dupi, q_dupr, q_dup2, q_popi, q_popr, q_if1, q_if2, q_nn, q_sw, q_swn, q_swc, q_gf, q_gr, q_pf, q_pz, q_pc, q_ia, q_is, q_cs, q_zs, q_la, q_lw, q_aa, q_al, q_gs, q_acp, q_m2, q_m1, q_ir, q_zr, q_lr, q_ar, q_vr, q_cN0, q_cSX0, q_cV0, q_cVX0, q_cN1, q_cSX1, q_cV1, q_cVX1, q_cN2, q_cSX2, q_cV2, q_cVX2, q_cN3, q_cSX3, q_cV3, q_cVX3, q_cN4, q_cSX4, q_cV4, q_cVX4, q_cN5, q_cSX5, q_cV5, q_cVX5, q_cN6, q_cSX6, q_cV6, q_cVX6, q_th, q_sh0, q_sh1, q_sh2, q_sh3, q_sh4, q_toL0, q_toL1, q_gl0, q_gls, q_sl0, q_sls, q_k10, q_k1s, q_lgi, q_lgr, q_lgl, q_lgn, Bool.not_false, and_true, true_and, nz_2, nz_4, nz_5, nz_8, nz_10, nz_12, nz_14, nz_16, nz_40, nz_41, nz_64, nz_100, nz_1000, nz_1024, nz_4096, nz_10000, nz_100000, not_false_eq_true, bI_0, nI_add, pk_mul, nI_lt', nI_le', nI_eq', nI_z, nI_p, nI_e0, nI_l0, nI_le0, nI_clamp, up_eq, up_ne, not_true_eq_false, Classical.not_not, false_implies, true_implies, false_and, and_false, or_true, true_or, Nat.add_zero, pk_m1, m1_0, m1_n, m1_p, Nat.zero_le, forall_const, Nat.zero_add, Nat.reduceAdd, Nat.reduceEqDiff, or_false, false_or, Nat.one_ne_zero, l64_2, l64_3, l64_4, l64_5, l64_7, l64_9, l64_10, l64_11, l64_15, l64_20, l64_30, l64_40, l64_60, l64_99, l64_255, l64_999, le64l, le64r, le64b, le64n, rset_eq, rset_upd, rset_rset, upd_nep, upd_eqp, ix21_4k, ix21_1, ix21_2, ix21_3, ix21_4, ix21_5, ix21_6, ix21_7, ix21_8, ix21_9, ix21_10, ix76_1, ix76_2, ix76_3, ix100_1, ix100_2, ix100_3]
        have := ha _ (hR1.up (i := 6) (F 6 + 1) (by omega) (by omega) (by omega) (by omega))
        rw [nI_one]
        exact ⟨w6, w6, this⟩
      | some kk =>
        rw [hf] at er0
        dsimp only at er0
        have hkk := n_find_lt hf
        have ez : oI (some kk) = nI kk := rfl
        have hc6 := hWF.2.2.2.2.2.1
        obtain ⟨⟨pp, hpp, epp⟩, -, ⟨dd, hd1, hd30, edd⟩⟩ := hWF.2.2.2.2.2.2.2.1 kk hkk
        have hne : ¬ nI kk = -1 := by rw [m1_ne (by omega)]; exact fun q => q
        have v79 : vp_in (nI (79 + 4 * kk)) 304 := vp_in_nI (by omega) (by omega)
        have v78 : vp_in (nI (78 + 4 * kk)) 304 := vp_in_nI (by omega) (by omega)
        have e79 : r1 (79 + 4 * kk) = F (79 + 4 * kk) := hrF _ (by omega) (by omega) (by omega) (by omega)
        have e78 : r1 (78 + 4 * kk) = nI dd := (hrF _ (by omega) (by omega) (by omega) (by omega)).trans edd
        have e13 : r1 13 = F 13 := hrF 13 (by omega) (by omega) (by omega) (by omega)
        have e8 : r1 8 = F 8 := hrF 8 (by omega) (by omega) (by omega) (by omega)
        have e00 : r1 0 = nI (cl (F 0)) := (hrF 0 (by omega) (by omega) (by omega) (by omega)).trans hWF.1
        have R2 : RM (upd r1 (79 + 4 * kk) (F (79 + 4 * kk) + nI 1)) (upd F (79 + 4 * kk) (F (79 + 4 * kk) + 1), n.2) := by
          rw [nI_one]; exact hR1.up _ (by omega) (by omega) (by omega) (by omega)
        have hWG : WFf T (upd F (79 + 4 * kk) (F (79 + 4 * kk) + 1)) := hWF.of (upd_nep (by omega)) (upd_nep (by omega)) (upd_nep (by omega)) (upd_nep (by omega)) (upd_nep (by omega)) (fun s hs => ⟨upd_nep (by omega), upd_nep (by omega)⟩) (fun j hj => ⟨upd_nep (by omega), upd_nep (by omega), upd_nep (by omega)⟩)
        have G13 : upd F (79 + 4 * kk) (F (79 + 4 * kk) + 1) 13 = F 13 := upd_nep (by omega)
        have G8 : upd F (79 + 4 * kk) (F (79 + 4 * kk) + 1) 8 = F 8 := upd_nep (by omega)
        have G0 : upd F (79 + 4 * kk) (F (79 + 4 * kk) + 1) 0 = F 0 := upd_nep (by omega)
        have G1 : upd F (79 + 4 * kk) (F (79 + 4 * kk) + 1) 1 = F 1 := upd_nep (by omega)
        have G2 : upd F (79 + 4 * kk) (F (79 + 4 * kk) + 1) 2 = F 2 := upd_nep (by omega)
        have G78 : upd F (79 + 4 * kk) (F (79 + 4 * kk) + 1) (78 + 4 * kk) = nI dd := by rw [upd_nep (by omega)]; exact edd
        rw [G13, G8, G0, G78] at er0
        have hne1 : ¬ (nI kk = -1) := hne
        simp (disch := omega) only [bX10_release_80, sp_X10_finderAt, sp_X10_stationOf, ez, ka, la, e79, e78, e13, e8, e00, q_ci, q_cl, q_ild, q_lld, q_ald, q_ist, q_ast, q_lst, q_inc, q_b2, q_d2, q_u1, q_l2, q_ld2, q_lsh, q_lcmp, q_i2l, q_l2i, q_dupi, q_dupr, q_dup2, q_popi, q_popr, q_if1, q_if2, q_nn, q_sw, q_swn, q_swc, q_gf, q_gr, q_pf, q_pz, q_pc, q_ia, q_is, q_cs, q_zs, q_la, q_lw, q_aa, q_al, q_gs, q_acp, q_m2, q_m1, q_ir, q_zr, q_lr, q_ar, q_vr, q_cN0, q_cSX0, q_cV0, q_cVX0, q_cN1, q_cSX1, q_cV1, q_cVX1, q_cN2, q_cSX2, q_cV2, q_cVX2, q_cN3, q_cSX3, q_cV3, q_cVX3, q_cN4, q_cSX4, q_cV4, q_cVX4, q_cN5, q_cSX5, q_cV5, q_cVX5, q_cN6, q_cSX6, q_cV6, q_cVX6, q_th, q_sh0, q_sh1, q_sh2, q_sh3, q_sh4, q_toL0, q_toL1, q_gl0, q_gls, q_sl0, q_sls, q_k10, q_k1s, q_lgi, q_lgr, q_lgl, q_lgn, Bool.not_false, and_true, true_and, nz_2, nz_4, nz_5, nz_8, nz_10, nz_12, nz_14, nz_16, nz_40, nz_41, nz_64, nz_100, nz_1000, nz_1024, nz_4096, nz_10000, nz_100000, not_false_eq_true, bI_0, nI_add, pk_mul, nI_lt', nI_le', nI_eq', nI_z, nI_p, nI_e0, nI_l0, nI_le0, nI_clamp, up_eq, up_ne, not_true_eq_false, Classical.not_not, false_implies, true_implies, false_and, and_false, or_true, true_or, Nat.add_zero, pk_m1, m1_0, m1_n, m1_p, Nat.zero_le, forall_const, Nat.zero_add, Nat.reduceAdd, Nat.reduceEqDiff, or_false, false_or, Nat.one_ne_zero, l64_2, l64_3, l64_4, l64_5, l64_7, l64_9, l64_10, l64_11, l64_15, l64_20, l64_30, l64_40, l64_60, l64_99, l64_255, l64_999, le64l, le64r, le64b, le64n, rset_eq, rset_upd, rset_rset, upd_nep, upd_eqp, ix21_4k, ix21_1, ix21_2, ix21_3, ix21_4, ix21_5, ix21_6, ix21_7, ix21_8, ix21_9, ix21_10, ix76_1, ix76_2, ix76_3, ix100_1, ix100_2, ix100_3]
        generalize upd r1 (79 + 4 * kk) (F (79 + 4 * kk) + nI 1) = r2 at R2 ⊢
        generalize upd F (79 + 4 * kk) (F (79 + 4 * kk) + 1) = G at *
        refine ⟨fun _ => ⟨v79, v79, w13, fun q1 => ⟨w0, v78, ⟨ka, la⟩, (G, n.2), kk, R2, ⟨by dsimp only; rw [G1]; exact hWF.2.2.1, by dsimp only; rw [G1]; exact hWF.2.2.2.1⟩, rfl, by omega, ?_⟩, fun q1 => ?_⟩, fun q1 => absurd q1 hne⟩
        · rw [if_neg (Int32.not_le.mpr q1)] at er0
          obtain ⟨nb, hnb⟩ := n_near_some (f := G) (p := G (76 + 4 * kk)) (cl (G 1)) (by rw [G1, hu1]; omega)
          have hnb5 := n_near_lt _ _ hnb
          rw [G1, hu1] at hnb5
          rw [hnb, cl_nI (show dd < 2 ^ 31 by omega)] at er0
          dsimp only [Option.getD] at er0
          rw [er0] at ha
          have eo : oI (n_near G (G (76 + 4 * kk)) (cl (G 1))) = nI nb := by rw [hnb]; rfl
          simp (disch := omega) only [sp_X10_sendBack, eo, q_ci, q_cl, q_ild, q_lld, q_ald, q_ist, q_ast, q_lst, q_inc, q_b2, q_d2, q_u1, q_l2, q_ld2, q_lsh, q_lcmp, q_i2l, q_l2i, q_dupi, q_dupr, q_dup2, q_popi, q_popr, q_if1, q_if2, q_nn, q_sw, q_swn, q_swc, q_gf, q_gr, q_pf, q_pz, q_pc, q_ia, q_is, q_cs, q_zs, q_la, q_lw, q_aa, q_al, q_gs, q_acp, q_m2, q_m1, q_ir, q_zr, q_lr, q_ar, q_vr, q_cN0, q_cSX0, q_cV0, q_cVX0, q_cN1, q_cSX1, q_cV1, q_cVX1, q_cN2, q_cSX2, q_cV2, q_cVX2, q_cN3, q_cSX3, q_cV3, q_cVX3, q_cN4, q_cSX4, q_cV4, q_cVX4, q_cN5, q_cSX5, q_cV5, q_cVX5, q_cN6, q_cSX6, q_cV6, q_cVX6, q_th, q_sh0, q_sh1, q_sh2, q_sh3, q_sh4, q_toL0, q_toL1, q_gl0, q_gls, q_sl0, q_sls, q_k10, q_k1s, q_lgi, q_lgr, q_lgl, q_lgn, Bool.not_false, and_true, true_and, nz_2, nz_4, nz_5, nz_8, nz_10, nz_12, nz_14, nz_16, nz_40, nz_41, nz_64, nz_100, nz_1000, nz_1024, nz_4096, nz_10000, nz_100000, not_false_eq_true, bI_0, nI_add, pk_mul, nI_lt', nI_le', nI_eq', nI_z, nI_p, nI_e0, nI_l0, nI_le0, nI_clamp, up_eq, up_ne, not_true_eq_false, Classical.not_not, false_implies, true_implies, false_and, and_false, or_true, true_or, Nat.add_zero, pk_m1, m1_0, m1_n, m1_p, Nat.zero_le, forall_const, Nat.zero_add, Nat.reduceAdd, Nat.reduceEqDiff, or_false, false_or, Nat.one_ne_zero, l64_2, l64_3, l64_4, l64_5, l64_7, l64_9, l64_10, l64_11, l64_15, l64_20, l64_30, l64_40, l64_60, l64_99, l64_255, l64_999, le64l, le64r, le64b, le64n, rset_eq, rset_upd, rset_rset, upd_nep, upd_eqp, ix21_4k, ix21_1, ix21_2, ix21_3, ix21_4, ix21_5, ix21_6, ix21_7, ix21_8, ix21_9, ix21_10, ix76_1, ix76_2, ix76_3, ix100_1, ix100_2, ix100_3]
          refine ⟨⟨ka, la⟩, (G, n.2), (cl (F 0) + dd, nb, q + 1), R2, hWQ.num (G0.trans hu0) (G1.trans hu1) (G2.trans hu2), ?_, rfl, rfl, rfl, ?_, ?_, ?_, fun r' hr' => h155 _ _ _ ?_⟩
          · have := hW.2.2.2.1.lenm; dsimp only; omega
          · dsimp only; omega
          · dsimp only; omega
          · dsimp only; omega
          · simp (disch := omega) only [bX10_release_155, q_ci, q_cl, q_ild, q_lld, q_ald, q_ist, q_ast, q_lst, q_inc, q_b2, q_d2, q_u1, q_l2, q_ld2, q_lsh, q_lcmp, q_i2l, q_l2i, q_dupi, q_dupr, q_dup2, q_popi, q_popr, q_if1, q_if2, q_nn, q_sw, q_swn, q_swc, q_gf, q_gr, q_pf, q_pz, q_pc, q_ia, q_is, q_cs, q_zs, q_la, q_lw, q_aa, q_al, q_gs, q_acp, q_m2, q_m1, q_ir, q_zr, q_lr, q_ar, q_vr, q_cN0, q_cSX0, q_cV0, q_cVX0, q_cN1, q_cSX1, q_cV1, q_cVX1, q_cN2, q_cSX2, q_cV2, q_cVX2, q_cN3, q_cSX3, q_cV3, q_cVX3, q_cN4, q_cSX4, q_cV4, q_cVX4, q_cN5, q_cSX5, q_cV5, q_cVX5, q_cN6, q_cSX6, q_cV6, q_cVX6, q_th, q_sh0, q_sh1, q_sh2, q_sh3, q_sh4, q_toL0, q_toL1, q_gl0, q_gls, q_sl0, q_sls, q_k10, q_k1s, q_lgi, q_lgr, q_lgl, q_lgn, Bool.not_false, and_true, true_and, nz_2, nz_4, nz_5, nz_8, nz_10, nz_12, nz_14, nz_16, nz_40, nz_41, nz_64, nz_100, nz_1000, nz_1024, nz_4096, nz_10000, nz_100000, not_false_eq_true, bI_0, nI_add, pk_mul, nI_lt', nI_le', nI_eq', nI_z, nI_p, nI_e0, nI_l0, nI_le0, nI_clamp, up_eq, up_ne, not_true_eq_false, Classical.not_not, false_implies, true_implies, false_and, and_false, or_true, true_or, Nat.add_zero, pk_m1, m1_0, m1_n, m1_p, Nat.zero_le, forall_const, Nat.zero_add, Nat.reduceAdd, Nat.reduceEqDiff, or_false, false_or, Nat.one_ne_zero, l64_2, l64_3, l64_4, l64_5, l64_7, l64_9, l64_10, l64_11, l64_15, l64_20, l64_30, l64_40, l64_60, l64_99, l64_255, l64_999, le64l, le64r, le64b, le64n, rset_eq, rset_upd, rset_rset, upd_nep, upd_eqp, ix21_4k, ix21_1, ix21_2, ix21_3, ix21_4, ix21_5, ix21_6, ix21_7, ix21_8, ix21_9, ix21_10, ix76_1, ix76_2, ix76_3, ix100_1, ix100_2, ix100_3]
            exact ha r' hr'
        · rw [if_pos (Int32.not_lt.mp q1)] at er0
          rw [er0] at ha
          refine ⟨w8, w8, h155 _ _ _ ?_⟩
          simp (disch := omega) only [bX10_release_155, q_ci, q_cl, q_ild, q_lld, q_ald, q_ist, q_ast, q_lst, q_inc, q_b2, q_d2, q_u1, q_l2, q_ld2, q_lsh, q_lcmp, q_i2l, q_l2i, q_dupi, q_dupr, q_dup2, q_popi, q_popr, q_if1, q_if2, q_nn, q_sw, q_swn, q_swc, q_gf, q_gr, q_pf, q_pz, q_pc, q_ia, q_is, q_cs, q_zs, q_la, q_lw, q_aa, q_al, q_gs, q_acp, q_m2, q_m1, q_ir, q_zr, q_lr, q_ar, q_vr, q_cN0, q_cSX0, q_cV0, q_cVX0, q_cN1, q_cSX1, q_cV1, q_cVX1, q_cN2, q_cSX2, q_cV2, q_cVX2, q_cN3, q_cSX3, q_cV3, q_cVX3, q_cN4, q_cSX4, q_cV4, q_cVX4, q_cN5, q_cSX5, q_cV5, q_cVX5, q_cN6, q_cSX6, q_cV6, q_cVX6, q_th, q_sh0, q_sh1, q_sh2, q_sh3, q_sh4, q_toL0, q_toL1, q_gl0, q_gls, q_sl0, q_sls, q_k10, q_k1s, q_lgi, q_lgr, q_lgl, q_lgn, Bool.not_false, and_true, true_and, nz_2, nz_4, nz_5, nz_8, nz_10, nz_12, nz_14, nz_16, nz_40, nz_41, nz_64, nz_100, nz_1000, nz_1024, nz_4096, nz_10000, nz_100000, not_false_eq_true, bI_0, nI_add, pk_mul, nI_lt', nI_le', nI_eq', nI_z, nI_p, nI_e0, nI_l0, nI_le0, nI_clamp, up_eq, up_ne, not_true_eq_false, Classical.not_not, false_implies, true_implies, false_and, and_false, or_true, true_or, Nat.add_zero, pk_m1, m1_0, m1_n, m1_p, Nat.zero_le, forall_const, Nat.zero_add, Nat.reduceAdd, Nat.reduceEqDiff, or_false, false_or, Nat.one_ne_zero, l64_2, l64_3, l64_4, l64_5, l64_7, l64_9, l64_10, l64_11, l64_15, l64_20, l64_30, l64_40, l64_60, l64_99, l64_255, l64_999, le64l, le64r, le64b, le64n, rset_eq, rset_upd, rset_rset, upd_nep, upd_eqp, ix21_4k, ix21_1, ix21_2, ix21_3, ix21_4, ix21_5, ix21_6, ix21_7, ix21_8, ix21_9, ix21_10, ix76_1, ix76_2, ix76_3, ix100_1, ix100_2, ix100_3]
          have := ha _ (R2.up (i := 8) (F 8 + 1) (by omega) (by omega) (by omega) (by omega))
          rw [nI_one]
          exact this
    refine ⟨v24, v23, v24, v25, v25, v30, v30, w4, w4, w0, ⟨ka, la⟩, (F, n.2), k, cl (n.1 0) % 4, hR1, rfl, by omega, rfl, by omega, fun q0 => ?_, fun q0 => ?_⟩
    · simp (disch := omega) only [sp_X10_finderOf, ka, la, q_ci, q_cl, q_ild, q_lld, q_ald, q_ist, q_ast, q_lst, q_inc, q_b2, q_d2, q_u1, q_l2, q_ld2, q_lsh, q_lcmp, q_i2l, q_l2i, q_dupi, q_dupr, q_dup2, q_popi, q_popr, q_if1, q_if2, q_nn, q_sw, q_swn, q_swc, q_gf, q_gr, q_pf, q_pz, q_pc, q_ia, q_is, q_cs, q_zs, q_la, q_lw, q_aa, q_al, q_gs, q_acp, q_m2, q_m1, q_ir, q_zr, q_lr, q_ar, q_vr, q_cN0, q_cSX0, q_cV0, q_cVX0, q_cN1, q_cSX1, q_cV1, q_cVX1, q_cN2, q_cSX2, q_cV2, q_cVX2, q_cN3, q_cSX3, q_cV3, q_cVX3, q_cN4, q_cSX4, q_cV4, q_cVX4, q_cN5, q_cSX5, q_cV5, q_cVX5, q_cN6, q_cSX6, q_cV6, q_cVX6, q_th, q_sh0, q_sh1, q_sh2, q_sh3, q_sh4, q_toL0, q_toL1, q_gl0, q_gls, q_sl0, q_sls, q_k10, q_k1s, q_lgi, q_lgr, q_lgl, q_lgn, Bool.not_false, and_true, true_and, nz_2, nz_4, nz_5, nz_8, nz_10, nz_12, nz_14, nz_16, nz_40, nz_41, nz_64, nz_100, nz_1000, nz_1024, nz_4096, nz_10000, nz_100000, not_false_eq_true, bI_0, nI_add, pk_mul, nI_lt', nI_le', nI_eq', nI_z, nI_p, nI_e0, nI_l0, nI_le0, nI_clamp, up_eq, up_ne, not_true_eq_false, Classical.not_not, false_implies, true_implies, false_and, and_false, or_true, true_or, Nat.add_zero, pk_m1, m1_0, m1_n, m1_p, Nat.zero_le, forall_const, Nat.zero_add, Nat.reduceAdd, Nat.reduceEqDiff, or_false, false_or, Nat.one_ne_zero, l64_2, l64_3, l64_4, l64_5, l64_7, l64_9, l64_10, l64_11, l64_15, l64_20, l64_30, l64_40, l64_60, l64_99, l64_255, l64_999, le64l, le64r, le64b, le64n, rset_eq, rset_upd, rset_rset, upd_nep, upd_eqp, ix21_4k, ix21_1, ix21_2, ix21_3, ix21_4, ix21_5, ix21_6, ix21_7, ix21_8, ix21_9, ix21_10, ix76_1, ix76_2, ix76_3, ix100_1, ix100_2, ix100_3]
      refine ⟨⟨ka, la⟩, (F, n.2), hR1, hWF.2.2.2.2.1, hWF.2.2.2.2.2.1, ?_⟩
      have := H80 (n_land F k (cl (n.1 0) % 4)) .null
      unfold n_find at this
      rw [← hB0, if_neg q0] at this
      exact this
    · have := H80 (n_land F k (cl (n.1 0) % 4)) .null
      unfold n_find at this
      rw [← hB0, if_pos q0] at this
      exact this
