set_option maxRecDepth 20000 in
set_option maxHeartbeats 4000000 in
theorem cd_X10_save {l : Launch} (hl : l.stackTraces = false) {w : ab_W} {σ : ab_H} {Kn : Option Value → ab_H → Prop} {Kx : String → ab_H → Prop} (hI : ab_Inj w) (i : Int32) (h : sdA w σ (c_save i) Kn) : ab_Met l yX10_save (Cond.code yX10_save cX10_save 2 (some .int)) 2 0 w σ [.ref 8, .int i] Kn Kx := by
  obtain ⟨hw, A, T, hA, hW, hT, hn⟩ := h
  obtain ⟨k8, k9, l9, ⟨k10, l10⟩, ⟨k11, l11⟩, ⟨k12, l12⟩, k13, l13, k14, l14, k15, l15⟩ := id hw
  have hcO := hW.1.cOK
  have hc51 := hcO.2
  have hR := hA.1
  have hr := hR.1
  have hwR : wR w 11 := ⟨k11, l11⟩
  have z0 : ∀ x, RD (ab_up σ 8 0 x) A := fun x => hA.z x
  have zF : ∀ x, FrB σ (ab_up σ 8 0 x) := fun x => FrB.z x
  have z8 : ∀ x, ab_up σ 8 0 x 8 0 = x := fun x => up_eqp rfl rfl
  refine vc_X10_save hl hI (ok_X10_in hl) (ok_X10_refused hl) (ok_X10_copy hl) (Nat.le_of_ble_eq_true rfl) (fun M h0 h16 => h0 [.ref 8, .int i] [] σ ?_)
  by_cases hb : bt2 (nI 0) i (nI 1)
  · obtain ⟨j, -, hj, rfl⟩ := ab_lo (a := 0) (b := 1) (by omega) (by omega) hb.1 hb.2
    have w0 : vp_in (nI 0) 304 := vp_in_nI (by omega) (by omega)
    have vj : vp_in (nI j) 2 := vp_in_nI (by omega) (by omega)
    have e0 : σ 11 0 = A.1.1 0 := hr 0 (by omega) (by omega) (by omega) (by omega)
    obtain ⟨b1, b2, b3, b4, b5, b6⟩ := id hA
    have f16 : M 16 [.ref 8, .int (nI j)] [.int (nI 0), .ref 8] σ := by
      refine h16 _ _ _ ?_
      simp (disch := omega) only [bX10_save_16, sp_X10_refused, sp_X10_copy, k8, k11, l11, k15, l15, e0, nI_one, q_ci, q_cl, q_ild, q_lld, q_ald, q_ist, q_ast, q_lst, q_inc, q_b2, q_d2, q_u1, q_l2, q_ld2, q_lsh, q_lcmp, q_i2l, q_l2i, q_dupi, q_dupr, q_dup2, q_popi, q_popr, q_if1, q_if2, q_nn, q_sw, q_swn, q_swc, q_gf, q_gr, q_pf, q_pz, q_pc, q_ia, q_is, q_cs, q_zs, q_la, q_lw, q_aa, q_al, q_gs, q_acp, q_m2, q_m1, q_ir, q_zr, q_lr, q_ar, q_vr, q_cN0, q_cSX0, q_cV0, q_cVX0, q_cN1, q_cSX1, q_cV1, q_cVX1, q_cN2, q_cSX2, q_cV2, q_cVX2, q_cN3, q_cSX3, q_cV3, q_cVX3, q_cN4, q_cSX4, q_cV4, q_cVX4, q_cN5, q_cSX5, q_cV5, q_cVX5, q_cN6, q_cSX6, q_cV6, q_cVX6, q_th, q_sh0, q_sh1, q_sh2, q_sh3, q_sh4, q_toL0, q_toL1, q_gl0, q_gls, q_sl0, q_sls, q_k10, q_k1s, q_lgi, q_lgr, q_lgl, q_lgn, Bool.not_false, and_true, true_and, nz_2, nz_4, nz_5, nz_8, nz_10, nz_12, nz_14, nz_16, nz_40, nz_41, nz_64, nz_100, nz_1000, nz_1024, nz_4096, nz_10000, nz_100000, not_false_eq_true, bI_0, nI_add, pk_mul, nI_lt', nI_le', nI_eq', nI_z, nI_p, nI_e0, nI_l0, nI_le0, nI_clamp, up_eq, up_ne, not_true_eq_false, Classical.not_not, false_implies, true_implies, false_and, and_false, or_true, true_or, Nat.add_zero, pk_m1, m1_0, m1_n, m1_p, Nat.zero_le, forall_const, Nat.zero_add, Nat.reduceAdd, Nat.reduceEqDiff, or_false, false_or, Nat.one_ne_zero, l64_2, l64_3, l64_4, l64_5, l64_7, l64_9, l64_10, l64_11, l64_15, l64_20, l64_30, l64_40, l64_60, l64_99, l64_255, l64_999, le64l, le64r, le64b, le64n, rset_eq, rset_upd, rset_rset, upd_nep, upd_eqp, ix21_4k, ix21_1, ix21_2, ix21_3, ix21_4, ix21_5, ix21_6, ix21_7, ix21_8, ix21_9, ix21_10, ix76_1, ix76_2, ix76_3, ix100_1, ix100_2, ix100_3, Nat.lt_irrefl, zl1, zl2, zl3, implies_true]
      refine ⟨0, 304 * j, 304, rfl, rfl, rfl, k14, by omega, by omega, by omega, by omega, Or.inl (by decide), vj, w0, ?_⟩
      have eF : ∀ v, v ≠ 8 → v ≠ 14 → v ≠ 15 → ab_up (rset (ab_up σ 8 0 (nI 0)) 14 (cpy (σ 11) (σ 14) 0 (304 * j) 304)) 15 j 1 v = σ v := fun v h1 h2 h3 => by rw [up_ne h3, rset_ne h2, up_ne h1]
      have e80 : ∀ k, ab_up (rset (ab_up σ 8 0 (nI 0)) 14 (cpy (σ 11) (σ 14) 0 (304 * j) 304)) 15 j 1 8 k = ab_up σ 8 0 (nI 0) 8 k := fun k => by rw [up_ne (by decide), rset_ne (by decide)]
      have e14 : ab_up (rset (ab_up σ 8 0 (nI 0)) 14 (cpy (σ 11) (σ 14) 0 (304 * j) 304)) 15 j 1 14 = cpy (σ 11) (σ 14) 0 (304 * j) 304 := by rw [up_ne (by decide), rset_eq]
      have e15 : ∀ k, ab_up (rset (ab_up σ 8 0 (nI 0)) 14 (cpy (σ 11) (σ 14) 0 (304 * j) 304)) 15 j 1 15 k = if k = j then 1 else σ 15 k := fun k => by
        rw [up_eq, rset_ne (by decide), up_ne (by decide)]
      have hnew : dSl (ab_up (rset (ab_up σ 8 0 (nI 0)) 14 (cpy (σ 11) (σ 14) 0 (304 * j) 304)) 15 j 1) j (some A.1) := by
        refine ⟨by rw [e15, if_pos rfl], ?_⟩
        rw [e14]
        refine hR.cq hW.1 (by omega) (fun x hx => ?_)
        unfold cpy; rw [if_pos (by omega)]; congr 1; omega
      have hold : ∀ k o, k ≠ j → dSl σ k o → (∀ n, o = some n → WF T n) → dSl (ab_up (rset (ab_up σ 8 0 (nI 0)) 14 (cpy (σ 11) (σ 14) 0 (304 * j) 304)) 15 j 1) k o := by
        intro k o hk ho hWo
        refine ho.cp (T := T) (by omega) hWo (by rw [e15, if_neg hk]) (fun x hx => ?_)
        rw [e14]; unfold cpy; rw [if_neg (by omega)]
      have hmem : dMem (ab_up (rset (ab_up σ 8 0 (nI 0)) 14 (cpy (σ 11) (σ 14) 0 (304 * j) 304)) 15 j 1) A.2.1 := b2.of (eF 13 (by decide) (by decide) (by decide)) (by rw [e80, up_nep (by decide)])
      rcases (by omega : j = 0 ∨ j = 1) with rfl | rfl
      · have hc : c_save (nI 0) A = (0, A.1.1 0, (A.1, A.2.1, some A.1, A.2.2.2)) := by unfold c_save; rw [if_pos hb, if_pos nI_0]
        rw [hc] at hn
        exact hn _ _ ⟨by rw [eF 11 (by decide) (by decide) (by decide)]; exact hR, hmem, hnew, hold 1 _ (by decide) b4 hW.2.2.2, b5.of (eF 9 (by decide) (by decide) (by decide)), by rw [e80, up_nep (by decide)]; exact b6⟩ (fun v hv => eF v (by omega) (by omega) (by omega)) (by rw [e80]; exact z8 _) (fun _ => by rw [rset_ne (by decide), up_ne (by decide)]; exact e0)
      · have hc : c_save (nI 1) A = (0, A.1.1 0, (A.1, A.2.1, A.2.2.1, some A.1, A.2.2.2.2)) := by unfold c_save; rw [if_pos hb, if_neg (by decide +kernel)]
        rw [hc] at hn
        exact hn _ _ ⟨by rw [eF 11 (by decide) (by decide) (by decide)]; exact hR, hmem, hold 0 _ (by decide) b3 hW.2.2.1, hnew, b5.of (eF 9 (by decide) (by decide) (by decide)), by rw [e80, up_nep (by decide)]; exact b6⟩ (fun v hv => eF v (by omega) (by omega) (by omega)) (by rw [e80]; exact z8 _) (fun _ => by rw [rset_ne (by decide), up_ne (by decide)]; exact e0)
    simp (disch := omega) only [bX10_save_0, sp_X10_in, q_ci, q_cl, q_ild, q_lld, q_ald, q_ist, q_ast, q_lst, q_inc, q_b2, q_d2, q_u1, q_l2, q_ld2, q_lsh, q_lcmp, q_i2l, q_l2i, q_dupi, q_dupr, q_dup2, q_popi, q_popr, q_if1, q_if2, q_nn, q_sw, q_swn, q_swc, q_gf, q_gr, q_pf, q_pz, q_pc, q_ia, q_is, q_cs, q_zs, q_la, q_lw, q_aa, q_al, q_gs, q_acp, q_m2, q_m1, q_ir, q_zr, q_lr, q_ar, q_vr, q_cN0, q_cSX0, q_cV0, q_cVX0, q_cN1, q_cSX1, q_cV1, q_cVX1, q_cN2, q_cSX2, q_cV2, q_cVX2, q_cN3, q_cSX3, q_cV3, q_cVX3, q_cN4, q_cSX4, q_cV4, q_cVX4, q_cN5, q_cSX5, q_cV5, q_cVX5, q_cN6, q_cSX6, q_cV6, q_cVX6, q_th, q_sh0, q_sh1, q_sh2, q_sh3, q_sh4, q_toL0, q_toL1, q_gl0, q_gls, q_sl0, q_sls, q_k10, q_k1s, q_lgi, q_lgr, q_lgl, q_lgn, Bool.not_false, and_true, true_and, nz_2, nz_4, nz_5, nz_8, nz_10, nz_12, nz_14, nz_16, nz_40, nz_41, nz_64, nz_100, nz_1000, nz_1024, nz_4096, nz_10000, nz_100000, not_false_eq_true, bI_0, nI_add, pk_mul, nI_lt', nI_le', nI_eq', nI_z, nI_p, nI_e0, nI_l0, nI_le0, nI_clamp, up_eq, up_ne, not_true_eq_false, Classical.not_not, false_implies, true_implies, false_and, and_false, or_true, true_or, Nat.add_zero, pk_m1, m1_0, m1_n, m1_p, Nat.zero_le, forall_const, Nat.zero_add, Nat.reduceAdd, Nat.reduceEqDiff, or_false, false_or, Nat.one_ne_zero, l64_2, l64_3, l64_4, l64_5, l64_7, l64_9, l64_10, l64_11, l64_15, l64_20, l64_30, l64_40, l64_60, l64_99, l64_255, l64_999, le64l, le64r, le64b, le64n, rset_eq, rset_upd, rset_rset, upd_nep, upd_eqp, ix21_4k, ix21_1, ix21_2, ix21_3, ix21_4, ix21_5, ix21_6, ix21_7, ix21_8, ix21_9, ix21_10, ix76_1, ix76_2, ix76_3, ix100_1, ix100_2, ix100_3, Nat.lt_irrefl, zl1, zl2, zl3, implies_true]
    first
      | exact ⟨fun q => absurd hj q, fun _ => f16⟩
      | exact ⟨fun q => absurd hb q, fun _ => f16⟩
  · have hc : c_save i A = (1, 0, A) := if_neg hb
    rw [hc] at hn
    have hn := hn _ (nI 0) (z0 (nI 1)) (zF _) (z8 _) (fun q => ne_c q)
    have f16 : M 16 [.ref 8, .int i] [.int (nI 1), .ref 8] σ := by
      refine h16 _ _ _ ?_
      simp (disch := omega) only [bX10_save_16, sp_X10_refused, k8, q_ci, q_cl, q_ild, q_lld, q_ald, q_ist, q_ast, q_lst, q_inc, q_b2, q_d2, q_u1, q_l2, q_ld2, q_lsh, q_lcmp, q_i2l, q_l2i, q_dupi, q_dupr, q_dup2, q_popi, q_popr, q_if1, q_if2, q_nn, q_sw, q_swn, q_swc, q_gf, q_gr, q_pf, q_pz, q_pc, q_ia, q_is, q_cs, q_zs, q_la, q_lw, q_aa, q_al, q_gs, q_acp, q_m2, q_m1, q_ir, q_zr, q_lr, q_ar, q_vr, q_cN0, q_cSX0, q_cV0, q_cVX0, q_cN1, q_cSX1, q_cV1, q_cVX1, q_cN2, q_cSX2, q_cV2, q_cVX2, q_cN3, q_cSX3, q_cV3, q_cVX3, q_cN4, q_cSX4, q_cV4, q_cVX4, q_cN5, q_cSX5, q_cV5, q_cVX5, q_cN6, q_cSX6, q_cV6, q_cVX6, q_th, q_sh0, q_sh1, q_sh2, q_sh3, q_sh4, q_toL0, q_toL1, q_gl0, q_gls, q_sl0, q_sls, q_k10, q_k1s, q_lgi, q_lgr, q_lgl, q_lgn, Bool.not_false, and_true, true_and, nz_2, nz_4, nz_5, nz_8, nz_10, nz_12, nz_14, nz_16, nz_40, nz_41, nz_64, nz_100, nz_1000, nz_1024, nz_4096, nz_10000, nz_100000, not_false_eq_true, bI_0, nI_add, pk_mul, nI_lt', nI_le', nI_eq', nI_z, nI_p, nI_e0, nI_l0, nI_le0, nI_clamp, up_eq, up_ne, not_true_eq_false, Classical.not_not, false_implies, true_implies, false_and, and_false, or_true, true_or, Nat.add_zero, pk_m1, m1_0, m1_n, m1_p, Nat.zero_le, forall_const, Nat.zero_add, Nat.reduceAdd, Nat.reduceEqDiff, or_false, false_or, Nat.one_ne_zero, l64_2, l64_3, l64_4, l64_5, l64_7, l64_9, l64_10, l64_11, l64_15, l64_20, l64_30, l64_40, l64_60, l64_99, l64_255, l64_999, le64l, le64r, le64b, le64n, rset_eq, rset_upd, rset_rset, upd_nep, upd_eqp, ix21_4k, ix21_1, ix21_2, ix21_3, ix21_4, ix21_5, ix21_6, ix21_7, ix21_8, ix21_9, ix21_10, ix76_1, ix76_2, ix76_3, ix100_1, ix100_2, ix100_3, Nat.lt_irrefl, zl1, zl2, zl3, implies_true]
      exact hn
    simp (disch := omega) only [bX10_save_0, sp_X10_in, q_ci, q_cl, q_ild, q_lld, q_ald, q_ist, q_ast, q_lst, q_inc, q_b2, q_d2, q_u1, q_l2, q_ld2, q_lsh, q_lcmp, q_i2l, q_l2i, q_dupi, q_dupr, q_dup2, q_popi, q_popr, q_if1, q_if2, q_nn, q_sw, q_swn, q_swc, q_gf, q_gr, q_pf, q_pz, q_pc, q_ia, q_is, q_cs, q_zs, q_la, q_lw, q_aa, q_al, q_gs, q_acp, q_m2, q_m1, q_ir, q_zr, q_lr, q_ar, q_vr, q_cN0, q_cSX0, q_cV0, q_cVX0, q_cN1, q_cSX1, q_cV1, q_cVX1, q_cN2, q_cSX2, q_cV2, q_cVX2, q_cN3, q_cSX3, q_cV3, q_cVX3, q_cN4, q_cSX4, q_cV4, q_cVX4, q_cN5, q_cSX5, q_cV5, q_cVX5, q_cN6, q_cSX6, q_cV6, q_cVX6, q_th, q_sh0, q_sh1, q_sh2, q_sh3, q_sh4, q_toL0, q_toL1, q_gl0, q_gls, q_sl0, q_sls, q_k10, q_k1s, q_lgi, q_lgr, q_lgl, q_lgn, Bool.not_false, and_true, true_and, nz_2, nz_4, nz_5, nz_8, nz_10, nz_12, nz_14, nz_16, nz_40, nz_41, nz_64, nz_100, nz_1000, nz_1024, nz_4096, nz_10000, nz_100000, not_false_eq_true, bI_0, nI_add, pk_mul, nI_lt', nI_le', nI_eq', nI_z, nI_p, nI_e0, nI_l0, nI_le0, nI_clamp, up_eq, up_ne, not_true_eq_false, Classical.not_not, false_implies, true_implies, false_and, and_false, or_true, true_or, Nat.add_zero, pk_m1, m1_0, m1_n, m1_p, Nat.zero_le, forall_const, Nat.zero_add, Nat.reduceAdd, Nat.reduceEqDiff, or_false, false_or, Nat.one_ne_zero, l64_2, l64_3, l64_4, l64_5, l64_7, l64_9, l64_10, l64_11, l64_15, l64_20, l64_30, l64_40, l64_60, l64_99, l64_255, l64_999, le64l, le64r, le64b, le64n, rset_eq, rset_upd, rset_rset, upd_nep, upd_eqp, ix21_4k, ix21_1, ix21_2, ix21_3, ix21_4, ix21_5, ix21_6, ix21_7, ix21_8, ix21_9, ix21_10, ix76_1, ix76_2, ix76_3, ix100_1, ix100_2, ix100_3, Nat.lt_irrefl, zl1, zl2, zl3, implies_true]
    exact ⟨fun _ => f16, fun q => absurd q hb⟩
theorem dSl.z {σ : ab_H} {i : Nat} (h : dSl σ i none) : σ 15 i = 0 := h
theorem dSl.s {σ : ab_H} {i : Nat} {n : nT} (h : dSl σ i (some n)) : σ 15 i = 1 ∧ RM (fun j => σ 14 (304 * i + j)) n := h
set_option maxRecDepth 20000 in
set_option maxHeartbeats 4000000 in
theorem cd_X10_restore {l : Launch} (hl : l.stackTraces = false) {w : ab_W} {σ : ab_H} {Kn : Option Value → ab_H → Prop} {Kx : String → ab_H → Prop} (hI : ab_Inj w) (i : Int32) (h : sdA w σ (c_restore i) Kn) : ab_Met l yX10_restore (Cond.code yX10_restore cX10_restore 2 (some .int)) 2 0 w σ [.ref 8, .int i] Kn Kx := by
  obtain ⟨hw, A, T, hA, hW, hT, hn⟩ := h
  obtain ⟨k8, k9, l9, ⟨k10, l10⟩, ⟨k11, l11⟩, ⟨k12, l12⟩, k13, l13, k14, l14, k15, l15⟩ := id hw
  have hcO := hW.1.cOK
  have hc51 := hcO.2
  have hR := hA.1
  have hr := hR.1
  have hwR : wR w 11 := ⟨k11, l11⟩
  have z0 : ∀ x, RD (ab_up σ 8 0 x) A := fun x => hA.z x
  have zF : ∀ x, FrB σ (ab_up σ 8 0 x) := fun x => FrB.z x
  have z8 : ∀ x, ab_up σ 8 0 x 8 0 = x := fun x => up_eqp rfl rfl
  refine vc_X10_restore hl hI (ok_X10_in hl) (ok_X10_refused hl) (ok_X10_copy hl) (Nat.le_of_ble_eq_true rfl) (fun M h0 h29 => h0 [.ref 8, .int i] [] σ ?_)
  have fbad : ∀ e, c_restore i A = (e, 0, A) → 0 < e → e ≤ 3 → M 29 [.ref 8, .int i] [.int (nI e), .ref 8] σ := by
    intro e hc h0' h3
    rw [hc] at hn
    have hn := hn _ (nI 0) (z0 (nI e)) (zF _) (z8 _) (fun q => absurd (show e = 0 from q) (by omega))
    refine h29 _ _ _ ?_
    simp (disch := omega) only [bX10_restore_29, sp_X10_refused, k8, q_ci, q_cl, q_ild, q_lld, q_ald, q_ist, q_ast, q_lst, q_inc, q_b2, q_d2, q_u1, q_l2, q_ld2, q_lsh, q_lcmp, q_i2l, q_l2i, q_dupi, q_dupr, q_dup2, q_popi, q_popr, q_if1, q_if2, q_nn, q_sw, q_swn, q_swc, q_gf, q_gr, q_pf, q_pz, q_pc, q_ia, q_is, q_cs, q_zs, q_la, q_lw, q_aa, q_al, q_gs, q_acp, q_m2, q_m1, q_ir, q_zr, q_lr, q_ar, q_vr, q_cN0, q_cSX0, q_cV0, q_cVX0, q_cN1, q_cSX1, q_cV1, q_cVX1, q_cN2, q_cSX2, q_cV2, q_cVX2, q_cN3, q_cSX3, q_cV3, q_cVX3, q_cN4, q_cSX4, q_cV4, q_cVX4, q_cN5, q_cSX5, q_cV5, q_cVX5, q_cN6, q_cSX6, q_cV6, q_cVX6, q_th, q_sh0, q_sh1, q_sh2, q_sh3, q_sh4, q_toL0, q_toL1, q_gl0, q_gls, q_sl0, q_sls, q_k10, q_k1s, q_lgi, q_lgr, q_lgl, q_lgn, Bool.not_false, and_true, true_and, nz_2, nz_4, nz_5, nz_8, nz_10, nz_12, nz_14, nz_16, nz_40, nz_41, nz_64, nz_100, nz_1000, nz_1024, nz_4096, nz_10000, nz_100000, not_false_eq_true, bI_0, nI_add, pk_mul, nI_lt', nI_le', nI_eq', nI_z, nI_p, nI_e0, nI_l0, nI_le0, nI_clamp, up_eq, up_ne, not_true_eq_false, Classical.not_not, false_implies, true_implies, false_and, and_false, or_true, true_or, Nat.add_zero, pk_m1, m1_0, m1_n, m1_p, Nat.zero_le, forall_const, Nat.zero_add, Nat.reduceAdd, Nat.reduceEqDiff, or_false, false_or, Nat.one_ne_zero, l64_2, l64_3, l64_4, l64_5, l64_7, l64_9, l64_10, l64_11, l64_15, l64_20, l64_30, l64_40, l64_60, l64_99, l64_255, l64_999, le64l, le64r, le64b, le64n, rset_eq, rset_upd, rset_rset, upd_nep, upd_eqp, ix21_4k, ix21_1, ix21_2, ix21_3, ix21_4, ix21_5, ix21_6, ix21_7, ix21_8, ix21_9, ix21_10, ix76_1, ix76_2, ix76_3, ix100_1, ix100_2, ix100_3, Nat.lt_irrefl, zl1, zl2, zl3, implies_true]
    first | exact hn | exact ⟨fun q => absurd h0' q, fun _ => hn⟩
  by_cases hb : bt2 (nI 0) i (nI 1)
  · obtain ⟨j, -, hj, rfl⟩ := ab_lo (a := 0) (b := 1) (by omega) (by omega) hb.1 hb.2
    have vj : vp_in (nI j) 2 := vp_in_nI (by omega) (by omega)
    have w0 : vp_in (nI 0) 304 := vp_in_nI (by omega) (by omega)
    obtain ⟨b1, b2, b3, b4, b5, b6⟩ := id hA
    obtain ⟨o, ho, hds, hWo⟩ : ∃ o, aSlot A (nI j) = o ∧ dSl σ j o ∧ ∀ n, o = some n → WF T n := by
      rcases (by omega : j = 0 ∨ j = 1) with rfl | rfl
      · exact ⟨_, by unfold aSlot; exact if_pos nI_0, b3, hW.2.2.1⟩
      · exact ⟨_, by unfold aSlot; exact if_neg (by decide +kernel), b4, hW.2.2.2⟩
    rcases o with _ | n
    · have hc : c_restore (nI j) A = (2, 0, A) := by unfold c_restore; rw [if_pos hb, ho]
      have f2 := fbad 2 hc (by omega) (by omega)
      have z := hds.z
      simp (disch := omega) only [bX10_restore_0, sp_X10_in, k8, k15, l15, z, q_ci, q_cl, q_ild, q_lld, q_ald, q_ist, q_ast, q_lst, q_inc, q_b2, q_d2, q_u1, q_l2, q_ld2, q_lsh, q_lcmp, q_i2l, q_l2i, q_dupi, q_dupr, q_dup2, q_popi, q_popr, q_if1, q_if2, q_nn, q_sw, q_swn, q_swc, q_gf, q_gr, q_pf, q_pz, q_pc, q_ia, q_is, q_cs, q_zs, q_la, q_lw, q_aa, q_al, q_gs, q_acp, q_m2, q_m1, q_ir, q_zr, q_lr, q_ar, q_vr, q_cN0, q_cSX0, q_cV0, q_cVX0, q_cN1, q_cSX1, q_cV1, q_cVX1, q_cN2, q_cSX2, q_cV2, q_cVX2, q_cN3, q_cSX3, q_cV3, q_cVX3, q_cN4, q_cSX4, q_cV4, q_cVX4, q_cN5, q_cSX5, q_cV5, q_cVX5, q_cN6, q_cSX6, q_cV6, q_cVX6, q_th, q_sh0, q_sh1, q_sh2, q_sh3, q_sh4, q_toL0, q_toL1, q_gl0, q_gls, q_sl0, q_sls, q_k10, q_k1s, q_lgi, q_lgr, q_lgl, q_lgn, Bool.not_false, and_true, true_and, nz_2, nz_4, nz_5, nz_8, nz_10, nz_12, nz_14, nz_16, nz_40, nz_41, nz_64, nz_100, nz_1000, nz_1024, nz_4096, nz_10000, nz_100000, not_false_eq_true, bI_0, nI_add, pk_mul, nI_lt', nI_le', nI_eq', nI_z, nI_p, nI_e0, nI_l0, nI_le0, nI_clamp, up_eq, up_ne, not_true_eq_false, Classical.not_not, false_implies, true_implies, false_and, and_false, or_true, true_or, Nat.add_zero, pk_m1, m1_0, m1_n, m1_p, Nat.zero_le, forall_const, Nat.zero_add, Nat.reduceAdd, Nat.reduceEqDiff, or_false, false_or, Nat.one_ne_zero, l64_2, l64_3, l64_4, l64_5, l64_7, l64_9, l64_10, l64_11, l64_15, l64_20, l64_30, l64_40, l64_60, l64_99, l64_255, l64_999, le64l, le64r, le64b, le64n, rset_eq, rset_upd, rset_rset, upd_nep, upd_eqp, ix21_4k, ix21_1, ix21_2, ix21_3, ix21_4, ix21_5, ix21_6, ix21_7, ix21_8, ix21_9, ix21_10, ix76_1, ix76_2, ix76_3, ix100_1, ix100_2, ix100_3, Nat.lt_irrefl, zl1, zl2, zl3, implies_true]
      try simp only [not_true_eq_false, not_false_eq_true, false_implies, true_implies, and_true, true_and]
      first
        | exact ⟨fun _ => ⟨vj, f2⟩, fun q => absurd hj q⟩
        | exact ⟨fun _ => ⟨vj, f2⟩, fun q => absurd hb q⟩
    · have hc : c_restore (nI j) A = (0, n.1 0, (n, [], A.2.2)) := by unfold c_restore; rw [if_pos hb, ho]
      rw [hc] at hn
      obtain ⟨z, hRn⟩ := hds.s
      have hWn := hWo n rfl
      have f0 : M 29 [.ref 8, .int (nI j)] [.int (nI 0), .ref 8] σ := by
        refine h29 _ _ _ ?_
        simp (disch := omega) only [bX10_restore_29, sp_X10_refused, sp_X10_copy, k8, k11, l11, q_ci, q_cl, q_ild, q_lld, q_ald, q_ist, q_ast, q_lst, q_inc, q_b2, q_d2, q_u1, q_l2, q_ld2, q_lsh, q_lcmp, q_i2l, q_l2i, q_dupi, q_dupr, q_dup2, q_popi, q_popr, q_if1, q_if2, q_nn, q_sw, q_swn, q_swc, q_gf, q_gr, q_pf, q_pz, q_pc, q_ia, q_is, q_cs, q_zs, q_la, q_lw, q_aa, q_al, q_gs, q_acp, q_m2, q_m1, q_ir, q_zr, q_lr, q_ar, q_vr, q_cN0, q_cSX0, q_cV0, q_cVX0, q_cN1, q_cSX1, q_cV1, q_cVX1, q_cN2, q_cSX2, q_cV2, q_cVX2, q_cN3, q_cSX3, q_cV3, q_cVX3, q_cN4, q_cSX4, q_cV4, q_cVX4, q_cN5, q_cSX5, q_cV5, q_cVX5, q_cN6, q_cSX6, q_cV6, q_cVX6, q_th, q_sh0, q_sh1, q_sh2, q_sh3, q_sh4, q_toL0, q_toL1, q_gl0, q_gls, q_sl0, q_sls, q_k10, q_k1s, q_lgi, q_lgr, q_lgl, q_lgn, Bool.not_false, and_true, true_and, nz_2, nz_4, nz_5, nz_8, nz_10, nz_12, nz_14, nz_16, nz_40, nz_41, nz_64, nz_100, nz_1000, nz_1024, nz_4096, nz_10000, nz_100000, not_false_eq_true, bI_0, nI_add, pk_mul, nI_lt', nI_le', nI_eq', nI_z, nI_p, nI_e0, nI_l0, nI_le0, nI_clamp, up_eq, up_ne, not_true_eq_false, Classical.not_not, false_implies, true_implies, false_and, and_false, or_true, true_or, Nat.add_zero, pk_m1, m1_0, m1_n, m1_p, Nat.zero_le, forall_const, Nat.zero_add, Nat.reduceAdd, Nat.reduceEqDiff, or_false, false_or, Nat.one_ne_zero, l64_2, l64_3, l64_4, l64_5, l64_7, l64_9, l64_10, l64_11, l64_15, l64_20, l64_30, l64_40, l64_60, l64_99, l64_255, l64_999, le64l, le64r, le64b, le64n, rset_eq, rset_upd, rset_rset, upd_nep, upd_eqp, ix21_4k, ix21_1, ix21_2, ix21_3, ix21_4, ix21_5, ix21_6, ix21_7, ix21_8, ix21_9, ix21_10, ix76_1, ix76_2, ix76_3, ix100_1, ix100_2, ix100_3, Nat.lt_irrefl, zl1, zl2, zl3, implies_true]
        refine ⟨304 * j, 0, 304, rfl, rfl, rfl, k14, by omega, by omega, by omega, by omega, Or.inl (by decide), w0, ?_⟩
        have eF : ∀ v, v ≠ 8 → v ≠ 11 → ab_up (rset (ab_up σ 8 0 (nI 0)) 11 (cpy (σ 14) (σ 11) (304 * j) 0 304)) 8 10 (nI 0) v = σ v := fun v h1 h2 => by rw [up_ne h1, rset_ne h2, up_ne h1]
        have e80 : ∀ k, k ≠ 10 → ab_up (rset (ab_up σ 8 0 (nI 0)) 11 (cpy (σ 14) (σ 11) (304 * j) 0 304)) 8 10 (nI 0) 8 k = ab_up σ 8 0 (nI 0) 8 k := fun k hk => by rw [up_nep hk, rset_ne (by decide)]
        have hRR : RM (cpy (σ 14) (σ 11) (304 * j) 0 304) n := hRn.cq hWn (by omega) (fun x hx => by unfold cpy; rw [if_pos (by omega)]; congr 1)
        have e00 : cpy (σ 14) (σ 11) (304 * j) 0 304 0 = n.1 0 := hRR.1 0 (by omega) (by omega) (by omega) (by omega)
        try rw [e00]
        exact hn _ _ ⟨by rw [up_ne (by decide), rset_eq]; exact hRR, ⟨Nat.zero_le _, up_eqp rfl rfl, fun k x q => by cases q⟩, b3.of (eF 14 (by decide) (by decide)) (by rw [eF 15 (by decide) (by decide)]), b4.of (eF 14 (by decide) (by decide)) (by rw [eF 15 (by decide) (by decide)]), b5.of (eF 9 (by decide) (by decide)), by rw [e80 2 (by decide), up_nep (by decide)]; exact b6⟩ (fun v hv => eF v (by omega) (by omega)) (by rw [e80 0 (by decide)]; exact z8 _) (fun _ => rfl)
      simp (disch := omega) only [bX10_restore_0, sp_X10_in, k8, k15, l15, z, i32_10, q_ci, q_cl, q_ild, q_lld, q_ald, q_ist, q_ast, q_lst, q_inc, q_b2, q_d2, q_u1, q_l2, q_ld2, q_lsh, q_lcmp, q_i2l, q_l2i, q_dupi, q_dupr, q_dup2, q_popi, q_popr, q_if1, q_if2, q_nn, q_sw, q_swn, q_swc, q_gf, q_gr, q_pf, q_pz, q_pc, q_ia, q_is, q_cs, q_zs, q_la, q_lw, q_aa, q_al, q_gs, q_acp, q_m2, q_m1, q_ir, q_zr, q_lr, q_ar, q_vr, q_cN0, q_cSX0, q_cV0, q_cVX0, q_cN1, q_cSX1, q_cV1, q_cVX1, q_cN2, q_cSX2, q_cV2, q_cVX2, q_cN3, q_cSX3, q_cV3, q_cVX3, q_cN4, q_cSX4, q_cV4, q_cVX4, q_cN5, q_cSX5, q_cV5, q_cVX5, q_cN6, q_cSX6, q_cV6, q_cVX6, q_th, q_sh0, q_sh1, q_sh2, q_sh3, q_sh4, q_toL0, q_toL1, q_gl0, q_gls, q_sl0, q_sls, q_k10, q_k1s, q_lgi, q_lgr, q_lgl, q_lgn, Bool.not_false, and_true, true_and, nz_2, nz_4, nz_5, nz_8, nz_10, nz_12, nz_14, nz_16, nz_40, nz_41, nz_64, nz_100, nz_1000, nz_1024, nz_4096, nz_10000, nz_100000, not_false_eq_true, bI_0, nI_add, pk_mul, nI_lt', nI_le', nI_eq', nI_z, nI_p, nI_e0, nI_l0, nI_le0, nI_clamp, up_eq, up_ne, not_true_eq_false, Classical.not_not, false_implies, true_implies, false_and, and_false, or_true, true_or, Nat.add_zero, pk_m1, m1_0, m1_n, m1_p, Nat.zero_le, forall_const, Nat.zero_add, Nat.reduceAdd, Nat.reduceEqDiff, or_false, false_or, Nat.one_ne_zero, l64_2, l64_3, l64_4, l64_5, l64_7, l64_9, l64_10, l64_11, l64_15, l64_20, l64_30, l64_40, l64_60, l64_99, l64_255, l64_999, le64l, le64r, le64b, le64n, rset_eq, rset_upd, rset_rset, upd_nep, upd_eqp, ix21_4k, ix21_1, ix21_2, ix21_3, ix21_4, ix21_5, ix21_6, ix21_7, ix21_8, ix21_9, ix21_10, ix76_1, ix76_2, ix76_3, ix100_1, ix100_2, ix100_3, Nat.lt_irrefl, zl1, zl2, zl3, implies_true]
      try simp only [not_true_eq_false, not_false_eq_true, false_implies, true_implies, and_true, true_and]
      first
        | exact ⟨fun _ => ⟨vj, f0⟩, fun q => absurd hj q⟩
        | exact ⟨fun _ => ⟨vj, f0⟩, fun q => absurd hb q⟩
  · have hc : c_restore i A = (1, 0, A) := if_neg hb
    have f1 := fbad 1 hc (by omega) (by omega)
    simp (disch := omega) only [bX10_restore_0, sp_X10_in, k8, q_ci, q_cl, q_ild, q_lld, q_ald, q_ist, q_ast, q_lst, q_inc, q_b2, q_d2, q_u1, q_l2, q_ld2, q_lsh, q_lcmp, q_i2l, q_l2i, q_dupi, q_dupr, q_dup2, q_popi, q_popr, q_if1, q_if2, q_nn, q_sw, q_swn, q_swc, q_gf, q_gr, q_pf, q_pz, q_pc, q_ia, q_is, q_cs, q_zs, q_la, q_lw, q_aa, q_al, q_gs, q_acp, q_m2, q_m1, q_ir, q_zr, q_lr, q_ar, q_vr, q_cN0, q_cSX0, q_cV0, q_cVX0, q_cN1, q_cSX1, q_cV1, q_cVX1, q_cN2, q_cSX2, q_cV2, q_cVX2, q_cN3, q_cSX3, q_cV3, q_cVX3, q_cN4, q_cSX4, q_cV4, q_cVX4, q_cN5, q_cSX5, q_cV5, q_cVX5, q_cN6, q_cSX6, q_cV6, q_cVX6, q_th, q_sh0, q_sh1, q_sh2, q_sh3, q_sh4, q_toL0, q_toL1, q_gl0, q_gls, q_sl0, q_sls, q_k10, q_k1s, q_lgi, q_lgr, q_lgl, q_lgn, Bool.not_false, and_true, true_and, nz_2, nz_4, nz_5, nz_8, nz_10, nz_12, nz_14, nz_16, nz_40, nz_41, nz_64, nz_100, nz_1000, nz_1024, nz_4096, nz_10000, nz_100000, not_false_eq_true, bI_0, nI_add, pk_mul, nI_lt', nI_le', nI_eq', nI_z, nI_p, nI_e0, nI_l0, nI_le0, nI_clamp, up_eq, up_ne, not_true_eq_false, Classical.not_not, false_implies, true_implies, false_and, and_false, or_true, true_or, Nat.add_zero, pk_m1, m1_0, m1_n, m1_p, Nat.zero_le, forall_const, Nat.zero_add, Nat.reduceAdd, Nat.reduceEqDiff, or_false, false_or, Nat.one_ne_zero, l64_2, l64_3, l64_4, l64_5, l64_7, l64_9, l64_10, l64_11, l64_15, l64_20, l64_30, l64_40, l64_60, l64_99, l64_255, l64_999, le64l, le64r, le64b, le64n, rset_eq, rset_upd, rset_rset, upd_nep, upd_eqp, ix21_4k, ix21_1, ix21_2, ix21_3, ix21_4, ix21_5, ix21_6, ix21_7, ix21_8, ix21_9, ix21_10, ix76_1, ix76_2, ix76_3, ix100_1, ix100_2, ix100_3, Nat.lt_irrefl, zl1, zl2, zl3, implies_true]
    exact ⟨fun q => absurd q hb, fun _ => f1⟩
