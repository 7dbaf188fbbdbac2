theorem FD.r12 {σ : ab_H} {r : nF} : FD σ (rset σ 12 r) := ⟨fun v _ _ h => rset_ne h, fun k _ _ _ _ _ => by rw [rset_ne (by decide)]⟩
theorem FD.u14 {σ : ab_H} {x : Int32} : FD σ (ab_up σ 8 14 x) := ⟨fun v h _ _ => up_ne h, fun k _ _ _ _ h => up_nep h⟩
theorem FD.u13 {σ : ab_H} {x : Int32} : FD σ (ab_up σ 8 13 x) := ⟨fun v h _ _ => up_ne h, fun k _ _ _ h _ => up_nep h⟩
theorem fd_k {σ : ab_H} {c : cR} {v0 : Int32} {A : aS} {Kn : Option Value → ab_H → Prop} (hA : RD σ A) (hn : ∀ σ' v, RD σ' c.2.2 → FrB σ σ' → σ' 8 0 = nI c.1 → (c.1 = 0 → v = c.2.1) → Kn (some (.int v)) σ') (hc : c = (0, v0, A)) : ∀ σ' v, FD (ab_up σ 8 0 (nI 0)) σ' → v = v0 → Kn (some (.int v)) σ' := by
  subst hc
  intro σ' v hF hv
  exact hn σ' v (hF.rd (hA.z _)) ((FrB.z _).trans hF.frb) (by rw [hF.2 0 (by decide) (by decide) (by decide) (by decide) (by decide)]; exact up_eqp rfl rfl) (fun _ => hv)
set_option maxRecDepth 20000 in
set_option maxHeartbeats 4000000 in
theorem cd_X10_coming {l : Launch} (hl : l.stackTraces = false) {w : ab_W} {σ : ab_H} {Kn : Option Value → ab_H → Prop} {Kx : String → ab_H → Prop} (hI : ab_Inj w) (n : Int32) (i : Int32) (h : sdA w σ (c_coming n i) Kn) : ab_Met l yX10_coming (Cond.code yX10_coming cX10_coming 4 (some .int)) 6 0 w σ [.ref 8, .int n, .int i] Kn Kx := by
  obtain ⟨hw, A, T, hA, hW, hT, hn⟩ := h
  obtain ⟨k8, k9, l9, ⟨k10, l10⟩, ⟨k11, l11⟩, ⟨k12, l12⟩, k13, l13, k14, l14, k15, l15⟩ := id hw
  have hcO := hW.1.cOK
  have hc51 := hcO.2
  have hR := hA.1
  have hr := hR.1
  have hwR : wR w 11 := ⟨k11, l11⟩
  have z0 : ∀ x, RD (ab_up σ 8 0 x) A := fun x => hA.z x
  have zF : ∀ x, FrB σ (ab_up σ 8 0 x) := fun x => FrB.z x
  have z8 : ∀ x, ab_up σ 8 0 x 8 0 = x := fun x => up_eqp rfl rfl
  refine vc_X10_coming hl hI (ok_X10_isFar hl) (ok_X10_in hl) (ok_X10_refused hl) (ok_X10_tryIt hl) (ok_X10_runIn hl) (ok_X10_allSondes hl) (Nat.le_of_ble_eq_true rfl) (fun M h0 h24 h25 h104 => h0 [.ref 8, .int n, .int i, .null] [] σ ?_)
  have fbad : M 24 [.ref 8, .int n, .int i, .null] [.ref 8] σ → True := fun _ => trivial
  by_cases hb : bt2 (nI 1) n (nI 60) ∧ bt2 (nI 0) i (nI 3)
  · obtain ⟨hb1, hb2⟩ := id hb
    obtain ⟨k, hk1, hk, rfl⟩ := ab_lo (a := 1) (b := 60) (by omega) (by omega) hb1.1 hb1.2
    obtain ⟨j, -, hj, rfl⟩ := ab_lo (a := 0) (b := 3) (by omega) (by omega) hb2.1 hb2.2
    have hc : c_coming (nI k) (nI j) A = (0, (if j = 0 then (n_run k A.1).1 4 - A.1.1 4 else if j = 1 then (n_run k A.1).1 5 - A.1.1 5 else if j = 2 then (n_run k A.1).1 3 - A.1.1 3 else n_all (n_run k A.1).1 (cl ((n_run k A.1).1 1))), A) := by unfold c_coming; rw [if_pos hb, cl_nI (by omega), cl_nI (by omega)]
    have hK := fd_k hA hn hc
    clear hc
    have w3 : vp_in (nI 3) 304 := vp_in_nI (by omega) (by omega)
    have w5 : vp_in (nI 5) 304 := vp_in_nI (by omega) (by omega)
    have f104 : ∀ v L τ, Kn (some (.int v)) τ → M 104 L [.int v] τ := fun v L τ q => h104 _ _ _ (by simp (disch := omega) only [bX10_coming_104, q_ci, q_cl, q_ild, q_lld, q_ald, q_ist, q_ast, q_lst, q_inc, q_b2, q_d2, q_u1, q_l2, q_ld2, q_lsh, q_lcmp, q_i2l, q_l2i, q_dupi, q_dupr, q_dup2, q_popi, q_popr, q_if1, q_if2, q_nn, q_sw, q_swn, q_swc, q_gf, q_gr, q_pf, q_pz, q_pc, q_ia, q_is, q_cs, q_zs, q_la, q_lw, q_aa, q_al, q_gs, q_acp, q_m2, q_m1, q_ir, q_zr, q_lr, q_ar, q_vr, q_cN0, q_cSX0, q_cV0, q_cVX0, q_cN1, q_cSX1, q_cV1, q_cVX1, q_cN2, q_cSX2, q_cV2, q_cVX2, q_cN3, q_cSX3, q_cV3, q_cVX3, q_cN4, q_cSX4, q_cV4, q_cVX4, q_cN5, q_cSX5, q_cV5, q_cVX5, q_cN6, q_cSX6, q_cV6, q_cVX6, q_th, q_sh0, q_sh1, q_sh2, q_sh3, q_sh4, q_toL0, q_toL1, q_gl0, q_gls, q_sl0, q_sls, q_k10, q_k1s, q_lgi, q_lgr, q_lgl, q_lgn, Bool.not_false, and_true, true_and, nz_2, nz_4, nz_5, nz_8, nz_10, nz_12, nz_14, nz_16, nz_40, nz_41, nz_64, nz_100, nz_1000, nz_1024, nz_4096, nz_10000, nz_100000, not_false_eq_true, bI_0, nI_add, pk_mul, nI_lt', nI_le', nI_eq', nI_z, nI_p, nI_e0, nI_l0, nI_le0, nI_clamp, up_eq, up_ne, not_true_eq_false, Classical.not_not, false_implies, true_implies, false_and, and_false, or_true, true_or, Nat.add_zero, pk_m1, m1_0, m1_n, m1_p, Nat.zero_le, forall_const, Nat.zero_add, Nat.reduceAdd, Nat.reduceEqDiff, or_false, false_or, Nat.one_ne_zero, l64_2, l64_3, l64_4, l64_5, l64_7, l64_9, l64_10, l64_11, l64_15, l64_20, l64_30, l64_40, l64_60, l64_99, l64_255, l64_999, le64l, le64r, le64b, le64n, rset_eq, rset_upd, rset_rset, upd_nep, upd_eqp, ix21_4k, ix21_1, ix21_2, ix21_3, ix21_4, ix21_5, ix21_6, ix21_7, ix21_8, ix21_9, ix21_10, ix76_1, ix76_2, ix76_3, ix100_1, ix100_2, ix100_3, Nat.lt_irrefl, zl1, zl2, zl3, implies_true]; exact q)
    have hWR := WF_run hW.1 k (by omega)
    have f25 : M 25 [.ref 8, .int (nI k), .int (nI j), .null] [.int (nI 0), .ref 8] σ := by
      refine h25 _ _ _ ?_
      rcases (by omega : j = 0 ∨ j = 1 ∨ j = 2 ∨ j = 3) with rfl | rfl | rfl | rfl
      all_goals simp (disch := omega) only [bX10_coming_25, sp_X10_refused, sp_X10_tryIt, sp_X10_runIn, sp_X10_allSondes, k8, k11, l11, k12, l12, q_ci, q_cl, q_ild, q_lld, q_ald, q_ist, q_ast, q_lst, q_inc, q_b2, q_d2, q_u1, q_l2, q_ld2, q_lsh, q_lcmp, q_i2l, q_l2i, q_dupi, q_dupr, q_dup2, q_popi, q_popr, q_if1, q_if2, q_nn, q_sw, q_swn, q_swc, q_gf, q_gr, q_pf, q_pz, q_pc, q_ia, q_is, q_cs, q_zs, q_la, q_lw, q_aa, q_al, q_gs, q_acp, q_m2, q_m1, q_ir, q_zr, q_lr, q_ar, q_vr, q_cN0, q_cSX0, q_cV0, q_cVX0, q_cN1, q_cSX1, q_cV1, q_cVX1, q_cN2, q_cSX2, q_cV2, q_cVX2, q_cN3, q_cSX3, q_cV3, q_cVX3, q_cN4, q_cSX4, q_cV4, q_cVX4, q_cN5, q_cSX5, q_cV5, q_cVX5, q_cN6, q_cSX6, q_cV6, q_cVX6, q_th, q_sh0, q_sh1, q_sh2, q_sh3, q_sh4, q_toL0, q_toL1, q_gl0, q_gls, q_sl0, q_sls, q_k10, q_k1s, q_lgi, q_lgr, q_lgl, q_lgn, Bool.not_false, and_true, true_and, nz_2, nz_4, nz_5, nz_8, nz_10, nz_12, nz_14, nz_16, nz_40, nz_41, nz_64, nz_100, nz_1000, nz_1024, nz_4096, nz_10000, nz_100000, not_false_eq_true, bI_0, nI_add, pk_mul, nI_lt', nI_le', nI_eq', nI_z, nI_p, nI_e0, nI_l0, nI_le0, nI_clamp, up_eq, up_ne, not_true_eq_false, Classical.not_not, false_implies, true_implies, false_and, and_false, or_true, true_or, Nat.add_zero, pk_m1, m1_0, m1_n, m1_p, Nat.zero_le, forall_const, Nat.zero_add, Nat.reduceAdd, Nat.reduceEqDiff, or_false, false_or, Nat.one_ne_zero, l64_2, l64_3, l64_4, l64_5, l64_7, l64_9, l64_10, l64_11, l64_15, l64_20, l64_30, l64_40, l64_60, l64_99, l64_255, l64_999, le64l, le64r, le64b, le64n, rset_eq, rset_upd, rset_rset, upd_nep, upd_eqp, ix21_4k, ix21_1, ix21_2, ix21_3, ix21_4, ix21_5, ix21_6, ix21_7, ix21_8, ix21_9, ix21_10, ix76_1, ix76_2, ix76_3, ix100_1, ix100_2, ix100_3, Nat.lt_irrefl, zl1, zl2, zl3, implies_true]
      all_goals try simp only [imp_self, Nat.reduceEqDiff, false_implies, true_implies, not_false_eq_true, not_true_eq_false, and_true, true_and, forall_const]
      all_goals refine ⟨hw, fun σ1 a1 a2 a3 => ⟨⟨k12, l12⟩, by decide, A.1, T, k, a1 A.1 T hW.1 (by omega) hR, hW.1, rfl, by omega, by omega, fun r' hr' => ?_⟩⟩
      all_goals
        have hF : FD (ab_up σ 8 0 (nI 0)) (rset (ab_up σ1 8 14 (n_lr A.1 (σ1 8 13) (σ1 8 14) k)) 12 r') := a2.trans (FD.u14.trans FD.r12)
        have e11 : (rset (ab_up σ1 8 14 (n_lr A.1 (σ1 8 13) (σ1 8 14) k)) 12 r') 11 = σ 11 := by rw [hF.1 11 (by decide) (by decide) (by decide), up_ne (by decide)]
      · exact f104 _ _ _ (hK _ _ hF rfl)
      · have x1 : r' 5 = (n_run k A.1).1 5 := hr'.1 5 (by omega) (by omega) (by omega) (by omega)
        have x2 : σ 11 5 = A.1.1 5 := hr 5 (by omega) (by omega) (by omega) (by omega)
        exact ⟨w5, w5, f104 _ _ _ (hK _ _ hF (by rw [x1, e11, x2]; rfl))⟩
      · have x1 : r' 3 = (n_run k A.1).1 3 := hr'.1 3 (by omega) (by omega) (by omega) (by omega)
        have x2 : σ 11 3 = A.1.1 3 := hr 3 (by omega) (by omega) (by omega) (by omega)
        exact ⟨w3, w3, f104 _ _ _ (hK _ _ hF (by rw [x1, e11, x2]; rfl))⟩
      · exact ⟨⟨k12, l12⟩, _, hr', hWR.cOK, f104 _ _ _ (hK _ _ hF rfl)⟩
    simp (disch := omega) only [bX10_coming_0, sp_X10_isFar, sp_X10_in, q_ci, q_cl, q_ild, q_lld, q_ald, q_ist, q_ast, q_lst, q_inc, q_b2, q_d2, q_u1, q_l2, q_ld2, q_lsh, q_lcmp, q_i2l, q_l2i, q_dupi, q_dupr, q_dup2, q_popi, q_popr, q_if1, q_if2, q_nn, q_sw, q_swn, q_swc, q_gf, q_gr, q_pf, q_pz, q_pc, q_ia, q_is, q_cs, q_zs, q_la, q_lw, q_aa, q_al, q_gs, q_acp, q_m2, q_m1, q_ir, q_zr, q_lr, q_ar, q_vr, q_cN0, q_cSX0, q_cV0, q_cVX0, q_cN1, q_cSX1, q_cV1, q_cVX1, q_cN2, q_cSX2, q_cV2, q_cVX2, q_cN3, q_cSX3, q_cV3, q_cVX3, q_cN4, q_cSX4, q_cV4, q_cVX4, q_cN5, q_cSX5, q_cV5, q_cVX5, q_cN6, q_cSX6, q_cV6, q_cVX6, q_th, q_sh0, q_sh1, q_sh2, q_sh3, q_sh4, q_toL0, q_toL1, q_gl0, q_gls, q_sl0, q_sls, q_k10, q_k1s, q_lgi, q_lgr, q_lgl, q_lgn, Bool.not_false, and_true, true_and, nz_2, nz_4, nz_5, nz_8, nz_10, nz_12, nz_14, nz_16, nz_40, nz_41, nz_64, nz_100, nz_1000, nz_1024, nz_4096, nz_10000, nz_100000, not_false_eq_true, bI_0, nI_add, pk_mul, nI_lt', nI_le', nI_eq', nI_z, nI_p, nI_e0, nI_l0, nI_le0, nI_clamp, up_eq, up_ne, not_true_eq_false, Classical.not_not, false_implies, true_implies, false_and, and_false, or_true, true_or, Nat.add_zero, pk_m1, m1_0, m1_n, m1_p, Nat.zero_le, forall_const, Nat.zero_add, Nat.reduceAdd, Nat.reduceEqDiff, or_false, false_or, Nat.one_ne_zero, l64_2, l64_3, l64_4, l64_5, l64_7, l64_9, l64_10, l64_11, l64_15, l64_20, l64_30, l64_40, l64_60, l64_99, l64_255, l64_999, le64l, le64r, le64b, le64n, rset_eq, rset_upd, rset_rset, upd_nep, upd_eqp, ix21_4k, ix21_1, ix21_2, ix21_3, ix21_4, ix21_5, ix21_6, ix21_7, ix21_8, ix21_9, ix21_10, ix76_1, ix76_2, ix76_3, ix100_1, ix100_2, ix100_3, Nat.lt_irrefl, zl1, zl2, zl3, implies_true]
    exact ⟨fun q => absurd hb1 q, fun _ => ⟨fun q => absurd hj q, fun _ => f25⟩⟩
  · have hc : c_coming n i A = (1, 0, A) := if_neg hb
    rw [hc] at hn
    have hn := hn _ (nI 0) (z0 (nI 1)) (zF _) (z8 _) (fun q => ne_c q)
    have f24 : M 24 [.ref 8, .int n, .int i, .null] [.ref 8] σ := by
      refine h24 _ _ _ ?_
      simp (disch := omega) only [bX10_coming_24, q_ci, q_cl, q_ild, q_lld, q_ald, q_ist, q_ast, q_lst, q_inc, q_b2, q_d2, q_u1, q_l2, q_ld2, q_lsh, q_lcmp, q_i2l, q_l2i, q_dupi, q_dupr, q_dup2, q_popi, q_popr, q_if1, q_if2, q_nn, q_sw, q_swn, q_swc, q_gf, q_gr, q_pf, q_pz, q_pc, q_ia, q_is, q_cs, q_zs, q_la, q_lw, q_aa, q_al, q_gs, q_acp, q_m2, q_m1, q_ir, q_zr, q_lr, q_ar, q_vr, q_cN0, q_cSX0, q_cV0, q_cVX0, q_cN1, q_cSX1, q_cV1, q_cVX1, q_cN2, q_cSX2, q_cV2, q_cVX2, q_cN3, q_cSX3, q_cV3, q_cVX3, q_cN4, q_cSX4, q_cV4, q_cVX4, q_cN5, q_cSX5, q_cV5, q_cVX5, q_cN6, q_cSX6, q_cV6, q_cVX6, q_th, q_sh0, q_sh1, q_sh2, q_sh3, q_sh4, q_toL0, q_toL1, q_gl0, q_gls, q_sl0, q_sls, q_k10, q_k1s, q_lgi, q_lgr, q_lgl, q_lgn, Bool.not_false, and_true, true_and, nz_2, nz_4, nz_5, nz_8, nz_10, nz_12, nz_14, nz_16, nz_40, nz_41, nz_64, nz_100, nz_1000, nz_1024, nz_4096, nz_10000, nz_100000, not_false_eq_true, bI_0, nI_add, pk_mul, nI_lt', nI_le', nI_eq', nI_z, nI_p, nI_e0, nI_l0, nI_le0, nI_clamp, up_eq, up_ne, not_true_eq_false, Classical.not_not, false_implies, true_implies, false_and, and_false, or_true, true_or, Nat.add_zero, pk_m1, m1_0, m1_n, m1_p, Nat.zero_le, forall_const, Nat.zero_add, Nat.reduceAdd, Nat.reduceEqDiff, or_false, false_or, Nat.one_ne_zero, l64_2, l64_3, l64_4, l64_5, l64_7, l64_9, l64_10, l64_11, l64_15, l64_20, l64_30, l64_40, l64_60, l64_99, l64_255, l64_999, le64l, le64r, le64b, le64n, rset_eq, rset_upd, rset_rset, upd_nep, upd_eqp, ix21_4k, ix21_1, ix21_2, ix21_3, ix21_4, ix21_5, ix21_6, ix21_7, ix21_8, ix21_9, ix21_10, ix76_1, ix76_2, ix76_3, ix100_1, ix100_2, ix100_3, Nat.lt_irrefl, zl1, zl2, zl3, implies_true]
      refine h25 _ _ _ ?_
      simp (disch := omega) only [bX10_coming_25, sp_X10_refused, k8, q_ci, q_cl, q_ild, q_lld, q_ald, q_ist, q_ast, q_lst, q_inc, q_b2, q_d2, q_u1, q_l2, q_ld2, q_lsh, q_lcmp, q_i2l, q_l2i, q_dupi, q_dupr, q_dup2, q_popi, q_popr, q_if1, q_if2, q_nn, q_sw, q_swn, q_swc, q_gf, q_gr, q_pf, q_pz, q_pc, q_ia, q_is, q_cs, q_zs, q_la, q_lw, q_aa, q_al, q_gs, q_acp, q_m2, q_m1, q_ir, q_zr, q_lr, q_ar, q_vr, q_cN0, q_cSX0, q_cV0, q_cVX0, q_cN1, q_cSX1, q_cV1, q_cVX1, q_cN2, q_cSX2, q_cV2, q_cVX2, q_cN3, q_cSX3, q_cV3, q_cVX3, q_cN4, q_cSX4, q_cV4, q_cVX4, q_cN5, q_cSX5, q_cV5, q_cVX5, q_cN6, q_cSX6, q_cV6, q_cVX6, q_th, q_sh0, q_sh1, q_sh2, q_sh3, q_sh4, q_toL0, q_toL1, q_gl0, q_gls, q_sl0, q_sls, q_k10, q_k1s, q_lgi, q_lgr, q_lgl, q_lgn, Bool.not_false, and_true, true_and, nz_2, nz_4, nz_5, nz_8, nz_10, nz_12, nz_14, nz_16, nz_40, nz_41, nz_64, nz_100, nz_1000, nz_1024, nz_4096, nz_10000, nz_100000, not_false_eq_true, bI_0, nI_add, pk_mul, nI_lt', nI_le', nI_eq', nI_z, nI_p, nI_e0, nI_l0, nI_le0, nI_clamp, up_eq, up_ne, not_true_eq_false, Classical.not_not, false_implies, true_implies, false_and, and_false, or_true, true_or, Nat.add_zero, pk_m1, m1_0, m1_n, m1_p, Nat.zero_le, forall_const, Nat.zero_add, Nat.reduceAdd, Nat.reduceEqDiff, or_false, false_or, Nat.one_ne_zero, l64_2, l64_3, l64_4, l64_5, l64_7, l64_9, l64_10, l64_11, l64_15, l64_20, l64_30, l64_40, l64_60, l64_99, l64_255, l64_999, le64l, le64r, le64b, le64n, rset_eq, rset_upd, rset_rset, upd_nep, upd_eqp, ix21_4k, ix21_1, ix21_2, ix21_3, ix21_4, ix21_5, ix21_6, ix21_7, ix21_8, ix21_9, ix21_10, ix76_1, ix76_2, ix76_3, ix100_1, ix100_2, ix100_3, Nat.lt_irrefl, zl1, zl2, zl3, implies_true]
      exact hn
    simp (disch := omega) only [bX10_coming_0, sp_X10_isFar, sp_X10_in, q_ci, q_cl, q_ild, q_lld, q_ald, q_ist, q_ast, q_lst, q_inc, q_b2, q_d2, q_u1, q_l2, q_ld2, q_lsh, q_lcmp, q_i2l, q_l2i, q_dupi, q_dupr, q_dup2, q_popi, q_popr, q_if1, q_if2, q_nn, q_sw, q_swn, q_swc, q_gf, q_gr, q_pf, q_pz, q_pc, q_ia, q_is, q_cs, q_zs, q_la, q_lw, q_aa, q_al, q_gs, q_acp, q_m2, q_m1, q_ir, q_zr, q_lr, q_ar, q_vr, q_cN0, q_cSX0, q_cV0, q_cVX0, q_cN1, q_cSX1, q_cV1, q_cVX1, q_cN2, q_cSX2, q_cV2, q_cVX2, q_cN3, q_cSX3, q_cV3, q_cVX3, q_cN4, q_cSX4, q_cV4, q_cVX4, q_cN5, q_cSX5, q_cV5, q_cVX5, q_cN6, q_cSX6, q_cV6, q_cVX6, q_th, q_sh0, q_sh1, q_sh2, q_sh3, q_sh4, q_toL0, q_toL1, q_gl0, q_gls, q_sl0, q_sls, q_k10, q_k1s, q_lgi, q_lgr, q_lgl, q_lgn, Bool.not_false, and_true, true_and, nz_2, nz_4, nz_5, nz_8, nz_10, nz_12, nz_14, nz_16, nz_40, nz_41, nz_64, nz_100, nz_1000, nz_1024, nz_4096, nz_10000, nz_100000, not_false_eq_true, bI_0, nI_add, pk_mul, nI_lt', nI_le', nI_eq', nI_z, nI_p, nI_e0, nI_l0, nI_le0, nI_clamp, up_eq, up_ne, not_true_eq_false, Classical.not_not, false_implies, true_implies, false_and, and_false, or_true, true_or, Nat.add_zero, pk_m1, m1_0, m1_n, m1_p, Nat.zero_le, forall_const, Nat.zero_add, Nat.reduceAdd, Nat.reduceEqDiff, or_false, false_or, Nat.one_ne_zero, l64_2, l64_3, l64_4, l64_5, l64_7, l64_9, l64_10, l64_11, l64_15, l64_20, l64_30, l64_40, l64_60, l64_99, l64_255, l64_999, le64l, le64r, le64b, le64n, rset_eq, rset_upd, rset_rset, upd_nep, upd_eqp, ix21_4k, ix21_1, ix21_2, ix21_3, ix21_4, ix21_5, ix21_6, ix21_7, ix21_8, ix21_9, ix21_10, ix76_1, ix76_2, ix76_3, ix100_1, ix100_2, ix100_3, Nat.lt_irrefl, zl1, zl2, zl3, implies_true]
    exact ⟨fun _ => f24, fun q => ⟨fun _ => f24, fun q2 => absurd ⟨q, q2⟩ hb⟩⟩
set_option maxRecDepth 20000 in
set_option maxHeartbeats 4000000 in
theorem cd_X10_firstGap {l : Launch} (hl : l.stackTraces = false) {w : ab_W} {σ : ab_H} {Kn : Option Value → ab_H → Prop} {Kx : String → ab_H → Prop} (hI : ab_Inj w) (h : sdA w σ c_firstGap Kn) : ab_Met l yX10_firstGap (Cond.code yX10_firstGap cX10_firstGap 2 (some .int)) 5 0 w σ [.ref 8] Kn Kx := by
  obtain ⟨hw, A, T, hA, hW, hT, hn⟩ := h
  obtain ⟨k8, k9, l9, ⟨k10, l10⟩, ⟨k11, l11⟩, ⟨k12, l12⟩, k13, l13, k14, l14, k15, l15⟩ := id hw
  have hcO := hW.1.cOK
  have hc51 := hcO.2
  have hR := hA.1
  have hr := hR.1
  have hwR : wR w 11 := ⟨k11, l11⟩
  have z0 : ∀ x, RD (ab_up σ 8 0 x) A := fun x => hA.z x
  have zF : ∀ x, FrB σ (ab_up σ 8 0 x) := fun x => FrB.z x
  have z8 : ∀ x, ab_up σ 8 0 x 8 0 = x := fun x => up_eqp rfl rfl
  refine vc_X10_firstGap hl hI (ok_X10_tryIt hl) (ok_X10_watchIn hl) (Nat.le_of_ble_eq_true rfl) (fun M h0 h11 => h0 [.ref 8, .null] [] σ ?_)
  have hT0 := hW.1.1.2.1
  have e0 := hW.1.1.1
  have w5 : vp_in (nI 5) 304 := vp_in_nI (by omega) (by omega)
  have w0 : vp_in (nI 0) 304 := vp_in_nI (by omega) (by omega)
  have x2 : σ 11 5 = A.1.1 5 := hr 5 (by omega) (by omega) (by omega) (by omega)
  have H : ∀ d k, k + d = 60 → ∀ σ1, RM (σ1 12) (n_run k A.1) → FD (ab_up σ 8 0 (nI 0)) σ1 → n_fg A.1 (A.1.1 5) 60 0 = n_fg A.1 (A.1.1 5) d k → M 11 [.ref 8, .int (nI k)] [] σ1 := by
    intro d
    induction d with
    | zero =>
      intro k hk σ1 hR1 hF he
      refine h11 _ _ _ ?_
      have hc : c_firstGap A = (0, -1, A) := by unfold c_firstGap; rw [he]; rfl
      have hK := fd_k hA hn hc σ1 _ hF rfl
      simp (disch := omega) only [bX10_firstGap_11, q_ci, q_cl, q_ild, q_lld, q_ald, q_ist, q_ast, q_lst, q_inc, q_b2, q_d2, q_u1, q_l2, q_ld2, q_lsh, q_lcmp, q_i2l, q_l2i, q_dupi, q_dupr, q_dup2, q_popi, q_popr, q_if1, q_if2, q_nn, q_sw, q_swn, q_swc, q_gf, q_gr, q_pf, q_pz, q_pc, q_ia, q_is, q_cs, q_zs, q_la, q_lw, q_aa, q_al, q_gs, q_acp, q_m2, q_m1, q_ir, q_zr, q_lr, q_ar, q_vr, q_cN0, q_cSX0, q_cV0, q_cVX0, q_cN1, q_cSX1, q_cV1, q_cVX1, q_cN2, q_cSX2, q_cV2, q_cVX2, q_cN3, q_cSX3, q_cV3, q_cVX3, q_cN4, q_cSX4, q_cV4, q_cVX4, q_cN5, q_cSX5, q_cV5, q_cVX5, q_cN6, q_cSX6, q_cV6, q_cVX6, q_th, q_sh0, q_sh1, q_sh2, q_sh3, q_sh4, q_toL0, q_toL1, q_gl0, q_gls, q_sl0, q_sls, q_k10, q_k1s, q_lgi, q_lgr, q_lgl, q_lgn, Bool.not_false, and_true, true_and, nz_2, nz_4, nz_5, nz_8, nz_10, nz_12, nz_14, nz_16, nz_40, nz_41, nz_64, nz_100, nz_1000, nz_1024, nz_4096, nz_10000, nz_100000, not_false_eq_true, bI_0, nI_add, pk_mul, nI_lt', nI_le', nI_eq', nI_z, nI_p, nI_e0, nI_l0, nI_le0, nI_clamp, up_eq, up_ne, not_true_eq_false, Classical.not_not, false_implies, true_implies, false_and, and_false, or_true, true_or, Nat.add_zero, pk_m1, m1_0, m1_n, m1_p, Nat.zero_le, forall_const, Nat.zero_add, Nat.reduceAdd, Nat.reduceEqDiff, or_false, false_or, Nat.one_ne_zero, l64_2, l64_3, l64_4, l64_5, l64_7, l64_9, l64_10, l64_11, l64_15, l64_20, l64_30, l64_40, l64_60, l64_99, l64_255, l64_999, le64l, le64r, le64b, le64n, rset_eq, rset_upd, rset_rset, upd_nep, upd_eqp, ix21_4k, ix21_1, ix21_2, ix21_3, ix21_4, ix21_5, ix21_6, ix21_7, ix21_8, ix21_9, ix21_10, ix76_1, ix76_2, ix76_3, ix100_1, ix100_2, ix100_3, Nat.lt_irrefl, zl1, zl2, zl3, implies_true]
      exact ⟨fun _ => hK, fun q => absurd (by omega) q⟩
    | succ d ih =>
      intro k hk σ1 hR1 hF he
      refine h11 _ _ _ ?_
      have hWR := WF_run hW.1 k (by omega)
      have hWR1 := WF_run hW.1 (k + 1) (by omega)
      simp (disch := omega) only [bX10_firstGap_11, sp_X10_watchIn, k8, k11, l11, k12, l12, q_ci, q_cl, q_ild, q_lld, q_ald, q_ist, q_ast, q_lst, q_inc, q_b2, q_d2, q_u1, q_l2, q_ld2, q_lsh, q_lcmp, q_i2l, q_l2i, q_dupi, q_dupr, q_dup2, q_popi, q_popr, q_if1, q_if2, q_nn, q_sw, q_swn, q_swc, q_gf, q_gr, q_pf, q_pz, q_pc, q_ia, q_is, q_cs, q_zs, q_la, q_lw, q_aa, q_al, q_gs, q_acp, q_m2, q_m1, q_ir, q_zr, q_lr, q_ar, q_vr, q_cN0, q_cSX0, q_cV0, q_cVX0, q_cN1, q_cSX1, q_cV1, q_cVX1, q_cN2, q_cSX2, q_cV2, q_cVX2, q_cN3, q_cSX3, q_cV3, q_cVX3, q_cN4, q_cSX4, q_cV4, q_cVX4, q_cN5, q_cSX5, q_cV5, q_cVX5, q_cN6, q_cSX6, q_cV6, q_cVX6, q_th, q_sh0, q_sh1, q_sh2, q_sh3, q_sh4, q_toL0, q_toL1, q_gl0, q_gls, q_sl0, q_sls, q_k10, q_k1s, q_lgi, q_lgr, q_lgl, q_lgn, Bool.not_false, and_true, true_and, nz_2, nz_4, nz_5, nz_8, nz_10, nz_12, nz_14, nz_16, nz_40, nz_41, nz_64, nz_100, nz_1000, nz_1024, nz_4096, nz_10000, nz_100000, not_false_eq_true, bI_0, nI_add, pk_mul, nI_lt', nI_le', nI_eq', nI_z, nI_p, nI_e0, nI_l0, nI_le0, nI_clamp, up_eq, up_ne, not_true_eq_false, Classical.not_not, false_implies, true_implies, false_and, and_false, or_true, true_or, Nat.add_zero, pk_m1, m1_0, m1_n, m1_p, Nat.zero_le, forall_const, Nat.zero_add, Nat.reduceAdd, Nat.reduceEqDiff, or_false, false_or, Nat.one_ne_zero, l64_2, l64_3, l64_4, l64_5, l64_7, l64_9, l64_10, l64_11, l64_15, l64_20, l64_30, l64_40, l64_60, l64_99, l64_255, l64_999, le64l, le64r, le64b, le64n, rset_eq, rset_upd, rset_rset, upd_nep, upd_eqp, ix21_4k, ix21_1, ix21_2, ix21_3, ix21_4, ix21_5, ix21_6, ix21_7, ix21_8, ix21_9, ix21_10, ix76_1, ix76_2, ix76_3, ix100_1, ix100_2, ix100_3, Nat.lt_irrefl, zl1, zl2, zl3, implies_true]
      refine ⟨fun q => absurd q (by omega), fun _ => ⟨⟨k12, l12⟩, by decide, n_run k A.1, T + k, hR1, hWR, by omega, fun r' hr' => ?_⟩⟩
      have hr' : RM r' (n_run (k + 1) A.1) := hr'
      have hF' : FD (ab_up σ 8 0 (nI 0)) (rset (ab_up σ1 8 14 (n_ls (n_run k A.1) (σ1 8 13) (σ1 8 14) (cl ((n_run k A.1).1 1)))) 12 r') := hF.trans (FD.u14.trans FD.r12)
      have e11 : (rset (ab_up σ1 8 14 (n_ls (n_run k A.1) (σ1 8 13) (σ1 8 14) (cl ((n_run k A.1).1 1)))) 12 r') 11 = σ 11 := by rw [hF'.1 11 (by decide) (by decide) (by decide), up_ne (by decide)]
      have x1 : r' 5 = (n_run (k + 1) A.1).1 5 := hr'.1 5 (by omega) (by omega) (by omega) (by omega)
      have y0 : r' 0 = (n_run (k + 1) A.1).1 0 := hr'.1 0 (by omega) (by omega) (by omega) (by omega)
      rw [x1, e11, x2, y0]
      refine ⟨w5, w5, fun q => ih (k + 1) (by omega) _ (by rw [rset_eq]; exact hr') hF' ?_, fun q => ⟨w0, ?_⟩⟩
      · rw [he]
        show (if _ then _ else _) = _
        rw [if_neg (Int32.not_lt.mpr q)]
      · have hz : n_fg A.1 (A.1.1 5) 60 0 = some k := by
          rw [he]
          show (if _ then _ else _) = _
          rw [if_pos (Int32.not_le.mp q)]
        have hc : c_firstGap A = (0, nI (cl (A.1.1 0) + k), A) := by unfold c_firstGap; rw [hz]
        refine fd_k hA hn hc _ _ hF' ?_
        have ht : ∀ k, k ≤ 60 → (n_run k A.1).1 0 = nI (cl (A.1.1 0) + k) := by
          intro k
          induction k with
          | zero => intro _; exact e0
          | succ k ihk =>
            intro hk2
            have h1 := ihk (by omega)
            have hWk := WF_run hW.1 k (by omega)
            have hWa := WF_arr hWk (by omega)
            show (n_watch (n_run k A.1)).1 0 = _
            unfold n_watch n_tick
            dsimp only
            rw [upd_eqp rfl, (n_loop_W hWa (by omega) _ (Nat.le_refl _)).2.2, n_arr_i hWk (by omega), h1, nI_1]
            rfl
        rw [ht (k + 1) (by omega), pk_sub (by omega)]
        rfl
  simp (disch := omega) only [bX10_firstGap_0, sp_X10_tryIt, k8, q_ci, q_cl, q_ild, q_lld, q_ald, q_ist, q_ast, q_lst, q_inc, q_b2, q_d2, q_u1, q_l2, q_ld2, q_lsh, q_lcmp, q_i2l, q_l2i, q_dupi, q_dupr, q_dup2, q_popi, q_popr, q_if1, q_if2, q_nn, q_sw, q_swn, q_swc, q_gf, q_gr, q_pf, q_pz, q_pc, q_ia, q_is, q_cs, q_zs, q_la, q_lw, q_aa, q_al, q_gs, q_acp, q_m2, q_m1, q_ir, q_zr, q_lr, q_ar, q_vr, q_cN0, q_cSX0, q_cV0, q_cVX0, q_cN1, q_cSX1, q_cV1, q_cVX1, q_cN2, q_cSX2, q_cV2, q_cVX2, q_cN3, q_cSX3, q_cV3, q_cVX3, q_cN4, q_cSX4, q_cV4, q_cVX4, q_cN5, q_cSX5, q_cV5, q_cVX5, q_cN6, q_cSX6, q_cV6, q_cVX6, q_th, q_sh0, q_sh1, q_sh2, q_sh3, q_sh4, q_toL0, q_toL1, q_gl0, q_gls, q_sl0, q_sls, q_k10, q_k1s, q_lgi, q_lgr, q_lgl, q_lgn, Bool.not_false, and_true, true_and, nz_2, nz_4, nz_5, nz_8, nz_10, nz_12, nz_14, nz_16, nz_40, nz_41, nz_64, nz_100, nz_1000, nz_1024, nz_4096, nz_10000, nz_100000, not_false_eq_true, bI_0, nI_add, pk_mul, nI_lt', nI_le', nI_eq', nI_z, nI_p, nI_e0, nI_l0, nI_le0, nI_clamp, up_eq, up_ne, not_true_eq_false, Classical.not_not, false_implies, true_implies, false_and, and_false, or_true, true_or, Nat.add_zero, pk_m1, m1_0, m1_n, m1_p, Nat.zero_le, forall_const, Nat.zero_add, Nat.reduceAdd, Nat.reduceEqDiff, or_false, false_or, Nat.one_ne_zero, l64_2, l64_3, l64_4, l64_5, l64_7, l64_9, l64_10, l64_11, l64_15, l64_20, l64_30, l64_40, l64_60, l64_99, l64_255, l64_999, le64l, le64r, le64b, le64n, rset_eq, rset_upd, rset_rset, upd_nep, upd_eqp, ix21_4k, ix21_1, ix21_2, ix21_3, ix21_4, ix21_5, ix21_6, ix21_7, ix21_8, ix21_9, ix21_10, ix76_1, ix76_2, ix76_3, ix100_1, ix100_2, ix100_3, Nat.lt_irrefl, zl1, zl2, zl3, implies_true]
  exact ⟨hw, fun σ1 a1 a2 a3 => H 60 0 (by omega) σ1 (a1 A.1 T hW.1 (by omega) hR) a2 rfl⟩
set_option maxRecDepth 20000 in
set_option maxHeartbeats 4000000 in
theorem cd_X10_ifDelivered {l : Launch} (hl : l.stackTraces = false) {w : ab_W} {σ : ab_H} {Kn : Option Value → ab_H → Prop} {Kx : String → ab_H → Prop} (hI : ab_Inj w) (s : Int32) (g : Int32) (k : Int32) (n : Int32) (h : sdA w σ (c_ifDelivered s g k n) Kn) : ab_Met l yX10_ifDelivered (Cond.code yX10_ifDelivered cX10_ifDelivered 5 (some .int)) 6 0 w σ [.ref 8, .int s, .int g, .int k, .int n] Kn Kx := by
  obtain ⟨hw, A, T, hA, hW, hT, hn⟩ := h
  obtain ⟨k8, k9, l9, ⟨k10, l10⟩, ⟨k11, l11⟩, ⟨k12, l12⟩, k13, l13, k14, l14, k15, l15⟩ := id hw
  have hcO := hW.1.cOK
  have hc51 := hcO.2
  have hR := hA.1
  have hr := hR.1
  have hwR : wR w 11 := ⟨k11, l11⟩
  have z0 : ∀ x, RD (ab_up σ 8 0 x) A := fun x => hA.z x
  have zF : ∀ x, FrB σ (ab_up σ 8 0 x) := fun x => FrB.z x
  have z8 : ∀ x, ab_up σ 8 0 x 8 0 = x := fun x => up_eqp rfl rfl
  refine vc_X10_ifDelivered hl hI (ok_X10_isStation hl) (ok_X10_isLoad hl) (ok_X10_isFar hl) (ok_X10_canDeliver hl) (ok_X10_refused hl) (ok_X10_tryIt hl) (ok_X10_deliverIn hl) (ok_X10_runIn hl) (Nat.le_of_ble_eq_true rfl) (fun M h0 h29 h50 => h0 [.ref 8, .int s, .int g, .int k, .int n] [] σ ?_)
  have hO8 := hW.1.2.2.1.1
  have fbad : ∀ e, c_ifDelivered s g k n A = (e, 0, A) → 0 < e → e ≤ 3 → M 50 [.ref 8, .int s, .int g, .int k, .int n] [.int (nI e), .ref 8] σ := by
    intro e hc h0' h3
    rw [hc] at hn
    have hn := hn _ (nI 0) (z0 (nI e)) (zF _) (z8 _) (fun q => absurd (show e = 0 from q) (by omega))
    refine h50 _ _ _ ?_
    simp (disch := omega) only [bX10_ifDelivered_50, sp_X10_refused, k8, q_ci, q_cl, q_ild, q_lld, q_ald, q_ist, q_ast, q_lst, q_inc, q_b2, q_d2, q_u1, q_l2, q_ld2, q_lsh, q_lcmp, q_i2l, q_l2i, q_dupi, q_dupr, q_dup2, q_popi, q_popr, q_if1, q_if2, q_nn, q_sw, q_swn, q_swc, q_gf, q_gr, q_pf, q_pz, q_pc, q_ia, q_is, q_cs, q_zs, q_la, q_lw, q_aa, q_al, q_gs, q_acp, q_m2, q_m1, q_ir, q_zr, q_lr, q_ar, q_vr, q_cN0, q_cSX0, q_cV0, q_cVX0, q_cN1, q_cSX1, q_cV1, q_cVX1, q_cN2, q_cSX2, q_cV2, q_cVX2, q_cN3, q_cSX3, q_cV3, q_cVX3, q_cN4, q_cSX4, q_cV4, q_cVX4, q_cN5, q_cSX5, q_cV5, q_cVX5, q_cN6, q_cSX6, q_cV6, q_cVX6, q_th, q_sh0, q_sh1, q_sh2, q_sh3, q_sh4, q_toL0, q_toL1, q_gl0, q_gls, q_sl0, q_sls, q_k10, q_k1s, q_lgi, q_lgr, q_lgl, q_lgn, Bool.not_false, and_true, true_and, nz_2, nz_4, nz_5, nz_8, nz_10, nz_12, nz_14, nz_16, nz_40, nz_41, nz_64, nz_100, nz_1000, nz_1024, nz_4096, nz_10000, nz_100000, not_false_eq_true, bI_0, nI_add, pk_mul, nI_lt', nI_le', nI_eq', nI_z, nI_p, nI_e0, nI_l0, nI_le0, nI_clamp, up_eq, up_ne, not_true_eq_false, Classical.not_not, false_implies, true_implies, false_and, and_false, or_true, true_or, Nat.add_zero, pk_m1, m1_0, m1_n, m1_p, Nat.zero_le, forall_const, Nat.zero_add, Nat.reduceAdd, Nat.reduceEqDiff, or_false, false_or, Nat.one_ne_zero, l64_2, l64_3, l64_4, l64_5, l64_7, l64_9, l64_10, l64_11, l64_15, l64_20, l64_30, l64_40, l64_60, l64_99, l64_255, l64_999, le64l, le64r, le64b, le64n, rset_eq, rset_upd, rset_rset, upd_nep, upd_eqp, ix21_4k, ix21_1, ix21_2, ix21_3, ix21_4, ix21_5, ix21_6, ix21_7, ix21_8, ix21_9, ix21_10, ix76_1, ix76_2, ix76_3, ix100_1, ix100_2, ix100_3, Nat.lt_irrefl, zl1, zl2, zl3, implies_true]
    first | exact hn | exact ⟨fun q => absurd h0' q, fun _ => hn⟩
  by_cases hv : vS A.1.1 s
  · by_cases hfo : okL g k ∧ bt2 (nI 1) n (nI 60)
    · obtain ⟨hok, hb⟩ := id hfo
      obtain ⟨g, -, hg, rfl⟩ := ab_lo (by omega) (by omega) hok.1.1 hok.1.2
      obtain ⟨k, -, hk, rfl⟩ := ab_lo (by omega) (by omega) hok.2.1 hok.2.2
      obtain ⟨c, hc1, hc6, rfl⟩ := ab_lo (a := 1) (b := 60) (by omega) (by omega) hb.1 hb.2
      have hz : ((nI g = 0 ∧ nI k = 0) ∨ 8 ≤ A.1.2.1.length) = ¬ (0 < g + k ∧ A.1.2.1.length < 8) := by
        rw [nI_e0 (by omega), nI_e0 (by omega)]
        exact propext ⟨fun q => by omega, fun q => by omega⟩
      obtain ⟨j, hj, hs⟩ : ∃ k, k < cl (A.1.1 1) ∧ s = nI k := ⟨cl s, (ab_ixs hcO hv).2, (ab_ixs hcO hv).1⟩
      by_cases hcd : 0 < g + k ∧ A.1.2.1.length < 8
      · have h0r : rO A.1.1 A.1.2.1.length s (nI g) (nI k) = 0 := by unfold rO; rw [if_pos hv, if_pos hok, if_neg (by rw [hz]; exact fun q => q hcd)]
        have hWo := WF_ordI hW.1 h0r
        have hc : c_ifDelivered s (nI g) (nI k) (nI c) A = (0, (n_run (cl (nI c)) (n_ord A.1 (cl s) (cl (nI g)) (cl (nI k)))).1 5 - A.1.1 5, A) := by
          unfold c_ifDelivered; rw [if_neg (fun q => q.2 hb), if_pos h0r]
        rw [cl_nI (by omega), cl_nI (by omega), cl_nI (by omega), hs, cl_nI (by omega)] at hc
        rw [hs, cl_nI (by omega), cl_nI (by omega), cl_nI (by omega)] at hWo
        rw [hs] at hn
        have hK := fd_k hA hn hc
        have w5 : vp_in (nI 5) 304 := vp_in_nI (by omega) (by omega)
        have x2 : σ 11 5 = A.1.1 5 := hr 5 (by omega) (by omega) (by omega) (by omega)
        have f50 : M 50 [.ref 8, .int s, .int (nI g), .int (nI k), .int (nI c)] [.int (nI 0), .ref 8] σ := by
          refine h50 _ _ _ ?_
          rw [hs]
          simp (disch := omega) only [bX10_ifDelivered_50, sp_X10_refused, sp_X10_tryIt, sp_X10_deliverIn, sp_X10_runIn, k8, k11, l11, k12, l12, q_ci, q_cl, q_ild, q_lld, q_ald, q_ist, q_ast, q_lst, q_inc, q_b2, q_d2, q_u1, q_l2, q_ld2, q_lsh, q_lcmp, q_i2l, q_l2i, q_dupi, q_dupr, q_dup2, q_popi, q_popr, q_if1, q_if2, q_nn, q_sw, q_swn, q_swc, q_gf, q_gr, q_pf, q_pz, q_pc, q_ia, q_is, q_cs, q_zs, q_la, q_lw, q_aa, q_al, q_gs, q_acp, q_m2, q_m1, q_ir, q_zr, q_lr, q_ar, q_vr, q_cN0, q_cSX0, q_cV0, q_cVX0, q_cN1, q_cSX1, q_cV1, q_cVX1, q_cN2, q_cSX2, q_cV2, q_cVX2, q_cN3, q_cSX3, q_cV3, q_cVX3, q_cN4, q_cSX4, q_cV4, q_cVX4, q_cN5, q_cSX5, q_cV5, q_cVX5, q_cN6, q_cSX6, q_cV6, q_cVX6, q_th, q_sh0, q_sh1, q_sh2, q_sh3, q_sh4, q_toL0, q_toL1, q_gl0, q_gls, q_sl0, q_sls, q_k10, q_k1s, q_lgi, q_lgr, q_lgl, q_lgn, Bool.not_false, and_true, true_and, nz_2, nz_4, nz_5, nz_8, nz_10, nz_12, nz_14, nz_16, nz_40, nz_41, nz_64, nz_100, nz_1000, nz_1024, nz_4096, nz_10000, nz_100000, not_false_eq_true, bI_0, nI_add, pk_mul, nI_lt', nI_le', nI_eq', nI_z, nI_p, nI_e0, nI_l0, nI_le0, nI_clamp, up_eq, up_ne, not_true_eq_false, Classical.not_not, false_implies, true_implies, false_and, and_false, or_true, true_or, Nat.add_zero, pk_m1, m1_0, m1_n, m1_p, Nat.zero_le, forall_const, Nat.zero_add, Nat.reduceAdd, Nat.reduceEqDiff, or_false, false_or, Nat.one_ne_zero, l64_2, l64_3, l64_4, l64_5, l64_7, l64_9, l64_10, l64_11, l64_15, l64_20, l64_30, l64_40, l64_60, l64_99, l64_255, l64_999, le64l, le64r, le64b, le64n, rset_eq, rset_upd, rset_rset, upd_nep, upd_eqp, ix21_4k, ix21_1, ix21_2, ix21_3, ix21_4, ix21_5, ix21_6, ix21_7, ix21_8, ix21_9, ix21_10, ix76_1, ix76_2, ix76_3, ix100_1, ix100_2, ix100_3, Nat.lt_irrefl, zl1, zl2, zl3, implies_true]
          refine ⟨hw, fun σ1 a1 a2 a3 => ⟨⟨k12, l12⟩, A.1, T, j, g, k, a1 A.1 T hW.1 (by omega) hR, hW.1.1, by omega, hcd.2, rfl, rfl, rfl, by omega, by omega, by omega, fun r' hr' => ⟨⟨k12, l12⟩, by decide, _, T, c, hr', hWo, rfl, by omega, by omega, fun r2 hr2 => ?_⟩⟩⟩
          have e11 : σ1 11 = σ 11 := by rw [a2.1 11 (by decide) (by decide) (by decide), up_ne (by decide)]
          have x1 := hr2.1 5 (by omega) (by omega) (by omega) (by omega)
          try simp (disch := omega) only [rset_ne]
          first
            | exact ⟨w5, w5, hK _ _ (a2.trans (FD.r12.trans (FD.u14.trans FD.r12))) (by rw [x1, up_ne (by decide), rset_ne (by decide), e11, x2])⟩
        simp (disch := omega) only [bX10_ifDelivered_0, sp_X10_isStation, sp_X10_isLoad, sp_X10_isFar, sp_X10_canDeliver, k8, q_ci, q_cl, q_ild, q_lld, q_ald, q_ist, q_ast, q_lst, q_inc, q_b2, q_d2, q_u1, q_l2, q_ld2, q_lsh, q_lcmp, q_i2l, q_l2i, q_dupi, q_dupr, q_dup2, q_popi, q_popr, q_if1, q_if2, q_nn, q_sw, q_swn, q_swc, q_gf, q_gr, q_pf, q_pz, q_pc, q_ia, q_is, q_cs, q_zs, q_la, q_lw, q_aa, q_al, q_gs, q_acp, q_m2, q_m1, q_ir, q_zr, q_lr, q_ar, q_vr, q_cN0, q_cSX0, q_cV0, q_cVX0, q_cN1, q_cSX1, q_cV1, q_cVX1, q_cN2, q_cSX2, q_cV2, q_cVX2, q_cN3, q_cSX3, q_cV3, q_cVX3, q_cN4, q_cSX4, q_cV4, q_cVX4, q_cN5, q_cSX5, q_cV5, q_cVX5, q_cN6, q_cSX6, q_cV6, q_cVX6, q_th, q_sh0, q_sh1, q_sh2, q_sh3, q_sh4, q_toL0, q_toL1, q_gl0, q_gls, q_sl0, q_sls, q_k10, q_k1s, q_lgi, q_lgr, q_lgl, q_lgn, Bool.not_false, and_true, true_and, nz_2, nz_4, nz_5, nz_8, nz_10, nz_12, nz_14, nz_16, nz_40, nz_41, nz_64, nz_100, nz_1000, nz_1024, nz_4096, nz_10000, nz_100000, not_false_eq_true, bI_0, nI_add, pk_mul, nI_lt', nI_le', nI_eq', nI_z, nI_p, nI_e0, nI_l0, nI_le0, nI_clamp, up_eq, up_ne, not_true_eq_false, Classical.not_not, false_implies, true_implies, false_and, and_false, or_true, true_or, Nat.add_zero, pk_m1, m1_0, m1_n, m1_p, Nat.zero_le, forall_const, Nat.zero_add, Nat.reduceAdd, Nat.reduceEqDiff, or_false, false_or, Nat.one_ne_zero, l64_2, l64_3, l64_4, l64_5, l64_7, l64_9, l64_10, l64_11, l64_15, l64_20, l64_30, l64_40, l64_60, l64_99, l64_255, l64_999, le64l, le64r, le64b, le64n, rset_eq, rset_upd, rset_rset, upd_nep, upd_eqp, ix21_4k, ix21_1, ix21_2, ix21_3, ix21_4, ix21_5, ix21_6, ix21_7, ix21_8, ix21_9, ix21_10, ix76_1, ix76_2, ix76_3, ix100_1, ix100_2, ix100_3, Nat.lt_irrefl, zl1, zl2, zl3, implies_true]
        exact ⟨hw, A.1, hR, hcO, fun _ => ⟨fun q => absurd hok q, fun _ => ⟨fun _ => ⟨hwR, A.1, g, k, hR, rfl, rfl, by omega, by omega, hO8, fun q => absurd hcd q, fun _ => f50⟩, fun q => absurd hb q⟩⟩, fun q => absurd hv q⟩
      · have h3r : rO A.1.1 A.1.2.1.length s (nI g) (nI k) = 3 := by unfold rO; rw [if_pos hv, if_pos hok, if_pos (by rw [hz]; exact hcd)]
        have hc : c_ifDelivered s (nI g) (nI k) (nI c) A = (3, 0, A) := by unfold c_ifDelivered; rw [if_neg (fun q => q.2 hb), h3r]; try rfl
        have f3 := fbad 3 hc (by omega) (by omega)
        simp (disch := omega) only [bX10_ifDelivered_0, sp_X10_isStation, sp_X10_isLoad, sp_X10_isFar, sp_X10_canDeliver, k8, q_ci, q_cl, q_ild, q_lld, q_ald, q_ist, q_ast, q_lst, q_inc, q_b2, q_d2, q_u1, q_l2, q_ld2, q_lsh, q_lcmp, q_i2l, q_l2i, q_dupi, q_dupr, q_dup2, q_popi, q_popr, q_if1, q_if2, q_nn, q_sw, q_swn, q_swc, q_gf, q_gr, q_pf, q_pz, q_pc, q_ia, q_is, q_cs, q_zs, q_la, q_lw, q_aa, q_al, q_gs, q_acp, q_m2, q_m1, q_ir, q_zr, q_lr, q_ar, q_vr, q_cN0, q_cSX0, q_cV0, q_cVX0, q_cN1, q_cSX1, q_cV1, q_cVX1, q_cN2, q_cSX2, q_cV2, q_cVX2, q_cN3, q_cSX3, q_cV3, q_cVX3, q_cN4, q_cSX4, q_cV4, q_cVX4, q_cN5, q_cSX5, q_cV5, q_cVX5, q_cN6, q_cSX6, q_cV6, q_cVX6, q_th, q_sh0, q_sh1, q_sh2, q_sh3, q_sh4, q_toL0, q_toL1, q_gl0, q_gls, q_sl0, q_sls, q_k10, q_k1s, q_lgi, q_lgr, q_lgl, q_lgn, Bool.not_false, and_true, true_and, nz_2, nz_4, nz_5, nz_8, nz_10, nz_12, nz_14, nz_16, nz_40, nz_41, nz_64, nz_100, nz_1000, nz_1024, nz_4096, nz_10000, nz_100000, not_false_eq_true, bI_0, nI_add, pk_mul, nI_lt', nI_le', nI_eq', nI_z, nI_p, nI_e0, nI_l0, nI_le0, nI_clamp, up_eq, up_ne, not_true_eq_false, Classical.not_not, false_implies, true_implies, false_and, and_false, or_true, true_or, Nat.add_zero, pk_m1, m1_0, m1_n, m1_p, Nat.zero_le, forall_const, Nat.zero_add, Nat.reduceAdd, Nat.reduceEqDiff, or_false, false_or, Nat.one_ne_zero, l64_2, l64_3, l64_4, l64_5, l64_7, l64_9, l64_10, l64_11, l64_15, l64_20, l64_30, l64_40, l64_60, l64_99, l64_255, l64_999, le64l, le64r, le64b, le64n, rset_eq, rset_upd, rset_rset, upd_nep, upd_eqp, ix21_4k, ix21_1, ix21_2, ix21_3, ix21_4, ix21_5, ix21_6, ix21_7, ix21_8, ix21_9, ix21_10, ix76_1, ix76_2, ix76_3, ix100_1, ix100_2, ix100_3, Nat.lt_irrefl, zl1, zl2, zl3, implies_true]
        exact ⟨hw, A.1, hR, hcO, fun _ => ⟨fun q => absurd hok q, fun _ => ⟨fun _ => ⟨hwR, A.1, g, k, hR, rfl, rfl, by omega, by omega, hO8, fun q => f3, fun q => absurd q hcd⟩, fun q => absurd hb q⟩⟩, fun q => absurd hv q⟩
    · have hc : c_ifDelivered s g k n A = (2, 0, A) := by
        unfold c_ifDelivered
        by_cases hb : bt2 (nI 1) n (nI 60)
        · have h2r : rO A.1.1 A.1.2.1.length s g k = 2 := by unfold rO; rw [if_pos hv, if_neg (fun q => hfo ⟨q, hb⟩)]
          rw [if_neg (fun q => q.2 hb), h2r]; try rfl
        · have hne : rO A.1.1 A.1.2.1.length s g k ≠ 1 := by
            unfold rO
            rw [if_pos hv]
            by_cases q1 : okL g k
            · rw [if_pos q1]
              by_cases q2 : (g = 0 ∧ k = 0) ∨ 8 ≤ A.1.2.1.length
              · rw [if_pos q2]; decide
              · rw [if_neg q2]; decide
            · rw [if_neg q1]; decide
          exact if_pos ⟨hne, hb⟩
      have f2 := fbad 2 hc (by omega) (by omega)
      have f29 : M 29 [.ref 8, .int s, .int g, .int k, .int n] [.ref 8] σ := by
        refine h29 _ _ _ ?_
        simp (disch := omega) only [bX10_ifDelivered_29, q_ci, q_cl, q_ild, q_lld, q_ald, q_ist, q_ast, q_lst, q_inc, q_b2, q_d2, q_u1, q_l2, q_ld2, q_lsh, q_lcmp, q_i2l, q_l2i, q_dupi, q_dupr, q_dup2, q_popi, q_popr, q_if1, q_if2, q_nn, q_sw, q_swn, q_swc, q_gf, q_gr, q_pf, q_pz, q_pc, q_ia, q_is, q_cs, q_zs, q_la, q_lw, q_aa, q_al, q_gs, q_acp, q_m2, q_m1, q_ir, q_zr, q_lr, q_ar, q_vr, q_cN0, q_cSX0, q_cV0, q_cVX0, q_cN1, q_cSX1, q_cV1, q_cVX1, q_cN2, q_cSX2, q_cV2, q_cVX2, q_cN3, q_cSX3, q_cV3, q_cVX3, q_cN4, q_cSX4, q_cV4, q_cVX4, q_cN5, q_cSX5, q_cV5, q_cVX5, q_cN6, q_cSX6, q_cV6, q_cVX6, q_th, q_sh0, q_sh1, q_sh2, q_sh3, q_sh4, q_toL0, q_toL1, q_gl0, q_gls, q_sl0, q_sls, q_k10, q_k1s, q_lgi, q_lgr, q_lgl, q_lgn, Bool.not_false, and_true, true_and, nz_2, nz_4, nz_5, nz_8, nz_10, nz_12, nz_14, nz_16, nz_40, nz_41, nz_64, nz_100, nz_1000, nz_1024, nz_4096, nz_10000, nz_100000, not_false_eq_true, bI_0, nI_add, pk_mul, nI_lt', nI_le', nI_eq', nI_z, nI_p, nI_e0, nI_l0, nI_le0, nI_clamp, up_eq, up_ne, not_true_eq_false, Classical.not_not, false_implies, true_implies, false_and, and_false, or_true, true_or, Nat.add_zero, pk_m1, m1_0, m1_n, m1_p, Nat.zero_le, forall_const, Nat.zero_add, Nat.reduceAdd, Nat.reduceEqDiff, or_false, false_or, Nat.one_ne_zero, l64_2, l64_3, l64_4, l64_5, l64_7, l64_9, l64_10, l64_11, l64_15, l64_20, l64_30, l64_40, l64_60, l64_99, l64_255, l64_999, le64l, le64r, le64b, le64n, rset_eq, rset_upd, rset_rset, upd_nep, upd_eqp, ix21_4k, ix21_1, ix21_2, ix21_3, ix21_4, ix21_5, ix21_6, ix21_7, ix21_8, ix21_9, ix21_10, ix76_1, ix76_2, ix76_3, ix100_1, ix100_2, ix100_3, Nat.lt_irrefl, zl1, zl2, zl3, implies_true]
        exact f2
      simp (disch := omega) only [bX10_ifDelivered_0, sp_X10_isStation, sp_X10_isLoad, sp_X10_isFar, k8, q_ci, q_cl, q_ild, q_lld, q_ald, q_ist, q_ast, q_lst, q_inc, q_b2, q_d2, q_u1, q_l2, q_ld2, q_lsh, q_lcmp, q_i2l, q_l2i, q_dupi, q_dupr, q_dup2, q_popi, q_popr, q_if1, q_if2, q_nn, q_sw, q_swn, q_swc, q_gf, q_gr, q_pf, q_pz, q_pc, q_ia, q_is, q_cs, q_zs, q_la, q_lw, q_aa, q_al, q_gs, q_acp, q_m2, q_m1, q_ir, q_zr, q_lr, q_ar, q_vr, q_cN0, q_cSX0, q_cV0, q_cVX0, q_cN1, q_cSX1, q_cV1, q_cVX1, q_cN2, q_cSX2, q_cV2, q_cVX2, q_cN3, q_cSX3, q_cV3, q_cVX3, q_cN4, q_cSX4, q_cV4, q_cVX4, q_cN5, q_cSX5, q_cV5, q_cVX5, q_cN6, q_cSX6, q_cV6, q_cVX6, q_th, q_sh0, q_sh1, q_sh2, q_sh3, q_sh4, q_toL0, q_toL1, q_gl0, q_gls, q_sl0, q_sls, q_k10, q_k1s, q_lgi, q_lgr, q_lgl, q_lgn, Bool.not_false, and_true, true_and, nz_2, nz_4, nz_5, nz_8, nz_10, nz_12, nz_14, nz_16, nz_40, nz_41, nz_64, nz_100, nz_1000, nz_1024, nz_4096, nz_10000, nz_100000, not_false_eq_true, bI_0, nI_add, pk_mul, nI_lt', nI_le', nI_eq', nI_z, nI_p, nI_e0, nI_l0, nI_le0, nI_clamp, up_eq, up_ne, not_true_eq_false, Classical.not_not, false_implies, true_implies, false_and, and_false, or_true, true_or, Nat.add_zero, pk_m1, m1_0, m1_n, m1_p, Nat.zero_le, forall_const, Nat.zero_add, Nat.reduceAdd, Nat.reduceEqDiff, or_false, false_or, Nat.one_ne_zero, l64_2, l64_3, l64_4, l64_5, l64_7, l64_9, l64_10, l64_11, l64_15, l64_20, l64_30, l64_40, l64_60, l64_99, l64_255, l64_999, le64l, le64r, le64b, le64n, rset_eq, rset_upd, rset_rset, upd_nep, upd_eqp, ix21_4k, ix21_1, ix21_2, ix21_3, ix21_4, ix21_5, ix21_6, ix21_7, ix21_8, ix21_9, ix21_10, ix76_1, ix76_2, ix76_3, ix100_1, ix100_2, ix100_3, Nat.lt_irrefl, zl1, zl2, zl3, implies_true]
      exact ⟨hw, A.1, hR, hcO, fun _ => ⟨fun _ => f29, fun q1 => ⟨fun q2 => absurd ⟨q1, q2⟩ hfo, fun _ => f29⟩⟩, fun q => absurd hv q⟩
  · have h1r : rO A.1.1 A.1.2.1.length s g k = 1 := by unfold rO; rw [if_neg hv]
    have hc : c_ifDelivered s g k n A = (1, 0, A) := by unfold c_ifDelivered; rw [if_neg (fun q => q.1 h1r), h1r]; try rfl
    have f1 := fbad 1 hc (by omega) (by omega)
    simp (disch := omega) only [bX10_ifDelivered_0, sp_X10_isStation, sp_X10_isLoad, sp_X10_isFar, k8, q_ci, q_cl, q_ild, q_lld, q_ald, q_ist, q_ast, q_lst, q_inc, q_b2, q_d2, q_u1, q_l2, q_ld2, q_lsh, q_lcmp, q_i2l, q_l2i, q_dupi, q_dupr, q_dup2, q_popi, q_popr, q_if1, q_if2, q_nn, q_sw, q_swn, q_swc, q_gf, q_gr, q_pf, q_pz, q_pc, q_ia, q_is, q_cs, q_zs, q_la, q_lw, q_aa, q_al, q_gs, q_acp, q_m2, q_m1, q_ir, q_zr, q_lr, q_ar, q_vr, q_cN0, q_cSX0, q_cV0, q_cVX0, q_cN1, q_cSX1, q_cV1, q_cVX1, q_cN2, q_cSX2, q_cV2, q_cVX2, q_cN3, q_cSX3, q_cV3, q_cVX3, q_cN4, q_cSX4, q_cV4, q_cVX4, q_cN5, q_cSX5, q_cV5, q_cVX5, q_cN6, q_cSX6, q_cV6, q_cVX6, q_th, q_sh0, q_sh1, q_sh2, q_sh3, q_sh4, q_toL0, q_toL1, q_gl0, q_gls, q_sl0, q_sls, q_k10, q_k1s, q_lgi, q_lgr, q_lgl, q_lgn, Bool.not_false, and_true, true_and, nz_2, nz_4, nz_5, nz_8, nz_10, nz_12, nz_14, nz_16, nz_40, nz_41, nz_64, nz_100, nz_1000, nz_1024, nz_4096, nz_10000, nz_100000, not_false_eq_true, bI_0, nI_add, pk_mul, nI_lt', nI_le', nI_eq', nI_z, nI_p, nI_e0, nI_l0, nI_le0, nI_clamp, up_eq, up_ne, not_true_eq_false, Classical.not_not, false_implies, true_implies, false_and, and_false, or_true, true_or, Nat.add_zero, pk_m1, m1_0, m1_n, m1_p, Nat.zero_le, forall_const, Nat.zero_add, Nat.reduceAdd, Nat.reduceEqDiff, or_false, false_or, Nat.one_ne_zero, l64_2, l64_3, l64_4, l64_5, l64_7, l64_9, l64_10, l64_11, l64_15, l64_20, l64_30, l64_40, l64_60, l64_99, l64_255, l64_999, le64l, le64r, le64b, le64n, rset_eq, rset_upd, rset_rset, upd_nep, upd_eqp, ix21_4k, ix21_1, ix21_2, ix21_3, ix21_4, ix21_5, ix21_6, ix21_7, ix21_8, ix21_9, ix21_10, ix76_1, ix76_2, ix76_3, ix100_1, ix100_2, ix100_3, Nat.lt_irrefl, zl1, zl2, zl3, implies_true]
    exact ⟨hw, A.1, hR, hcO, fun q => absurd q hv, fun _ => f1⟩
