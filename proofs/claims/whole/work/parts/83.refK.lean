/-! WHAT IS LACKING, WITH A THOUSAND MORE AS WITH THREE HUNDRED -/
theorem gas_run {T : Nat} {n : nT} {s : Nat} (h : WF T n) (hT : T + 60 < 100000) (hs : s < cl (n.1 1)) : ∀ j, j ≤ 60 → cl ((n_run j (n_more n s (nI 300))).1 1) = cl (n.1 1) ∧ n_run j (n_more n s (nI 1000)) = n_more (n_run j (n_more n s (nI 300))) s (nI 700) ∧ ∃ g, (n_run j (n_more n s (nI 300))).1 (24 + 11 * s) = nI g ∧ 300 ≤ g + 5 * j ∧ g < 2 ^ 30 := by
  have h5 : cl (n.1 1) ≤ 5 := h.1.2.2.2.1
  have hWM := WF_more h (s := s) (g := 300) (by omega) (by omega)
  intro j
  induction j with
  | zero =>
    intro _
    obtain ⟨g, hg1, hg⟩ := h.2.1 s hs
    refine ⟨?_, ?_, g + 300, ?_, by omega, by omega⟩
    · show cl (upd _ _ _ 1) = _
      rw [upd_nep (by omega)]
    · show n_more n s (nI 1000) = n_more (n_more n s (nI 300)) s (nI 700)
      rw [more_mf, more_mf, more_mf]
      dsimp only
      rw [mf_mf, nI_add]
    · show upd _ _ _ _ = _
      rw [upd_eqp rfl, hg, nI_add]
  | succ j ih =>
    intro hj
    obtain ⟨i1, i2, g, i3, i4, i5⟩ := ih (by omega)
    have hWj := WF_run hWM j (by omega)
    have hWa := WF_arr hWj (by omega)
    have e1 := n_arr_i hWj (i := 1) (by omega)
    show cl ((n_watch (n_run j (n_more n s (nI 300)))).1 1) = _ ∧ n_watch (n_run j (n_more n s (nI 1000))) = n_more (n_watch (n_run j (n_more n s (nI 300)))) s (nI 700) ∧ ∃ g, (n_watch (n_run j (n_more n s (nI 300)))).1 (24 + 11 * s) = nI g ∧ _
    rw [i2]
    generalize n_run j (n_more n s (nI 300)) = m at *
    obtain ⟨g1, p1, p2, p3⟩ := arr_gas hWj (by omega) (by omega) i3
    obtain ⟨g0, r1, r2⟩ := hWa.2.1 s (by rw [e1]; omega)
    have e01 : g1 = g0 := nI_inj (by omega) (by omega) (p1.symm.trans r2)
    obtain ⟨z, hz1, hz5, hz⟩ := (hWa.1.2.2.2.2.2.2.1 s (by rw [e1]; omega)).2
    refine ⟨?_, ?_, ?_⟩
    · unfold n_watch n_tick
      dsimp only
      rw [upd_nep (by omega), (n_loop_W hWa (by omega) _ (Nat.le_refl _)).2.1, e1, i1]
    · refine watch_mf hWj (by omega) (by omega) ⟨?_, ?_⟩
      · rw [p1, hz]; exact fun q => absurd ((nI_ltI (by omega) (by omega)).mp q) (by omega)
      · rw [p1, hz, nI_add]; exact fun q => absurd ((nI_ltI (by omega) (by omega)).mp q) (by omega)
    · obtain ⟨g2, q1, q2, q3⟩ := watch_gas hWj (by omega) (by omega) p1 (by omega)
      exact ⟨g2, q1, by omega, by omega⟩
theorem min_lk {L z g : Nat} (hL : L < 1000) (hz : z ≤ 5) (hgz : z ≤ g) (hg : g < 2 ^ 30) : (if nI g + nI 700 - nI z < nI (1000 - L) then nI g + nI 700 - nI z else nI (1000 - L)) = nI (1000 - max L (z + 300 - g)) := by
  rw [nI_add, pk_sub (by omega)]
  by_cases h : g + 700 - z < 1000 - L
  · rw [if_pos ((nI_ltI (by omega) (by omega)).mpr h)]
    congr 1; omega
  · rw [if_neg (fun q => h ((nI_ltI (by omega) (by omega)).mp q))]
    congr 1; omega
theorem n_ls_ge {n : nT} {s : Nat} {l : Int32} (hs : s < 5) : ∀ k, k ≤ 5 → n_ls n (nI s) l k = if s < k then n_min n s l else l
  | 0, _ => by rw [if_neg (by omega)]; rfl
  | k + 1, hk => by
    have ih := n_ls_ge (n := n) (l := l) hs k (by omega)
    show (if nI k = nI s then _ else _) = _
    by_cases h : k = s
    · subst h
      rw [if_pos rfl, if_pos (by omega), ih, if_neg (by omega)]
    · rw [if_neg (fun q => h (nI_inj (by omega) (by omega) q)), ih]
      by_cases h2 : s < k
      · rw [if_pos h2, if_pos (by omega)]
      · rw [if_neg h2, if_neg (by omega)]
theorem lr_lack {T : Nat} {n : nT} {s : Nat} (h : WF T n) (hT : T + 60 < 100000) (hs : s < cl (n.1 1)) : ∀ j, j ≤ 60 → n_lack n s 300 j ≤ 305 ∧ n_lr (n_more n s (nI 1000)) (nI s) (nI 1000) j = nI (1000 - n_lack n s 300 j) := by
  have h5 : cl (n.1 1) ≤ 5 := h.1.2.2.2.1
  have hWM := WF_more h (s := s) (g := 300) (by omega) (by omega)
  intro j
  induction j with
  | zero => intro _; exact ⟨Nat.zero_le _, rfl⟩
  | succ j ih =>
    intro hj
    obtain ⟨i1, i2⟩ := ih (by omega)
    obtain ⟨j1, j2, g, j3, j4, j5⟩ := gas_run h hT hs j (by omega)
    have hWj := WF_run hWM j (by omega)
    have hWa := WF_arr hWj (by omega)
    have e1 := n_arr_i hWj (i := 1) (by omega)
    show max _ (n_lk (n_run j (n_more n s (nI 300))) s 300) ≤ 305 ∧ n_ls (n_run j (n_more n s (nI 1000))) (nI s) (n_lr (n_more n s (nI 1000)) (nI s) (nI 1000) j) (cl ((n_run j (n_more n s (nI 1000))).1 1)) = nI (1000 - max _ (n_lk (n_run j (n_more n s (nI 300))) s 300))
    rw [i2, j2]
    generalize n_lack n s 300 j = L at *
    generalize n_run j (n_more n s (nI 300)) = m at *
    have ec : (n_more m s (nI 700)).1 1 = m.1 1 := mf_i (by omega)
    rw [ec, n_ls_ge (by omega) _ (by omega), if_pos (by omega)]
    have hlk := n_lk_le (g := 300) (s := s) hWa (by rw [e1]; omega)
    refine ⟨by omega, ?_⟩
    obtain ⟨g1, p1, p2, p3⟩ := arr_gas hWj (by omega) (by omega) j3
    obtain ⟨g0, r1, r2⟩ := hWa.2.1 s (by rw [e1]; omega)
    have e01 : g1 = g0 := nI_inj (by omega) (by omega) (p1.symm.trans r2)
    obtain ⟨z, hz1, hz5, hz⟩ := (hWa.1.2.2.2.2.2.2.1 s (by rw [e1]; omega)).2
    have n1 : ¬ nI g1 < nI z := fun q => absurd ((nI_ltI (by omega) (by omega)).mp q) (by omega)
    have n2 : ¬ nI g1 + nI 700 < nI z := by rw [nI_add]; exact fun q => absurd ((nI_ltI (by omega) (by omega)).mp q) (by omega)
    unfold n_min n_bey
    rw [arr_mf (fun b q => by have := hWj.2.2.2.1.1 b q; omega)]
    have ed : n_deed (n_more (n_arr m) s (nI 700)).1 s = n_deed (n_arr m).1 s := deed_mf (fun _ => by rw [p1, hz]; exact ⟨n1, n2⟩)
    have e24 : (n_more (n_arr m) s (nI 700)).1 (24 + 11 * s) = (n_arr m).1 (24 + 11 * s) + nI 700 := mf_s
    have e23 : (n_more (n_arr m) s (nI 700)).1 (23 + 11 * s) = (n_arr m).1 (23 + 11 * s) := mf_i (by omega)
    rw [ed, e24, e23, p1, hz, min_lk (by omega) hz5 (by omega) (by omega)]
    unfold n_lk
    rw [p1, hz, cl_nI (by omega), cl_nI (by omega)]
    by_cases hd : n_deed (n_arr m).1 s = 0
    · rw [if_pos hd, if_pos hd, Nat.max_eq_left (by omega)]
    · rw [if_neg hd, if_neg hd]
theorem FD.u12 {σ : ab_H} {k : Nat} {x : Int32} : FD σ (ab_up σ 12 k x) := ⟨fun v _ _ h => up_ne h, fun k _ _ _ _ _ => by rw [up_ne (by decide)]⟩
set_option maxRecDepth 20000 in
set_option maxHeartbeats 4000000 in
theorem cd_X10_lacks {l : Launch} (hl : l.stackTraces = false) {w : ab_W} {σ : ab_H} {Kn : Option Value → ab_H → Prop} {Kx : String → ab_H → Prop} (hI : ab_Inj w) (s : Int32) (n : Int32) (h : sdA w σ (c_lacks s n) Kn) : ab_Met l yX10_lacks (Cond.code yX10_lacks cX10_lacks 3 (some .int)) 6 0 w σ [.ref 8, .int s, .int n] Kn Kx := by
  obtain ⟨hw, A, T, hA, hW, hT, hn⟩ := h
  obtain ⟨k8, k9, l9, ⟨k10, l10⟩, ⟨k11, l11⟩, ⟨k12, l12⟩, k13, l13, k14, l14, k15, l15⟩ := id hw
  have hcO := hW.1.cOK
  have hc51 := hcO.2
  have hR := hA.1
  have hr := hR.1
  have hwR : wR w 11 := ⟨k11, l11⟩
  have z0 : ∀ x, RD (ab_up σ 8 0 x) A := fun x => hA.z x
  have zF : ∀ x, FrB σ (ab_up σ 8 0 x) := fun x => FrB.z x
  have z8 : ∀ x, ab_up σ 8 0 x 8 0 = x := fun x => up_eqp rfl rfl
  refine vc_X10_lacks hl hI (ok_X10_isStation hl) (ok_X10_isFar hl) (ok_X10_refused hl) (ok_X10_tryIt hl) (ok_X10_stationAt hl) (ok_X10_runIn hl) (Nat.le_of_ble_eq_true rfl) (fun M h0 h25 h102 => h0 [.ref 8, .int s, .int n] [] σ ?_)
  have fbad : ∀ e, c_lacks s n A = (e, 0, A) → 0 < e → e ≤ 2 → M 25 [.ref 8, .int s, .int n] [.int (nI e), .ref 8] σ := by
    intro e hc h0' h3
    rw [hc] at hn
    have hn := hn _ (nI 0) (z0 (nI e)) (zF _) (z8 _) (fun q => absurd (show e = 0 from q) (by omega))
    refine h25 _ _ _ ?_
    simp (disch := omega) only [bX10_lacks_25, sp_X10_refused, k8, q_ci, q_cl, q_ild, q_lld, q_ald, q_ist, q_ast, q_lst, q_inc, q_b2, q_d2, q_u1, q_l2, q_ld2, q_lsh, q_lcmp, q_i2l, q_l2i, q_dupi, q_dupr, q_dup2, q_popi, q_popr, q_if1, q_if2, q_nn, q_sw, q_swn, q_swc, q_gf, q_gr, q_pf, q_pz, q_pc, q_ia, q_is, q_cs, q_zs, q_la, q_lw, q_aa, q_al, q_gs, q_acp, q_m2, q_m1, q_ir, q_zr, q_lr, q_ar, q_vr, q_cN0, q_cSX0, q_cV0, q_cVX0, q_cN1, q_cSX1, q_cV1, q_cVX1, q_cN2, q_cSX2, q_cV2, q_cVX2, q_cN3, q_cSX3, q_cV3, q_cVX3, q_cN4, q_cSX4, q_cV4, q_cVX4, q_cN5, q_cSX5, q_cV5, q_cVX5, q_cN6, q_cSX6, q_cV6, q_cVX6, q_th, q_sh0, q_sh1, q_sh2, q_sh3, q_sh4, q_toL0, q_toL1, q_gl0, q_gls, q_sl0, q_sls, q_k10, q_k1s, q_lgi, q_lgr, q_lgl, q_lgn, Bool.not_false, and_true, true_and, nz_2, nz_4, nz_5, nz_8, nz_10, nz_12, nz_14, nz_16, nz_40, nz_41, nz_64, nz_100, nz_1000, nz_1024, nz_4096, nz_10000, nz_100000, not_false_eq_true, bI_0, nI_add, pk_mul, nI_lt', nI_le', nI_eq', nI_z, nI_p, nI_e0, nI_l0, nI_le0, nI_clamp, up_eq, up_ne, not_true_eq_false, Classical.not_not, false_implies, true_implies, false_and, and_false, or_true, true_or, Nat.add_zero, pk_m1, m1_0, m1_n, m1_p, Nat.zero_le, forall_const, Nat.zero_add, Nat.reduceAdd, Nat.reduceEqDiff, or_false, false_or, Nat.one_ne_zero, l64_2, l64_3, l64_4, l64_5, l64_7, l64_9, l64_10, l64_11, l64_15, l64_20, l64_30, l64_40, l64_60, l64_99, l64_255, l64_999, le64l, le64r, le64b, le64n, rset_eq, rset_upd, rset_rset, upd_nep, upd_eqp, ix21_4k, ix21_1, ix21_2, ix21_3, ix21_4, ix21_5, ix21_6, ix21_7, ix21_8, ix21_9, ix21_10, ix76_1, ix76_2, ix76_3, ix100_1, ix100_2, ix100_3, Nat.lt_irrefl, zl1, zl2, zl3, implies_true]
    first | exact hn | exact ⟨fun q => absurd h0' q, fun _ => hn⟩
  by_cases hv : vS A.1.1 s
  · obtain ⟨k, hk, hs⟩ : ∃ k, k < cl (A.1.1 1) ∧ s = nI k := ⟨cl s, (ab_ixs hcO hv).2, (ab_ixs hcO hv).1⟩
    subst hs
    have h5 := hcO.2
    by_cases hb : bt2 (nI 1) n (nI 60)
    · obtain ⟨c, hc1, hc6, rfl⟩ := ab_lo (a := 1) (b := 60) (by omega) (by omega) hb.1 hb.2
      have hc : c_lacks (nI k) (nI c) A = (0, nI (n_lack A.1 k 300 c), A) := by unfold c_lacks; rw [if_pos hv, if_pos hb, cl_nI (by omega), cl_nI (by omega)]
      have hK := fd_k hA hn hc
      clear hc
      have hWM := WF_more hW.1 (s := k) (g := 1000) (by omega) (by omega)
      obtain ⟨hL, hlr⟩ := lr_lack hW.1 (by omega) hk c hc6
      generalize n_lack A.1 k 300 c = L at *
      have f102 : ∀ v l τ, Kn (some (.int v)) τ → M 102 l [.int v] τ := fun v l τ q => h102 _ _ _ (by simp (disch := omega) only [bX10_lacks_102, q_ci, q_cl, q_ild, q_lld, q_ald, q_ist, q_ast, q_lst, q_inc, q_b2, q_d2, q_u1, q_l2, q_ld2, q_lsh, q_lcmp, q_i2l, q_l2i, q_dupi, q_dupr, q_dup2, q_popi, q_popr, q_if1, q_if2, q_nn, q_sw, q_swn, q_swc, q_gf, q_gr, q_pf, q_pz, q_pc, q_ia, q_is, q_cs, q_zs, q_la, q_lw, q_aa, q_al, q_gs, q_acp, q_m2, q_m1, q_ir, q_zr, q_lr, q_ar, q_vr, q_cN0, q_cSX0, q_cV0, q_cVX0, q_cN1, q_cSX1, q_cV1, q_cVX1, q_cN2, q_cSX2, q_cV2, q_cVX2, q_cN3, q_cSX3, q_cV3, q_cVX3, q_cN4, q_cSX4, q_cV4, q_cVX4, q_cN5, q_cSX5, q_cV5, q_cVX5, q_cN6, q_cSX6, q_cV6, q_cVX6, q_th, q_sh0, q_sh1, q_sh2, q_sh3, q_sh4, q_toL0, q_toL1, q_gl0, q_gls, q_sl0, q_sls, q_k10, q_k1s, q_lgi, q_lgr, q_lgl, q_lgn, Bool.not_false, and_true, true_and, nz_2, nz_4, nz_5, nz_8, nz_10, nz_12, nz_14, nz_16, nz_40, nz_41, nz_64, nz_100, nz_1000, nz_1024, nz_4096, nz_10000, nz_100000, not_false_eq_true, bI_0, nI_add, pk_mul, nI_lt', nI_le', nI_eq', nI_z, nI_p, nI_e0, nI_l0, nI_le0, nI_clamp, up_eq, up_ne, not_true_eq_false, Classical.not_not, false_implies, true_implies, false_and, and_false, or_true, true_or, Nat.add_zero, pk_m1, m1_0, m1_n, m1_p, Nat.zero_le, forall_const, Nat.zero_add, Nat.reduceAdd, Nat.reduceEqDiff, or_false, false_or, Nat.one_ne_zero, l64_2, l64_3, l64_4, l64_5, l64_7, l64_9, l64_10, l64_11, l64_15, l64_20, l64_30, l64_40, l64_60, l64_99, l64_255, l64_999, le64l, le64r, le64b, le64n, rset_eq, rset_upd, rset_rset, upd_nep, upd_eqp, ix21_4k, ix21_1, ix21_2, ix21_3, ix21_4, ix21_5, ix21_6, ix21_7, ix21_8, ix21_9, ix21_10, ix76_1, ix76_2, ix76_3, ix100_1, ix100_2, ix100_3, Nat.lt_irrefl, zl1, zl2, zl3, implies_true]; exact q)
      have v4 : vp_in (nI (24 + 11 * k)) 304 := vp_in_nI (by omega) (by omega)
      have f25 : M 25 [.ref 8, .int (nI k), .int (nI c)] [.int (nI 0), .ref 8] σ := by
        refine h25 _ _ _ ?_
        simp (disch := omega) only [bX10_lacks_25, sp_X10_refused, sp_X10_tryIt, sp_X10_runIn, sp_X10_stationAt, k8, k12, l12, q_ci, q_cl, q_ild, q_lld, q_ald, q_ist, q_ast, q_lst, q_inc, q_b2, q_d2, q_u1, q_l2, q_ld2, q_lsh, q_lcmp, q_i2l, q_l2i, q_dupi, q_dupr, q_dup2, q_popi, q_popr, q_if1, q_if2, q_nn, q_sw, q_swn, q_swc, q_gf, q_gr, q_pf, q_pz, q_pc, q_ia, q_is, q_cs, q_zs, q_la, q_lw, q_aa, q_al, q_gs, q_acp, q_m2, q_m1, q_ir, q_zr, q_lr, q_ar, q_vr, q_cN0, q_cSX0, q_cV0, q_cVX0, q_cN1, q_cSX1, q_cV1, q_cVX1, q_cN2, q_cSX2, q_cV2, q_cVX2, q_cN3, q_cSX3, q_cV3, q_cVX3, q_cN4, q_cSX4, q_cV4, q_cVX4, q_cN5, q_cSX5, q_cV5, q_cVX5, q_cN6, q_cSX6, q_cV6, q_cVX6, q_th, q_sh0, q_sh1, q_sh2, q_sh3, q_sh4, q_toL0, q_toL1, q_gl0, q_gls, q_sl0, q_sls, q_k10, q_k1s, q_lgi, q_lgr, q_lgl, q_lgn, Bool.not_false, and_true, true_and, nz_2, nz_4, nz_5, nz_8, nz_10, nz_12, nz_14, nz_16, nz_40, nz_41, nz_64, nz_100, nz_1000, nz_1024, nz_4096, nz_10000, nz_100000, not_false_eq_true, bI_0, nI_add, pk_mul, nI_lt', nI_le', nI_eq', nI_z, nI_p, nI_e0, nI_l0, nI_le0, nI_clamp, up_eq, up_ne, not_true_eq_false, Classical.not_not, false_implies, true_implies, false_and, and_false, or_true, true_or, Nat.add_zero, pk_m1, m1_0, m1_n, m1_p, Nat.zero_le, forall_const, Nat.zero_add, Nat.reduceAdd, Nat.reduceEqDiff, or_false, false_or, Nat.one_ne_zero, l64_2, l64_3, l64_4, l64_5, l64_7, l64_9, l64_10, l64_11, l64_15, l64_20, l64_30, l64_40, l64_60, l64_99, l64_255, l64_999, le64l, le64r, le64b, le64n, rset_eq, rset_upd, rset_rset, upd_nep, upd_eqp, ix21_4k, ix21_1, ix21_2, ix21_3, ix21_4, ix21_5, ix21_6, ix21_7, ix21_8, ix21_9, ix21_10, ix76_1, ix76_2, ix76_3, ix100_1, ix100_2, ix100_3, Nat.lt_irrefl, zl1, zl2, zl3, implies_true]
        refine ⟨hw, fun σ1 a1 a2 a3 => ?_⟩
        have hR1 := a1 A.1 T hW.1 (by omega) hR
        have e24 : σ1 12 (24 + 11 * k) = A.1.1 (24 + 11 * k) := hR1.1 _ (by omega) (by omega) (by omega) (by omega)
        simp (disch := omega) only [if_true, if_false, rset_ne, up_ne, up_nep, up_eqp]
        have hRM : RM (ab_up (ab_up (ab_up σ1 8 13 (nI k)) 8 14 (nI 1000)) 12 (24 + 11 * k) (σ1 12 (24 + 11 * k) + nI 1000) 12) (n_more A.1 k (nI 1000)) := by
          rw [rset_up, rset_eq, e24, up_ne (by decide), up_ne (by decide)]
          exact hR1.up _ (by omega) (by omega) (by omega) (by omega)
        have hF : ∀ l r', FD (ab_up σ 8 0 (nI 0)) (ab_up (rset (ab_up (ab_up (ab_up (ab_up σ1 8 13 (nI k)) 8 14 (nI 1000)) 12 (24 + 11 * k) (σ1 12 (24 + 11 * k) + nI 1000)) 8 14 l) 12 r') 8 13 (-1)) := fun l r' => a2.trans (FD.u13.trans (FD.u14.trans (FD.u12.trans (FD.u14.trans (FD.r12.trans FD.u13)))))
        refine ⟨v4, v4, ⟨k12, l12⟩, by decide, _, T + 1, c, hRM, hWM, rfl, by omega, by omega, fun r' hr' => ?_⟩
        rw [hlr]
        by_cases h0' : L = 0
        · subst h0'
          exact ⟨fun _ => f102 _ _ _ (hK _ _ (hF _ _) rfl), fun q => absurd (by first | exact Nat.le_refl _ | exact Int32.le_refl _) q⟩
        · refine ⟨fun q => absurd ((nI_leI (by omega) (by omega)).mp q) (by omega), fun _ => f102 _ _ _ (hK _ _ (hF _ _) ?_)⟩
          rw [pk_sub (by omega)]
          congr 1; omega
      simp (disch := omega) only [bX10_lacks_0, sp_X10_isStation, sp_X10_isFar, k8, q_ci, q_cl, q_ild, q_lld, q_ald, q_ist, q_ast, q_lst, q_inc, q_b2, q_d2, q_u1, q_l2, q_ld2, q_lsh, q_lcmp, q_i2l, q_l2i, q_dupi, q_dupr, q_dup2, q_popi, q_popr, q_if1, q_if2, q_nn, q_sw, q_swn, q_swc, q_gf, q_gr, q_pf, q_pz, q_pc, q_ia, q_is, q_cs, q_zs, q_la, q_lw, q_aa, q_al, q_gs, q_acp, q_m2, q_m1, q_ir, q_zr, q_lr, q_ar, q_vr, q_cN0, q_cSX0, q_cV0, q_cVX0, q_cN1, q_cSX1, q_cV1, q_cVX1, q_cN2, q_cSX2, q_cV2, q_cVX2, q_cN3, q_cSX3, q_cV3, q_cVX3, q_cN4, q_cSX4, q_cV4, q_cVX4, q_cN5, q_cSX5, q_cV5, q_cVX5, q_cN6, q_cSX6, q_cV6, q_cVX6, q_th, q_sh0, q_sh1, q_sh2, q_sh3, q_sh4, q_toL0, q_toL1, q_gl0, q_gls, q_sl0, q_sls, q_k10, q_k1s, q_lgi, q_lgr, q_lgl, q_lgn, Bool.not_false, and_true, true_and, nz_2, nz_4, nz_5, nz_8, nz_10, nz_12, nz_14, nz_16, nz_40, nz_41, nz_64, nz_100, nz_1000, nz_1024, nz_4096, nz_10000, nz_100000, not_false_eq_true, bI_0, nI_add, pk_mul, nI_lt', nI_le', nI_eq', nI_z, nI_p, nI_e0, nI_l0, nI_le0, nI_clamp, up_eq, up_ne, not_true_eq_false, Classical.not_not, false_implies, true_implies, false_and, and_false, or_true, true_or, Nat.add_zero, pk_m1, m1_0, m1_n, m1_p, Nat.zero_le, forall_const, Nat.zero_add, Nat.reduceAdd, Nat.reduceEqDiff, or_false, false_or, Nat.one_ne_zero, l64_2, l64_3, l64_4, l64_5, l64_7, l64_9, l64_10, l64_11, l64_15, l64_20, l64_30, l64_40, l64_60, l64_99, l64_255, l64_999, le64l, le64r, le64b, le64n, rset_eq, rset_upd, rset_rset, upd_nep, upd_eqp, ix21_4k, ix21_1, ix21_2, ix21_3, ix21_4, ix21_5, ix21_6, ix21_7, ix21_8, ix21_9, ix21_10, ix76_1, ix76_2, ix76_3, ix100_1, ix100_2, ix100_3, Nat.lt_irrefl, zl1, zl2, zl3, implies_true]
      exact ⟨hw, A.1, hR, hcO, fun _ => ⟨fun q => absurd hb q, fun _ => f25⟩, fun q => absurd hv q⟩
    · have hc : c_lacks (nI k) n A = (2, 0, A) := by unfold c_lacks; rw [if_pos hv, if_neg hb]
      have f2 := fbad 2 hc (by omega) (by omega)
      simp (disch := omega) only [bX10_lacks_0, sp_X10_isStation, sp_X10_isFar, k8, q_ci, q_cl, q_ild, q_lld, q_ald, q_ist, q_ast, q_lst, q_inc, q_b2, q_d2, q_u1, q_l2, q_ld2, q_lsh, q_lcmp, q_i2l, q_l2i, q_dupi, q_dupr, q_dup2, q_popi, q_popr, q_if1, q_if2, q_nn, q_sw, q_swn, q_swc, q_gf, q_gr, q_pf, q_pz, q_pc, q_ia, q_is, q_cs, q_zs, q_la, q_lw, q_aa, q_al, q_gs, q_acp, q_m2, q_m1, q_ir, q_zr, q_lr, q_ar, q_vr, q_cN0, q_cSX0, q_cV0, q_cVX0, q_cN1, q_cSX1, q_cV1, q_cVX1, q_cN2, q_cSX2, q_cV2, q_cVX2, q_cN3, q_cSX3, q_cV3, q_cVX3, q_cN4, q_cSX4, q_cV4, q_cVX4, q_cN5, q_cSX5, q_cV5, q_cVX5, q_cN6, q_cSX6, q_cV6, q_cVX6, q_th, q_sh0, q_sh1, q_sh2, q_sh3, q_sh4, q_toL0, q_toL1, q_gl0, q_gls, q_sl0, q_sls, q_k10, q_k1s, q_lgi, q_lgr, q_lgl, q_lgn, Bool.not_false, and_true, true_and, nz_2, nz_4, nz_5, nz_8, nz_10, nz_12, nz_14, nz_16, nz_40, nz_41, nz_64, nz_100, nz_1000, nz_1024, nz_4096, nz_10000, nz_100000, not_false_eq_true, bI_0, nI_add, pk_mul, nI_lt', nI_le', nI_eq', nI_z, nI_p, nI_e0, nI_l0, nI_le0, nI_clamp, up_eq, up_ne, not_true_eq_false, Classical.not_not, false_implies, true_implies, false_and, and_false, or_true, true_or, Nat.add_zero, pk_m1, m1_0, m1_n, m1_p, Nat.zero_le, forall_const, Nat.zero_add, Nat.reduceAdd, Nat.reduceEqDiff, or_false, false_or, Nat.one_ne_zero, l64_2, l64_3, l64_4, l64_5, l64_7, l64_9, l64_10, l64_11, l64_15, l64_20, l64_30, l64_40, l64_60, l64_99, l64_255, l64_999, le64l, le64r, le64b, le64n, rset_eq, rset_upd, rset_rset, upd_nep, upd_eqp, ix21_4k, ix21_1, ix21_2, ix21_3, ix21_4, ix21_5, ix21_6, ix21_7, ix21_8, ix21_9, ix21_10, ix76_1, ix76_2, ix76_3, ix100_1, ix100_2, ix100_3, Nat.lt_irrefl, zl1, zl2, zl3, implies_true]
      exact ⟨hw, A.1, hR, hcO, fun _ => ⟨fun _ => f2, fun q => absurd q hb⟩, fun q => absurd hv q⟩
  · have hc : c_lacks s n A = (1, 0, A) := if_neg hv
    have f1 := fbad 1 hc (by omega) (by omega)
    simp (disch := omega) only [bX10_lacks_0, sp_X10_isStation, sp_X10_isFar, k8, q_ci, q_cl, q_ild, q_lld, q_ald, q_ist, q_ast, q_lst, q_inc, q_b2, q_d2, q_u1, q_l2, q_ld2, q_lsh, q_lcmp, q_i2l, q_l2i, q_dupi, q_dupr, q_dup2, q_popi, q_popr, q_if1, q_if2, q_nn, q_sw, q_swn, q_swc, q_gf, q_gr, q_pf, q_pz, q_pc, q_ia, q_is, q_cs, q_zs, q_la, q_lw, q_aa, q_al, q_gs, q_acp, q_m2, q_m1, q_ir, q_zr, q_lr, q_ar, q_vr, q_cN0, q_cSX0, q_cV0, q_cVX0, q_cN1, q_cSX1, q_cV1, q_cVX1, q_cN2, q_cSX2, q_cV2, q_cVX2, q_cN3, q_cSX3, q_cV3, q_cVX3, q_cN4, q_cSX4, q_cV4, q_cVX4, q_cN5, q_cSX5, q_cV5, q_cVX5, q_cN6, q_cSX6, q_cV6, q_cVX6, q_th, q_sh0, q_sh1, q_sh2, q_sh3, q_sh4, q_toL0, q_toL1, q_gl0, q_gls, q_sl0, q_sls, q_k10, q_k1s, q_lgi, q_lgr, q_lgl, q_lgn, Bool.not_false, and_true, true_and, nz_2, nz_4, nz_5, nz_8, nz_10, nz_12, nz_14, nz_16, nz_40, nz_41, nz_64, nz_100, nz_1000, nz_1024, nz_4096, nz_10000, nz_100000, not_false_eq_true, bI_0, nI_add, pk_mul, nI_lt', nI_le', nI_eq', nI_z, nI_p, nI_e0, nI_l0, nI_le0, nI_clamp, up_eq, up_ne, not_true_eq_false, Classical.not_not, false_implies, true_implies, false_and, and_false, or_true, true_or, Nat.add_zero, pk_m1, m1_0, m1_n, m1_p, Nat.zero_le, forall_const, Nat.zero_add, Nat.reduceAdd, Nat.reduceEqDiff, or_false, false_or, Nat.one_ne_zero, l64_2, l64_3, l64_4, l64_5, l64_7, l64_9, l64_10, l64_11, l64_15, l64_20, l64_30, l64_40, l64_60, l64_99, l64_255, l64_999, le64l, le64r, le64b, le64n, rset_eq, rset_upd, rset_rset, upd_nep, upd_eqp, ix21_4k, ix21_1, ix21_2, ix21_3, ix21_4, ix21_5, ix21_6, ix21_7, ix21_8, ix21_9, ix21_10, ix76_1, ix76_2, ix76_3, ix100_1, ix100_2, ix100_3, Nat.lt_irrefl, zl1, zl2, zl3, implies_true]
    exact ⟨hw, A.1, hR, hcO, fun q => absurd q hv, fun _ => f1⟩
