theorem p_n_ge {t : Nat → Nat} {m i d lo hi : Nat} : i ≤ (p_n t m i d lo hi).1 := by
  unfold p_n; split
  · unfold p_n1; split <;> dsimp only <;> omega
  · unfold p_n2; split
    · dsimp only; omega
    · split <;> dsimp only <;> omega
theorem p_pm_ge {t : Nat → Nat} {m i : Nat} : i ≤ (p_pm t m i).1 := by
  unfold p_pm; split
  · dsimp only; omega
  · split <;> dsimp only <;> omega
theorem pb_ge {α β : Type} {x : tP α} {f : α → Nat → tP β} {i : Nat} (h : i ≤ x.1) (g : ∀ a j, i ≤ j → i ≤ (f a j).1) : i ≤ (pb x f).1 := by
  unfold pb; split
  · exact h
  · exact g _ _ h
theorem p_cmd_gt {t : Nat → Nat} {m i : Nat} {c : tC} (h : (p_cmd t m i).2 = some c) : i < (p_cmd t m i).1 := by
  have ge := fun {i d lo hi j : Nat} (q : j ≤ i) => Nat.le_trans q (@p_n_ge t m i d lo hi)
  unfold p_cmd at h ⊢
  split at h
  · next q => rw [if_pos q]; exact pb_ge p_n_ge fun _ _ q => pb_ge (ge q) fun _ _ q => pb_ge (ge q) fun _ _ q => pb_ge (ge q) fun _ _ q => pb_ge (ge q) fun _ _ q => q
  next q =>
  rw [if_neg q]
  split at h
  · next q => rw [if_pos q]; exact pb_ge p_n_ge fun _ _ q => pb_ge (ge q) fun _ _ q => pb_ge (ge q) fun _ _ q => q
  next q =>
  rw [if_neg q]
  split at h
  · next q => rw [if_pos q]; exact pb_ge p_n_ge fun _ _ q => pb_ge (Nat.le_trans q p_pm_ge) fun _ _ q => pb_ge (ge q) fun _ _ q => q
  next q =>
  rw [if_neg q]
  split at h
  · next q => rw [if_pos q]; exact pb_ge p_n_ge fun _ _ q => pb_ge (ge q) fun _ _ q => pb_ge (ge q) fun _ _ q => q
  next q =>
  rw [if_neg q]
  split at h
  · next q => rw [if_pos q]; exact pb_ge p_n_ge fun _ _ q => q
  · cases h
theorem r810' {σ : ab_H} {A B : nF} {r : nF} : rset (rset (rset σ 8 A) 10 r) 8 B = rset (rset σ 8 B) 10 r := by
  funext v; unfold rset
  by_cases h : v = 10
  · simp [h]
  · by_cases h8 : v = 8
    · simp [h8]
    · simp [h, h8]
theorem r810 {σ : ab_H} {A B : nF} {r r' : nF} : rset (rset (rset (rset σ 8 A) 10 r) 8 B) 10 r' = rset (rset σ 8 B) 10 r' := by
  funext v; unfold rset
  by_cases h : v = 10
  · simp [h]
  · by_cases h8 : v = 8
    · simp [h8]
    · simp [h, h8]
def sp_X10_readCommand : ab_S := fun w As σ K => match As with
  | [.ref a] => a = 8 ∧ wD w ∧ ∃ t m h i q n T, dT σ t m ∧ h 2 = nI m ∧ h 5 = nI q ∧ σ 8 = hX h true i ∧ i < m ∧ RM (σ 10) n ∧ WF T n ∧ T + 20 < 100000 ∧ rdK σ h q n (p_cmd t m i) K
  | _ => False
def sp_X10_readText : ab_S := fun w As σ K => match As with
  | [.ref a] => a = 8 ∧ wD w ∧ ∃ t m, dT σ t m ∧ σ 8 2 = nI m ∧ ∀ h' r', (∀ k, k ≠ 3 → k ≠ 4 → k ≠ 5 → k ≠ 13 → k ≠ 14 → h' k = σ 8 k) →
     (∀ i, p_text t m = some i → K (some (.int (nI i))) (rset (rset σ 8 h') 10 r')) ∧ (p_text t m = none → h' 5 = nI (x_all t m 120 1 n_new 0).2 → RM r' (x_all t m 120 1 n_new 0).1 → K (some (.int (-1))) (rset (rset σ 8 h') 10 r'))
  | _ => False
set_option maxRecDepth 20000 in
set_option maxHeartbeats 4000000 in
theorem ok_X10_readCommand {l : Launch} (hl : l.stackTraces = false) : ab_OkN l yX10_readCommand (Cond.code yX10_readCommand cX10_readCommand 2 none) 7 sp_X10_readCommand := by
  intro w σ As Kn hI h
  unfold sp_X10_readCommand at h
  split at h
  rotate_left 1
  · exact h.elim
  next a =>
    obtain ⟨rfl, hw, t, m, h', i, q, n, T, hT, h2, h5, h8, him, hR, hW, hTT, hK⟩ := h
    obtain ⟨k8, k9, l9, ⟨k10, l10⟩, -⟩ := id hw
    refine vc_X10_readCommand hl hI (ok_X10_accept hl) (ok_X10_readRun hl) (ok_X10_readDelivery hl) (ok_X10_readWind hl) (ok_X10_readFinder hl) (ok_X10_readStation hl) (Nat.le_of_ble_eq_true rfl) (fun M h0 h41 h46 h113 => ?_)
    suffices HS : M 0 [.ref 8, .null] [] (rset σ 8 (σ 8)) from (by rw [rset_self] at HS; exact HS)
    refine h0 _ _ _ ?_
    rw [h8]
    have hm := hT.1
    obtain ⟨e9, et⟩ := hT.2 i him
    have e9' : rset σ 8 (hX h' true i) 9 i = nI (t i) := by rw [rset_ne (by decide)]; exact e9
    have vi : vp_in (nI i) 120 := vp_in_nI (by omega) (by omega)
    have e3 : hX h' true i 3 = nI i := hX_3
    have hR' : ∀ X, RM (rset σ 8 X 10) n := fun X => by rw [rset_ne (by decide)]; exact hR
    have f113 : ∀ L τ, Kn none τ → M 113 L [] τ := fun L τ q => h113 _ _ _ (by simp (disch := omega) only [bX10_readCommand_113, q_ci, q_cl, q_ild, q_lld, q_ald, q_ist, q_ast, q_lst, q_inc, q_b2, q_d2, q_u1, q_l2, q_ld2, q_lsh, q_lcmp, q_i2l, q_l2i, q_dupi, q_dupr, q_dup2, q_popi, q_popr, q_if1, q_if2, q_nn, q_sw, q_swn, q_swc, q_gf, q_gr, q_pf, q_pz, q_pc, q_ia, q_is, q_cs, q_zs, q_la, q_lw, q_aa, q_al, q_gs, q_acp, q_m2, q_m1, q_ir, q_zr, q_lr, q_ar, q_vr, q_cN0, q_cSX0, q_cV0, q_cVX0, q_cN1, q_cSX1, q_cV1, q_cVX1, q_cN2, q_cSX2, q_cV2, q_cVX2, q_cN3, q_cSX3, q_cV3, q_cVX3, q_cN4, q_cSX4, q_cV4, q_cVX4, q_cN5, q_cSX5, q_cV5, q_cVX5, q_cN6, q_cSX6, q_cV6, q_cVX6, q_th, q_sh0, q_sh1, q_sh2, q_sh3, q_sh4, q_toL0, q_toL1, q_gl0, q_gls, q_sl0, q_sls, q_k10, q_k1s, q_lgi, q_lgr, q_lgl, q_lgn, Bool.not_false, and_true, true_and, nz_2, nz_4, nz_5, nz_8, nz_10, nz_12, nz_14, nz_16, nz_40, nz_41, nz_64, nz_100, nz_1000, nz_1024, nz_4096, nz_10000, nz_100000, not_false_eq_true, bI_0, nI_add, pk_mul, nI_lt', nI_le', nI_eq', nI_z, nI_p, nI_e0, nI_l0, nI_le0, nI_clamp, up_eq, up_ne, not_true_eq_false, Classical.not_not, false_implies, true_implies, false_and, and_false, or_true, true_or, Nat.add_zero, pk_m1, m1_0, m1_n, m1_p, Nat.zero_le, forall_const, Nat.zero_add, Nat.reduceAdd, Nat.reduceEqDiff, or_false, false_or, Nat.one_ne_zero, l64_2, l64_3, l64_4, l64_5, l64_7, l64_9, l64_10, l64_11, l64_15, l64_20, l64_30, l64_40, l64_60, l64_99, l64_255, l64_999, le64l, le64r, le64b, le64n, rset_eq, rset_upd, rset_rset, upd_nep, upd_eqp, ix21_4k, ix21_1, ix21_2, ix21_3, ix21_4, ix21_5, ix21_6, ix21_7, ix21_8, ix21_9, ix21_10, ix76_1, ix76_2, ix76_3, ix100_1, ix100_2, ix100_3]; exact q)
    have H46 : ∀ p, p = decide (t i = 115 ∨ t i = 102 ∨ t i = 119 ∨ t i = 100 ∨ t i = 114) → M 46 [.ref 8, .int (nI (t i))] [.int (zb p), .ref 8] (rset σ 8 (hX h' true i)) := by
      intro p hp
      have hrd : ∀ X : (Nat → Nat) → Nat → Nat → tP tC, rdK σ h' q n (X t m (i + 1)) Kn → rdK (rset σ 8 (hX h' true (i + 1))) h' q n (X t m (i + 1)) (fun v σ2 => M 113 [.ref 8, .int (nI (t i))] (v.toList ++ []) σ2) := by
        intro X hX1 h2' r' hk
        have := hX1 h2' r' hk
        simp only [rset_rset]
        exact ⟨fun c c1 c2 c3 => f113 _ _ (this.1 c c1 c2 c3), fun c1 => f113 _ _ (this.2 c1)⟩
      by_cases hl : t i = 115 ∨ t i = 102 ∨ t i = 119 ∨ t i = 100 ∨ t i = 114
      · have hp1 : p = true := by rw [hp, decide_eq_true hl]
        subst hp1
        refine h46 _ _ _ ?_
        have e4 : hX h' (true && true) (if (true && true) = true then i + 1 else i) 4 = 1 := hX_4
        unfold p_cmd at hK
        rcases hl with hl | hl | hl | hl | hl
        all_goals
          rw [hl] at hK hrd ⊢
          simp only [reduceIte, Nat.reduceEqDiff] at hK
          simp (disch := omega) only [bX10_readCommand_46, sp_X10_accept, sp_X10_readStation, sp_X10_readFinder, sp_X10_readWind, sp_X10_readDelivery, sp_X10_readRun, k8, q_ci, q_cl, q_ild, q_lld, q_ald, q_ist, q_ast, q_lst, q_inc, q_b2, q_d2, q_u1, q_l2, q_ld2, q_lsh, q_lcmp, q_i2l, q_l2i, q_dupi, q_dupr, q_dup2, q_popi, q_popr, q_if1, q_if2, q_nn, q_sw, q_swn, q_swc, q_gf, q_gr, q_pf, q_pz, q_pc, q_ia, q_is, q_cs, q_zs, q_la, q_lw, q_aa, q_al, q_gs, q_acp, q_m2, q_m1, q_ir, q_zr, q_lr, q_ar, q_vr, q_cN0, q_cSX0, q_cV0, q_cVX0, q_cN1, q_cSX1, q_cV1, q_cVX1, q_cN2, q_cSX2, q_cV2, q_cVX2, q_cN3, q_cSX3, q_cV3, q_cVX3, q_cN4, q_cSX4, q_cV4, q_cVX4, q_cN5, q_cSX5, q_cV5, q_cVX5, q_cN6, q_cSX6, q_cV6, q_cVX6, q_th, q_sh0, q_sh1, q_sh2, q_sh3, q_sh4, q_toL0, q_toL1, q_gl0, q_gls, q_sl0, q_sls, q_k10, q_k1s, q_lgi, q_lgr, q_lgl, q_lgn, Bool.not_false, and_true, true_and, nz_2, nz_4, nz_5, nz_8, nz_10, nz_12, nz_14, nz_16, nz_40, nz_41, nz_64, nz_100, nz_1000, nz_1024, nz_4096, nz_10000, nz_100000, not_false_eq_true, bI_0, nI_add, pk_mul, nI_lt', nI_le', nI_eq', nI_z, nI_p, nI_e0, nI_l0, nI_le0, nI_clamp, up_eq, up_ne, not_true_eq_false, Classical.not_not, false_implies, true_implies, false_and, and_false, or_true, true_or, Nat.add_zero, pk_m1, m1_0, m1_n, m1_p, Nat.zero_le, forall_const, Nat.zero_add, Nat.reduceAdd, Nat.reduceEqDiff, or_false, false_or, Nat.one_ne_zero, l64_2, l64_3, l64_4, l64_5, l64_7, l64_9, l64_10, l64_11, l64_15, l64_20, l64_30, l64_40, l64_60, l64_99, l64_255, l64_999, le64l, le64r, le64b, le64n, rset_eq, rset_upd, rset_rset, upd_nep, upd_eqp, ix21_4k, ix21_1, ix21_2, ix21_3, ix21_4, ix21_5, ix21_6, ix21_7, ix21_8, ix21_9, ix21_10, ix76_1, ix76_2, ix76_3, ix100_1, ix100_2, ix100_3]
          refine ⟨hw, h', true, i, true, rfl, rfl, ?_⟩
          rw [e4]
          refine ⟨fun _ => ?_, fun q => absurd q (by decide +kernel)⟩
          try simp only [not_true_eq_false, not_false_eq_true, false_implies, true_implies, Nat.reduceEqDiff, and_true, true_and]
        · exact ⟨rfl, hw, t, m, h', i + 1, q, n, T, hT.r, h2, h5, rfl, by omega, hR' _, hW, hTT, hrd _ hK⟩
        · exact ⟨rfl, hw, t, m, h', i + 1, q, n, T, hT.r, h2, h5, rfl, by omega, hR' _, hW, hTT, hrd _ hK⟩
        · exact ⟨rfl, hw, t, m, h', i + 1, q, n, T, hT.r, h2, h5, rfl, by omega, hR' _, hW, hTT, hrd _ hK⟩
        · exact ⟨rfl, hw, t, m, h', i + 1, q, n, T, hT.r, h2, h5, rfl, by omega, hR' _, hW, hTT, hrd _ hK⟩
        · exact ⟨rfl, hw, t, m, h', i + 1, q, n, T, hT.r, h2, h5, rfl, by omega, hR' _, hW, hTT, hrd _ hK⟩
      · have hp1 : p = false := by rw [hp, decide_eq_false hl]
        subst hp1
        have ep : p_cmd t m i = (i, none) := by
          unfold p_cmd; rw [if_neg (fun q => hl (by omega)), if_neg (fun q => hl (by omega)), if_neg (fun q => hl (by omega)), if_neg (fun q => hl (by omega)), if_neg (fun q => hl (by omega))]
        rw [ep] at hK
        refine h46 _ _ _ ?_
        have e4 : hX h' (true && false) (if (true && false) = true then i + 1 else i) 4 = 0 := hX_4
        simp (disch := omega) only [bX10_readCommand_46, sp_X10_accept, k8, q_ci, q_cl, q_ild, q_lld, q_ald, q_ist, q_ast, q_lst, q_inc, q_b2, q_d2, q_u1, q_l2, q_ld2, q_lsh, q_lcmp, q_i2l, q_l2i, q_dupi, q_dupr, q_dup2, q_popi, q_popr, q_if1, q_if2, q_nn, q_sw, q_swn, q_swc, q_gf, q_gr, q_pf, q_pz, q_pc, q_ia, q_is, q_cs, q_zs, q_la, q_lw, q_aa, q_al, q_gs, q_acp, q_m2, q_m1, q_ir, q_zr, q_lr, q_ar, q_vr, q_cN0, q_cSX0, q_cV0, q_cVX0, q_cN1, q_cSX1, q_cV1, q_cVX1, q_cN2, q_cSX2, q_cV2, q_cVX2, q_cN3, q_cSX3, q_cV3, q_cVX3, q_cN4, q_cSX4, q_cV4, q_cVX4, q_cN5, q_cSX5, q_cV5, q_cVX5, q_cN6, q_cSX6, q_cV6, q_cVX6, q_th, q_sh0, q_sh1, q_sh2, q_sh3, q_sh4, q_toL0, q_toL1, q_gl0, q_gls, q_sl0, q_sls, q_k10, q_k1s, q_lgi, q_lgr, q_lgl, q_lgn, Bool.not_false, and_true, true_and, nz_2, nz_4, nz_5, nz_8, nz_10, nz_12, nz_14, nz_16, nz_40, nz_41, nz_64, nz_100, nz_1000, nz_1024, nz_4096, nz_10000, nz_100000, not_false_eq_true, bI_0, nI_add, pk_mul, nI_lt', nI_le', nI_eq', nI_z, nI_p, nI_e0, nI_l0, nI_le0, nI_clamp, up_eq, up_ne, not_true_eq_false, Classical.not_not, false_implies, true_implies, false_and, and_false, or_true, true_or, Nat.add_zero, pk_m1, m1_0, m1_n, m1_p, Nat.zero_le, forall_const, Nat.zero_add, Nat.reduceAdd, Nat.reduceEqDiff, or_false, false_or, Nat.one_ne_zero, l64_2, l64_3, l64_4, l64_5, l64_7, l64_9, l64_10, l64_11, l64_15, l64_20, l64_30, l64_40, l64_60, l64_99, l64_255, l64_999, le64l, le64r, le64b, le64n, rset_eq, rset_upd, rset_rset, upd_nep, upd_eqp, ix21_4k, ix21_1, ix21_2, ix21_3, ix21_4, ix21_5, ix21_6, ix21_7, ix21_8, ix21_9, ix21_10, ix76_1, ix76_2, ix76_3, ix100_1, ix100_2, ix100_3]
        refine ⟨hw, h', true, i, false, rfl, rfl, ?_⟩
        rw [e4]
        refine ⟨fun q => absurd rfl q, fun _ => ?_⟩
        have := (hK h' (σ 10) (fun k _ _ _ _ => rfl)).2 rfl
        rw [rset_id10] at this
        exact this
    have f41 : (t i = 115 ∨ t i = 102 ∨ t i = 119 ∨ t i = 100 ∨ t i = 114) → M 41 [.ref 8, .int (nI (t i))] [.ref 8] (rset σ 8 (hX h' true i)) := by
      intro hl
      refine h41 _ _ _ ?_
      simp (disch := omega) only [bX10_readCommand_41, q_ci, q_cl, q_ild, q_lld, q_ald, q_ist, q_ast, q_lst, q_inc, q_b2, q_d2, q_u1, q_l2, q_ld2, q_lsh, q_lcmp, q_i2l, q_l2i, q_dupi, q_dupr, q_dup2, q_popi, q_popr, q_if1, q_if2, q_nn, q_sw, q_swn, q_swc, q_gf, q_gr, q_pf, q_pz, q_pc, q_ia, q_is, q_cs, q_zs, q_la, q_lw, q_aa, q_al, q_gs, q_acp, q_m2, q_m1, q_ir, q_zr, q_lr, q_ar, q_vr, q_cN0, q_cSX0, q_cV0, q_cVX0, q_cN1, q_cSX1, q_cV1, q_cVX1, q_cN2, q_cSX2, q_cV2, q_cVX2, q_cN3, q_cSX3, q_cV3, q_cVX3, q_cN4, q_cSX4, q_cV4, q_cVX4, q_cN5, q_cSX5, q_cV5, q_cVX5, q_cN6, q_cSX6, q_cV6, q_cVX6, q_th, q_sh0, q_sh1, q_sh2, q_sh3, q_sh4, q_toL0, q_toL1, q_gl0, q_gls, q_sl0, q_sls, q_k10, q_k1s, q_lgi, q_lgr, q_lgl, q_lgn, Bool.not_false, and_true, true_and, nz_2, nz_4, nz_5, nz_8, nz_10, nz_12, nz_14, nz_16, nz_40, nz_41, nz_64, nz_100, nz_1000, nz_1024, nz_4096, nz_10000, nz_100000, not_false_eq_true, bI_0, nI_add, pk_mul, nI_lt', nI_le', nI_eq', nI_z, nI_p, nI_e0, nI_l0, nI_le0, nI_clamp, up_eq, up_ne, not_true_eq_false, Classical.not_not, false_implies, true_implies, false_and, and_false, or_true, true_or, Nat.add_zero, pk_m1, m1_0, m1_n, m1_p, Nat.zero_le, forall_const, Nat.zero_add, Nat.reduceAdd, Nat.reduceEqDiff, or_false, false_or, Nat.one_ne_zero, l64_2, l64_3, l64_4, l64_5, l64_7, l64_9, l64_10, l64_11, l64_15, l64_20, l64_30, l64_40, l64_60, l64_99, l64_255, l64_999, le64l, le64r, le64b, le64n, rset_eq, rset_upd, rset_rset, upd_nep, upd_eqp, ix21_4k, ix21_1, ix21_2, ix21_3, ix21_4, ix21_5, ix21_6, ix21_7, ix21_8, ix21_9, ix21_10, ix76_1, ix76_2, ix76_3, ix100_1, ix100_2, ix100_3]
      rw [nI_one]; exact H46 true (by rw [decide_eq_true hl])
    simp (disch := omega) only [bX10_readCommand_0, k8, k9, l9, e3, e9', q_ci, q_cl, q_ild, q_lld, q_ald, q_ist, q_ast, q_lst, q_inc, q_b2, q_d2, q_u1, q_l2, q_ld2, q_lsh, q_lcmp, q_i2l, q_l2i, q_dupi, q_dupr, q_dup2, q_popi, q_popr, q_if1, q_if2, q_nn, q_sw, q_swn, q_swc, q_gf, q_gr, q_pf, q_pz, q_pc, q_ia, q_is, q_cs, q_zs, q_la, q_lw, q_aa, q_al, q_gs, q_acp, q_m2, q_m1, q_ir, q_zr, q_lr, q_ar, q_vr, q_cN0, q_cSX0, q_cV0, q_cVX0, q_cN1, q_cSX1, q_cV1, q_cVX1, q_cN2, q_cSX2, q_cV2, q_cVX2, q_cN3, q_cSX3, q_cV3, q_cVX3, q_cN4, q_cSX4, q_cV4, q_cVX4, q_cN5, q_cSX5, q_cV5, q_cVX5, q_cN6, q_cSX6, q_cV6, q_cVX6, q_th, q_sh0, q_sh1, q_sh2, q_sh3, q_sh4, q_toL0, q_toL1, q_gl0, q_gls, q_sl0, q_sls, q_k10, q_k1s, q_lgi, q_lgr, q_lgl, q_lgn, Bool.not_false, and_true, true_and, nz_2, nz_4, nz_5, nz_8, nz_10, nz_12, nz_14, nz_16, nz_40, nz_41, nz_64, nz_100, nz_1000, nz_1024, nz_4096, nz_10000, nz_100000, not_false_eq_true, bI_0, nI_add, pk_mul, nI_lt', nI_le', nI_eq', nI_z, nI_p, nI_e0, nI_l0, nI_le0, nI_clamp, up_eq, up_ne, not_true_eq_false, Classical.not_not, false_implies, true_implies, false_and, and_false, or_true, true_or, Nat.add_zero, pk_m1, m1_0, m1_n, m1_p, Nat.zero_le, forall_const, Nat.zero_add, Nat.reduceAdd, Nat.reduceEqDiff, or_false, false_or, Nat.one_ne_zero, l64_2, l64_3, l64_4, l64_5, l64_7, l64_9, l64_10, l64_11, l64_15, l64_20, l64_30, l64_40, l64_60, l64_99, l64_255, l64_999, le64l, le64r, le64b, le64n, rset_eq, rset_upd, rset_rset, upd_nep, upd_eqp, ix21_4k, ix21_1, ix21_2, ix21_3, ix21_4, ix21_5, ix21_6, ix21_7, ix21_8, ix21_9, ix21_10, ix76_1, ix76_2, ix76_3, ix100_1, ix100_2, ix100_3]
    refine ⟨vi, fun q => f41 (by omega), fun q1 => ⟨fun q => f41 (by omega), fun q2 => ⟨fun q => f41 (by omega), fun q3 => ⟨fun q => f41 (by omega), fun q4 => ⟨fun q5 => ?_, fun q5 => f41 (by omega)⟩⟩⟩⟩⟩
    rw [nI_0]
    refine H46 false ?_
    rw [decide_eq_false]
    intro q; omega
set_option maxRecDepth 20000 in
set_option maxHeartbeats 4000000 in
theorem ok_X10_readText {l : Launch} (hl : l.stackTraces = false) : ab_OkN l yX10_readText (Cond.code yX10_readText cX10_readText 1 (some .int)) 8 sp_X10_readText := by
  intro w σ As Kn hI h
  unfold sp_X10_readText at h
  split at h
  rotate_left 1
  · exact h.elim
  next a =>
    obtain ⟨rfl, hw, t, m, hT, h2, hK⟩ := h
    obtain ⟨k8, k9, l9, ⟨k10, l10⟩, -⟩ := id hw
    refine vc_X10_readText hl hI (ok_X10_clean hl) (ok_X10_isNext hl) (ok_X10_accept hl) (ok_X10_readCommand hl) (Nat.le_of_ble_eq_true rfl) (fun M h0 h37 h62 h77 => ?_)
    suffices HS : M 0 [.ref 8] [] (rset σ 8 (σ 8)) from (by rw [rset_self] at HS; exact HS)
    refine h0 _ _ _ ?_
    obtain ⟨X, hX0⟩ : ∃ X, x_all t m 120 1 n_new 0 = X := ⟨_, rfl⟩
    rw [hX0] at hK
    have hm := hT.1
    have dT10 : ∀ A r, dT (rset (rset σ 8 A) 10 r) t m := fun A r => hT.r.r10
    have e8 : ∀ A r, rset (rset σ 8 A) 10 r 8 = A := fun A r => by rw [rset_ne (by decide), rset_eq]
    have f77 : ∀ v L τ, Kn (some (.int v)) τ → M 77 L [.int v] τ := fun v L τ q => h77 _ _ _ (by simp (disch := omega) only [bX10_readText_77, q_ci, q_cl, q_ild, q_lld, q_ald, q_ist, q_ast, q_lst, q_inc, q_b2, q_d2, q_u1, q_l2, q_ld2, q_lsh, q_lcmp, q_i2l, q_l2i, q_dupi, q_dupr, q_dup2, q_popi, q_popr, q_if1, q_if2, q_nn, q_sw, q_swn, q_swc, q_gf, q_gr, q_pf, q_pz, q_pc, q_ia, q_is, q_cs, q_zs, q_la, q_lw, q_aa, q_al, q_gs, q_acp, q_m2, q_m1, q_ir, q_zr, q_lr, q_ar, q_vr, q_cN0, q_cSX0, q_cV0, q_cVX0, q_cN1, q_cSX1, q_cV1, q_cVX1, q_cN2, q_cSX2, q_cV2, q_cVX2, q_cN3, q_cSX3, q_cV3, q_cVX3, q_cN4, q_cSX4, q_cV4, q_cVX4, q_cN5, q_cSX5, q_cV5, q_cVX5, q_cN6, q_cSX6, q_cV6, q_cVX6, q_th, q_sh0, q_sh1, q_sh2, q_sh3, q_sh4, q_toL0, q_toL1, q_gl0, q_gls, q_sl0, q_sls, q_k10, q_k1s, q_lgi, q_lgr, q_lgl, q_lgn, Bool.not_false, and_true, true_and, nz_2, nz_4, nz_5, nz_8, nz_10, nz_12, nz_14, nz_16, nz_40, nz_41, nz_64, nz_100, nz_1000, nz_1024, nz_4096, nz_10000, nz_100000, not_false_eq_true, bI_0, nI_add, pk_mul, nI_lt', nI_le', nI_eq', nI_z, nI_p, nI_e0, nI_l0, nI_le0, nI_clamp, up_eq, up_ne, not_true_eq_false, Classical.not_not, false_implies, true_implies, false_and, and_false, or_true, true_or, Nat.add_zero, pk_m1, m1_0, m1_n, m1_p, Nat.zero_le, forall_const, Nat.zero_add, Nat.reduceAdd, Nat.reduceEqDiff, or_false, false_or, Nat.one_ne_zero, l64_2, l64_3, l64_4, l64_5, l64_7, l64_9, l64_10, l64_11, l64_15, l64_20, l64_30, l64_40, l64_60, l64_99, l64_255, l64_999, le64l, le64r, le64b, le64n, rset_eq, rset_upd, rset_rset, upd_nep, upd_eqp, ix21_4k, ix21_1, ix21_2, ix21_3, ix21_4, ix21_5, ix21_6, ix21_7, ix21_8, ix21_9, ix21_10, ix76_1, ix76_2, ix76_3, ix100_1, ix100_2, ix100_3]; exact q)
    have HB : ∀ h i r, (∀ k, k ≠ 3 → k ≠ 4 → k ≠ 5 → k ≠ 13 → k ≠ 14 → h k = σ 8 k) → p_text t m = some i → M 37 [.ref 8] [] (rset (rset σ 8 (hX h false i)) 10 r) := by
      intro h i r hh hp
      refine h37 _ _ _ ?_
      have e4 : hX h false i 4 = 0 := hX_4
      have e3 : hX h false i 3 = nI i := hX_3
      have := (hK (hX h false i) r (fun k k3 k4 k5 k13 k14 => by rw [hX_k k3 k4]; exact hh k k3 k4 k5 k13 k14)).1 i hp
      have f62 : M 62 [.ref 8] [] (rset (rset σ 8 (hX h false i)) 10 r) := by
        refine h62 _ _ _ ?_
        simp (disch := omega) only [bX10_readText_62, k8, e8, e4, e3, q_ci, q_cl, q_ild, q_lld, q_ald, q_ist, q_ast, q_lst, q_inc, q_b2, q_d2, q_u1, q_l2, q_ld2, q_lsh, q_lcmp, q_i2l, q_l2i, q_dupi, q_dupr, q_dup2, q_popi, q_popr, q_if1, q_if2, q_nn, q_sw, q_swn, q_swc, q_gf, q_gr, q_pf, q_pz, q_pc, q_ia, q_is, q_cs, q_zs, q_la, q_lw, q_aa, q_al, q_gs, q_acp, q_m2, q_m1, q_ir, q_zr, q_lr, q_ar, q_vr, q_cN0, q_cSX0, q_cV0, q_cVX0, q_cN1, q_cSX1, q_cV1, q_cVX1, q_cN2, q_cSX2, q_cV2, q_cVX2, q_cN3, q_cSX3, q_cV3, q_cVX3, q_cN4, q_cSX4, q_cV4, q_cVX4, q_cN5, q_cSX5, q_cV5, q_cVX5, q_cN6, q_cSX6, q_cV6, q_cVX6, q_th, q_sh0, q_sh1, q_sh2, q_sh3, q_sh4, q_toL0, q_toL1, q_gl0, q_gls, q_sl0, q_sls, q_k10, q_k1s, q_lgi, q_lgr, q_lgl, q_lgn, Bool.not_false, and_true, true_and, nz_2, nz_4, nz_5, nz_8, nz_10, nz_12, nz_14, nz_16, nz_40, nz_41, nz_64, nz_100, nz_1000, nz_1024, nz_4096, nz_10000, nz_100000, not_false_eq_true, bI_0, nI_add, pk_mul, nI_lt', nI_le', nI_eq', nI_z, nI_p, nI_e0, nI_l0, nI_le0, nI_clamp, up_eq, up_ne, not_true_eq_false, Classical.not_not, false_implies, true_implies, false_and, and_false, or_true, true_or, Nat.add_zero, pk_m1, m1_0, m1_n, m1_p, Nat.zero_le, forall_const, Nat.zero_add, Nat.reduceAdd, Nat.reduceEqDiff, or_false, false_or, Nat.one_ne_zero, l64_2, l64_3, l64_4, l64_5, l64_7, l64_9, l64_10, l64_11, l64_15, l64_20, l64_30, l64_40, l64_60, l64_99, l64_255, l64_999, le64l, le64r, le64b, le64n, rset_eq, rset_upd, rset_rset, upd_nep, upd_eqp, ix21_4k, ix21_1, ix21_2, ix21_3, ix21_4, ix21_5, ix21_6, ix21_7, ix21_8, ix21_9, ix21_10, ix76_1, ix76_2, ix76_3, ix100_1, ix100_2, ix100_3]
        first
          | exact f77 _ _ _ this
          | exact ⟨fun _ => f77 _ _ _ this, fun q => absurd rfl q⟩
      simp (disch := omega) only [bX10_readText_37, k8, e8, e4, q_ci, q_cl, q_ild, q_lld, q_ald, q_ist, q_ast, q_lst, q_inc, q_b2, q_d2, q_u1, q_l2, q_ld2, q_lsh, q_lcmp, q_i2l, q_l2i, q_dupi, q_dupr, q_dup2, q_popi, q_popr, q_if1, q_if2, q_nn, q_sw, q_swn, q_swc, q_gf, q_gr, q_pf, q_pz, q_pc, q_ia, q_is, q_cs, q_zs, q_la, q_lw, q_aa, q_al, q_gs, q_acp, q_m2, q_m1, q_ir, q_zr, q_lr, q_ar, q_vr, q_cN0, q_cSX0, q_cV0, q_cVX0, q_cN1, q_cSX1, q_cV1, q_cVX1, q_cN2, q_cSX2, q_cV2, q_cVX2, q_cN3, q_cSX3, q_cV3, q_cVX3, q_cN4, q_cSX4, q_cV4, q_cVX4, q_cN5, q_cSX5, q_cV5, q_cVX5, q_cN6, q_cSX6, q_cV6, q_cVX6, q_th, q_sh0, q_sh1, q_sh2, q_sh3, q_sh4, q_toL0, q_toL1, q_gl0, q_gls, q_sl0, q_sls, q_k10, q_k1s, q_lgi, q_lgr, q_lgl, q_lgn, Bool.not_false, and_true, true_and, nz_2, nz_4, nz_5, nz_8, nz_10, nz_12, nz_14, nz_16, nz_40, nz_41, nz_64, nz_100, nz_1000, nz_1024, nz_4096, nz_10000, nz_100000, not_false_eq_true, bI_0, nI_add, pk_mul, nI_lt', nI_le', nI_eq', nI_z, nI_p, nI_e0, nI_l0, nI_le0, nI_clamp, up_eq, up_ne, not_true_eq_false, Classical.not_not, false_implies, true_implies, false_and, and_false, or_true, true_or, Nat.add_zero, pk_m1, m1_0, m1_n, m1_p, Nat.zero_le, forall_const, Nat.zero_add, Nat.reduceAdd, Nat.reduceEqDiff, or_false, false_or, Nat.one_ne_zero, l64_2, l64_3, l64_4, l64_5, l64_7, l64_9, l64_10, l64_11, l64_15, l64_20, l64_30, l64_40, l64_60, l64_99, l64_255, l64_999, le64l, le64r, le64b, le64n, rset_eq, rset_upd, rset_rset, upd_nep, upd_eqp, ix21_4k, ix21_1, ix21_2, ix21_3, ix21_4, ix21_5, ix21_6, ix21_7, ix21_8, ix21_9, ix21_10, ix76_1, ix76_2, ix76_3, ix100_1, ix100_2, ix100_3]
      first
        | exact f62
        | exact ⟨fun _ => f62, fun q => absurd rfl q⟩
    have HG : ∀ h i r n q, (∀ k, k ≠ 3 → k ≠ 4 → k ≠ 5 → k ≠ 13 → k ≠ 14 → h k = σ 8 k) → h 5 = nI q → RM r n → p_text t m = none → X = (n, q) → M 62 [.ref 8] [] (rset (rset σ 8 (hX h true i)) 10 r) := by
      intro h i r n q hh h5 hr hp hx
      refine h62 _ _ _ ?_
      have e4 : hX h true i 4 = 1 := hX_4
      have := (hK (hX h true i) r (fun k k3 k4 k5 k13 k14 => by rw [hX_k k3 k4]; exact hh k k3 k4 k5 k13 k14)).2 hp (by rw [hX_k (by decide) (by decide), hx]; exact h5) (by rw [hx]; exact hr)
      simp (disch := omega) only [bX10_readText_62, k8, e8, e4, q_ci, q_cl, q_ild, q_lld, q_ald, q_ist, q_ast, q_lst, q_inc, q_b2, q_d2, q_u1, q_l2, q_ld2, q_lsh, q_lcmp, q_i2l, q_l2i, q_dupi, q_dupr, q_dup2, q_popi, q_popr, q_if1, q_if2, q_nn, q_sw, q_swn, q_swc, q_gf, q_gr, q_pf, q_pz, q_pc, q_ia, q_is, q_cs, q_zs, q_la, q_lw, q_aa, q_al, q_gs, q_acp, q_m2, q_m1, q_ir, q_zr, q_lr, q_ar, q_vr, q_cN0, q_cSX0, q_cV0, q_cVX0, q_cN1, q_cSX1, q_cV1, q_cVX1, q_cN2, q_cSX2, q_cV2, q_cVX2, q_cN3, q_cSX3, q_cV3, q_cVX3, q_cN4, q_cSX4, q_cV4, q_cVX4, q_cN5, q_cSX5, q_cV5, q_cVX5, q_cN6, q_cSX6, q_cV6, q_cVX6, q_th, q_sh0, q_sh1, q_sh2, q_sh3, q_sh4, q_toL0, q_toL1, q_gl0, q_gls, q_sl0, q_sls, q_k10, q_k1s, q_lgi, q_lgr, q_lgl, q_lgn, Bool.not_false, and_true, true_and, nz_2, nz_4, nz_5, nz_8, nz_10, nz_12, nz_14, nz_16, nz_40, nz_41, nz_64, nz_100, nz_1000, nz_1024, nz_4096, nz_10000, nz_100000, not_false_eq_true, bI_0, nI_add, pk_mul, nI_lt', nI_le', nI_eq', nI_z, nI_p, nI_e0, nI_l0, nI_le0, nI_clamp, up_eq, up_ne, not_true_eq_false, Classical.not_not, false_implies, true_implies, false_and, and_false, or_true, true_or, Nat.add_zero, pk_m1, m1_0, m1_n, m1_p, Nat.zero_le, forall_const, Nat.zero_add, Nat.reduceAdd, Nat.reduceEqDiff, or_false, false_or, Nat.one_ne_zero, l64_2, l64_3, l64_4, l64_5, l64_7, l64_9, l64_10, l64_11, l64_15, l64_20, l64_30, l64_40, l64_60, l64_99, l64_255, l64_999, le64l, le64r, le64b, le64n, rset_eq, rset_upd, rset_rset, upd_nep, upd_eqp, ix21_4k, ix21_1, ix21_2, ix21_3, ix21_4, ix21_5, ix21_6, ix21_7, ix21_8, ix21_9, ix21_10, ix76_1, ix76_2, ix76_3, ix100_1, ix100_2, ix100_3]
      first
        | exact f77 _ _ _ this
        | exact ⟨fun q => absurd q (by decide +kernel), fun _ => f77 _ _ _ this⟩
    have H : ∀ d i q n T' h r, m ≤ i + d → i ≤ m → (∀ k, k ≠ 3 → k ≠ 4 → k ≠ 5 → k ≠ 13 → k ≠ 14 → h k = σ 8 k) → h 5 = nI q → RM r n → WF T' n → T' + 9 * d ≤ 1080 → p_text t m = p_err t m d i → X = x_all t m d i n q → M 37 [.ref 8] [] (rset (rset σ 8 (hX h true i)) 10 r) := by
      intro d
      induction d with
      | zero =>
        intro i q n T' h r hmi him hh h5 hr hWn hT' hp hx
        refine h37 _ _ _ ?_
        have e4 : hX h true i 4 = 1 := hX_4
        have e3 : hX h true i 3 = nI i := hX_3
        have e2 : hX h true i 2 = nI m := by rw [hX_k (by decide) (by decide), hh 2 (by decide) (by decide) (by decide) (by decide) (by decide)]; exact h2
        have f62 := HG h i r n q hh h5 hr hp hx
        simp (disch := omega) only [bX10_readText_37, k8, e8, e4, e3, e2, q_ci, q_cl, q_ild, q_lld, q_ald, q_ist, q_ast, q_lst, q_inc, q_b2, q_d2, q_u1, q_l2, q_ld2, q_lsh, q_lcmp, q_i2l, q_l2i, q_dupi, q_dupr, q_dup2, q_popi, q_popr, q_if1, q_if2, q_nn, q_sw, q_swn, q_swc, q_gf, q_gr, q_pf, q_pz, q_pc, q_ia, q_is, q_cs, q_zs, q_la, q_lw, q_aa, q_al, q_gs, q_acp, q_m2, q_m1, q_ir, q_zr, q_lr, q_ar, q_vr, q_cN0, q_cSX0, q_cV0, q_cVX0, q_cN1, q_cSX1, q_cV1, q_cVX1, q_cN2, q_cSX2, q_cV2, q_cVX2, q_cN3, q_cSX3, q_cV3, q_cVX3, q_cN4, q_cSX4, q_cV4, q_cVX4, q_cN5, q_cSX5, q_cV5, q_cVX5, q_cN6, q_cSX6, q_cV6, q_cVX6, q_th, q_sh0, q_sh1, q_sh2, q_sh3, q_sh4, q_toL0, q_toL1, q_gl0, q_gls, q_sl0, q_sls, q_k10, q_k1s, q_lgi, q_lgr, q_lgl, q_lgn, Bool.not_false, and_true, true_and, nz_2, nz_4, nz_5, nz_8, nz_10, nz_12, nz_14, nz_16, nz_40, nz_41, nz_64, nz_100, nz_1000, nz_1024, nz_4096, nz_10000, nz_100000, not_false_eq_true, bI_0, nI_add, pk_mul, nI_lt', nI_le', nI_eq', nI_z, nI_p, nI_e0, nI_l0, nI_le0, nI_clamp, up_eq, up_ne, not_true_eq_false, Classical.not_not, false_implies, true_implies, false_and, and_false, or_true, true_or, Nat.add_zero, pk_m1, m1_0, m1_n, m1_p, Nat.zero_le, forall_const, Nat.zero_add, Nat.reduceAdd, Nat.reduceEqDiff, or_false, false_or, Nat.one_ne_zero, l64_2, l64_3, l64_4, l64_5, l64_7, l64_9, l64_10, l64_11, l64_15, l64_20, l64_30, l64_40, l64_60, l64_99, l64_255, l64_999, le64l, le64r, le64b, le64n, rset_eq, rset_upd, rset_rset, upd_nep, upd_eqp, ix21_4k, ix21_1, ix21_2, ix21_3, ix21_4, ix21_5, ix21_6, ix21_7, ix21_8, ix21_9, ix21_10, ix76_1, ix76_2, ix76_3, ix100_1, ix100_2, ix100_3]
        refine ⟨fun q => absurd q (by decide +kernel), fun _ => ⟨fun _ => f62, fun q => absurd q (by omega)⟩⟩
      | succ d ih =>
        intro i q n T' h r hmi him hh h5 hr hWn hT' hp hx
        refine h37 _ _ _ ?_
        have e4 : hX h true i 4 = 1 := hX_4
        have e3 : hX h true i 3 = nI i := hX_3
        have e2 : h 2 = nI m := by rw [hh 2 (by decide) (by decide) (by decide) (by decide) (by decide)]; exact h2
        have e2' : hX h true i 2 = nI m := by rw [hX_k (by decide) (by decide)]; exact e2
        rw [p_err] at hp
        rw [x_all] at hx
        simp (disch := omega) only [bX10_readText_37, sp_X10_readCommand, k8, e8, e4, e3, e2', q_ci, q_cl, q_ild, q_lld, q_ald, q_ist, q_ast, q_lst, q_inc, q_b2, q_d2, q_u1, q_l2, q_ld2, q_lsh, q_lcmp, q_i2l, q_l2i, q_dupi, q_dupr, q_dup2, q_popi, q_popr, q_if1, q_if2, q_nn, q_sw, q_swn, q_swc, q_gf, q_gr, q_pf, q_pz, q_pc, q_ia, q_is, q_cs, q_zs, q_la, q_lw, q_aa, q_al, q_gs, q_acp, q_m2, q_m1, q_ir, q_zr, q_lr, q_ar, q_vr, q_cN0, q_cSX0, q_cV0, q_cVX0, q_cN1, q_cSX1, q_cV1, q_cVX1, q_cN2, q_cSX2, q_cV2, q_cVX2, q_cN3, q_cSX3, q_cV3, q_cVX3, q_cN4, q_cSX4, q_cV4, q_cVX4, q_cN5, q_cSX5, q_cV5, q_cVX5, q_cN6, q_cSX6, q_cV6, q_cVX6, q_th, q_sh0, q_sh1, q_sh2, q_sh3, q_sh4, q_toL0, q_toL1, q_gl0, q_gls, q_sl0, q_sls, q_k10, q_k1s, q_lgi, q_lgr, q_lgl, q_lgn, Bool.not_false, and_true, true_and, nz_2, nz_4, nz_5, nz_8, nz_10, nz_12, nz_14, nz_16, nz_40, nz_41, nz_64, nz_100, nz_1000, nz_1024, nz_4096, nz_10000, nz_100000, not_false_eq_true, bI_0, nI_add, pk_mul, nI_lt', nI_le', nI_eq', nI_z, nI_p, nI_e0, nI_l0, nI_le0, nI_clamp, up_eq, up_ne, not_true_eq_false, Classical.not_not, false_implies, true_implies, false_and, and_false, or_true, true_or, Nat.add_zero, pk_m1, m1_0, m1_n, m1_p, Nat.zero_le, forall_const, Nat.zero_add, Nat.reduceAdd, Nat.reduceEqDiff, or_false, false_or, Nat.one_ne_zero, l64_2, l64_3, l64_4, l64_5, l64_7, l64_9, l64_10, l64_11, l64_15, l64_20, l64_30, l64_40, l64_60, l64_99, l64_255, l64_999, le64l, le64r, le64b, le64n, rset_eq, rset_upd, rset_rset, upd_nep, upd_eqp, ix21_4k, ix21_1, ix21_2, ix21_3, ix21_4, ix21_5, ix21_6, ix21_7, ix21_8, ix21_9, ix21_10, ix76_1, ix76_2, ix76_3, ix100_1, ix100_2, ix100_3]
        refine ⟨fun q => absurd q (by decide +kernel), fun _ => ⟨fun q2 => ?_, fun q2 => ⟨hw, t, m, h, i, q, n, T', dT10 _ _, e2, h5, rfl, by omega, hr, hWn, by omega, fun h' r' hk => ⟨fun c c1 c2 c3 => ?_, fun c1 => ?_⟩⟩⟩⟩
        · rw [if_neg (by omega)] at hp hx
          exact HG h i r n q hh h5 hr hp hx
        · rw [if_pos (by omega), c1] at hp hx
          dsimp only at hp hx
          have hgt := p_cmd_gt c1
          have hle := p_cmd_le (t := t) (m := m) (i := i) (by omega)
          have hok := p_cmd_ok c1
          rw [r810]
          have hh' : ∀ k, k ≠ 3 → k ≠ 4 → k ≠ 5 → k ≠ 13 → k ≠ 14 → h' k = σ 8 k := fun k k3 k4 k5 k13 k14 => (hk k k3 k4 k5 k14).trans (hh k k3 k4 k5 k13 k14)
          rcases hxc : x_cmd n c with _ | n'
          · rw [hxc] at hx c3
            rw [lo1_n hxc] at c2
            exact ih _ (q + 1) n (T' + 9) h' r' (by omega) hle hh' c2 c3 (hWn.mono (by omega)) (by omega) hp hx
          · rw [hxc] at hx c3
            rw [lo1_s hxc] at c2
            exact ih _ q n' (T' + 9) h' r' (by omega) hle hh' c2 c3 (WF_xcmd hWn hok (by omega) hxc) (by omega) hp hx
        · rw [if_pos (by omega), c1] at hp
          rw [r810]
          exact HB h' _ r' (fun k k3 k4 k5 k13 k14 => (hk k k3 k4 k5 k14).trans (hh k k3 k4 k5 k13 k14)) hp
    have eH : upd (upd (upd (upd (σ 8) 3 (nI 0)) 4 1) 5 (nI 0)) 13 (-1) = hX (upd (upd (σ 8) 5 (nI 0)) 13 (-1)) true 0 := by
      unfold hX
      funext k
      by_cases k3 : k = 3
      · simp (disch := omega) only [upd_nep, upd_eqp]
      by_cases k4 : k = 4
      · subst k4; simp (disch := omega) only [upd_nep, upd_eqp]; rfl
      by_cases k5 : k = 5
      · simp (disch := omega) only [upd_nep, upd_eqp]
      by_cases k13 : k = 13
      · simp (disch := omega) only [upd_nep, upd_eqp]
      simp (disch := omega) only [upd_nep]
    have hfr : ∀ k, k ≠ 3 → k ≠ 4 → k ≠ 5 → k ≠ 13 → k ≠ 14 → upd (upd (σ 8) 5 (nI 0)) 13 (-1) k = σ 8 k := fun k _ _ k5 k13 _ => by rw [upd_nep k13, upd_nep k5]
    have hf5 : upd (upd (σ 8) 5 (nI 0)) 13 (-1) 5 = nI 0 := by rw [upd_nep (by decide), upd_eq]
    have hf2 : upd (upd (σ 8) 5 (nI 0)) 13 (-1) 2 = nI m := by rw [upd_nep (by decide), upd_nep (by decide)]; exact h2
    simp (disch := omega) only [bX10_readText_0, sp_X10_clean, sp_X10_isNext, sp_X10_accept, k8, nI_one, eH, q_ci, q_cl, q_ild, q_lld, q_ald, q_ist, q_ast, q_lst, q_inc, q_b2, q_d2, q_u1, q_l2, q_ld2, q_lsh, q_lcmp, q_i2l, q_l2i, q_dupi, q_dupr, q_dup2, q_popi, q_popr, q_if1, q_if2, q_nn, q_sw, q_swn, q_swc, q_gf, q_gr, q_pf, q_pz, q_pc, q_ia, q_is, q_cs, q_zs, q_la, q_lw, q_aa, q_al, q_gs, q_acp, q_m2, q_m1, q_ir, q_zr, q_lr, q_ar, q_vr, q_cN0, q_cSX0, q_cV0, q_cVX0, q_cN1, q_cSX1, q_cV1, q_cVX1, q_cN2, q_cSX2, q_cV2, q_cVX2, q_cN3, q_cSX3, q_cV3, q_cVX3, q_cN4, q_cSX4, q_cV4, q_cVX4, q_cN5, q_cSX5, q_cV5, q_cVX5, q_cN6, q_cSX6, q_cV6, q_cVX6, q_th, q_sh0, q_sh1, q_sh2, q_sh3, q_sh4, q_toL0, q_toL1, q_gl0, q_gls, q_sl0, q_sls, q_k10, q_k1s, q_lgi, q_lgr, q_lgl, q_lgn, Bool.not_false, and_true, true_and, nz_2, nz_4, nz_5, nz_8, nz_10, nz_12, nz_14, nz_16, nz_40, nz_41, nz_64, nz_100, nz_1000, nz_1024, nz_4096, nz_10000, nz_100000, not_false_eq_true, bI_0, nI_add, pk_mul, nI_lt', nI_le', nI_eq', nI_z, nI_p, nI_e0, nI_l0, nI_le0, nI_clamp, up_eq, up_ne, not_true_eq_false, Classical.not_not, false_implies, true_implies, false_and, and_false, or_true, true_or, Nat.add_zero, pk_m1, m1_0, m1_n, m1_p, Nat.zero_le, forall_const, Nat.zero_add, Nat.reduceAdd, Nat.reduceEqDiff, or_false, false_or, Nat.one_ne_zero, l64_2, l64_3, l64_4, l64_5, l64_7, l64_9, l64_10, l64_11, l64_15, l64_20, l64_30, l64_40, l64_60, l64_99, l64_255, l64_999, le64l, le64r, le64b, le64n, rset_eq, rset_upd, rset_rset, upd_nep, upd_eqp, ix21_4k, ix21_1, ix21_2, ix21_3, ix21_4, ix21_5, ix21_6, ix21_7, ix21_8, ix21_9, ix21_10, ix76_1, ix76_2, ix76_3, ix100_1, ix100_2, ix100_3]
    try rw [eH]
    generalize upd (upd (σ 8) 5 (nI 0)) 13 (-1) = h0' at *
    have hfin : ∀ σ', RM (σ' 10) n_new → (∀ v, v ≠ 10 → σ' v = rset σ 8 (hX h0' true 0) v) → σ' = rset (rset σ 8 (hX h0' true 0)) 10 (σ' 10) := by
      intro σ' _ hv
      funext v
      by_cases h : v = 10
      · subst h; rw [rset_eq]
      · rw [rset_ne h, hv v h]
    refine ⟨⟨k10, l10⟩, fun σ' hr hv => ?_⟩
    have es := hfin σ' hr hv
    generalize σ' 10 = r at es hr
    subst es
    refine ⟨hw, t, m, h0', true, 0, 78, dT10 _ _, hf2, e8 _ _, Nat.zero_le _, rfl, by omega, hw, h0', true, 0, decide (0 < m ∧ t 0 = 78), e8 _ _, rfl, ?_⟩
    rw [r810']
    by_cases hN : 0 < m ∧ t 0 = 78
    · rw [decide_eq_true hN]
      exact H 120 1 0 n_new 0 h0' r (by omega) (by omega) hfr hf5 hr WF_new (by omega) (by unfold p_text; rw [if_pos hN]) hX0.symm
    · rw [decide_eq_false hN]
      exact HB h0' 0 r hfr (by unfold p_text; rw [if_neg hN])
