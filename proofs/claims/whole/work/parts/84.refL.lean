/-! THE REFERENCE'S COMMANDS ON ITS TRIAL -/
theorem vS_n {f : nF} (hc : cOK f) {k : Nat} (hk : k < 2 ^ 31) : vS f (nI k) ↔ k < cl (f 1) := by
  have h5 := hc.2
  constructor
  · intro h
    have := (ab_ixs hc h).2
    rwa [cl_nI hk] at this
  · intro h
    refine ⟨Int32.not_lt.mp (nI_pos hk), ?_⟩
    rw [hc.1]; exact nI_lt h (by omega)
theorem rO_n {f : nF} {n s g k : Nat} (hc : cOK f) (hs : s < 2 ^ 31) (hg : g ≤ 999) (hk : k ≤ 99) : rO f n (nI s) (nI g) (nI k) = 0 ↔ s < cl (f 1) ∧ 0 < g + k ∧ n < 8 := by
  have hL : okL (nI g) (nI k) := ⟨⟨(nI_leI (by omega) (by omega)).mpr (by omega), (nI_leI (by omega) (by omega)).mpr (by omega)⟩, (nI_leI (by omega) (by omega)).mpr (by omega), (nI_leI (by omega) (by omega)).mpr (by omega)⟩
  unfold rO
  by_cases h1 : s < cl (f 1)
  · rw [if_pos ((vS_n hc hs).mpr h1), if_pos hL]
    have e : ((nI g = 0 ∧ nI k = 0) ∨ 8 ≤ n) ↔ ((g = 0 ∧ k = 0) ∨ 8 ≤ n) := by rw [nI_e0 (by omega), nI_e0 (by omega)]
    by_cases q : (g = 0 ∧ k = 0) ∨ 8 ≤ n
    · rw [if_pos (e.mpr q)]; omega
    · rw [if_neg (fun q2 => q (e.mp q2))]; omega
  · rw [if_neg (fun q => h1 ((vS_n hc hs).mp q))]; omega
theorem rM_n {f : nF} {s t : Nat} (hc : cOK f) (hs : s < 2 ^ 31) (ht : t < 2 ^ 31) : rM f (nI s) (nI t) = 0 ↔ s < cl (f 1) ∧ t < cl (f 1) ∧ ¬ s = t ∧ ¬ n_most f s = none := by
  unfold rM
  rw [cl_nI hs]
  by_cases h1 : s < cl (f 1) ∧ t < cl (f 1)
  · rw [if_pos ⟨(vS_n hc hs).mpr h1.1, (vS_n hc ht).mpr h1.2⟩]
    by_cases h2 : s = t
    · rw [if_pos (Or.inl (by rw [h2]))]; exact ⟨fun q => absurd q (by omega), fun q => absurd h2 q.2.2.1⟩
    · by_cases h3 : n_most f s = none
      · rw [if_pos (Or.inr h3)]; exact ⟨fun q => absurd q (by omega), fun q => absurd h3 q.2.2.2⟩
      · rw [if_neg (fun q => q.elim (fun q => h2 (nI_inj hs ht q)) h3)]; exact ⟨fun _ => ⟨h1.1, h1.2, h2, h3⟩, fun _ => rfl⟩
  · rw [if_neg (fun q => h1 ⟨(vS_n hc hs).mp q.1, (vS_n hc ht).mp q.2⟩)]
    exact ⟨fun q => absurd q (by omega), fun q => absurd ⟨q.1, q.2.1⟩ h1⟩
theorem rC_n {f : nF} {s : Nat} {p z : Int32} (hc : cOK f) (hs : s < 2 ^ 31) : rC f (nI s) p z = 0 ↔ s < cl (f 1) ∧ okH p z := by
  unfold rC
  by_cases h1 : s < cl (f 1)
  · rw [if_pos ((vS_n hc hs).mpr h1)]
    by_cases h2 : okH p z
    · rw [if_pos h2]; exact ⟨fun _ => ⟨h1, h2⟩, fun _ => rfl⟩
    · rw [if_neg h2]; exact ⟨fun q => absurd q (by omega), fun q => absurd q.2 h2⟩
  · rw [if_neg (fun q => h1 ((vS_n hc hs).mp q))]; exact ⟨fun q => absurd q (by omega), fun q => absurd q.1 h1⟩
theorem rW_i {h v : Int32} : rW h v = 0 ↔ okW h v := by
  unfold rW; split
  · next q => exact ⟨fun _ => q, fun _ => rfl⟩
  · next q => exact ⟨fun q2 => absurd q2 (by omega), fun q2 => absurd q2 q⟩
theorem rT_i {h v : Int32} : rT h v = 0 ↔ okT h v := by
  unfold rT; split
  · next q => exact ⟨fun _ => q, fun _ => rfl⟩
  · next q => exact ⟨fun q2 => absurd q2 (by omega), fun q2 => absurd q2 q⟩
/-- behind a command on the trial -/
def kT (σ : ab_H) (n' : nT) (ok : Prop) (K : Option Value → ab_H → Prop) : Prop := (ok → ∀ σ', RM (σ' 12) n' → FD σ σ' → K (some (.int (nI 1))) σ') ∧ (¬ ok → K (some (.int (nI 0))) σ)
def sp_X10_delivers : ab_S := fun w As σ K => match As with
  | [.ref a, .int s, .int g, .int k] => a = 8 ∧ wD w ∧ ∃ n T s' g' k', RM (σ 12) n ∧ WF T n ∧ T < 100000 ∧ s = nI s' ∧ g = nI g' ∧ k = nI k' ∧ s' < 100 ∧ g' ≤ 99 ∧ k' ≤ 99 ∧ kT σ (n_ord n s' g' k') (rO n.1 n.2.1.length (nI s') (nI g') (nI k') = 0) K
  | _ => False
def sp_X10_moves : ab_S := fun w As σ K => match As with
  | [.ref a, .int s, .int t] => a = 8 ∧ wD w ∧ ∃ n T s' t', RM (σ 12) n ∧ WF T n ∧ T < 100000 ∧ s = nI s' ∧ t = nI t' ∧ s' < 100 ∧ t' < 100 ∧ kT σ (n_mov n s' t') (rM n.1 (nI s') (nI t') = 0) K
  | _ => False
def sp_X10_changes : ab_S := fun w As σ K => match As with
  | [.ref a, .int s, .int p, .int z] => a = 8 ∧ wD w ∧ ∃ n T s', RM (σ 12) n ∧ WF T n ∧ T < 100000 ∧ s = nI s' ∧ s' < 100 ∧ kT σ (n_chg n s' p z) (rC n.1 (nI s') p z = 0) K
  | _ => False
def sp_X10_blows : ab_S := fun w As σ K => match As with
  | [.ref a, .int h, .int v] => a = 8 ∧ wD w ∧ ∃ n, RM (σ 12) n ∧ kT σ (n_wind n (cl h) v) (rW h v = 0) K
  | _ => False
def sp_X10_sets : ab_S := fun w As σ K => match As with
  | [.ref a, .int i, .int v] => a = 8 ∧ wD w ∧ ∃ n, RM (σ 12) n ∧ kT σ (n_set n (cl i) v) (rT i v = 0) K
  | _ => False
def sp_X10_runs : ab_S := fun w As σ K => match As with
  | [.ref a, .int c] => a = 8 ∧ wD w ∧ ∃ n T, RM (σ 12) n ∧ WF T n ∧ T + 40 < 100000 ∧ kT σ (n_run (cl c) n) (bt2 (nI 1) c (nI 40)) K
  | _ => False
set_option maxRecDepth 20000 in
set_option maxHeartbeats 4000000 in
theorem ok_X10_delivers {l : Launch} (hl : l.stackTraces = false) : ab_OkN l yX10_delivers (Cond.code yX10_delivers cX10_delivers 4 (some .boolean)) 3 sp_X10_delivers := by
  intro w σ As Kn hI h
  unfold sp_X10_delivers at h
  split at h
  rotate_left 1
  · exact h.elim
  next a s g k =>
    obtain ⟨rfl, hw, n, T, s, g, k, hR, hW, hT, rfl, rfl, rfl, hs, hg, hk, ha, hb⟩ := h
    obtain ⟨k8, k9, l9, -, -, ⟨k12, l12⟩, -⟩ := id hw
    have hcO := hW.cOK
    have hO8 := hW.2.2.1.1
    refine vc_X10_delivers hl hI (ok_X10_isThere hl) (ok_X10_canDeliver hl) (ok_X10_deliverIn hl) (Nat.le_of_ble_eq_true rfl) (fun M h0 h20 => h0 [.ref 8, .int (nI s), .int (nI g), .int (nI k)] [] σ ?_)
    have f20 : ∀ L, ¬ rO n.1 n.2.1.length (nI s) (nI g) (nI k) = 0 → M 20 L [] σ := fun L q => h20 _ _ _ (by simp (disch := omega) only [bX10_delivers_20, q_ci, q_cl, q_ild, q_lld, q_ald, q_ist, q_ast, q_lst, q_inc, q_b2, q_d2, q_u1, q_l2, q_ld2, q_lsh, q_lcmp, q_i2l, q_l2i, q_dupi, q_dupr, q_dup2, q_popi, q_popr, q_if1, q_if2, q_nn, q_sw, q_swn, q_swc, q_gf, q_gr, q_pf, q_pz, q_pc, q_ia, q_is, q_cs, q_zs, q_la, q_lw, q_aa, q_al, q_gs, q_acp, q_m2, q_m1, q_ir, q_zr, q_lr, q_ar, q_vr, q_cN0, q_cSX0, q_cV0, q_cVX0, q_cN1, q_cSX1, q_cV1, q_cVX1, q_cN2, q_cSX2, q_cV2, q_cVX2, q_cN3, q_cSX3, q_cV3, q_cVX3, q_cN4, q_cSX4, q_cV4, q_cVX4, q_cN5, q_cSX5, q_cV5, q_cVX5, q_cN6, q_cSX6, q_cV6, q_cVX6, q_th, q_sh0, q_sh1, q_sh2, q_sh3, q_sh4, q_toL0, q_toL1, q_gl0, q_gls, q_sl0, q_sls, q_k10, q_k1s, q_lgi, q_lgr, q_lgl, q_lgn, Bool.not_false, and_true, true_and, nz_2, nz_4, nz_5, nz_8, nz_10, nz_12, nz_14, nz_16, nz_40, nz_41, nz_64, nz_100, nz_1000, nz_1024, nz_4096, nz_10000, nz_100000, not_false_eq_true, bI_0, nI_add, pk_mul, nI_lt', nI_le', nI_eq', nI_z, nI_p, nI_e0, nI_l0, nI_le0, nI_clamp, up_eq, up_ne, not_true_eq_false, Classical.not_not, false_implies, true_implies, false_and, and_false, or_true, true_or, Nat.add_zero, pk_m1, m1_0, m1_n, m1_p, Nat.zero_le, forall_const, Nat.zero_add, Nat.reduceAdd, Nat.reduceEqDiff, or_false, false_or, Nat.one_ne_zero, l64_2, l64_3, l64_4, l64_5, l64_7, l64_9, l64_10, l64_11, l64_15, l64_20, l64_30, l64_40, l64_60, l64_99, l64_255, l64_999, le64l, le64r, le64b, le64n, rset_eq, rset_upd, rset_rset, upd_nep, upd_eqp, ix21_4k, ix21_1, ix21_2, ix21_3, ix21_4, ix21_5, ix21_6, ix21_7, ix21_8, ix21_9, ix21_10, ix76_1, ix76_2, ix76_3, ix100_1, ix100_2, ix100_3, Nat.lt_irrefl, zl1, zl2, zl3, implies_true]; exact hb q)
    simp (disch := omega) only [bX10_delivers_0, sp_X10_isThere, sp_X10_canDeliver, sp_X10_deliverIn, k8, k12, l12, q_ci, q_cl, q_ild, q_lld, q_ald, q_ist, q_ast, q_lst, q_inc, q_b2, q_d2, q_u1, q_l2, q_ld2, q_lsh, q_lcmp, q_i2l, q_l2i, q_dupi, q_dupr, q_dup2, q_popi, q_popr, q_if1, q_if2, q_nn, q_sw, q_swn, q_swc, q_gf, q_gr, q_pf, q_pz, q_pc, q_ia, q_is, q_cs, q_zs, q_la, q_lw, q_aa, q_al, q_gs, q_acp, q_m2, q_m1, q_ir, q_zr, q_lr, q_ar, q_vr, q_cN0, q_cSX0, q_cV0, q_cVX0, q_cN1, q_cSX1, q_cV1, q_cVX1, q_cN2, q_cSX2, q_cV2, q_cVX2, q_cN3, q_cSX3, q_cV3, q_cVX3, q_cN4, q_cSX4, q_cV4, q_cVX4, q_cN5, q_cSX5, q_cV5, q_cVX5, q_cN6, q_cSX6, q_cV6, q_cVX6, q_th, q_sh0, q_sh1, q_sh2, q_sh3, q_sh4, q_toL0, q_toL1, q_gl0, q_gls, q_sl0, q_sls, q_k10, q_k1s, q_lgi, q_lgr, q_lgl, q_lgn, Bool.not_false, and_true, true_and, nz_2, nz_4, nz_5, nz_8, nz_10, nz_12, nz_14, nz_16, nz_40, nz_41, nz_64, nz_100, nz_1000, nz_1024, nz_4096, nz_10000, nz_100000, not_false_eq_true, bI_0, nI_add, pk_mul, nI_lt', nI_le', nI_eq', nI_z, nI_p, nI_e0, nI_l0, nI_le0, nI_clamp, up_eq, up_ne, not_true_eq_false, Classical.not_not, false_implies, true_implies, false_and, and_false, or_true, true_or, Nat.add_zero, pk_m1, m1_0, m1_n, m1_p, Nat.zero_le, forall_const, Nat.zero_add, Nat.reduceAdd, Nat.reduceEqDiff, or_false, false_or, Nat.one_ne_zero, l64_2, l64_3, l64_4, l64_5, l64_7, l64_9, l64_10, l64_11, l64_15, l64_20, l64_30, l64_40, l64_60, l64_99, l64_255, l64_999, le64l, le64r, le64b, le64n, rset_eq, rset_upd, rset_rset, upd_nep, upd_eqp, ix21_4k, ix21_1, ix21_2, ix21_3, ix21_4, ix21_5, ix21_6, ix21_7, ix21_8, ix21_9, ix21_10, ix76_1, ix76_2, ix76_3, ix100_1, ix100_2, ix100_3, Nat.lt_irrefl, zl1, zl2, zl3, implies_true]
    refine ⟨hw, n, s, hR, hcO, rfl, by omega, fun q1 => f20 _ (fun q2 => q1 ((rO_n hcO (by omega) (by omega) (by omega)).mp q2).1), fun q1 => ⟨⟨k12, l12⟩, n, g, k, hR, rfl, rfl, by omega, by omega, hO8, fun q2 => ?_, fun q2 => f20 _ (fun q3 => q2 ((rO_n hcO (by omega) (by omega) (by omega)).mp q3).2)⟩⟩
    exact ⟨⟨k12, l12⟩, n, T, s, g, k, hR, hW.1, by omega, q2.2, rfl, rfl, rfl, hs, by omega, by omega, fun r' hr' => ⟨nI_one, ha ((rO_n hcO (by omega) (by omega) (by omega)).mpr ⟨q1, q2⟩) _ (by rw [rset_eq]; exact hr') FD.r12⟩⟩
set_option maxRecDepth 20000 in
set_option maxHeartbeats 4000000 in
theorem ok_X10_moves {l : Launch} (hl : l.stackTraces = false) : ab_OkN l yX10_moves (Cond.code yX10_moves cX10_moves 3 (some .boolean)) 4 sp_X10_moves := by
  intro w σ As Kn hI h
  unfold sp_X10_moves at h
  split at h
  rotate_left 1
  · exact h.elim
  next a s t =>
    obtain ⟨rfl, hw, n, T, s, t, hR, hW, hT, rfl, rfl, hs, ht, ha, hb⟩ := h
    obtain ⟨k8, k9, l9, -, -, ⟨k12, l12⟩, -⟩ := id hw
    have hcO := hW.cOK
    have h5 := hcO.2
    have hM := rM_n hcO (s := s) (t := t) (by omega) (by omega)
    refine vc_X10_moves hl hI (ok_X10_isThere hl) (ok_X10_canMove hl) (ok_X10_moveIn hl) (Nat.le_of_ble_eq_true rfl) (fun M h0 h28 => h0 [.ref 8, .int (nI s), .int (nI t)] [] σ ?_)
    have f28 : ∀ L, ¬ rM n.1 (nI s) (nI t) = 0 → M 28 L [] σ := fun L q => h28 _ _ _ (by simp (disch := omega) only [bX10_moves_28, q_ci, q_cl, q_ild, q_lld, q_ald, q_ist, q_ast, q_lst, q_inc, q_b2, q_d2, q_u1, q_l2, q_ld2, q_lsh, q_lcmp, q_i2l, q_l2i, q_dupi, q_dupr, q_dup2, q_popi, q_popr, q_if1, q_if2, q_nn, q_sw, q_swn, q_swc, q_gf, q_gr, q_pf, q_pz, q_pc, q_ia, q_is, q_cs, q_zs, q_la, q_lw, q_aa, q_al, q_gs, q_acp, q_m2, q_m1, q_ir, q_zr, q_lr, q_ar, q_vr, q_cN0, q_cSX0, q_cV0, q_cVX0, q_cN1, q_cSX1, q_cV1, q_cVX1, q_cN2, q_cSX2, q_cV2, q_cVX2, q_cN3, q_cSX3, q_cV3, q_cVX3, q_cN4, q_cSX4, q_cV4, q_cVX4, q_cN5, q_cSX5, q_cV5, q_cVX5, q_cN6, q_cSX6, q_cV6, q_cVX6, q_th, q_sh0, q_sh1, q_sh2, q_sh3, q_sh4, q_toL0, q_toL1, q_gl0, q_gls, q_sl0, q_sls, q_k10, q_k1s, q_lgi, q_lgr, q_lgl, q_lgn, Bool.not_false, and_true, true_and, nz_2, nz_4, nz_5, nz_8, nz_10, nz_12, nz_14, nz_16, nz_40, nz_41, nz_64, nz_100, nz_1000, nz_1024, nz_4096, nz_10000, nz_100000, not_false_eq_true, bI_0, nI_add, pk_mul, nI_lt', nI_le', nI_eq', nI_z, nI_p, nI_e0, nI_l0, nI_le0, nI_clamp, up_eq, up_ne, not_true_eq_false, Classical.not_not, false_implies, true_implies, false_and, and_false, or_true, true_or, Nat.add_zero, pk_m1, m1_0, m1_n, m1_p, Nat.zero_le, forall_const, Nat.zero_add, Nat.reduceAdd, Nat.reduceEqDiff, or_false, false_or, Nat.one_ne_zero, l64_2, l64_3, l64_4, l64_5, l64_7, l64_9, l64_10, l64_11, l64_15, l64_20, l64_30, l64_40, l64_60, l64_99, l64_255, l64_999, le64l, le64r, le64b, le64n, rset_eq, rset_upd, rset_rset, upd_nep, upd_eqp, ix21_4k, ix21_1, ix21_2, ix21_3, ix21_4, ix21_5, ix21_6, ix21_7, ix21_8, ix21_9, ix21_10, ix76_1, ix76_2, ix76_3, ix100_1, ix100_2, ix100_3, Nat.lt_irrefl, zl1, zl2, zl3, implies_true]; exact hb q)
    simp (disch := omega) only [bX10_moves_0, sp_X10_isThere, sp_X10_canMove, sp_X10_moveIn, k8, k12, l12, q_ci, q_cl, q_ild, q_lld, q_ald, q_ist, q_ast, q_lst, q_inc, q_b2, q_d2, q_u1, q_l2, q_ld2, q_lsh, q_lcmp, q_i2l, q_l2i, q_dupi, q_dupr, q_dup2, q_popi, q_popr, q_if1, q_if2, q_nn, q_sw, q_swn, q_swc, q_gf, q_gr, q_pf, q_pz, q_pc, q_ia, q_is, q_cs, q_zs, q_la, q_lw, q_aa, q_al, q_gs, q_acp, q_m2, q_m1, q_ir, q_zr, q_lr, q_ar, q_vr, q_cN0, q_cSX0, q_cV0, q_cVX0, q_cN1, q_cSX1, q_cV1, q_cVX1, q_cN2, q_cSX2, q_cV2, q_cVX2, q_cN3, q_cSX3, q_cV3, q_cVX3, q_cN4, q_cSX4, q_cV4, q_cVX4, q_cN5, q_cSX5, q_cV5, q_cVX5, q_cN6, q_cSX6, q_cV6, q_cVX6, q_th, q_sh0, q_sh1, q_sh2, q_sh3, q_sh4, q_toL0, q_toL1, q_gl0, q_gls, q_sl0, q_sls, q_k10, q_k1s, q_lgi, q_lgr, q_lgl, q_lgn, Bool.not_false, and_true, true_and, nz_2, nz_4, nz_5, nz_8, nz_10, nz_12, nz_14, nz_16, nz_40, nz_41, nz_64, nz_100, nz_1000, nz_1024, nz_4096, nz_10000, nz_100000, not_false_eq_true, bI_0, nI_add, pk_mul, nI_lt', nI_le', nI_eq', nI_z, nI_p, nI_e0, nI_l0, nI_le0, nI_clamp, up_eq, up_ne, not_true_eq_false, Classical.not_not, false_implies, true_implies, false_and, and_false, or_true, true_or, Nat.add_zero, pk_m1, m1_0, m1_n, m1_p, Nat.zero_le, forall_const, Nat.zero_add, Nat.reduceAdd, Nat.reduceEqDiff, or_false, false_or, Nat.one_ne_zero, l64_2, l64_3, l64_4, l64_5, l64_7, l64_9, l64_10, l64_11, l64_15, l64_20, l64_30, l64_40, l64_60, l64_99, l64_255, l64_999, le64l, le64r, le64b, le64n, rset_eq, rset_upd, rset_rset, upd_nep, upd_eqp, ix21_4k, ix21_1, ix21_2, ix21_3, ix21_4, ix21_5, ix21_6, ix21_7, ix21_8, ix21_9, ix21_10, ix76_1, ix76_2, ix76_3, ix100_1, ix100_2, ix100_3, Nat.lt_irrefl, zl1, zl2, zl3, implies_true]
    refine ⟨hw, n, s, hR, hcO, rfl, by omega, fun q1 => f28 _ (fun q2 => q1 (hM.mp q2).1), fun q1 => ⟨hw, n, t, hR, hcO, rfl, by omega, fun q2 => f28 _ (fun q3 => q2 (hM.mp q3).2.1), fun q2 => ⟨⟨k12, l12⟩, n, s, t, hR, rfl, rfl, by omega, by omega, fun q3 => ?_, fun q3 => f28 _ (fun q4 => q3 (hM.mp q4).2.2)⟩⟩⟩
    obtain ⟨m, hm⟩ := Option.ne_none_iff_exists'.mp q3.2
    exact ⟨⟨k12, l12⟩, n, s, t, m, hR, rfl, by omega, rfl, by omega, q3.1, hm, fun r' hr' => ⟨nI_one, ha (hM.mpr ⟨q1, q2, q3⟩) _ (by rw [rset_eq]; exact hr') FD.r12⟩⟩
set_option maxRecDepth 20000 in
set_option maxHeartbeats 4000000 in
theorem ok_X10_changes {l : Launch} (hl : l.stackTraces = false) : ab_OkN l yX10_changes (Cond.code yX10_changes cX10_changes 4 (some .boolean)) 3 sp_X10_changes := by
  intro w σ As Kn hI h
  unfold sp_X10_changes at h
  split at h
  rotate_left 1
  · exact h.elim
  next a s p z =>
    obtain ⟨rfl, hw, n, T, s, hR, hW, hT, rfl, hs, ha, hb⟩ := h
    obtain ⟨k8, k9, l9, -, -, ⟨k12, l12⟩, -⟩ := id hw
    have hcO := hW.cOK
    have h5 := hcO.2
    have hM := rC_n hcO (s := s) (p := p) (z := z) (by omega)
    refine vc_X10_changes hl hI (ok_X10_isThere hl) (ok_X10_isShape hl) (ok_X10_changeIn hl) (Nat.le_of_ble_eq_true rfl) (fun M h0 h16 => h0 [.ref 8, .int (nI s), .int p, .int z] [] σ ?_)
    have f16 : ∀ L, ¬ rC n.1 (nI s) p z = 0 → M 16 L [] σ := fun L q => h16 _ _ _ (by simp (disch := omega) only [bX10_changes_16, q_ci, q_cl, q_ild, q_lld, q_ald, q_ist, q_ast, q_lst, q_inc, q_b2, q_d2, q_u1, q_l2, q_ld2, q_lsh, q_lcmp, q_i2l, q_l2i, q_dupi, q_dupr, q_dup2, q_popi, q_popr, q_if1, q_if2, q_nn, q_sw, q_swn, q_swc, q_gf, q_gr, q_pf, q_pz, q_pc, q_ia, q_is, q_cs, q_zs, q_la, q_lw, q_aa, q_al, q_gs, q_acp, q_m2, q_m1, q_ir, q_zr, q_lr, q_ar, q_vr, q_cN0, q_cSX0, q_cV0, q_cVX0, q_cN1, q_cSX1, q_cV1, q_cVX1, q_cN2, q_cSX2, q_cV2, q_cVX2, q_cN3, q_cSX3, q_cV3, q_cVX3, q_cN4, q_cSX4, q_cV4, q_cVX4, q_cN5, q_cSX5, q_cV5, q_cVX5, q_cN6, q_cSX6, q_cV6, q_cVX6, q_th, q_sh0, q_sh1, q_sh2, q_sh3, q_sh4, q_toL0, q_toL1, q_gl0, q_gls, q_sl0, q_sls, q_k10, q_k1s, q_lgi, q_lgr, q_lgl, q_lgn, Bool.not_false, and_true, true_and, nz_2, nz_4, nz_5, nz_8, nz_10, nz_12, nz_14, nz_16, nz_40, nz_41, nz_64, nz_100, nz_1000, nz_1024, nz_4096, nz_10000, nz_100000, not_false_eq_true, bI_0, nI_add, pk_mul, nI_lt', nI_le', nI_eq', nI_z, nI_p, nI_e0, nI_l0, nI_le0, nI_clamp, up_eq, up_ne, not_true_eq_false, Classical.not_not, false_implies, true_implies, false_and, and_false, or_true, true_or, Nat.add_zero, pk_m1, m1_0, m1_n, m1_p, Nat.zero_le, forall_const, Nat.zero_add, Nat.reduceAdd, Nat.reduceEqDiff, or_false, false_or, Nat.one_ne_zero, l64_2, l64_3, l64_4, l64_5, l64_7, l64_9, l64_10, l64_11, l64_15, l64_20, l64_30, l64_40, l64_60, l64_99, l64_255, l64_999, le64l, le64r, le64b, le64n, rset_eq, rset_upd, rset_rset, upd_nep, upd_eqp, ix21_4k, ix21_1, ix21_2, ix21_3, ix21_4, ix21_5, ix21_6, ix21_7, ix21_8, ix21_9, ix21_10, ix76_1, ix76_2, ix76_3, ix100_1, ix100_2, ix100_3, Nat.lt_irrefl, zl1, zl2, zl3, implies_true]; exact hb q)
    simp (disch := omega) only [bX10_changes_0, sp_X10_isThere, sp_X10_isShape, sp_X10_changeIn, k8, k12, l12, q_ci, q_cl, q_ild, q_lld, q_ald, q_ist, q_ast, q_lst, q_inc, q_b2, q_d2, q_u1, q_l2, q_ld2, q_lsh, q_lcmp, q_i2l, q_l2i, q_dupi, q_dupr, q_dup2, q_popi, q_popr, q_if1, q_if2, q_nn, q_sw, q_swn, q_swc, q_gf, q_gr, q_pf, q_pz, q_pc, q_ia, q_is, q_cs, q_zs, q_la, q_lw, q_aa, q_al, q_gs, q_acp, q_m2, q_m1, q_ir, q_zr, q_lr, q_ar, q_vr, q_cN0, q_cSX0, q_cV0, q_cVX0, q_cN1, q_cSX1, q_cV1, q_cVX1, q_cN2, q_cSX2, q_cV2, q_cVX2, q_cN3, q_cSX3, q_cV3, q_cVX3, q_cN4, q_cSX4, q_cV4, q_cVX4, q_cN5, q_cSX5, q_cV5, q_cVX5, q_cN6, q_cSX6, q_cV6, q_cVX6, q_th, q_sh0, q_sh1, q_sh2, q_sh3, q_sh4, q_toL0, q_toL1, q_gl0, q_gls, q_sl0, q_sls, q_k10, q_k1s, q_lgi, q_lgr, q_lgl, q_lgn, Bool.not_false, and_true, true_and, nz_2, nz_4, nz_5, nz_8, nz_10, nz_12, nz_14, nz_16, nz_40, nz_41, nz_64, nz_100, nz_1000, nz_1024, nz_4096, nz_10000, nz_100000, not_false_eq_true, bI_0, nI_add, pk_mul, nI_lt', nI_le', nI_eq', nI_z, nI_p, nI_e0, nI_l0, nI_le0, nI_clamp, up_eq, up_ne, not_true_eq_false, Classical.not_not, false_implies, true_implies, false_and, and_false, or_true, true_or, Nat.add_zero, pk_m1, m1_0, m1_n, m1_p, Nat.zero_le, forall_const, Nat.zero_add, Nat.reduceAdd, Nat.reduceEqDiff, or_false, false_or, Nat.one_ne_zero, l64_2, l64_3, l64_4, l64_5, l64_7, l64_9, l64_10, l64_11, l64_15, l64_20, l64_30, l64_40, l64_60, l64_99, l64_255, l64_999, le64l, le64r, le64b, le64n, rset_eq, rset_upd, rset_rset, upd_nep, upd_eqp, ix21_4k, ix21_1, ix21_2, ix21_3, ix21_4, ix21_5, ix21_6, ix21_7, ix21_8, ix21_9, ix21_10, ix76_1, ix76_2, ix76_3, ix100_1, ix100_2, ix100_3, Nat.lt_irrefl, zl1, zl2, zl3, implies_true]
    refine ⟨hw, n, s, hR, hcO, rfl, by omega, fun q1 => f16 _ (fun q2 => q1 (hM.mp q2).1), fun q1 => ⟨fun q2 => ?_, fun q2 => f16 _ (fun q3 => q2 (hM.mp q3).2)⟩⟩
    exact ⟨⟨k12, l12⟩, n, s, hR, rfl, by omega, fun r' hr' => ⟨nI_one, ha (hM.mpr ⟨q1, q2⟩) _ (by rw [rset_eq]; exact hr') FD.r12⟩⟩
set_option maxRecDepth 20000 in
set_option maxHeartbeats 4000000 in
theorem ok_X10_blows {l : Launch} (hl : l.stackTraces = false) : ab_OkN l yX10_blows (Cond.code yX10_blows cX10_blows 3 (some .boolean)) 3 sp_X10_blows := by
  intro w σ As Kn hI h
  unfold sp_X10_blows at h
  split at h
  rotate_left 1
  · exact h.elim
  next a h' v =>
    obtain ⟨rfl, hw, n, hR, ha, hb⟩ := h
    obtain ⟨k8, k9, l9, -, -, ⟨k12, l12⟩, -⟩ := id hw
    refine vc_X10_blows hl hI (ok_X10_isHour hl) (ok_X10_isWind hl) (Nat.le_of_ble_eq_true rfl) (fun M h0 h14 => h0 [.ref 8, .int h', .int v] [] σ ?_)
    have f14 : ∀ L, ¬ rW h' v = 0 → M 14 L [] σ := fun L q => h14 _ _ _ (by simp (disch := omega) only [bX10_blows_14, q_ci, q_cl, q_ild, q_lld, q_ald, q_ist, q_ast, q_lst, q_inc, q_b2, q_d2, q_u1, q_l2, q_ld2, q_lsh, q_lcmp, q_i2l, q_l2i, q_dupi, q_dupr, q_dup2, q_popi, q_popr, q_if1, q_if2, q_nn, q_sw, q_swn, q_swc, q_gf, q_gr, q_pf, q_pz, q_pc, q_ia, q_is, q_cs, q_zs, q_la, q_lw, q_aa, q_al, q_gs, q_acp, q_m2, q_m1, q_ir, q_zr, q_lr, q_ar, q_vr, q_cN0, q_cSX0, q_cV0, q_cVX0, q_cN1, q_cSX1, q_cV1, q_cVX1, q_cN2, q_cSX2, q_cV2, q_cVX2, q_cN3, q_cSX3, q_cV3, q_cVX3, q_cN4, q_cSX4, q_cV4, q_cVX4, q_cN5, q_cSX5, q_cV5, q_cVX5, q_cN6, q_cSX6, q_cV6, q_cVX6, q_th, q_sh0, q_sh1, q_sh2, q_sh3, q_sh4, q_toL0, q_toL1, q_gl0, q_gls, q_sl0, q_sls, q_k10, q_k1s, q_lgi, q_lgr, q_lgl, q_lgn, Bool.not_false, and_true, true_and, nz_2, nz_4, nz_5, nz_8, nz_10, nz_12, nz_14, nz_16, nz_40, nz_41, nz_64, nz_100, nz_1000, nz_1024, nz_4096, nz_10000, nz_100000, not_false_eq_true, bI_0, nI_add, pk_mul, nI_lt', nI_le', nI_eq', nI_z, nI_p, nI_e0, nI_l0, nI_le0, nI_clamp, up_eq, up_ne, not_true_eq_false, Classical.not_not, false_implies, true_implies, false_and, and_false, or_true, true_or, Nat.add_zero, pk_m1, m1_0, m1_n, m1_p, Nat.zero_le, forall_const, Nat.zero_add, Nat.reduceAdd, Nat.reduceEqDiff, or_false, false_or, Nat.one_ne_zero, l64_2, l64_3, l64_4, l64_5, l64_7, l64_9, l64_10, l64_11, l64_15, l64_20, l64_30, l64_40, l64_60, l64_99, l64_255, l64_999, le64l, le64r, le64b, le64n, rset_eq, rset_upd, rset_rset, upd_nep, upd_eqp, ix21_4k, ix21_1, ix21_2, ix21_3, ix21_4, ix21_5, ix21_6, ix21_7, ix21_8, ix21_9, ix21_10, ix76_1, ix76_2, ix76_3, ix100_1, ix100_2, ix100_3, Nat.lt_irrefl, zl1, zl2, zl3, implies_true]; exact hb q)
    by_cases hok : okW h' v
    · obtain ⟨k, -, hk, rfl⟩ := ab_lo (a := 0) (b := 3) (by omega) (by omega) hok.1.1 hok.1.2
      have vk : vp_in (nI (17 + k)) 304 := vp_in_nI (by omega) (by omega)
      rw [cl_nI (by omega)] at ha
      simp (disch := omega) only [bX10_blows_0, sp_X10_isHour, sp_X10_isWind, k8, k12, l12, q_ci, q_cl, q_ild, q_lld, q_ald, q_ist, q_ast, q_lst, q_inc, q_b2, q_d2, q_u1, q_l2, q_ld2, q_lsh, q_lcmp, q_i2l, q_l2i, q_dupi, q_dupr, q_dup2, q_popi, q_popr, q_if1, q_if2, q_nn, q_sw, q_swn, q_swc, q_gf, q_gr, q_pf, q_pz, q_pc, q_ia, q_is, q_cs, q_zs, q_la, q_lw, q_aa, q_al, q_gs, q_acp, q_m2, q_m1, q_ir, q_zr, q_lr, q_ar, q_vr, q_cN0, q_cSX0, q_cV0, q_cVX0, q_cN1, q_cSX1, q_cV1, q_cVX1, q_cN2, q_cSX2, q_cV2, q_cVX2, q_cN3, q_cSX3, q_cV3, q_cVX3, q_cN4, q_cSX4, q_cV4, q_cVX4, q_cN5, q_cSX5, q_cV5, q_cVX5, q_cN6, q_cSX6, q_cV6, q_cVX6, q_th, q_sh0, q_sh1, q_sh2, q_sh3, q_sh4, q_toL0, q_toL1, q_gl0, q_gls, q_sl0, q_sls, q_k10, q_k1s, q_lgi, q_lgr, q_lgl, q_lgn, Bool.not_false, and_true, true_and, nz_2, nz_4, nz_5, nz_8, nz_10, nz_12, nz_14, nz_16, nz_40, nz_41, nz_64, nz_100, nz_1000, nz_1024, nz_4096, nz_10000, nz_100000, not_false_eq_true, bI_0, nI_add, pk_mul, nI_lt', nI_le', nI_eq', nI_z, nI_p, nI_e0, nI_l0, nI_le0, nI_clamp, up_eq, up_ne, not_true_eq_false, Classical.not_not, false_implies, true_implies, false_and, and_false, or_true, true_or, Nat.add_zero, pk_m1, m1_0, m1_n, m1_p, Nat.zero_le, forall_const, Nat.zero_add, Nat.reduceAdd, Nat.reduceEqDiff, or_false, false_or, Nat.one_ne_zero, l64_2, l64_3, l64_4, l64_5, l64_7, l64_9, l64_10, l64_11, l64_15, l64_20, l64_30, l64_40, l64_60, l64_99, l64_255, l64_999, le64l, le64r, le64b, le64n, rset_eq, rset_upd, rset_rset, upd_nep, upd_eqp, ix21_4k, ix21_1, ix21_2, ix21_3, ix21_4, ix21_5, ix21_6, ix21_7, ix21_8, ix21_9, ix21_10, ix76_1, ix76_2, ix76_3, ix100_1, ix100_2, ix100_3, Nat.lt_irrefl, zl1, zl2, zl3, implies_true]
      refine ⟨fun q => absurd hok.1 q, fun _ => ⟨fun _ => ⟨vk, ?_⟩, fun q => absurd hok.2 q⟩⟩
      rw [rset_upd1]
      exact ⟨nI_one, ha (rW_i.mpr hok) _ (by rw [rset_eq]; exact hR.up v (by omega) (by omega) (by omega) (by omega)) FD.r12⟩
    · simp (disch := omega) only [bX10_blows_0, sp_X10_isHour, sp_X10_isWind, k8, k12, l12, q_ci, q_cl, q_ild, q_lld, q_ald, q_ist, q_ast, q_lst, q_inc, q_b2, q_d2, q_u1, q_l2, q_ld2, q_lsh, q_lcmp, q_i2l, q_l2i, q_dupi, q_dupr, q_dup2, q_popi, q_popr, q_if1, q_if2, q_nn, q_sw, q_swn, q_swc, q_gf, q_gr, q_pf, q_pz, q_pc, q_ia, q_is, q_cs, q_zs, q_la, q_lw, q_aa, q_al, q_gs, q_acp, q_m2, q_m1, q_ir, q_zr, q_lr, q_ar, q_vr, q_cN0, q_cSX0, q_cV0, q_cVX0, q_cN1, q_cSX1, q_cV1, q_cVX1, q_cN2, q_cSX2, q_cV2, q_cVX2, q_cN3, q_cSX3, q_cV3, q_cVX3, q_cN4, q_cSX4, q_cV4, q_cVX4, q_cN5, q_cSX5, q_cV5, q_cVX5, q_cN6, q_cSX6, q_cV6, q_cVX6, q_th, q_sh0, q_sh1, q_sh2, q_sh3, q_sh4, q_toL0, q_toL1, q_gl0, q_gls, q_sl0, q_sls, q_k10, q_k1s, q_lgi, q_lgr, q_lgl, q_lgn, Bool.not_false, and_true, true_and, nz_2, nz_4, nz_5, nz_8, nz_10, nz_12, nz_14, nz_16, nz_40, nz_41, nz_64, nz_100, nz_1000, nz_1024, nz_4096, nz_10000, nz_100000, not_false_eq_true, bI_0, nI_add, pk_mul, nI_lt', nI_le', nI_eq', nI_z, nI_p, nI_e0, nI_l0, nI_le0, nI_clamp, up_eq, up_ne, not_true_eq_false, Classical.not_not, false_implies, true_implies, false_and, and_false, or_true, true_or, Nat.add_zero, pk_m1, m1_0, m1_n, m1_p, Nat.zero_le, forall_const, Nat.zero_add, Nat.reduceAdd, Nat.reduceEqDiff, or_false, false_or, Nat.one_ne_zero, l64_2, l64_3, l64_4, l64_5, l64_7, l64_9, l64_10, l64_11, l64_15, l64_20, l64_30, l64_40, l64_60, l64_99, l64_255, l64_999, le64l, le64r, le64b, le64n, rset_eq, rset_upd, rset_rset, upd_nep, upd_eqp, ix21_4k, ix21_1, ix21_2, ix21_3, ix21_4, ix21_5, ix21_6, ix21_7, ix21_8, ix21_9, ix21_10, ix76_1, ix76_2, ix76_3, ix100_1, ix100_2, ix100_3, Nat.lt_irrefl, zl1, zl2, zl3, implies_true]
      exact ⟨fun _ => f14 _ (fun q => hok (rW_i.mp q)), fun q => ⟨fun q2 => absurd ⟨q, q2⟩ hok, fun _ => f14 _ (fun q => hok (rW_i.mp q))⟩⟩
set_option maxRecDepth 20000 in
set_option maxHeartbeats 4000000 in
theorem ok_X10_sets {l : Launch} (hl : l.stackTraces = false) : ab_OkN l yX10_sets (Cond.code yX10_sets cX10_sets 3 (some .boolean)) 3 sp_X10_sets := by
  intro w σ As Kn hI h
  unfold sp_X10_sets at h
  split at h
  rotate_left 1
  · exact h.elim
  next a i v =>
    obtain ⟨rfl, hw, n, hR, ha, hb⟩ := h
    obtain ⟨k8, k9, l9, -, -, ⟨k12, l12⟩, -⟩ := id hw
    refine vc_X10_sets hl hI (ok_X10_isSetting hl) (Nat.le_of_ble_eq_true rfl) (fun M h0 => h0 [.ref 8, .int i, .int v] [] σ ?_)
    by_cases hok : okT i v
    · obtain ⟨k, -, hk, rfl⟩ := ab_lo (a := 0) (b := 4) (by omega) (by omega) hok.1.1 hok.1.2
      have vk : vp_in (nI (12 + k)) 304 := vp_in_nI (by omega) (by omega)
      rw [cl_nI (by omega)] at ha
      simp (disch := omega) only [bX10_sets_0, sp_X10_isSetting, k8, k12, l12, q_ci, q_cl, q_ild, q_lld, q_ald, q_ist, q_ast, q_lst, q_inc, q_b2, q_d2, q_u1, q_l2, q_ld2, q_lsh, q_lcmp, q_i2l, q_l2i, q_dupi, q_dupr, q_dup2, q_popi, q_popr, q_if1, q_if2, q_nn, q_sw, q_swn, q_swc, q_gf, q_gr, q_pf, q_pz, q_pc, q_ia, q_is, q_cs, q_zs, q_la, q_lw, q_aa, q_al, q_gs, q_acp, q_m2, q_m1, q_ir, q_zr, q_lr, q_ar, q_vr, q_cN0, q_cSX0, q_cV0, q_cVX0, q_cN1, q_cSX1, q_cV1, q_cVX1, q_cN2, q_cSX2, q_cV2, q_cVX2, q_cN3, q_cSX3, q_cV3, q_cVX3, q_cN4, q_cSX4, q_cV4, q_cVX4, q_cN5, q_cSX5, q_cV5, q_cVX5, q_cN6, q_cSX6, q_cV6, q_cVX6, q_th, q_sh0, q_sh1, q_sh2, q_sh3, q_sh4, q_toL0, q_toL1, q_gl0, q_gls, q_sl0, q_sls, q_k10, q_k1s, q_lgi, q_lgr, q_lgl, q_lgn, Bool.not_false, and_true, true_and, nz_2, nz_4, nz_5, nz_8, nz_10, nz_12, nz_14, nz_16, nz_40, nz_41, nz_64, nz_100, nz_1000, nz_1024, nz_4096, nz_10000, nz_100000, not_false_eq_true, bI_0, nI_add, pk_mul, nI_lt', nI_le', nI_eq', nI_z, nI_p, nI_e0, nI_l0, nI_le0, nI_clamp, up_eq, up_ne, not_true_eq_false, Classical.not_not, false_implies, true_implies, false_and, and_false, or_true, true_or, Nat.add_zero, pk_m1, m1_0, m1_n, m1_p, Nat.zero_le, forall_const, Nat.zero_add, Nat.reduceAdd, Nat.reduceEqDiff, or_false, false_or, Nat.one_ne_zero, l64_2, l64_3, l64_4, l64_5, l64_7, l64_9, l64_10, l64_11, l64_15, l64_20, l64_30, l64_40, l64_60, l64_99, l64_255, l64_999, le64l, le64r, le64b, le64n, rset_eq, rset_upd, rset_rset, upd_nep, upd_eqp, ix21_4k, ix21_1, ix21_2, ix21_3, ix21_4, ix21_5, ix21_6, ix21_7, ix21_8, ix21_9, ix21_10, ix76_1, ix76_2, ix76_3, ix100_1, ix100_2, ix100_3, Nat.lt_irrefl, zl1, zl2, zl3, implies_true]
      refine ⟨fun _ => ⟨vk, ?_⟩, fun q => absurd hok q⟩
      rw [rset_upd1]
      exact ⟨nI_one, ha (rT_i.mpr hok) _ (by rw [rset_eq]; exact hR.up v (by omega) (by omega) (by omega) (by omega)) FD.r12⟩
    · simp (disch := omega) only [bX10_sets_0, sp_X10_isSetting, k8, k12, l12, q_ci, q_cl, q_ild, q_lld, q_ald, q_ist, q_ast, q_lst, q_inc, q_b2, q_d2, q_u1, q_l2, q_ld2, q_lsh, q_lcmp, q_i2l, q_l2i, q_dupi, q_dupr, q_dup2, q_popi, q_popr, q_if1, q_if2, q_nn, q_sw, q_swn, q_swc, q_gf, q_gr, q_pf, q_pz, q_pc, q_ia, q_is, q_cs, q_zs, q_la, q_lw, q_aa, q_al, q_gs, q_acp, q_m2, q_m1, q_ir, q_zr, q_lr, q_ar, q_vr, q_cN0, q_cSX0, q_cV0, q_cVX0, q_cN1, q_cSX1, q_cV1, q_cVX1, q_cN2, q_cSX2, q_cV2, q_cVX2, q_cN3, q_cSX3, q_cV3, q_cVX3, q_cN4, q_cSX4, q_cV4, q_cVX4, q_cN5, q_cSX5, q_cV5, q_cVX5, q_cN6, q_cSX6, q_cV6, q_cVX6, q_th, q_sh0, q_sh1, q_sh2, q_sh3, q_sh4, q_toL0, q_toL1, q_gl0, q_gls, q_sl0, q_sls, q_k10, q_k1s, q_lgi, q_lgr, q_lgl, q_lgn, Bool.not_false, and_true, true_and, nz_2, nz_4, nz_5, nz_8, nz_10, nz_12, nz_14, nz_16, nz_40, nz_41, nz_64, nz_100, nz_1000, nz_1024, nz_4096, nz_10000, nz_100000, not_false_eq_true, bI_0, nI_add, pk_mul, nI_lt', nI_le', nI_eq', nI_z, nI_p, nI_e0, nI_l0, nI_le0, nI_clamp, up_eq, up_ne, not_true_eq_false, Classical.not_not, false_implies, true_implies, false_and, and_false, or_true, true_or, Nat.add_zero, pk_m1, m1_0, m1_n, m1_p, Nat.zero_le, forall_const, Nat.zero_add, Nat.reduceAdd, Nat.reduceEqDiff, or_false, false_or, Nat.one_ne_zero, l64_2, l64_3, l64_4, l64_5, l64_7, l64_9, l64_10, l64_11, l64_15, l64_20, l64_30, l64_40, l64_60, l64_99, l64_255, l64_999, le64l, le64r, le64b, le64n, rset_eq, rset_upd, rset_rset, upd_nep, upd_eqp, ix21_4k, ix21_1, ix21_2, ix21_3, ix21_4, ix21_5, ix21_6, ix21_7, ix21_8, ix21_9, ix21_10, ix76_1, ix76_2, ix76_3, ix100_1, ix100_2, ix100_3, Nat.lt_irrefl, zl1, zl2, zl3, implies_true]
      exact ⟨fun q => absurd q hok, fun _ => hb (fun q => hok (rT_i.mp q))⟩
set_option maxRecDepth 20000 in
set_option maxHeartbeats 4000000 in
theorem ok_X10_runs {l : Launch} (hl : l.stackTraces = false) : ab_OkN l yX10_runs (Cond.code yX10_runs cX10_runs 2 (some .boolean)) 6 sp_X10_runs := by
  intro w σ As Kn hI h
  unfold sp_X10_runs at h
  split at h
  rotate_left 1
  · exact h.elim
  next a c =>
    obtain ⟨rfl, hw, n, T, hR, hW, hT, ha, hb⟩ := h
    obtain ⟨k8, k9, l9, -, -, ⟨k12, l12⟩, -⟩ := id hw
    refine vc_X10_runs hl hI (ok_X10_isRun hl) (ok_X10_runIn hl) (Nat.le_of_ble_eq_true rfl) (fun M h0 h17 => h0 [.ref 8, .int c] [] σ ?_)
    by_cases hok : bt2 (nI 1) c (nI 40)
    · obtain ⟨k, hk1, hk, rfl⟩ := ab_lo (a := 1) (b := 40) (by omega) (by omega) hok.1 hok.2
      rw [cl_nI (by omega)] at ha
      simp (disch := omega) only [bX10_runs_0, sp_X10_isRun, sp_X10_runIn, k8, k12, l12, q_ci, q_cl, q_ild, q_lld, q_ald, q_ist, q_ast, q_lst, q_inc, q_b2, q_d2, q_u1, q_l2, q_ld2, q_lsh, q_lcmp, q_i2l, q_l2i, q_dupi, q_dupr, q_dup2, q_popi, q_popr, q_if1, q_if2, q_nn, q_sw, q_swn, q_swc, q_gf, q_gr, q_pf, q_pz, q_pc, q_ia, q_is, q_cs, q_zs, q_la, q_lw, q_aa, q_al, q_gs, q_acp, q_m2, q_m1, q_ir, q_zr, q_lr, q_ar, q_vr, q_cN0, q_cSX0, q_cV0, q_cVX0, q_cN1, q_cSX1, q_cV1, q_cVX1, q_cN2, q_cSX2, q_cV2, q_cVX2, q_cN3, q_cSX3, q_cV3, q_cVX3, q_cN4, q_cSX4, q_cV4, q_cVX4, q_cN5, q_cSX5, q_cV5, q_cVX5, q_cN6, q_cSX6, q_cV6, q_cVX6, q_th, q_sh0, q_sh1, q_sh2, q_sh3, q_sh4, q_toL0, q_toL1, q_gl0, q_gls, q_sl0, q_sls, q_k10, q_k1s, q_lgi, q_lgr, q_lgl, q_lgn, Bool.not_false, and_true, true_and, nz_2, nz_4, nz_5, nz_8, nz_10, nz_12, nz_14, nz_16, nz_40, nz_41, nz_64, nz_100, nz_1000, nz_1024, nz_4096, nz_10000, nz_100000, not_false_eq_true, bI_0, nI_add, pk_mul, nI_lt', nI_le', nI_eq', nI_z, nI_p, nI_e0, nI_l0, nI_le0, nI_clamp, up_eq, up_ne, not_true_eq_false, Classical.not_not, false_implies, true_implies, false_and, and_false, or_true, true_or, Nat.add_zero, pk_m1, m1_0, m1_n, m1_p, Nat.zero_le, forall_const, Nat.zero_add, Nat.reduceAdd, Nat.reduceEqDiff, or_false, false_or, Nat.one_ne_zero, l64_2, l64_3, l64_4, l64_5, l64_7, l64_9, l64_10, l64_11, l64_15, l64_20, l64_30, l64_40, l64_60, l64_99, l64_255, l64_999, le64l, le64r, le64b, le64n, rset_eq, rset_upd, rset_rset, upd_nep, upd_eqp, ix21_4k, ix21_1, ix21_2, ix21_3, ix21_4, ix21_5, ix21_6, ix21_7, ix21_8, ix21_9, ix21_10, ix76_1, ix76_2, ix76_3, ix100_1, ix100_2, ix100_3, Nat.lt_irrefl, zl1, zl2, zl3, implies_true]
      refine ⟨fun q => absurd hok q, fun _ => ⟨⟨k12, l12⟩, by decide, n, T, k, hR, hW, rfl, by omega, by omega, fun r' hr' => ?_⟩⟩
      refine h17 _ _ _ ?_
      simp (disch := omega) only [bX10_runs_17, sp_X10_isRun, q_ci, q_cl, q_ild, q_lld, q_ald, q_ist, q_ast, q_lst, q_inc, q_b2, q_d2, q_u1, q_l2, q_ld2, q_lsh, q_lcmp, q_i2l, q_l2i, q_dupi, q_dupr, q_dup2, q_popi, q_popr, q_if1, q_if2, q_nn, q_sw, q_swn, q_swc, q_gf, q_gr, q_pf, q_pz, q_pc, q_ia, q_is, q_cs, q_zs, q_la, q_lw, q_aa, q_al, q_gs, q_acp, q_m2, q_m1, q_ir, q_zr, q_lr, q_ar, q_vr, q_cN0, q_cSX0, q_cV0, q_cVX0, q_cN1, q_cSX1, q_cV1, q_cVX1, q_cN2, q_cSX2, q_cV2, q_cVX2, q_cN3, q_cSX3, q_cV3, q_cVX3, q_cN4, q_cSX4, q_cV4, q_cVX4, q_cN5, q_cSX5, q_cV5, q_cVX5, q_cN6, q_cSX6, q_cV6, q_cVX6, q_th, q_sh0, q_sh1, q_sh2, q_sh3, q_sh4, q_toL0, q_toL1, q_gl0, q_gls, q_sl0, q_sls, q_k10, q_k1s, q_lgi, q_lgr, q_lgl, q_lgn, Bool.not_false, and_true, true_and, nz_2, nz_4, nz_5, nz_8, nz_10, nz_12, nz_14, nz_16, nz_40, nz_41, nz_64, nz_100, nz_1000, nz_1024, nz_4096, nz_10000, nz_100000, not_false_eq_true, bI_0, nI_add, pk_mul, nI_lt', nI_le', nI_eq', nI_z, nI_p, nI_e0, nI_l0, nI_le0, nI_clamp, up_eq, up_ne, not_true_eq_false, Classical.not_not, false_implies, true_implies, false_and, and_false, or_true, true_or, Nat.add_zero, pk_m1, m1_0, m1_n, m1_p, Nat.zero_le, forall_const, Nat.zero_add, Nat.reduceAdd, Nat.reduceEqDiff, or_false, false_or, Nat.one_ne_zero, l64_2, l64_3, l64_4, l64_5, l64_7, l64_9, l64_10, l64_11, l64_15, l64_20, l64_30, l64_40, l64_60, l64_99, l64_255, l64_999, le64l, le64r, le64b, le64n, rset_eq, rset_upd, rset_rset, upd_nep, upd_eqp, ix21_4k, ix21_1, ix21_2, ix21_3, ix21_4, ix21_5, ix21_6, ix21_7, ix21_8, ix21_9, ix21_10, ix76_1, ix76_2, ix76_3, ix100_1, ix100_2, ix100_3, Nat.lt_irrefl, zl1, zl2, zl3, implies_true]
      rw [show bI (bt2 (nI 1) (nI k) (nI 40)) = nI 1 from if_pos hok]
      exact ⟨Or.inr nI_one, ha hok _ (by rw [rset_eq]; exact hr') (FD.u14.trans FD.r12)⟩
    · simp (disch := omega) only [bX10_runs_0, sp_X10_isRun, sp_X10_runIn, k8, k12, l12, q_ci, q_cl, q_ild, q_lld, q_ald, q_ist, q_ast, q_lst, q_inc, q_b2, q_d2, q_u1, q_l2, q_ld2, q_lsh, q_lcmp, q_i2l, q_l2i, q_dupi, q_dupr, q_dup2, q_popi, q_popr, q_if1, q_if2, q_nn, q_sw, q_swn, q_swc, q_gf, q_gr, q_pf, q_pz, q_pc, q_ia, q_is, q_cs, q_zs, q_la, q_lw, q_aa, q_al, q_gs, q_acp, q_m2, q_m1, q_ir, q_zr, q_lr, q_ar, q_vr, q_cN0, q_cSX0, q_cV0, q_cVX0, q_cN1, q_cSX1, q_cV1, q_cVX1, q_cN2, q_cSX2, q_cV2, q_cVX2, q_cN3, q_cSX3, q_cV3, q_cVX3, q_cN4, q_cSX4, q_cV4, q_cVX4, q_cN5, q_cSX5, q_cV5, q_cVX5, q_cN6, q_cSX6, q_cV6, q_cVX6, q_th, q_sh0, q_sh1, q_sh2, q_sh3, q_sh4, q_toL0, q_toL1, q_gl0, q_gls, q_sl0, q_sls, q_k10, q_k1s, q_lgi, q_lgr, q_lgl, q_lgn, Bool.not_false, and_true, true_and, nz_2, nz_4, nz_5, nz_8, nz_10, nz_12, nz_14, nz_16, nz_40, nz_41, nz_64, nz_100, nz_1000, nz_1024, nz_4096, nz_10000, nz_100000, not_false_eq_true, bI_0, nI_add, pk_mul, nI_lt', nI_le', nI_eq', nI_z, nI_p, nI_e0, nI_l0, nI_le0, nI_clamp, up_eq, up_ne, not_true_eq_false, Classical.not_not, false_implies, true_implies, false_and, and_false, or_true, true_or, Nat.add_zero, pk_m1, m1_0, m1_n, m1_p, Nat.zero_le, forall_const, Nat.zero_add, Nat.reduceAdd, Nat.reduceEqDiff, or_false, false_or, Nat.one_ne_zero, l64_2, l64_3, l64_4, l64_5, l64_7, l64_9, l64_10, l64_11, l64_15, l64_20, l64_30, l64_40, l64_60, l64_99, l64_255, l64_999, le64l, le64r, le64b, le64n, rset_eq, rset_upd, rset_rset, upd_nep, upd_eqp, ix21_4k, ix21_1, ix21_2, ix21_3, ix21_4, ix21_5, ix21_6, ix21_7, ix21_8, ix21_9, ix21_10, ix76_1, ix76_2, ix76_3, ix100_1, ix100_2, ix100_3, Nat.lt_irrefl, zl1, zl2, zl3, implies_true]
      refine ⟨fun _ => h17 _ _ _ ?_, fun q => absurd q hok⟩
      simp (disch := omega) only [bX10_runs_17, sp_X10_isRun, q_ci, q_cl, q_ild, q_lld, q_ald, q_ist, q_ast, q_lst, q_inc, q_b2, q_d2, q_u1, q_l2, q_ld2, q_lsh, q_lcmp, q_i2l, q_l2i, q_dupi, q_dupr, q_dup2, q_popi, q_popr, q_if1, q_if2, q_nn, q_sw, q_swn, q_swc, q_gf, q_gr, q_pf, q_pz, q_pc, q_ia, q_is, q_cs, q_zs, q_la, q_lw, q_aa, q_al, q_gs, q_acp, q_m2, q_m1, q_ir, q_zr, q_lr, q_ar, q_vr, q_cN0, q_cSX0, q_cV0, q_cVX0, q_cN1, q_cSX1, q_cV1, q_cVX1, q_cN2, q_cSX2, q_cV2, q_cVX2, q_cN3, q_cSX3, q_cV3, q_cVX3, q_cN4, q_cSX4, q_cV4, q_cVX4, q_cN5, q_cSX5, q_cV5, q_cVX5, q_cN6, q_cSX6, q_cV6, q_cVX6, q_th, q_sh0, q_sh1, q_sh2, q_sh3, q_sh4, q_toL0, q_toL1, q_gl0, q_gls, q_sl0, q_sls, q_k10, q_k1s, q_lgi, q_lgr, q_lgl, q_lgn, Bool.not_false, and_true, true_and, nz_2, nz_4, nz_5, nz_8, nz_10, nz_12, nz_14, nz_16, nz_40, nz_41, nz_64, nz_100, nz_1000, nz_1024, nz_4096, nz_10000, nz_100000, not_false_eq_true, bI_0, nI_add, pk_mul, nI_lt', nI_le', nI_eq', nI_z, nI_p, nI_e0, nI_l0, nI_le0, nI_clamp, up_eq, up_ne, not_true_eq_false, Classical.not_not, false_implies, true_implies, false_and, and_false, or_true, true_or, Nat.add_zero, pk_m1, m1_0, m1_n, m1_p, Nat.zero_le, forall_const, Nat.zero_add, Nat.reduceAdd, Nat.reduceEqDiff, or_false, false_or, Nat.one_ne_zero, l64_2, l64_3, l64_4, l64_5, l64_7, l64_9, l64_10, l64_11, l64_15, l64_20, l64_30, l64_40, l64_60, l64_99, l64_255, l64_999, le64l, le64r, le64b, le64n, rset_eq, rset_upd, rset_rset, upd_nep, upd_eqp, ix21_4k, ix21_1, ix21_2, ix21_3, ix21_4, ix21_5, ix21_6, ix21_7, ix21_8, ix21_9, ix21_10, ix76_1, ix76_2, ix76_3, ix100_1, ix100_2, ix100_3, Nat.lt_irrefl, zl1, zl2, zl3, implies_true]
      rw [show bI (bt2 (nI 1) c (nI 40)) = nI 0 from if_neg hok]
      exact ⟨Or.inl hok, hb hok⟩
