theorem RF.add {σ : ab_H} {a : Nat} {n : nT} (h : RF σ a n.1) (hc : n.1 2 = nI (cl (n.1 2))) (h5 : cl (n.1 2) < 6) (p q z : Int32) : RF (ab_up (ab_up (ab_up (ab_up σ (a + 1) (cl (n.1 2)) p) (a + 2) (cl (n.1 2)) q) (a + 3) (cl (n.1 2)) z) a 0 (nI (cl (n.1 2) + 1))) a (n_addF n p q z).1 := by
  have hz := h.2.2 (cl (n.1 2)) (Nat.le_refl _) h5
  have h1 := h.2.1
  have h2 := h.2.2
  have e1 : (n_addF n p q z).1 2 = nI (cl (n.1 2) + 1) := by
    unfold n_addF; dsimp only; rw [if_pos rfl, nI_succ, ← hc]
  have ec : cl ((n_addF n p q z).1 2) = cl (n.1 2) + 1 := by rw [e1, cl_nI (by omega)]
  unfold RF
  rw [ec, e1]
  have hf : ∀ i, (n_addF n p q z).1 i = if i = 2 then n.1 2 + 1 else if i = 76 + 4 * cl (n.1 2) then p else if i = 77 + 4 * cl (n.1 2) then q else if i = 78 + 4 * cl (n.1 2) then z else if i = 79 + 4 * cl (n.1 2) then 0 else n.1 i := fun _ => rfl
  generalize (n_addF n p q z).1 = F at hf e1 ec ⊢
  generalize hcc : cl (n.1 2) = c at *
  refine ⟨by simp (disch := omega) only [up_ne, up_eqp], fun s hs => ?_, fun s hs h5' => ?_⟩
  · simp only [hf]
    by_cases hsc : s = c
    · subst hsc
      refine ⟨?_, ?_, ?_, ?_⟩
      all_goals try simp (disch := omega) only [if_true, if_false, if_pos, if_neg, up_ne, up_eqp, up_nep]
      exact hz
    · obtain ⟨q1, q2, q3, q4⟩ := h1 s (by omega)
      refine ⟨?_, ?_, ?_, ?_⟩
      all_goals try simp (disch := omega) only [if_true, if_false, if_pos, if_neg, up_ne, up_eqp, up_nep]
      all_goals try assumption
  · have := h2 s (by omega) h5'
    simp (disch := omega) only [up_ne, up_eqp, up_nep]
    exact this
theorem RS.chg {σ : ab_H} {a : Nat} {f : nF} (h : RS σ a f) {k : Nat} (hk : k < cl (f 1)) (p q : Int32) : RS (ab_up (ab_up σ (a + 2) k p) (a + 3) k q) a (upd (upd f (22 + 11 * k) p) (23 + 11 * k) q) := by
  have e1 : upd (upd f (22 + 11 * k) p) (23 + 11 * k) q 1 = f 1 := by rw [upd_nep (by omega), upd_nep (by omega)]
  unfold RS
  rw [e1]
  refine ⟨by simp (disch := omega) only [up_ne]; exact h.1, fun s hs => ?_, fun s hs h5 => ?_⟩
  · obtain ⟨q1, q2, q3, q4, q5, q6, q7⟩ := h.2.1 s hs
    by_cases hsk : s = k
    · subst hsk
      refine ⟨?_, ?_, ?_, ?_, ?_, ?_, fun j hj => ?_⟩
      all_goals try simp (disch := omega) only [up_ne, up_eqp, up_nep, upd_eqp, upd_nep]
      all_goals try assumption
      exact q7 j hj
    · refine ⟨?_, ?_, ?_, ?_, ?_, ?_, fun j hj => ?_⟩
      all_goals try simp (disch := omega) only [up_ne, up_eqp, up_nep, upd_eqp, upd_nep]
      all_goals try assumption
      exact q7 j hj
  · obtain ⟨q4, q5, q6, q7⟩ := h.2.2 s hs h5
    refine ⟨?_, ?_, ?_, fun j hj => ?_⟩
    all_goals try simp (disch := omega) only [up_ne, up_eqp, up_nep]
    all_goals try assumption
    exact q7 j hj
def sp_X3_tryFinder : ab_S := fun w As σ K => match As with
  | [.ref b, .int p, .int r, .int d] => wN w b ∧ ∃ T n, RC σ b n ∧ WF T n ∧ (rF (cl (n.1 2)) p r d = 0 → ∀ σ', RC σ' b (n_addF n p r d) → Frk b 29 σ σ' → K (some (.int 1)) σ') ∧ (rF (cl (n.1 2)) p r d ≠ 0 → K (some (.int 0)) σ)
  | _ => False
def sp_X3_tryWind : ab_S := fun w As σ K => match As with
  | [.ref b, .int h, .int v] => wN w b ∧ ∃ n, RC σ b n ∧ (rW h v = 0 → ∀ σ', RC σ' b (n_wind n (cl h) v) → Frk b 29 σ σ' → K (some (.int 1)) σ') ∧ (rW h v ≠ 0 → K (some (.int 0)) σ)
  | _ => False
def sp_X3_tryChange : ab_S := fun w As σ K => match As with
  | [.ref b, .int s, .int h, .int z] => wN w b ∧ ∃ T n, RC σ b n ∧ WF T n ∧ (rC n.1 s h z = 0 → ∀ σ', RC σ' b (n_chg n (cl s) h z) → Frk b 29 σ σ' → K (some (.int 1)) σ') ∧ (rC n.1 s h z ≠ 0 → K (some (.int 0)) σ)
  | _ => False
def sp_X3_priceOf : ab_S := fun w As σ K => match As with
  | [.ref b, .int g, .int k] => wN w b ∧ ∃ f, RT σ (b + 28) f ∧ K (some (.int (n_price f g k))) σ
  | _ => False
def sp_X3_tryOrder : ab_S := fun w As σ K => match As with
  | [.ref b, .int s, .int g, .int k] => wN w b ∧ ∃ T n, RC σ b n ∧ WF T n ∧ (rO n.1 n.2.1.length s g k = 0 → ∀ σ', RC σ' b (n_ord n (cl s) (cl g) (cl k)) → Frk b 29 σ σ' → K (some (.int 1)) σ') ∧ (rO n.1 n.2.1.length s g k ≠ 0 → K (some (.int 0)) σ)
  | _ => False
set_option maxRecDepth 20000 in
set_option maxHeartbeats 4000000 in
theorem ok_X3_tryFinder {l : Launch} (hl : l.stackTraces = false) : ab_OkN l yX3_tryFinder (Cond.code yX3_tryFinder cX3_tryFinder 4 (some .boolean)) 3 sp_X3_tryFinder := by
  intro w σ As Kn hI h
  unfold sp_X3_tryFinder at h
  split at h
  · next b p q z =>
    obtain ⟨b, rfl⟩ : ∃ z : Nat, z = b := ⟨_, rfl⟩
    obtain ⟨hw, T, n, hR, hW, ha, hb⟩ := h
    refine vc_X3_tryFinder hl hI (ok_X3_finderRefusal hl) (ok_X0_add hl) (Nat.le_of_ble_eq_true rfl) (fun M h0 => h0 [.ref b, .int p, .int q, .int z] [] σ ?_)
    have k3 := hw.1
    have k7 := hw.2.2.1.1
    have hcO := hW.1.2.2.2.2.1
    have hc6 := hW.1.2.2.2.2.2.1
    have hc := hR.2.2.1.1.trans hcO
    have hr3 := @rF_le (cl (n.1 2)) p q z
    simp (disch := omega) only [bX3_tryFinder_0, sp_X3_finderRefusal, k3, k7, q_ci, q_cl, q_ild, q_lld, q_ald, q_ist, q_ast, q_lst, q_inc, q_b2, q_d2, q_u1, q_l2, q_ld2, q_lsh, q_lcmp, q_i2l, q_l2i, q_dupi, q_dupr, q_dup2, q_popi, q_popr, q_if1, q_if2, q_nn, q_sw, q_swn, q_swc, q_gf, q_gr, q_pf, q_pz, q_pc, q_ia, q_is, q_cs, q_zs, q_la, q_lw, q_aa, q_al, q_gs, q_acp, q_m2, q_m1, q_ir, q_zr, q_lr, q_ar, q_vr, q_cN0, q_cSX0, q_cV0, q_cVX0, q_cN1, q_cSX1, q_cV1, q_cVX1, q_cN2, q_cSX2, q_cV2, q_cVX2, q_cN3, q_cSX3, q_cV3, q_cVX3, q_cN4, q_cSX4, q_cV4, q_cVX4, q_cN5, q_cSX5, q_cV5, q_cVX5, q_cN6, q_cSX6, q_cV6, q_cVX6, q_th, q_sh0, q_sh1, q_sh2, q_sh3, q_sh4, q_toL0, q_toL1, q_gl0, q_gls, q_sl0, q_sls, q_k10, q_k1s, q_lgi, q_lgr, q_lgl, q_lgn, Bool.not_false, and_true, true_and, nz_2, nz_4, nz_5, nz_8, nz_10, nz_12, nz_14, nz_16, nz_40, nz_41, nz_64, nz_100, nz_1000, nz_1024, nz_4096, nz_10000, nz_100000, not_false_eq_true, bI_0, nI_add, pk_mul, nI_lt', nI_le', nI_eq', nI_z, nI_p, nI_e0, nI_l0, nI_le0, nI_clamp, up_eq, up_ne, not_true_eq_false, Classical.not_not, false_implies, true_implies, false_and, and_false, or_true, true_or, Nat.add_zero, pk_m1, m1_0, m1_n, m1_p, Nat.zero_le, forall_const]
    refine ⟨hw, cl (n.1 2), hc, hc6, fun q0 => ?_, fun q0 => ?_⟩
    · have hz : rF (cl (n.1 2)) p q z = 0 := by rw [nI_e0 (by omega)] at q0; exact q0
      have h5 : cl (n.1 2) < 6 := by
        unfold rF at hz; split at hz
        · split at hz
          · assumption
          · omega
        · omega
      simp (disch := omega) only [sp_X0_add, k3, k7, q_ci, q_cl, q_ild, q_lld, q_ald, q_ist, q_ast, q_lst, q_inc, q_b2, q_d2, q_u1, q_l2, q_ld2, q_lsh, q_lcmp, q_i2l, q_l2i, q_dupi, q_dupr, q_dup2, q_popi, q_popr, q_if1, q_if2, q_nn, q_sw, q_swn, q_swc, q_gf, q_gr, q_pf, q_pz, q_pc, q_ia, q_is, q_cs, q_zs, q_la, q_lw, q_aa, q_al, q_gs, q_acp, q_m2, q_m1, q_ir, q_zr, q_lr, q_ar, q_vr, q_cN0, q_cSX0, q_cV0, q_cVX0, q_cN1, q_cSX1, q_cV1, q_cVX1, q_cN2, q_cSX2, q_cV2, q_cVX2, q_cN3, q_cSX3, q_cV3, q_cVX3, q_cN4, q_cSX4, q_cV4, q_cVX4, q_cN5, q_cSX5, q_cV5, q_cVX5, q_cN6, q_cSX6, q_cV6, q_cVX6, q_th, q_sh0, q_sh1, q_sh2, q_sh3, q_sh4, q_toL0, q_toL1, q_gl0, q_gls, q_sl0, q_sls, q_k10, q_k1s, q_lgi, q_lgr, q_lgl, q_lgn, Bool.not_false, and_true, true_and, nz_2, nz_4, nz_5, nz_8, nz_10, nz_12, nz_14, nz_16, nz_40, nz_41, nz_64, nz_100, nz_1000, nz_1024, nz_4096, nz_10000, nz_100000, not_false_eq_true, bI_0, nI_add, pk_mul, nI_lt', nI_le', nI_eq', nI_z, nI_p, nI_e0, nI_l0, nI_le0, nI_clamp, up_eq, up_ne, not_true_eq_false, Classical.not_not, false_implies, true_implies, false_and, and_false, or_true, true_or, Nat.add_zero, pk_m1, m1_0, m1_n, m1_p, Nat.zero_le, forall_const]
      refine ⟨hw.2.2.1, cl (n.1 2), hc, h5, Or.inr nI_one, ?_⟩
      rw [nI_one]
      obtain ⟨q1, q2, q3, q4, q5, q6, q7, q8⟩ := hR
      have en : ∀ i, i < 76 → i ≠ 2 → (n_addF n p q z).1 i = n.1 i := by
        intro i h1 h2; unfold n_addF; dsimp only; simp (disch := omega) only [if_neg]
      refine ha hz _ ⟨q1.g (by simp (disch := omega) only [up_ne]) ?_, ?_, q3.add hcO h5 p q z, q4.of (fun v h1 h2 => by simp (disch := omega) only [up_ne]), q5.of (fun v h1 h2 => by simp (disch := omega) only [up_ne]), ?_, q7.g (by simp (disch := omega) only [up_ne]) ?_, q8.g (by simp (disch := omega) only [up_ne]) ?_⟩ (fun v hv => by simp (disch := omega) only [up_ne])
      · intro i h1 h2 h3 h4; exact en i (by omega) (by omega)
      · have := q2.of (σ' := ab_up (ab_up (ab_up (ab_up σ (b + 9 + 1) (cl (n.1 2)) p) (b + 9 + 2) (cl (n.1 2)) q) (b + 9 + 3) (cl (n.1 2)) z) (b + 9) 0 (nI (cl (n.1 2) + 1))) (fun v h1 h2 => by simp (disch := omega) only [up_ne])
        have h5 := hW.1.2.2.2.1
        unfold RS at this ⊢
        rw [en 1 (by omega) (by omega)]
        refine ⟨this.1, fun s hs => ?_, this.2.2⟩
        have q := this.2.1 s hs
        rw [en _ (by omega) (by omega), en _ (by omega) (by omega), en _ (by omega) (by omega), en _ (by omega) (by omega), en _ (by omega) (by omega), en _ (by omega) (by omega)]
        refine ⟨q.1, q.2.1, q.2.2.1, q.2.2.2.1, q.2.2.2.2.1, q.2.2.2.2.2.1, fun j hj => ?_⟩
        rw [en _ (by omega) (by omega)]
        exact q.2.2.2.2.2.2 j hj
      · rw [en 5 (by omega) (by omega)]
        exact q6.of (fun v h1 h2 => by simp (disch := omega) only [up_ne])
      · intro i h1 h2; exact en i (by omega) (by omega)
      · intro i h1 h2; exact en i (by omega) (by omega)
    · simp (disch := omega) only [nI_0, q_ci, q_cl, q_ild, q_lld, q_ald, q_ist, q_ast, q_lst, q_inc, q_b2, q_d2, q_u1, q_l2, q_ld2, q_lsh, q_lcmp, q_i2l, q_l2i, q_dupi, q_dupr, q_dup2, q_popi, q_popr, q_if1, q_if2, q_nn, q_sw, q_swn, q_swc, q_gf, q_gr, q_pf, q_pz, q_pc, q_ia, q_is, q_cs, q_zs, q_la, q_lw, q_aa, q_al, q_gs, q_acp, q_m2, q_m1, q_ir, q_zr, q_lr, q_ar, q_vr, q_cN0, q_cSX0, q_cV0, q_cVX0, q_cN1, q_cSX1, q_cV1, q_cVX1, q_cN2, q_cSX2, q_cV2, q_cVX2, q_cN3, q_cSX3, q_cV3, q_cVX3, q_cN4, q_cSX4, q_cV4, q_cVX4, q_cN5, q_cSX5, q_cV5, q_cVX5, q_cN6, q_cSX6, q_cV6, q_cVX6, q_th, q_sh0, q_sh1, q_sh2, q_sh3, q_sh4, q_toL0, q_toL1, q_gl0, q_gls, q_sl0, q_sls, q_k10, q_k1s, q_lgi, q_lgr, q_lgl, q_lgn, Bool.not_false, and_true, true_and, nz_2, nz_4, nz_5, nz_8, nz_10, nz_12, nz_14, nz_16, nz_40, nz_41, nz_64, nz_100, nz_1000, nz_1024, nz_4096, nz_10000, nz_100000, not_false_eq_true, bI_0, nI_add, pk_mul, nI_lt', nI_le', nI_eq', nI_z, nI_p, nI_e0, nI_l0, nI_le0, nI_clamp, up_eq, up_ne, not_true_eq_false, Classical.not_not, false_implies, true_implies, false_and, and_false, or_true, true_or, Nat.add_zero, pk_m1, m1_0, m1_n, m1_p, Nat.zero_le, forall_const]
      exact hb (fun q1 => q0 (by rw [q1, nI_0]))
  · exact h.elim
set_option maxRecDepth 20000 in
set_option maxHeartbeats 4000000 in
theorem ok_X3_tryWind {l : Launch} (hl : l.stackTraces = false) : ab_OkN l yX3_tryWind (Cond.code yX3_tryWind cX3_tryWind 3 (some .boolean)) 3 sp_X3_tryWind := by
  intro w σ As Kn hI h
  unfold sp_X3_tryWind at h
  split at h
  · next b p q =>
    obtain ⟨b, rfl⟩ : ∃ z : Nat, z = b := ⟨_, rfl⟩
    obtain ⟨hw, n, hR, ha, hb⟩ := h
    refine vc_X3_tryWind hl hI (ok_X3_windRefusal hl) (Nat.le_of_ble_eq_true rfl) (fun M h0 => h0 [.ref b, .int p, .int q] [] σ ?_)
    have k3 := hw.1
    have k11 := hw.2.2.2.2.2.2.1
    have kl := hw.2.2.2.2.2.2.2.1
    have hr3 := @rW_le p q
    simp (disch := omega) only [bX3_tryWind_0, sp_X3_windRefusal, k3, q_ci, q_cl, q_ild, q_lld, q_ald, q_ist, q_ast, q_lst, q_inc, q_b2, q_d2, q_u1, q_l2, q_ld2, q_lsh, q_lcmp, q_i2l, q_l2i, q_dupi, q_dupr, q_dup2, q_popi, q_popr, q_if1, q_if2, q_nn, q_sw, q_swn, q_swc, q_gf, q_gr, q_pf, q_pz, q_pc, q_ia, q_is, q_cs, q_zs, q_la, q_lw, q_aa, q_al, q_gs, q_acp, q_m2, q_m1, q_ir, q_zr, q_lr, q_ar, q_vr, q_cN0, q_cSX0, q_cV0, q_cVX0, q_cN1, q_cSX1, q_cV1, q_cVX1, q_cN2, q_cSX2, q_cV2, q_cVX2, q_cN3, q_cSX3, q_cV3, q_cVX3, q_cN4, q_cSX4, q_cV4, q_cVX4, q_cN5, q_cSX5, q_cV5, q_cVX5, q_cN6, q_cSX6, q_cV6, q_cVX6, q_th, q_sh0, q_sh1, q_sh2, q_sh3, q_sh4, q_toL0, q_toL1, q_gl0, q_gls, q_sl0, q_sls, q_k10, q_k1s, q_lgi, q_lgr, q_lgl, q_lgn, Bool.not_false, and_true, true_and, nz_2, nz_4, nz_5, nz_8, nz_10, nz_12, nz_14, nz_16, nz_40, nz_41, nz_64, nz_100, nz_1000, nz_1024, nz_4096, nz_10000, nz_100000, not_false_eq_true, bI_0, nI_add, pk_mul, nI_lt', nI_le', nI_eq', nI_z, nI_p, nI_e0, nI_l0, nI_le0, nI_clamp, up_eq, up_ne, not_true_eq_false, Classical.not_not, false_implies, true_implies, false_and, and_false, or_true, true_or, Nat.add_zero, pk_m1, m1_0, m1_n, m1_p, Nat.zero_le, forall_const]
    refine ⟨fun q0 => ?_, fun q0 => ?_⟩
    · have hz : rW p q = 0 := q0
      obtain ⟨k, hk, rfl⟩ : ∃ k, k ≤ 3 ∧ p = nI k := by
        unfold rW at hz; split at hz
        · next hh => 
          have h1 := hh.1.1
          rw [nI_0] at h1
          exact ab_ixle (by omega) h1 hh.1.2
        · omega
      have hvp : vp_in (nI k) 4 := vp_in_nI (by omega) (by omega)
      simp (disch := omega) only [k3, k11, kl, q_ci, q_cl, q_ild, q_lld, q_ald, q_ist, q_ast, q_lst, q_inc, q_b2, q_d2, q_u1, q_l2, q_ld2, q_lsh, q_lcmp, q_i2l, q_l2i, q_dupi, q_dupr, q_dup2, q_popi, q_popr, q_if1, q_if2, q_nn, q_sw, q_swn, q_swc, q_gf, q_gr, q_pf, q_pz, q_pc, q_ia, q_is, q_cs, q_zs, q_la, q_lw, q_aa, q_al, q_gs, q_acp, q_m2, q_m1, q_ir, q_zr, q_lr, q_ar, q_vr, q_cN0, q_cSX0, q_cV0, q_cVX0, q_cN1, q_cSX1, q_cV1, q_cVX1, q_cN2, q_cSX2, q_cV2, q_cVX2, q_cN3, q_cSX3, q_cV3, q_cVX3, q_cN4, q_cSX4, q_cV4, q_cVX4, q_cN5, q_cSX5, q_cV5, q_cVX5, q_cN6, q_cSX6, q_cV6, q_cVX6, q_th, q_sh0, q_sh1, q_sh2, q_sh3, q_sh4, q_toL0, q_toL1, q_gl0, q_gls, q_sl0, q_sls, q_k10, q_k1s, q_lgi, q_lgr, q_lgl, q_lgn, Bool.not_false, and_true, true_and, nz_2, nz_4, nz_5, nz_8, nz_10, nz_12, nz_14, nz_16, nz_40, nz_41, nz_64, nz_100, nz_1000, nz_1024, nz_4096, nz_10000, nz_100000, not_false_eq_true, bI_0, nI_add, pk_mul, nI_lt', nI_le', nI_eq', nI_z, nI_p, nI_e0, nI_l0, nI_le0, nI_clamp, up_eq, up_ne, not_true_eq_false, Classical.not_not, false_implies, true_implies, false_and, and_false, or_true, true_or, Nat.add_zero, pk_m1, m1_0, m1_n, m1_p, Nat.zero_le, forall_const]
      refine ⟨hvp, Or.inr nI_one, ?_⟩
      rw [nI_one]
      obtain ⟨q1, q2, q3, q4, q5, q6, q7, q8⟩ := hR
      have en : ∀ i, i ≠ 17 + k → (n_wind n (cl (nI k)) q).1 i = n.1 i := by
        intro i h1; unfold n_wind; dsimp only; rw [cl_nI (by omega), upd_nep h1]
      refine ha hz _ ⟨q1.g (by simp (disch := omega) only [up_ne]) ?_, ?_, q3.g (fun v h1 h2 => by simp (disch := omega) only [up_ne]) ?_ ?_, q4.of (fun v h1 h2 => by simp (disch := omega) only [up_ne]), q5.of (fun v h1 h2 => by simp (disch := omega) only [up_ne]), ?_, ?_, q8.g (by simp (disch := omega) only [up_ne]) ?_⟩ (fun v hv => by simp (disch := omega) only [up_ne])
      · intro i h1 h2 h3 h4; exact en i (by omega)
      · exact (q2.of (fun v h1 h2 => by simp (disch := omega) only [up_ne])).f (en 1 (by omega)) (fun i hi => en i (by omega))
      · exact en 2 (by omega)
      · intro i hi; exact en i (by omega)
      · rw [en 5 (by omega)]
        exact q6.of (fun v h1 h2 => by simp (disch := omega) only [up_ne])
      · intro j hj
        by_cases hjk : j = k
        · subst hjk
          rw [up_eqp rfl rfl]; unfold n_wind; dsimp only; rw [cl_nI (by omega), upd_eqp rfl]
        · rw [up_nep hjk, en _ (by omega)]; exact q7 j hj
      · intro i h1 h2; exact en i (by omega)
    · simp (disch := omega) only [nI_0, q_ci, q_cl, q_ild, q_lld, q_ald, q_ist, q_ast, q_lst, q_inc, q_b2, q_d2, q_u1, q_l2, q_ld2, q_lsh, q_lcmp, q_i2l, q_l2i, q_dupi, q_dupr, q_dup2, q_popi, q_popr, q_if1, q_if2, q_nn, q_sw, q_swn, q_swc, q_gf, q_gr, q_pf, q_pz, q_pc, q_ia, q_is, q_cs, q_zs, q_la, q_lw, q_aa, q_al, q_gs, q_acp, q_m2, q_m1, q_ir, q_zr, q_lr, q_ar, q_vr, q_cN0, q_cSX0, q_cV0, q_cVX0, q_cN1, q_cSX1, q_cV1, q_cVX1, q_cN2, q_cSX2, q_cV2, q_cVX2, q_cN3, q_cSX3, q_cV3, q_cVX3, q_cN4, q_cSX4, q_cV4, q_cVX4, q_cN5, q_cSX5, q_cV5, q_cVX5, q_cN6, q_cSX6, q_cV6, q_cVX6, q_th, q_sh0, q_sh1, q_sh2, q_sh3, q_sh4, q_toL0, q_toL1, q_gl0, q_gls, q_sl0, q_sls, q_k10, q_k1s, q_lgi, q_lgr, q_lgl, q_lgn, Bool.not_false, and_true, true_and, nz_2, nz_4, nz_5, nz_8, nz_10, nz_12, nz_14, nz_16, nz_40, nz_41, nz_64, nz_100, nz_1000, nz_1024, nz_4096, nz_10000, nz_100000, not_false_eq_true, bI_0, nI_add, pk_mul, nI_lt', nI_le', nI_eq', nI_z, nI_p, nI_e0, nI_l0, nI_le0, nI_clamp, up_eq, up_ne, not_true_eq_false, Classical.not_not, false_implies, true_implies, false_and, and_false, or_true, true_or, Nat.add_zero, pk_m1, m1_0, m1_n, m1_p, Nat.zero_le, forall_const]
      exact hb q0
  · exact h.elim
set_option maxRecDepth 20000 in
set_option maxHeartbeats 4000000 in
theorem ok_X3_tryChange {l : Launch} (hl : l.stackTraces = false) : ab_OkN l yX3_tryChange (Cond.code yX3_tryChange cX3_tryChange 4 (some .boolean)) 3 sp_X3_tryChange := by
  intro w σ As Kn hI h
  unfold sp_X3_tryChange at h
  split at h
  · next b s p q =>
    obtain ⟨b, rfl⟩ : ∃ z : Nat, z = b := ⟨_, rfl⟩
    obtain ⟨hw, T, n, hR, hW, ha, hb⟩ := h
    refine vc_X3_tryChange hl hI (ok_X3_changeRefusal hl) (Nat.le_of_ble_eq_true rfl) (fun M h0 => h0 [.ref b, .int s, .int p, .int q] [] σ ?_)
    have k3 := hw.1
    have hS := hw.2.1
    unfold wS at hS
    have hcO := hW.cOK
    have hr3 := @rC_le n.1 s p q
    simp (disch := omega) only [bX3_tryChange_0, sp_X3_changeRefusal, k3, q_ci, q_cl, q_ild, q_lld, q_ald, q_ist, q_ast, q_lst, q_inc, q_b2, q_d2, q_u1, q_l2, q_ld2, q_lsh, q_lcmp, q_i2l, q_l2i, q_dupi, q_dupr, q_dup2, q_popi, q_popr, q_if1, q_if2, q_nn, q_sw, q_swn, q_swc, q_gf, q_gr, q_pf, q_pz, q_pc, q_ia, q_is, q_cs, q_zs, q_la, q_lw, q_aa, q_al, q_gs, q_acp, q_m2, q_m1, q_ir, q_zr, q_lr, q_ar, q_vr, q_cN0, q_cSX0, q_cV0, q_cVX0, q_cN1, q_cSX1, q_cV1, q_cVX1, q_cN2, q_cSX2, q_cV2, q_cVX2, q_cN3, q_cSX3, q_cV3, q_cVX3, q_cN4, q_cSX4, q_cV4, q_cVX4, q_cN5, q_cSX5, q_cV5, q_cVX5, q_cN6, q_cSX6, q_cV6, q_cVX6, q_th, q_sh0, q_sh1, q_sh2, q_sh3, q_sh4, q_toL0, q_toL1, q_gl0, q_gls, q_sl0, q_sls, q_k10, q_k1s, q_lgi, q_lgr, q_lgl, q_lgn, Bool.not_false, and_true, true_and, nz_2, nz_4, nz_5, nz_8, nz_10, nz_12, nz_14, nz_16, nz_40, nz_41, nz_64, nz_100, nz_1000, nz_1024, nz_4096, nz_10000, nz_100000, not_false_eq_true, bI_0, nI_add, pk_mul, nI_lt', nI_le', nI_eq', nI_z, nI_p, nI_e0, nI_l0, nI_le0, nI_clamp, up_eq, up_ne, not_true_eq_false, Classical.not_not, false_implies, true_implies, false_and, and_false, or_true, true_or, Nat.add_zero, pk_m1, m1_0, m1_n, m1_p, Nat.zero_le, forall_const]
    refine ⟨hw, n.1, hR.2.1.1, fun q0 => ?_, fun q0 => ?_⟩
    · have hz : rC n.1 s p q = 0 := by rw [nI_e0 (by omega)] at q0; exact q0
      obtain ⟨k, hk, rfl⟩ : ∃ k, k < cl (n.1 1) ∧ s = nI k := by
        unfold rC at hz; split at hz
        · next hh => 
          have h2 := hh.2
          rw [hcO.1] at h2
          exact ab_ix (by have := hcO.2; omega) (Int32.not_lt.mpr hh.1) h2
        · omega
      have h5 := hcO.2
      have hvp : vp_in (nI k) 5 := vp_in_nI (by omega) (by omega)
      simp (disch := omega) only [k3, hS, q_ci, q_cl, q_ild, q_lld, q_ald, q_ist, q_ast, q_lst, q_inc, q_b2, q_d2, q_u1, q_l2, q_ld2, q_lsh, q_lcmp, q_i2l, q_l2i, q_dupi, q_dupr, q_dup2, q_popi, q_popr, q_if1, q_if2, q_nn, q_sw, q_swn, q_swc, q_gf, q_gr, q_pf, q_pz, q_pc, q_ia, q_is, q_cs, q_zs, q_la, q_lw, q_aa, q_al, q_gs, q_acp, q_m2, q_m1, q_ir, q_zr, q_lr, q_ar, q_vr, q_cN0, q_cSX0, q_cV0, q_cVX0, q_cN1, q_cSX1, q_cV1, q_cVX1, q_cN2, q_cSX2, q_cV2, q_cVX2, q_cN3, q_cSX3, q_cV3, q_cVX3, q_cN4, q_cSX4, q_cV4, q_cVX4, q_cN5, q_cSX5, q_cV5, q_cVX5, q_cN6, q_cSX6, q_cV6, q_cVX6, q_th, q_sh0, q_sh1, q_sh2, q_sh3, q_sh4, q_toL0, q_toL1, q_gl0, q_gls, q_sl0, q_sls, q_k10, q_k1s, q_lgi, q_lgr, q_lgl, q_lgn, Bool.not_false, and_true, true_and, nz_2, nz_4, nz_5, nz_8, nz_10, nz_12, nz_14, nz_16, nz_40, nz_41, nz_64, nz_100, nz_1000, nz_1024, nz_4096, nz_10000, nz_100000, not_false_eq_true, bI_0, nI_add, pk_mul, nI_lt', nI_le', nI_eq', nI_z, nI_p, nI_e0, nI_l0, nI_le0, nI_clamp, up_eq, up_ne, not_true_eq_false, Classical.not_not, false_implies, true_implies, false_and, and_false, or_true, true_or, Nat.add_zero, pk_m1, m1_0, m1_n, m1_p, Nat.zero_le, forall_const]
      refine ⟨hvp, hvp, Or.inr nI_one, ?_⟩
      rw [nI_one]
      obtain ⟨q1, q2, q3, q4, q5, q6, q7, q8⟩ := hR
      have en : ∀ i, i ≠ 22 + 11 * k → i ≠ 23 + 11 * k → (n_chg n (cl (nI k)) p q).1 i = n.1 i := by
        intro i h1 h2; unfold n_chg; dsimp only; rw [cl_nI (by omega), upd_nep h2, upd_nep h1]
      refine ha hz _ ⟨q1.g (by simp (disch := omega) only [up_ne]) ?_, ?_, q3.g (fun v h1 h2 => by simp (disch := omega) only [up_ne]) ?_ ?_, q4.of (fun v h1 h2 => by simp (disch := omega) only [up_ne]), q5.of (fun v h1 h2 => by simp (disch := omega) only [up_ne]), ?_, q7.g (by simp (disch := omega) only [up_ne]) ?_, q8.g (by simp (disch := omega) only [up_ne]) ?_⟩ (fun v hv => by simp (disch := omega) only [up_ne])
      · intro i h1 h2 h3 h4; exact en i (by omega) (by omega)
      · have := q2.chg hk p q
        have e : (n_chg n (cl (nI k)) p q).1 = upd (upd n.1 (22 + 11 * k) p) (23 + 11 * k) q := by unfold n_chg; rw [cl_nI (by omega)]
        rw [e]; exact this
      · exact en 2 (by omega) (by omega)
      · intro i hi; exact en i (by omega) (by omega)
      · rw [en 5 (by omega) (by omega)]
        exact q6.of (fun v h1 h2 => by simp (disch := omega) only [up_ne])
      · intro i h1 h2; exact en i (by omega) (by omega)
      · intro i h1 h2; exact en i (by omega) (by omega)
    · simp (disch := omega) only [nI_0, q_ci, q_cl, q_ild, q_lld, q_ald, q_ist, q_ast, q_lst, q_inc, q_b2, q_d2, q_u1, q_l2, q_ld2, q_lsh, q_lcmp, q_i2l, q_l2i, q_dupi, q_dupr, q_dup2, q_popi, q_popr, q_if1, q_if2, q_nn, q_sw, q_swn, q_swc, q_gf, q_gr, q_pf, q_pz, q_pc, q_ia, q_is, q_cs, q_zs, q_la, q_lw, q_aa, q_al, q_gs, q_acp, q_m2, q_m1, q_ir, q_zr, q_lr, q_ar, q_vr, q_cN0, q_cSX0, q_cV0, q_cVX0, q_cN1, q_cSX1, q_cV1, q_cVX1, q_cN2, q_cSX2, q_cV2, q_cVX2, q_cN3, q_cSX3, q_cV3, q_cVX3, q_cN4, q_cSX4, q_cV4, q_cVX4, q_cN5, q_cSX5, q_cV5, q_cVX5, q_cN6, q_cSX6, q_cV6, q_cVX6, q_th, q_sh0, q_sh1, q_sh2, q_sh3, q_sh4, q_toL0, q_toL1, q_gl0, q_gls, q_sl0, q_sls, q_k10, q_k1s, q_lgi, q_lgr, q_lgl, q_lgn, Bool.not_false, and_true, true_and, nz_2, nz_4, nz_5, nz_8, nz_10, nz_12, nz_14, nz_16, nz_40, nz_41, nz_64, nz_100, nz_1000, nz_1024, nz_4096, nz_10000, nz_100000, not_false_eq_true, bI_0, nI_add, pk_mul, nI_lt', nI_le', nI_eq', nI_z, nI_p, nI_e0, nI_l0, nI_le0, nI_clamp, up_eq, up_ne, not_true_eq_false, Classical.not_not, false_implies, true_implies, false_and, and_false, or_true, true_or, Nat.add_zero, pk_m1, m1_0, m1_n, m1_p, Nat.zero_le, forall_const]
      exact hb (fun q1 => q0 (by rw [q1, nI_0]))
  · exact h.elim
set_option maxRecDepth 20000 in
set_option maxHeartbeats 4000000 in
theorem ok_X3_priceOf {l : Launch} (hl : l.stackTraces = false) : ab_OkN l yX3_priceOf (Cond.code yX3_priceOf cX3_priceOf 3 (some .int)) 1 sp_X3_priceOf := by
  intro w σ As Kn hI h
  unfold sp_X3_priceOf at h
  split at h
  · next b p q =>
    obtain ⟨b, rfl⟩ : ∃ z : Nat, z = b := ⟨_, rfl⟩
    obtain ⟨hw, f, hR, h⟩ := h
    refine vc_X3_priceOf hl hI (Nat.le_of_ble_eq_true rfl) (fun M h0 => h0 [.ref b, .int p, .int q] [] σ ?_)
    have k3 := hw.1
    have k11 := hw.2.2.2.2.2.2.2.2.1
    have kl := hw.2.2.2.2.2.2.2.2.2
    have e2 := hR 2 (by omega)
    have e3 := hR 3 (by omega)
    have v2 : vp_in (nI 2) 5 := vp_in_nI (by omega) (by omega)
    have v3 : vp_in (nI 3) 5 := vp_in_nI (by omega) (by omega)
    simp (disch := omega) only [bX3_priceOf_0, k3, k11, kl, e2, e3, q_ci, q_cl, q_ild, q_lld, q_ald, q_ist, q_ast, q_lst, q_inc, q_b2, q_d2, q_u1, q_l2, q_ld2, q_lsh, q_lcmp, q_i2l, q_l2i, q_dupi, q_dupr, q_dup2, q_popi, q_popr, q_if1, q_if2, q_nn, q_sw, q_swn, q_swc, q_gf, q_gr, q_pf, q_pz, q_pc, q_ia, q_is, q_cs, q_zs, q_la, q_lw, q_aa, q_al, q_gs, q_acp, q_m2, q_m1, q_ir, q_zr, q_lr, q_ar, q_vr, q_cN0, q_cSX0, q_cV0, q_cVX0, q_cN1, q_cSX1, q_cV1, q_cVX1, q_cN2, q_cSX2, q_cV2, q_cVX2, q_cN3, q_cSX3, q_cV3, q_cVX3, q_cN4, q_cSX4, q_cV4, q_cVX4, q_cN5, q_cSX5, q_cV5, q_cVX5, q_cN6, q_cSX6, q_cV6, q_cVX6, q_th, q_sh0, q_sh1, q_sh2, q_sh3, q_sh4, q_toL0, q_toL1, q_gl0, q_gls, q_sl0, q_sls, q_k10, q_k1s, q_lgi, q_lgr, q_lgl, q_lgn, Bool.not_false, and_true, true_and, nz_2, nz_4, nz_5, nz_8, nz_10, nz_12, nz_14, nz_16, nz_40, nz_41, nz_64, nz_100, nz_1000, nz_1024, nz_4096, nz_10000, nz_100000, not_false_eq_true, bI_0, nI_add, pk_mul, nI_lt', nI_le', nI_eq', nI_z, nI_p, nI_e0, nI_l0, nI_le0, nI_clamp, up_eq, up_ne, not_true_eq_false, Classical.not_not, false_implies, true_implies, false_and, and_false, or_true, true_or, Nat.add_zero, pk_m1, m1_0, m1_n, m1_p, Nat.zero_le, forall_const]
    refine ⟨v2, v3, ?_⟩
    exact h
  · exact h.elim
theorem ab_ixc {x : Int32} {n : Nat} (hn : n + 1 < 2 ^ 31) (h0 : 0 ≤ x) (h1 : x ≤ nI n) : x = nI (cl x) ∧ cl x ≤ n := by
  obtain ⟨k, hk, rfl⟩ := ab_ixle hn h0 h1
  have : cl (nI k) = k := cl_nI (by omega)
  rw [this]; exact ⟨rfl, hk⟩
theorem ab_ixs {f : nF} {s : Int32} (hc : cOK f) (h : vS f s) : s = nI (cl s) ∧ cl s < cl (f 1) := by
  have h1 := h.1
  have h2 := h.2
  rw [hc.1] at h2
  obtain ⟨k, hk, rfl⟩ := ab_ix (by have := hc.2; omega) (Int32.not_lt.mpr h1) h2
  have : cl (nI k) = k := cl_nI (by have := hc.2; omega)
  rw [this]; exact ⟨rfl, hk⟩
set_option maxRecDepth 20000 in
set_option maxHeartbeats 4000000 in
theorem ok_X3_tryOrder {l : Launch} (hl : l.stackTraces = false) : ab_OkN l yX3_tryOrder (Cond.code yX3_tryOrder cX3_tryOrder 4 (some .boolean)) 3 sp_X3_tryOrder := by
  intro w σ As Kn hI h
  unfold sp_X3_tryOrder at h
  split at h
  · next b s p q =>
    obtain ⟨b, rfl⟩ : ∃ z : Nat, z = b := ⟨_, rfl⟩
    obtain ⟨hw, T, n, hR, hW, ha, hb⟩ := h
    refine vc_X3_tryOrder hl hI (ok_X3_orderRefusal hl) (ok_X4_add hl) (ok_X3_priceOf hl) (Nat.le_of_ble_eq_true rfl) (fun M h0 => h0 [.ref b, .int s, .int p, .int q] [] σ ?_)
    have k3 := hw.1
    have kT := hw.2.2.2.2.2.2.2.2.1
    have kTl := hw.2.2.2.2.2.2.2.2.2
    have hcO := hW.cOK
    have hr3 := @rO_le n.1 n.2.1.length s p q
    have hl8 := hW.2.2.1.1
    simp (disch := omega) only [bX3_tryOrder_0, sp_X3_orderRefusal, k3, q_ci, q_cl, q_ild, q_lld, q_ald, q_ist, q_ast, q_lst, q_inc, q_b2, q_d2, q_u1, q_l2, q_ld2, q_lsh, q_lcmp, q_i2l, q_l2i, q_dupi, q_dupr, q_dup2, q_popi, q_popr, q_if1, q_if2, q_nn, q_sw, q_swn, q_swc, q_gf, q_gr, q_pf, q_pz, q_pc, q_ia, q_is, q_cs, q_zs, q_la, q_lw, q_aa, q_al, q_gs, q_acp, q_m2, q_m1, q_ir, q_zr, q_lr, q_ar, q_vr, q_cN0, q_cSX0, q_cV0, q_cVX0, q_cN1, q_cSX1, q_cV1, q_cVX1, q_cN2, q_cSX2, q_cV2, q_cVX2, q_cN3, q_cSX3, q_cV3, q_cVX3, q_cN4, q_cSX4, q_cV4, q_cVX4, q_cN5, q_cSX5, q_cV5, q_cVX5, q_cN6, q_cSX6, q_cV6, q_cVX6, q_th, q_sh0, q_sh1, q_sh2, q_sh3, q_sh4, q_toL0, q_toL1, q_gl0, q_gls, q_sl0, q_sls, q_k10, q_k1s, q_lgi, q_lgr, q_lgl, q_lgn, Bool.not_false, and_true, true_and, nz_2, nz_4, nz_5, nz_8, nz_10, nz_12, nz_14, nz_16, nz_40, nz_41, nz_64, nz_100, nz_1000, nz_1024, nz_4096, nz_10000, nz_100000, not_false_eq_true, bI_0, nI_add, pk_mul, nI_lt', nI_le', nI_eq', nI_z, nI_p, nI_e0, nI_l0, nI_le0, nI_clamp, up_eq, up_ne, not_true_eq_false, Classical.not_not, false_implies, true_implies, false_and, and_false, or_true, true_or, Nat.add_zero, pk_m1, m1_0, m1_n, m1_p, Nat.zero_le, forall_const]
    refine ⟨hw, n.1, n.2.1.length, hR.2.1.1, hR.2.2.2.1.1, hl8, fun q0 => ?_, fun q0 => ?_⟩
    · have hz : rO n.1 n.2.1.length s p q = 0 := by rw [nI_e0 (by omega)] at q0; exact q0
      have hvs : vS n.1 s := by
        unfold rO at hz; split at hz
        · assumption
        · omega
      have hok : okL p q := by
        unfold rO at hz; rw [if_pos hvs] at hz; split at hz
        · assumption
        · omega
      have hlt : n.2.1.length < 8 := by
        unfold rO at hz; rw [if_pos hvs, if_pos hok] at hz; split at hz
        · omega
        · omega
      obtain ⟨es, hs⟩ := ab_ixs hcO hvs
      obtain ⟨ep, hp⟩ := ab_ixc (by omega) (by have := hok.1.1; rwa [nI_0] at this) hok.1.2
      obtain ⟨eq, hq⟩ := ab_ixc (by omega) (by have := hok.2.1; rwa [nI_0] at this) hok.2.2
      have v0 : vp_in (nI 0) 5 := vp_in_nI (by omega) (by omega)
      have e7 := hR.1.1
      have e0 : n.1 0 = nI (cl (n.1 0)) := hW.1.1
      obtain ⟨d, hd1, hd30, e12⟩ := hW.1.2.2.2.2.2.2.2.2.1
      have et := hR.2.2.2.2.2.2.2 0 (by omega)
      have ed : cl (n.1 12) = d := by rw [e12, cl_nI (by omega)]
      have k4 := hw.2.2.2.1.1
      simp (disch := omega) only [sp_X4_add, sp_X3_priceOf, k3, k4, kT, kTl, q_ci, q_cl, q_ild, q_lld, q_ald, q_ist, q_ast, q_lst, q_inc, q_b2, q_d2, q_u1, q_l2, q_ld2, q_lsh, q_lcmp, q_i2l, q_l2i, q_dupi, q_dupr, q_dup2, q_popi, q_popr, q_if1, q_if2, q_nn, q_sw, q_swn, q_swc, q_gf, q_gr, q_pf, q_pz, q_pc, q_ia, q_is, q_cs, q_zs, q_la, q_lw, q_aa, q_al, q_gs, q_acp, q_m2, q_m1, q_ir, q_zr, q_lr, q_ar, q_vr, q_cN0, q_cSX0, q_cV0, q_cVX0, q_cN1, q_cSX1, q_cV1, q_cVX1, q_cN2, q_cSX2, q_cV2, q_cVX2, q_cN3, q_cSX3, q_cV3, q_cVX3, q_cN4, q_cSX4, q_cV4, q_cVX4, q_cN5, q_cSX5, q_cV5, q_cVX5, q_cN6, q_cSX6, q_cV6, q_cVX6, q_th, q_sh0, q_sh1, q_sh2, q_sh3, q_sh4, q_toL0, q_toL1, q_gl0, q_gls, q_sl0, q_sls, q_k10, q_k1s, q_lgi, q_lgr, q_lgl, q_lgn, Bool.not_false, and_true, true_and, nz_2, nz_4, nz_5, nz_8, nz_10, nz_12, nz_14, nz_16, nz_40, nz_41, nz_64, nz_100, nz_1000, nz_1024, nz_4096, nz_10000, nz_100000, not_false_eq_true, bI_0, nI_add, pk_mul, nI_lt', nI_le', nI_eq', nI_z, nI_p, nI_e0, nI_l0, nI_le0, nI_clamp, up_eq, up_ne, not_true_eq_false, Classical.not_not, false_implies, true_implies, false_and, and_false, or_true, true_or, Nat.add_zero, pk_m1, m1_0, m1_n, m1_p, Nat.zero_le, forall_const]
      refine ⟨v0, hw.2.2.2.1, n.2.1, (cl (n.1 0) + cl (n.1 12), cl s, cl p, cl q), hR.2.2.2.1, hlt, ?_, es, ep, eq, fun σ' hO hF => ?_⟩
      · show _ = nI (cl (n.1 0) + cl (n.1 12))
        rw [e7, et, ed]
        show n.1 0 + n.1 12 = _
        generalize cl (n.1 0) = t at e0 ⊢
        rw [e12, e0]
        simp only [nI_add]
      · have hT : RT σ' (b + 28) n.1 := hR.2.2.2.2.2.2.2.g (hF _ (by omega)) (fun _ _ _ => rfl)
        refine ⟨hw, n.1, hT, Or.inr nI_one, ?_⟩
        rw [nI_one]
        obtain ⟨q1, q2, q3, q4, q5, q6, q7, q8⟩ := hR
        have en : ∀ i, i ≠ 3 → (n_ord n (cl s) (cl p) (cl q)).1 i = n.1 i := by
          intro i h1; unfold n_ord; dsimp only; rw [upd_nep h1]
        have hb' : σ' b = σ b := hF b (by omega)
        have e8 : σ' b 8 = n.1 3 := by rw [hb']; exact q1.2.1
        refine ha hz _ ⟨?_, ?_, q3.g (fun v h1 h2 => by rw [up_ne (by omega)]; exact hF v (by omega)) ?_ ?_, ?_, q5.of (fun v h1 h2 => by rw [up_ne (by omega)]; exact hF v (by omega)), ?_, q7.g (by rw [up_ne (by omega)]; exact hF _ (by omega)) ?_, q8.g (by rw [up_ne (by omega)]; exact hF _ (by omega)) ?_⟩ (fun v hv => by rw [up_ne (by omega)]; exact hF v (by omega))
        · unfold RN at q1 ⊢
          rw [en 0 (by omega), en 4 (by omega), en 6 (by omega), en 7 (by omega), en 8 (by omega)]
          simp (disch := omega) only [up_nep, up_eqp, hb']
          refine ⟨q1.1, ?_, q1.2.2⟩
          rw [q1.2.1]
          unfold n_ord; dsimp only; rw [upd_eqp rfl, ← ep, ← eq]
        · exact (q2.of (σ' := ab_up σ' b 8 (σ' b 8 + n_price n.1 p q)) (fun v h1 h2 => by rw [up_ne (by omega)]; exact hF v (by omega))).f (en 1 (by omega)) (fun i hi => en i (by omega))
        · exact en 2 (by omega)
        · intro i hi; exact en i (by omega)
        · exact hO.of (fun v h1 h2 => by rw [up_ne (by omega)])
        · rw [en 5 (by omega)]
          exact q6.of (fun v h1 h2 => by rw [up_ne (by omega)]; exact hF v (by omega))
        · intro i h1 h2; exact en i (by omega)
        · intro i h1 h2; exact en i (by omega)
    · simp (disch := omega) only [nI_0, q_ci, q_cl, q_ild, q_lld, q_ald, q_ist, q_ast, q_lst, q_inc, q_b2, q_d2, q_u1, q_l2, q_ld2, q_lsh, q_lcmp, q_i2l, q_l2i, q_dupi, q_dupr, q_dup2, q_popi, q_popr, q_if1, q_if2, q_nn, q_sw, q_swn, q_swc, q_gf, q_gr, q_pf, q_pz, q_pc, q_ia, q_is, q_cs, q_zs, q_la, q_lw, q_aa, q_al, q_gs, q_acp, q_m2, q_m1, q_ir, q_zr, q_lr, q_ar, q_vr, q_cN0, q_cSX0, q_cV0, q_cVX0, q_cN1, q_cSX1, q_cV1, q_cVX1, q_cN2, q_cSX2, q_cV2, q_cVX2, q_cN3, q_cSX3, q_cV3, q_cVX3, q_cN4, q_cSX4, q_cV4, q_cVX4, q_cN5, q_cSX5, q_cV5, q_cVX5, q_cN6, q_cSX6, q_cV6, q_cVX6, q_th, q_sh0, q_sh1, q_sh2, q_sh3, q_sh4, q_toL0, q_toL1, q_gl0, q_gls, q_sl0, q_sls, q_k10, q_k1s, q_lgi, q_lgr, q_lgl, q_lgn, Bool.not_false, and_true, true_and, nz_2, nz_4, nz_5, nz_8, nz_10, nz_12, nz_14, nz_16, nz_40, nz_41, nz_64, nz_100, nz_1000, nz_1024, nz_4096, nz_10000, nz_100000, not_false_eq_true, bI_0, nI_add, pk_mul, nI_lt', nI_le', nI_eq', nI_z, nI_p, nI_e0, nI_l0, nI_le0, nI_clamp, up_eq, up_ne, not_true_eq_false, Classical.not_not, false_implies, true_implies, false_and, and_false, or_true, true_or, Nat.add_zero, pk_m1, m1_0, m1_n, m1_p, Nat.zero_le, forall_const]
      exact hb (fun q1 => q0 (by rw [q1, nI_0]))
  · exact h.elim
