theorem RN.g {σ σ' : ab_H} {b : Nat} {f g : nF} (h : RN σ b f) (e : σ' b = σ b) (eg : ∀ i, i < 9 → i ≠ 1 → i ≠ 2 → i ≠ 5 → g i = f i) : RN σ' b g := by
  unfold RN at h ⊢
  rw [e, eg 0 (by omega) (by omega) (by omega) (by omega), eg 3 (by omega) (by omega) (by omega) (by omega), eg 4 (by omega) (by omega) (by omega) (by omega), eg 6 (by omega) (by omega) (by omega) (by omega), eg 7 (by omega) (by omega) (by omega) (by omega), eg 8 (by omega) (by omega) (by omega) (by omega)]
  exact h
theorem RF.g {σ σ' : ab_H} {a : Nat} {f g : nF} (h : RF σ a f) (e : ∀ v, a ≤ v → v < a + 5 → σ' v = σ v) (e2 : g 2 = f 2) (eg : ∀ i, 76 ≤ i → g i = f i) : RF σ' a g := by
  have h2 := h.of (σ' := σ') e
  unfold RF at h2 ⊢
  rw [e2]
  refine ⟨h2.1, fun s hs => ?_, h2.2.2⟩
  rw [eg _ (by omega), eg _ (by omega), eg _ (by omega), eg _ (by omega)]
  exact h2.2.1 s hs
theorem RW.g {σ σ' : ab_H} {a : Nat} {f g : nF} (h : RW σ a f) (e : σ' a = σ a) (eg : ∀ i, 17 ≤ i → i < 21 → g i = f i) : RW σ' a g := by
  intro j hj
  rw [e, eg _ (by omega) (by omega)]; exact h j hj
theorem RT.g {σ σ' : ab_H} {a : Nat} {f g : nF} (h : RT σ a f) (e : σ' a = σ a) (eg : ∀ i, 12 ≤ i → i < 17 → g i = f i) : RT σ' a g := by
  intro j hj
  rw [e, eg _ (by omega) (by omega)]; exact h j hj
theorem RS.add {σ : ab_H} {a : Nat} {n : nT} (h : RS σ a n.1) (hc : cOK n.1) (h5 : cl (n.1 1) < 5) (p q z g k : Int32) : RS (ab_up (ab_up (ab_up (ab_up (ab_up (ab_up σ (a + 1) (cl (n.1 1)) p) (a + 2) (cl (n.1 1)) q) (a + 3) (cl (n.1 1)) z) a 0 (nI (cl (n.1 1) + 1))) (a + 4) (cl (n.1 1)) (σ (a + 4) (cl (n.1 1)) + g)) (a + 7) (cl (n.1 1) * 5) (σ (a + 7) (cl (n.1 1) * 5) + k)) a (n_addS n p q z g k).1 := by
  have hz := h.2.2 (cl (n.1 1)) (Nat.le_refl _) h5
  have h1 := h.2.1
  have h2 := h.2.2
  have e1 : (n_addS n p q z g k).1 1 = nI (cl (n.1 1) + 1) := by
    unfold n_addS; dsimp only; rw [if_pos rfl, nI_succ, ← hc.1]
  have ec : cl ((n_addS n p q z g k).1 1) = cl (n.1 1) + 1 := by rw [e1, cl_nI (by omega)]
  unfold RS
  rw [ec, e1]
  have hf : ∀ i, (n_addS n p q z g k).1 i = if i = 1 then n.1 1 + 1 else if i = 21 + 11 * cl (n.1 1) then p else if i = 22 + 11 * cl (n.1 1) then q else if i = 23 + 11 * cl (n.1 1) then z else if i = 24 + 11 * cl (n.1 1) then g else if i = 25 + 11 * cl (n.1 1) then k else if 26 + 11 * cl (n.1 1) ≤ i ∧ i < 32 + 11 * cl (n.1 1) then 0 else n.1 i := fun _ => rfl
  generalize (n_addS n p q z g k).1 = F at hf e1 ec ⊢
  generalize hcc : cl (n.1 1) = c at *
  refine ⟨by simp (disch := omega) only [up_ne, up_eqp], fun s hs => ?_, fun s hs h5' => ?_⟩
  · simp only [hf]
    by_cases hsc : s = c
    · subst hsc
      obtain ⟨z4, z5, z6, z7⟩ := hz
      refine ⟨?_, ?_, ?_, ?_, ?_, ?_, fun j hj => ?_⟩
      all_goals try simp (disch := omega) only [if_true, if_false, if_pos, if_neg, up_ne, up_eqp, up_nep]
      · rw [z4, Int32.zero_add]
      · exact z5
      · exact z6
      · by_cases hj0 : j = 0
        · subst hj0
          have := z7 0 (by omega)
          simp (disch := omega) only [if_pos, if_neg, up_ne, up_eqp, up_nep]
          rw [show s * 5 = s * 5 + 0 from rfl, this, Int32.zero_add]
        · simp (disch := omega) only [if_pos, if_neg, up_ne, up_eqp, up_nep]
          exact z7 j hj
    · obtain ⟨q1, q2, q3, q4, q5, q6, q7⟩ := h1 s (by omega)
      refine ⟨?_, ?_, ?_, ?_, ?_, ?_, fun j hj => ?_⟩
      all_goals try simp (disch := omega) only [if_pos, if_neg, up_ne, up_eqp, up_nep]
      all_goals try assumption
      exact q7 j hj
  · obtain ⟨q4, q5, q6, q7⟩ := h2 s (by omega) h5'
    refine ⟨?_, ?_, ?_, fun j hj => ?_⟩
    all_goals try simp (disch := omega) only [up_ne, up_eqp, up_nep]
    all_goals try assumption
    exact q7 j hj
def sp_X3_tryStation : ab_S := fun w As σ K => match As with
  | [.ref b, .int p, .int h, .int z, .int g, .int k] => wN w b ∧ ∃ T n, RC σ b n ∧ WF T n ∧ (rS (cl (n.1 1)) p h z g k = 0 → ∀ σ', RC σ' b (n_addS n p h z g k) → Frk b 29 σ σ' → K (some (.int 1)) σ') ∧ (rS (cl (n.1 1)) p h z g k ≠ 0 → K (some (.int 0)) σ)
  | _ => False
theorem rS_le {c : Nat} {p h z g k : Int32} : rS c p h z g k ≤ 3 := by unfold rS; split; split <;> omega; omega
theorem rF_le {c : Nat} {p h z : Int32} : rF c p h z ≤ 3 := by unfold rF; split; split <;> omega; omega
theorem rW_le {p h : Int32} : rW p h ≤ 3 := by unfold rW; split <;> omega
theorem rT_le {p h : Int32} : rT p h ≤ 3 := by unfold rT; split <;> omega
theorem rC_le {f : nF} {s p h : Int32} : rC f s p h ≤ 3 := by unfold rC; split; split <;> omega; omega
theorem rO_le {f : nF} {n : Nat} {s p h : Int32} : rO f n s p h ≤ 3 := by unfold rO; split; split; split <;> omega; omega; omega
theorem rM_le {f : nF} {p h : Int32} : rM f p h ≤ 3 := by unfold rM; split; split <;> omega; omega
set_option maxRecDepth 20000 in
set_option maxHeartbeats 4000000 in
theorem ok_X3_tryStation {l : Launch} (hl : l.stackTraces = false) : ab_OkN l yX3_tryStation (Cond.code yX3_tryStation cX3_tryStation 6 (some .boolean)) 3 sp_X3_tryStation := by
  intro w σ As Kn hI h
  unfold sp_X3_tryStation at h
  split at h
  · next b p q z g k =>
    obtain ⟨b, rfl⟩ : ∃ z : Nat, z = b := ⟨_, rfl⟩
    obtain ⟨hw, T, n, hR, hW, ha, hb⟩ := h
    refine vc_X3_tryStation hl hI (ok_X3_stationRefusal hl) (ok_X7_add hl) (ok_X7_receive hl) (Nat.le_of_ble_eq_true rfl) (fun M h0 => h0 [.ref b, .int p, .int q, .int z, .int g, .int k] [] σ ?_)
    have k3 := hw.1
    have k7 := hw.2.1.1
    have hcO := hW.cOK
    have hc := hR.2.1.1.trans hcO.1
    have hr3 := @rS_le (cl (n.1 1)) p q z g k
    simp (disch := omega) only [bX3_tryStation_0, sp_X3_stationRefusal, k3, k7, q_ci, q_cl, q_ild, q_lld, q_ald, q_ist, q_ast, q_lst, q_inc, q_b2, q_d2, q_u1, q_l2, q_ld2, q_lsh, q_lcmp, q_i2l, q_l2i, q_dupi, q_dupr, q_dup2, q_popi, q_popr, q_if1, q_if2, q_nn, q_sw, q_swn, q_swc, q_gf, q_gr, q_pf, q_pz, q_pc, q_ia, q_is, q_cs, q_zs, q_la, q_lw, q_aa, q_al, q_gs, q_acp, q_m2, q_m1, q_ir, q_zr, q_lr, q_ar, q_vr, q_cN0, q_cSX0, q_cV0, q_cVX0, q_cN1, q_cSX1, q_cV1, q_cVX1, q_cN2, q_cSX2, q_cV2, q_cVX2, q_cN3, q_cSX3, q_cV3, q_cVX3, q_cN4, q_cSX4, q_cV4, q_cVX4, q_cN5, q_cSX5, q_cV5, q_cVX5, q_cN6, q_cSX6, q_cV6, q_cVX6, q_th, q_sh0, q_sh1, q_sh2, q_sh3, q_sh4, q_toL0, q_toL1, q_gl0, q_gls, q_sl0, q_sls, q_k10, q_k1s, q_lgi, q_lgr, q_lgl, q_lgn, Bool.not_false, and_true, true_and, nz_2, nz_4, nz_5, nz_8, nz_10, nz_12, nz_14, nz_16, nz_40, nz_41, nz_64, nz_100, nz_1000, nz_1024, nz_4096, nz_10000, nz_100000, not_false_eq_true, bI_0, nI_add, pk_mul, nI_lt', nI_le', nI_eq', nI_z, nI_p, nI_e0, nI_l0, nI_le0, nI_clamp, up_eq, up_ne, not_true_eq_false, Classical.not_not, false_implies, true_implies, false_and, and_false, or_true, true_or, Nat.add_zero, pk_m1, m1_0, m1_n, m1_p, Nat.zero_le, forall_const]
    refine ⟨hw, cl (n.1 1), hc, hcO.2, fun q0 => ?_, fun q0 => ?_⟩
    · have hz : rS (cl (n.1 1)) p q z g k = 0 := by rw [nI_e0 (by omega)] at q0; exact q0
      have h5 : cl (n.1 1) < 5 := by
        unfold rS at hz; split at hz
        · split at hz
          · assumption
          · omega
        · omega
      have es : nI (cl (n.1 1) + 1) - nI 1 = nI (cl (n.1 1)) := by rw [pk_sub (by omega)]; rfl
      simp (disch := omega) only [sp_X7_add, sp_X7_receive, k3, k7, q_ci, q_cl, q_ild, q_lld, q_ald, q_ist, q_ast, q_lst, q_inc, q_b2, q_d2, q_u1, q_l2, q_ld2, q_lsh, q_lcmp, q_i2l, q_l2i, q_dupi, q_dupr, q_dup2, q_popi, q_popr, q_if1, q_if2, q_nn, q_sw, q_swn, q_swc, q_gf, q_gr, q_pf, q_pz, q_pc, q_ia, q_is, q_cs, q_zs, q_la, q_lw, q_aa, q_al, q_gs, q_acp, q_m2, q_m1, q_ir, q_zr, q_lr, q_ar, q_vr, q_cN0, q_cSX0, q_cV0, q_cVX0, q_cN1, q_cSX1, q_cV1, q_cVX1, q_cN2, q_cSX2, q_cV2, q_cVX2, q_cN3, q_cSX3, q_cV3, q_cVX3, q_cN4, q_cSX4, q_cV4, q_cVX4, q_cN5, q_cSX5, q_cV5, q_cVX5, q_cN6, q_cSX6, q_cV6, q_cVX6, q_th, q_sh0, q_sh1, q_sh2, q_sh3, q_sh4, q_toL0, q_toL1, q_gl0, q_gls, q_sl0, q_sls, q_k10, q_k1s, q_lgi, q_lgr, q_lgl, q_lgn, Bool.not_false, and_true, true_and, nz_2, nz_4, nz_5, nz_8, nz_10, nz_12, nz_14, nz_16, nz_40, nz_41, nz_64, nz_100, nz_1000, nz_1024, nz_4096, nz_10000, nz_100000, not_false_eq_true, bI_0, nI_add, pk_mul, nI_lt', nI_le', nI_eq', nI_z, nI_p, nI_e0, nI_l0, nI_le0, nI_clamp, up_eq, up_ne, not_true_eq_false, Classical.not_not, false_implies, true_implies, false_and, and_false, or_true, true_or, Nat.add_zero, pk_m1, m1_0, m1_n, m1_p, Nat.zero_le, forall_const]
      refine ⟨hw.2.1, cl (n.1 1), hc, h5, ?_⟩
      simp only [if_true]
      refine ⟨hw.2.1, cl (n.1 1), cl (n.1 1) + 1, ⟨es, rfl, by omega, by omega⟩, Or.inr nI_one, ?_⟩
      rw [nI_one]
      obtain ⟨q1, q2, q3, q4, q5, q6, q7, q8⟩ := hR
      refine ha hz _ ⟨q1.g (by simp (disch := omega) only [up_ne]) ?_, ?_, q3.g (fun v h1 h2 => by simp (disch := omega) only [up_ne]) ?_ ?_, q4.of (fun v h1 h2 => by simp (disch := omega) only [up_ne]), q5.of (fun v h1 h2 => by simp (disch := omega) only [up_ne]), ?_, q7.g (by simp (disch := omega) only [up_ne]) ?_, q8.g (by simp (disch := omega) only [up_ne]) ?_⟩ (fun v hv => by simp (disch := omega) only [up_ne])
      · intro i h1 h2 h3 h4; unfold n_addS; dsimp only; simp (disch := omega) only [if_neg]
      · have := q2.add hcO h5 p q z g k
        exact this
      · unfold n_addS; dsimp only; simp (disch := omega) only [if_neg]
      · intro i hi; unfold n_addS; dsimp only; simp (disch := omega) only [if_neg]
      · have e5 : (n_addS n p q z g k).1 5 = n.1 5 := by unfold n_addS; dsimp only; simp (disch := omega) only [if_neg]
        rw [e5]
        exact q6.of (fun v h1 h2 => by simp (disch := omega) only [up_ne])
      · intro i h1 h2; unfold n_addS; dsimp only; simp (disch := omega) only [if_neg]
      · intro i h1 h2; unfold n_addS; dsimp only; simp (disch := omega) only [if_neg]
    · skip
      simp (disch := omega) only [nI_0, q_ci, q_cl, q_ild, q_lld, q_ald, q_ist, q_ast, q_lst, q_inc, q_b2, q_d2, q_u1, q_l2, q_ld2, q_lsh, q_lcmp, q_i2l, q_l2i, q_dupi, q_dupr, q_dup2, q_popi, q_popr, q_if1, q_if2, q_nn, q_sw, q_swn, q_swc, q_gf, q_gr, q_pf, q_pz, q_pc, q_ia, q_is, q_cs, q_zs, q_la, q_lw, q_aa, q_al, q_gs, q_acp, q_m2, q_m1, q_ir, q_zr, q_lr, q_ar, q_vr, q_cN0, q_cSX0, q_cV0, q_cVX0, q_cN1, q_cSX1, q_cV1, q_cVX1, q_cN2, q_cSX2, q_cV2, q_cVX2, q_cN3, q_cSX3, q_cV3, q_cVX3, q_cN4, q_cSX4, q_cV4, q_cVX4, q_cN5, q_cSX5, q_cV5, q_cVX5, q_cN6, q_cSX6, q_cV6, q_cVX6, q_th, q_sh0, q_sh1, q_sh2, q_sh3, q_sh4, q_toL0, q_toL1, q_gl0, q_gls, q_sl0, q_sls, q_k10, q_k1s, q_lgi, q_lgr, q_lgl, q_lgn, Bool.not_false, and_true, true_and, nz_2, nz_4, nz_5, nz_8, nz_10, nz_12, nz_14, nz_16, nz_40, nz_41, nz_64, nz_100, nz_1000, nz_1024, nz_4096, nz_10000, nz_100000, not_false_eq_true, bI_0, nI_add, pk_mul, nI_lt', nI_le', nI_eq', nI_z, nI_p, nI_e0, nI_l0, nI_le0, nI_clamp, up_eq, up_ne, not_true_eq_false, Classical.not_not, false_implies, true_implies, false_and, and_false, or_true, true_or, Nat.add_zero, pk_m1, m1_0, m1_n, m1_p, Nat.zero_le, forall_const]
      exact hb (fun q1 => q0 (by rw [q1, nI_0]))
  · exact h.elim
