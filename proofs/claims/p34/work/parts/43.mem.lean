/-! the memory: the nets before the latest actions, the oldest first -/
def wM (w : ab_W) : Prop := ab_kd w 4 = 2 ∧ ab_kd w 5 = 14 ∧ ab_ln w 5 = 14 ∧ ∀ k, k < 14 → wN w (160 + 40 * k)
def RH (σ : ab_H) (ms : List nT) : Prop := ∃ f, f < 14 ∧ ms.length ≤ 14 ∧ σ 4 0 = nI ms.length ∧ σ 4 1 = nI f ∧ ∀ k x, ms[k]? = some x → RC σ (160 + 40 * ((f + k) % 14)) x
def n_keep (ms : List nT) (n : nT) : List nT := (if ms.length = 14 then ms.drop 1 else ms) ++ [n]
def apb (b : Nat) : Prop := (5 ≤ b ∧ b + 29 ≤ 160) ∨ 720 ≤ b
def FrM (σ σ' : ab_H) : Prop := ∀ v, v ≠ 4 → (v < 160 ∨ 709 ≤ v) → σ' v = σ v
theorem RC.of {σ σ' : ab_H} {b : Nat} {n : nT} (h : RC σ b n) (eo : ∀ v, b ≤ v → v < b + 29 → σ' v = σ v) : RC σ' b n := by
  obtain ⟨q1, q2, q3, q4, q5, q6, q7, q8⟩ := h
  exact ⟨q1.g (eo b (by omega) (by omega)) (fun i h1 h2 h3 h4 => rfl), q2.of (fun a _ _ => eo a (by omega) (by omega)), q3.of (fun a _ _ => eo a (by omega) (by omega)), q4.of (fun a _ _ => eo a (by omega) (by omega)), q5.of (fun a _ _ => eo a (by omega) (by omega)), q6.of (fun a _ _ => eo a (by omega) (by omega)), q7.g (eo _ (by omega) (by omega)) (fun _ _ _ => rfl), q8.g (eo _ (by omega) (by omega)) (fun _ _ _ => rfl)⟩
theorem app1 {ms : List nT} {n x : nT} {k : Nat} (h : (ms ++ [n])[k]? = some x) : (k < ms.length ∧ ms[k]? = some x) ∨ (k = ms.length ∧ n = x) := by
  rw [List.getElem?_append] at h
  split at h
  · next q => exact Or.inl ⟨q, h⟩
  · next q =>
    rw [List.getElem?_singleton] at h
    split at h
    · exact Or.inr ⟨by omega, Option.some.inj h⟩
    · simp at h
def sp_X2_forget : ab_S := fun w As σ K => match As with
  | [.ref m] => m = 4 ∧ ab_kd w 4 = 2 ∧ ∀ σ', RH σ' [] → Frk 4 1 σ σ' → K none σ'
  | _ => False
def sp_X2_remember : ab_S := fun w As σ K => match As with
  | [.ref m, .ref b] => m = 4 ∧ wM w ∧ wN w b ∧ apb b ∧ ∃ ms T n, RH σ ms ∧ RC σ b n ∧ WF T n ∧ ∀ σ', RH σ' (n_keep ms n) → FrM σ σ' → K none σ'
  | _ => False
def sp_X2_takeBack : ab_S := fun w As σ K => match As with
  | [.ref m, .ref b] => m = 4 ∧ wM w ∧ wN w b ∧ apb b ∧ ∃ ms T n, RH σ (ms ++ [n]) ∧ WF T n ∧ ∀ σ', RH σ' ms → RC σ' b n → Fr2 b 29 4 1 σ σ' → K none σ'
  | _ => False
set_option maxRecDepth 20000 in
set_option maxHeartbeats 4000000 in
theorem ok_X2_forget {l : Launch} (hl : l.stackTraces = false) : ab_OkN l yX2_forget (Cond.code yX2_forget cX2_forget 1 none) 1 sp_X2_forget := by
  intro w σ As Kn hI h
  unfold sp_X2_forget at h
  split at h
  · next m =>
    obtain ⟨rfl, hw, h⟩ := h
    refine vc_X2_forget hl hI (Nat.le_of_ble_eq_true rfl) (fun M h0 => h0 [.ref 4] [] σ ?_)
    simp (disch := omega) only [bX2_forget_0, hw, q_ci, q_cl, q_ild, q_lld, q_ald, q_ist, q_ast, q_lst, q_inc, q_b2, q_d2, q_u1, q_l2, q_ld2, q_lsh, q_lcmp, q_i2l, q_l2i, q_dupi, q_dupr, q_dup2, q_popi, q_popr, q_if1, q_if2, q_nn, q_sw, q_swn, q_swc, q_gf, q_gr, q_pf, q_pz, q_pc, q_ia, q_is, q_cs, q_zs, q_la, q_lw, q_aa, q_al, q_gs, q_acp, q_m2, q_m1, q_ir, q_zr, q_lr, q_ar, q_vr, q_cN0, q_cSX0, q_cV0, q_cVX0, q_cN1, q_cSX1, q_cV1, q_cVX1, q_cN2, q_cSX2, q_cV2, q_cVX2, q_cN3, q_cSX3, q_cV3, q_cVX3, q_cN4, q_cSX4, q_cV4, q_cVX4, q_cN5, q_cSX5, q_cV5, q_cVX5, q_cN6, q_cSX6, q_cV6, q_cVX6, q_th, q_sh0, q_sh1, q_sh2, q_sh3, q_sh4, q_toL0, q_toL1, q_gl0, q_gls, q_sl0, q_sls, q_k10, q_k1s, q_lgi, q_lgr, q_lgl, q_lgn, Bool.not_false, and_true, true_and, nz_2, nz_4, nz_5, nz_8, nz_10, nz_12, nz_14, nz_16, nz_40, nz_41, nz_64, nz_100, nz_1000, nz_1024, nz_4096, nz_10000, nz_100000, not_false_eq_true, bI_0, nI_add, pk_mul, nI_lt', nI_le', nI_eq', nI_z, nI_p, nI_e0, nI_l0, nI_le0, nI_clamp, up_eq, up_ne, not_true_eq_false, Classical.not_not, false_implies, true_implies, false_and, and_false, or_true, true_or, Nat.add_zero, pk_m1, m1_0, m1_n, m1_p, Nat.zero_le, forall_const]
    refine h _ ⟨0, by omega, by simp, ?_, ?_, fun k x q => by simp at q⟩ (fun v hv => by simp (disch := omega) only [up_ne])
    · simp (disch := omega) only [up_eqp, up_nep]; rfl
    · simp (disch := omega) only [up_eqp]
  · exact h.elim
set_option maxRecDepth 20000 in
set_option maxHeartbeats 4000000 in
theorem ok_X2_remember {l : Launch} (hl : l.stackTraces = false) : ab_OkN l yX2_remember (Cond.code yX2_remember cX2_remember 3 none) 5 sp_X2_remember := by
  intro w σ As Kn hI h
  unfold sp_X2_remember at h
  split at h
  · next m b =>
    obtain ⟨b, rfl⟩ : ∃ z : Nat, z = b := ⟨_, rfl⟩
    obtain ⟨rfl, hw, hwN, hb, ms, T, n, hH, hR, hW, ha⟩ := h
    refine vc_X2_remember hl hI (ok_X3_copyFrom hl) (Nat.le_of_ble_eq_true rfl) (fun M h0 h1 => h0 [.ref 4, .ref b, .null] [] σ ?_)
    obtain ⟨w1, w2, w3, w4⟩ := hw
    obtain ⟨f, hf, hl14, hc, hfi, hm⟩ := hH
    have er : nI (f + ms.length) - nI (f + ms.length) / nI 14 * nI 14 = nI ((f + ms.length) % 14) := pk_rem (by omega) (by decide) (by decide)
    have er1 : nI (f + 1) - nI (f + 1) / nI 14 * nI 14 = nI ((f + 1) % 14) := pk_rem (by omega) (by decide) (by decide)
    have hp : (f + ms.length) % 14 < 14 := Nat.mod_lt _ (by omega)
    have vp : vp_in (nI ((f + ms.length) % 14)) 14 := vp_in_nI hp (by omega)
    have k3 := (w4 _ hp).1
    simp (disch := omega) only [bX2_remember_0, sp_X3_copyFrom, w1, w2, w3, hc, hfi, er, er1, k3, q_ci, q_cl, q_ild, q_lld, q_ald, q_ist, q_ast, q_lst, q_inc, q_b2, q_d2, q_u1, q_l2, q_ld2, q_lsh, q_lcmp, q_i2l, q_l2i, q_dupi, q_dupr, q_dup2, q_popi, q_popr, q_if1, q_if2, q_nn, q_sw, q_swn, q_swc, q_gf, q_gr, q_pf, q_pz, q_pc, q_ia, q_is, q_cs, q_zs, q_la, q_lw, q_aa, q_al, q_gs, q_acp, q_m2, q_m1, q_ir, q_zr, q_lr, q_ar, q_vr, q_cN0, q_cSX0, q_cV0, q_cVX0, q_cN1, q_cSX1, q_cV1, q_cVX1, q_cN2, q_cSX2, q_cV2, q_cVX2, q_cN3, q_cSX3, q_cV3, q_cVX3, q_cN4, q_cSX4, q_cV4, q_cVX4, q_cN5, q_cSX5, q_cV5, q_cVX5, q_cN6, q_cSX6, q_cV6, q_cVX6, q_th, q_sh0, q_sh1, q_sh2, q_sh3, q_sh4, q_toL0, q_toL1, q_gl0, q_gls, q_sl0, q_sls, q_k10, q_k1s, q_lgi, q_lgr, q_lgl, q_lgn, Bool.not_false, and_true, true_and, nz_2, nz_4, nz_5, nz_8, nz_10, nz_12, nz_14, nz_16, nz_40, nz_41, nz_64, nz_100, nz_1000, nz_1024, nz_4096, nz_10000, nz_100000, not_false_eq_true, bI_0, nI_add, pk_mul, nI_lt', nI_le', nI_eq', nI_z, nI_p, nI_e0, nI_l0, nI_le0, nI_clamp, up_eq, up_ne, not_true_eq_false, Classical.not_not, false_implies, true_implies, false_and, and_false, or_true, true_or, Nat.add_zero, pk_m1, m1_0, m1_n, m1_p, Nat.zero_le, forall_const]
    refine ⟨by omega, vp, w4 _ hp, hwN, by unfold apt; unfold apb at hb; omega, fun σ1 a1 a2 => ?_⟩
    have R1 := a1 T n hW hR
    have e4 : σ1 4 = σ 4 := a2 4 (by omega)
    have e40 : σ1 4 0 = nI ms.length := by rw [e4]; exact hc
    have e41 : σ1 4 1 = nI f := by rw [e4]; exact hfi
    simp only [e40, e41, nI_one, nI_1, er1]
    rw [nI_le' (by omega) (by omega)]
    refine ⟨fun q => ⟨by omega, h1 _ _ _ ?_⟩, fun q => h1 _ _ _ ?_⟩
    · have h14 : ms.length = 14 := by omega
      simp (disch := omega) only [bX2_remember_62, q_ci, q_cl, q_ild, q_lld, q_ald, q_ist, q_ast, q_lst, q_inc, q_b2, q_d2, q_u1, q_l2, q_ld2, q_lsh, q_lcmp, q_i2l, q_l2i, q_dupi, q_dupr, q_dup2, q_popi, q_popr, q_if1, q_if2, q_nn, q_sw, q_swn, q_swc, q_gf, q_gr, q_pf, q_pz, q_pc, q_ia, q_is, q_cs, q_zs, q_la, q_lw, q_aa, q_al, q_gs, q_acp, q_m2, q_m1, q_ir, q_zr, q_lr, q_ar, q_vr, q_cN0, q_cSX0, q_cV0, q_cVX0, q_cN1, q_cSX1, q_cV1, q_cVX1, q_cN2, q_cSX2, q_cV2, q_cVX2, q_cN3, q_cSX3, q_cV3, q_cVX3, q_cN4, q_cSX4, q_cV4, q_cVX4, q_cN5, q_cSX5, q_cV5, q_cVX5, q_cN6, q_cSX6, q_cV6, q_cVX6, q_th, q_sh0, q_sh1, q_sh2, q_sh3, q_sh4, q_toL0, q_toL1, q_gl0, q_gls, q_sl0, q_sls, q_k10, q_k1s, q_lgi, q_lgr, q_lgl, q_lgn, Bool.not_false, and_true, true_and, nz_2, nz_4, nz_5, nz_8, nz_10, nz_12, nz_14, nz_16, nz_40, nz_41, nz_64, nz_100, nz_1000, nz_1024, nz_4096, nz_10000, nz_100000, not_false_eq_true, bI_0, nI_add, pk_mul, nI_lt', nI_le', nI_eq', nI_z, nI_p, nI_e0, nI_l0, nI_le0, nI_clamp, up_eq, up_ne, not_true_eq_false, Classical.not_not, false_implies, true_implies, false_and, and_false, or_true, true_or, Nat.add_zero, pk_m1, m1_0, m1_n, m1_p, Nat.zero_le, forall_const]
      refine ha _ ⟨(f + 1) % 14, Nat.mod_lt _ (by omega), ?_, ?_, ?_, fun k x q1 => ?_⟩ (fun v h4 hv => by simp (disch := omega) only [up_ne]; exact a2 v (by omega))
      · unfold n_keep; rw [if_pos h14]; simp; omega
      · unfold n_keep; rw [if_pos h14]; simp (disch := omega) only [up_nep]; rw [e40, List.length_append, List.length_drop, List.length_singleton]; congr 1; omega
      · simp (disch := omega) only [up_eqp]
      · unfold n_keep at q1; rw [if_pos h14] at q1
        rcases app1 q1 with ⟨q2, q3⟩ | ⟨q2, q3⟩
        · rw [List.length_drop] at q2
          rw [List.getElem?_drop] at q3
          have := hm _ _ q3
          rw [show ((f + 1) % 14 + k) % 14 = (f + (1 + k)) % 14 by omega]
          exact this.of (fun v v1 v2 => by simp (disch := omega) only [up_ne]; exact a2 v (by omega))
        · rw [List.length_drop] at q2
          subst q3
          rw [show ((f + 1) % 14 + k) % 14 = (f + ms.length) % 14 by omega]
          exact R1.of (fun v v1 v2 => by simp (disch := omega) only [up_ne])
    · have h14 : ¬ ms.length = 14 := by omega
      simp (disch := omega) only [bX2_remember_62, q_ci, q_cl, q_ild, q_lld, q_ald, q_ist, q_ast, q_lst, q_inc, q_b2, q_d2, q_u1, q_l2, q_ld2, q_lsh, q_lcmp, q_i2l, q_l2i, q_dupi, q_dupr, q_dup2, q_popi, q_popr, q_if1, q_if2, q_nn, q_sw, q_swn, q_swc, q_gf, q_gr, q_pf, q_pz, q_pc, q_ia, q_is, q_cs, q_zs, q_la, q_lw, q_aa, q_al, q_gs, q_acp, q_m2, q_m1, q_ir, q_zr, q_lr, q_ar, q_vr, q_cN0, q_cSX0, q_cV0, q_cVX0, q_cN1, q_cSX1, q_cV1, q_cVX1, q_cN2, q_cSX2, q_cV2, q_cVX2, q_cN3, q_cSX3, q_cV3, q_cVX3, q_cN4, q_cSX4, q_cV4, q_cVX4, q_cN5, q_cSX5, q_cV5, q_cVX5, q_cN6, q_cSX6, q_cV6, q_cVX6, q_th, q_sh0, q_sh1, q_sh2, q_sh3, q_sh4, q_toL0, q_toL1, q_gl0, q_gls, q_sl0, q_sls, q_k10, q_k1s, q_lgi, q_lgr, q_lgl, q_lgn, Bool.not_false, and_true, true_and, nz_2, nz_4, nz_5, nz_8, nz_10, nz_12, nz_14, nz_16, nz_40, nz_41, nz_64, nz_100, nz_1000, nz_1024, nz_4096, nz_10000, nz_100000, not_false_eq_true, bI_0, nI_add, pk_mul, nI_lt', nI_le', nI_eq', nI_z, nI_p, nI_e0, nI_l0, nI_le0, nI_clamp, up_eq, up_ne, not_true_eq_false, Classical.not_not, false_implies, true_implies, false_and, and_false, or_true, true_or, Nat.add_zero, pk_m1, m1_0, m1_n, m1_p, Nat.zero_le, forall_const]
      refine ha _ ⟨f, hf, ?_, ?_, ?_, fun k x q1 => ?_⟩ (fun v h4 hv => by simp (disch := omega) only [up_ne]; exact a2 v (by omega))
      · unfold n_keep; rw [if_neg h14]; simp; omega
      · unfold n_keep; rw [if_neg h14]; simp (disch := omega) only [up_eqp]; rw [List.length_append, List.length_singleton]
      · simp (disch := omega) only [up_nep]; exact e41
      · unfold n_keep at q1; rw [if_neg h14] at q1
        rcases app1 q1 with ⟨q2, q3⟩ | ⟨q2, q3⟩
        · have := hm _ _ q3
          exact this.of (fun v v1 v2 => by simp (disch := omega) only [up_ne]; exact a2 v (by omega))
        · subst q3
          rw [q2]
          exact R1.of (fun v v1 v2 => by simp (disch := omega) only [up_ne])
  · exact h.elim
set_option maxRecDepth 20000 in
set_option maxHeartbeats 4000000 in
theorem ok_X2_takeBack {l : Launch} (hl : l.stackTraces = false) : ab_OkN l yX2_takeBack (Cond.code yX2_takeBack cX2_takeBack 3 none) 5 sp_X2_takeBack := by
  intro w σ As Kn hI h
  unfold sp_X2_takeBack at h
  split at h
  · next m b =>
    obtain ⟨b, rfl⟩ : ∃ z : Nat, z = b := ⟨_, rfl⟩
    obtain ⟨rfl, hw, hwN, hb, ms, T, n, hH, hW, ha⟩ := h
    refine vc_X2_takeBack hl hI (ok_X3_copyFrom hl) (Nat.le_of_ble_eq_true rfl) (fun M h0 h1 => h0 [.ref 4, .ref b, .null] [] σ ?_)
    obtain ⟨w1, w2, w3, w4⟩ := hw
    obtain ⟨f, hf, hl14, hc, hfi, hm⟩ := hH
    rw [List.length_append, List.length_singleton] at hl14 hc
    have er : nI (f + ms.length) - nI (f + ms.length) / nI 14 * nI 14 = nI ((f + ms.length) % 14) := pk_rem (by omega) (by decide) (by decide)
    have hp : (f + ms.length) % 14 < 14 := Nat.mod_lt _ (by omega)
    have vp : vp_in (nI ((f + ms.length) % 14)) 14 := vp_in_nI hp (by omega)
    have es : nI (ms.length + 1) - nI 1 = nI ms.length := by rw [pk_sub (by omega)]; rfl
    have k3 := hwN.1
    simp (disch := omega) only [bX2_takeBack_0, sp_X3_copyFrom, w1, w2, w3, hc, hfi, es, er, k3, q_ci, q_cl, q_ild, q_lld, q_ald, q_ist, q_ast, q_lst, q_inc, q_b2, q_d2, q_u1, q_l2, q_ld2, q_lsh, q_lcmp, q_i2l, q_l2i, q_dupi, q_dupr, q_dup2, q_popi, q_popr, q_if1, q_if2, q_nn, q_sw, q_swn, q_swc, q_gf, q_gr, q_pf, q_pz, q_pc, q_ia, q_is, q_cs, q_zs, q_la, q_lw, q_aa, q_al, q_gs, q_acp, q_m2, q_m1, q_ir, q_zr, q_lr, q_ar, q_vr, q_cN0, q_cSX0, q_cV0, q_cVX0, q_cN1, q_cSX1, q_cV1, q_cVX1, q_cN2, q_cSX2, q_cV2, q_cVX2, q_cN3, q_cSX3, q_cV3, q_cVX3, q_cN4, q_cSX4, q_cV4, q_cVX4, q_cN5, q_cSX5, q_cV5, q_cVX5, q_cN6, q_cSX6, q_cV6, q_cVX6, q_th, q_sh0, q_sh1, q_sh2, q_sh3, q_sh4, q_toL0, q_toL1, q_gl0, q_gls, q_sl0, q_sls, q_k10, q_k1s, q_lgi, q_lgr, q_lgl, q_lgn, Bool.not_false, and_true, true_and, nz_2, nz_4, nz_5, nz_8, nz_10, nz_12, nz_14, nz_16, nz_40, nz_41, nz_64, nz_100, nz_1000, nz_1024, nz_4096, nz_10000, nz_100000, not_false_eq_true, bI_0, nI_add, pk_mul, nI_lt', nI_le', nI_eq', nI_z, nI_p, nI_e0, nI_l0, nI_le0, nI_clamp, up_eq, up_ne, not_true_eq_false, Classical.not_not, false_implies, true_implies, false_and, and_false, or_true, true_or, Nat.add_zero, pk_m1, m1_0, m1_n, m1_p, Nat.zero_le, forall_const]
    simp only [Nat.one_ne_zero, if_true, if_false, nI_add, er]
    rw [nI_clamp (by omega)]
    have e4 : ∀ v, v ≠ 4 → ab_up σ 4 0 (nI ms.length) v = σ v := fun v hv => up_ne hv
    refine ⟨fun q => absurd q (by omega), fun _ => ⟨by omega, vp, hwN, w4 _ hp, by unfold apt; unfold apb at hb; omega, fun σ1 a1 a2 => h1 _ _ _ ?_⟩⟩
    have R0 := hm ms.length n (by simp)
    have R1 := a1 T n hW (R0.of (fun v v1 v2 => e4 v (by omega)))
    have e41 : σ1 4 = ab_up σ 4 0 (nI ms.length) 4 := a2 4 (by unfold apb at hb; omega)
    simp (disch := omega) only [bX2_takeBack_44, q_ci, q_cl, q_ild, q_lld, q_ald, q_ist, q_ast, q_lst, q_inc, q_b2, q_d2, q_u1, q_l2, q_ld2, q_lsh, q_lcmp, q_i2l, q_l2i, q_dupi, q_dupr, q_dup2, q_popi, q_popr, q_if1, q_if2, q_nn, q_sw, q_swn, q_swc, q_gf, q_gr, q_pf, q_pz, q_pc, q_ia, q_is, q_cs, q_zs, q_la, q_lw, q_aa, q_al, q_gs, q_acp, q_m2, q_m1, q_ir, q_zr, q_lr, q_ar, q_vr, q_cN0, q_cSX0, q_cV0, q_cVX0, q_cN1, q_cSX1, q_cV1, q_cVX1, q_cN2, q_cSX2, q_cV2, q_cVX2, q_cN3, q_cSX3, q_cV3, q_cVX3, q_cN4, q_cSX4, q_cV4, q_cVX4, q_cN5, q_cSX5, q_cV5, q_cVX5, q_cN6, q_cSX6, q_cV6, q_cVX6, q_th, q_sh0, q_sh1, q_sh2, q_sh3, q_sh4, q_toL0, q_toL1, q_gl0, q_gls, q_sl0, q_sls, q_k10, q_k1s, q_lgi, q_lgr, q_lgl, q_lgn, Bool.not_false, and_true, true_and, nz_2, nz_4, nz_5, nz_8, nz_10, nz_12, nz_14, nz_16, nz_40, nz_41, nz_64, nz_100, nz_1000, nz_1024, nz_4096, nz_10000, nz_100000, not_false_eq_true, bI_0, nI_add, pk_mul, nI_lt', nI_le', nI_eq', nI_z, nI_p, nI_e0, nI_l0, nI_le0, nI_clamp, up_eq, up_ne, not_true_eq_false, Classical.not_not, false_implies, true_implies, false_and, and_false, or_true, true_or, Nat.add_zero, pk_m1, m1_0, m1_n, m1_p, Nat.zero_le, forall_const]
    refine ha _ ⟨f, hf, by omega, ?_, ?_, fun k x q1 => ?_⟩ R1 (fun v v1 v2 => by rw [a2 v v1, e4 v (by omega)])
    · rw [e41, up_eqp rfl rfl]
    · rw [e41, up_nep (by omega)]; exact hfi
    · have hk := (List.getElem?_eq_some_iff.mp q1).1
      have := hm k x (by rw [List.getElem?_append_left hk]; exact q1)
      have hkp : (f + k) % 14 < 14 := Nat.mod_lt _ (by omega)
      exact this.of (fun v v1 v2 => by unfold apb at hb; rw [a2 v (by omega), e4 v (by omega)])
  · exact h.elim
