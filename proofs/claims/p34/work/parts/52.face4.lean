theorem CT.of {w : ab_W} {σ σ' : ab_H} (h : CT w σ) (e1 : σ' 16 = σ 16) (e2 : σ' 17 = σ 17) : CT w σ' := by
  obtain ⟨q1, q2, q3, q4, q5⟩ := h
  exact ⟨q1, q2, q3, q4, by rw [e1, e2]; exact q5⟩
theorem RH.of {σ σ' : ab_H} {ms : List nT} (h : RH σ ms) (e4 : σ' 4 = σ 4) (e : ∀ v, 160 ≤ v → v < 709 → σ' v = σ v) : RH σ' ms := by
  obtain ⟨f, q1, q2, q3, q4, q5⟩ := h
  refine ⟨f, q1, q2, by rw [e4]; exact q3, by rw [e4]; exact q4, fun k x q => (q5 k x q).of (fun v v1 v2 => ?_)⟩
  have := Nat.mod_lt (f + k) (show 14 > 0 by omega)
  exact e v (by omega) (by omega)
theorem rSl.of {σ σ' : ab_H} {a : Nat} {o : Option nT} (h : rSl σ a o) (e : ∀ v, a ≤ v → v < a + 30 → σ' v = σ v) : rSl σ' a o := by
  unfold rSl at h ⊢
  split
  · next => rw [e a (by omega) (by omega)]; exact h
  · next n => exact ⟨by rw [e a (by omega) (by omega)]; exact h.1, h.2.of (fun v v1 v2 => e v (by omega) (by omega))⟩
theorem RA.txt {w : ab_W} {σ σ' : ab_H} {A : aS} (h : RA w σ A) {t : Nat → Nat} {m : Nat} (ht : tR σ' t m) (e : ∀ v, v ≠ 1 → v ≠ 2 → v ≠ 3 → σ' v = σ v) : RA w σ' (A.1, A.2.1, A.2.2.1, A.2.2.2.1, t, m) := by
  obtain ⟨q1, q2, q3, q4, q5, q6, q7⟩ := h
  exact ⟨q1.of (e 16 (by omega) (by omega) (by omega)) (e 17 (by omega) (by omega) (by omega)), q2.of (fun v _ _ => e v (by omega) (by omega) (by omega)), q3.of (fun v _ _ => e v (by omega) (by omega) (by omega)), q4.of (e 4 (by omega) (by omega) (by omega)) (fun v _ _ => e v (by omega) (by omega) (by omega)), q5.of (fun v _ _ => e v (by omega) (by omega) (by omega)), q6.of (fun v _ _ => e v (by omega) (by omega) (by omega)), ht⟩
def sp_X9_clearText : ab_S := fun w As σ K => match As with
  | [.ref a] => a = 0 ∧ wA w ∧ ∃ A, RA w σ A ∧ ∀ σ', RA w σ' (A.1, A.2.1, A.2.2.1, A.2.2.2.1, A.2.2.2.2.1, 0) → FrA σ σ' → K (some (.int (nI A.2.2.2.2.2))) σ'
  | _ => False
def sp_X9_errorPosition : ab_S := fun w As σ K => match As with
  | [.ref a] => a = 0 ∧ wA w ∧ ∃ A, RA w σ A ∧ ∀ σ', RA w σ' A → FrA σ σ' → K (some (.int (oI (p_text A.2.2.2.2.1 A.2.2.2.2.2)))) σ'
  | _ => False
set_option maxRecDepth 20000 in
set_option maxHeartbeats 4000000 in
theorem ok_X9_clearText {l : Launch} (hl : l.stackTraces = false) : ab_OkN l yX9_clearText (Cond.code yX9_clearText cX9_clearText 2 (some .int)) 1 sp_X9_clearText := by
  intro w σ As Kn hI h
  unfold sp_X9_clearText at h
  split at h
  · next a =>
    obtain ⟨rfl, hw, A, hA, h⟩ := h
    refine vc_X9_clearText hl hI (Nat.le_of_ble_eq_true rfl) (fun M h0 => h0 [.ref 0, .null] [] σ ?_)
    have w0 := hw.1
    have w1 := hw.2.1.1
    have ht := hA.2.2.2.2.2.2
    have e1 := ht.1
    simp (disch := omega) only [bX9_clearText_0, w0, w1, e1, q_ci, q_cl, q_ild, q_lld, q_ald, q_ist, q_ast, q_lst, q_inc, q_b2, q_d2, q_u1, q_l2, q_ld2, q_lsh, q_lcmp, q_i2l, q_l2i, q_dupi, q_dupr, q_dup2, q_popi, q_popr, q_if1, q_if2, q_nn, q_sw, q_swn, q_swc, q_gf, q_gr, q_pf, q_pz, q_pc, q_ia, q_is, q_cs, q_zs, q_la, q_lw, q_aa, q_al, q_gs, q_acp, q_m2, q_m1, q_ir, q_zr, q_lr, q_ar, q_vr, q_cN0, q_cSX0, q_cV0, q_cVX0, q_cN1, q_cSX1, q_cV1, q_cVX1, q_cN2, q_cSX2, q_cV2, q_cVX2, q_cN3, q_cSX3, q_cV3, q_cVX3, q_cN4, q_cSX4, q_cV4, q_cVX4, q_cN5, q_cSX5, q_cV5, q_cVX5, q_cN6, q_cSX6, q_cV6, q_cVX6, q_th, q_sh0, q_sh1, q_sh2, q_sh3, q_sh4, q_toL0, q_toL1, q_gl0, q_gls, q_sl0, q_sls, q_k10, q_k1s, q_lgi, q_lgr, q_lgl, q_lgn, Bool.not_false, and_true, true_and, nz_2, nz_4, nz_5, nz_8, nz_10, nz_12, nz_14, nz_16, nz_40, nz_41, nz_64, nz_100, nz_1000, nz_1024, nz_4096, nz_10000, nz_100000, not_false_eq_true, bI_0, nI_add, pk_mul, nI_lt', nI_le', nI_eq', nI_z, nI_p, nI_e0, nI_l0, nI_le0, nI_clamp, up_eq, up_ne, not_true_eq_false, Classical.not_not, false_implies, true_implies, false_and, and_false, or_true, true_or, Nat.add_zero, pk_m1, m1_0, m1_n, m1_p, Nat.zero_le, forall_const]
    refine h _ (hA.txt ⟨by rw [up_eqp rfl rfl], by omega, fun j hj => absurd hj (by omega)⟩ (fun v v1 _ _ => up_ne v1)) (fun v v1 v2 => up_ne (by omega))
  · exact h.elim
set_option maxRecDepth 20000 in
set_option maxHeartbeats 4000000 in
theorem ok_X9_errorPosition {l : Launch} (hl : l.stackTraces = false) : ab_OkN l yX9_errorPosition (Cond.code yX9_errorPosition cX9_errorPosition 1 (some .int)) 5 sp_X9_errorPosition := by
  intro w σ As Kn hI h
  unfold sp_X9_errorPosition at h
  split at h
  · next a =>
    obtain ⟨rfl, hw, A, hA, h⟩ := h
    refine vc_X9_errorPosition hl hI (ok_X8_firstError hl) (Nat.le_of_ble_eq_true rfl) (fun M h0 => h0 [.ref 0] [] σ ?_)
    have w0 := hw.1
    have w1 := hw.2.1.1
    have ht := hA.2.2.2.2.2.2
    simp (disch := omega) only [bX9_errorPosition_0, sp_X8_firstError, w0, w1, q_ci, q_cl, q_ild, q_lld, q_ald, q_ist, q_ast, q_lst, q_inc, q_b2, q_d2, q_u1, q_l2, q_ld2, q_lsh, q_lcmp, q_i2l, q_l2i, q_dupi, q_dupr, q_dup2, q_popi, q_popr, q_if1, q_if2, q_nn, q_sw, q_swn, q_swc, q_gf, q_gr, q_pf, q_pz, q_pc, q_ia, q_is, q_cs, q_zs, q_la, q_lw, q_aa, q_al, q_gs, q_acp, q_m2, q_m1, q_ir, q_zr, q_lr, q_ar, q_vr, q_cN0, q_cSX0, q_cV0, q_cVX0, q_cN1, q_cSX1, q_cV1, q_cVX1, q_cN2, q_cSX2, q_cV2, q_cVX2, q_cN3, q_cSX3, q_cV3, q_cVX3, q_cN4, q_cSX4, q_cV4, q_cVX4, q_cN5, q_cSX5, q_cV5, q_cVX5, q_cN6, q_cSX6, q_cV6, q_cVX6, q_th, q_sh0, q_sh1, q_sh2, q_sh3, q_sh4, q_toL0, q_toL1, q_gl0, q_gls, q_sl0, q_sls, q_k10, q_k1s, q_lgi, q_lgr, q_lgl, q_lgn, Bool.not_false, and_true, true_and, nz_2, nz_4, nz_5, nz_8, nz_10, nz_12, nz_14, nz_16, nz_40, nz_41, nz_64, nz_100, nz_1000, nz_1024, nz_4096, nz_10000, nz_100000, not_false_eq_true, bI_0, nI_add, pk_mul, nI_lt', nI_le', nI_eq', nI_z, nI_p, nI_e0, nI_l0, nI_le0, nI_clamp, up_eq, up_ne, not_true_eq_false, Classical.not_not, false_implies, true_implies, false_and, and_false, or_true, true_or, Nat.add_zero, pk_m1, m1_0, m1_n, m1_p, Nat.zero_le, forall_const]
    exact ⟨hw.2.1, _, _, ht, fun σ' f => h σ' (hA.txt (f.t ht) (fun v v1 _ v3 => f.1 v v1 v3)) (fun v v1 v2 => f.1 v (by omega) (by omega))⟩
  · exact h.elim
