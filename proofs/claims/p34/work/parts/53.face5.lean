theorem chr_n {k : Nat} (h : k ≤ 255) : ((nI k).toUInt32 % 65536).toInt32 = nI k :=
  (show ∀ k : Fin 256, ((nI k.1).toUInt32 % 65536).toInt32 = nI k.1 by decide +kernel) ⟨k, by omega⟩
def sp_X9_append : ab_S := fun w As σ K => match As with
  | [.ref a, .int c] => a = 0 ∧ wA w ∧ ∃ A k, RA w σ A ∧ c = nI k ∧ k ≤ 255 ∧ A.2.2.2.2.2 < 120 ∧ ∀ σ', RA w σ' (A.1, A.2.1, A.2.2.1, A.2.2.2.1, (fun i => if i = A.2.2.2.2.2 then k else A.2.2.2.2.1 i), A.2.2.2.2.2 + 1) → FrA σ σ' → K (some (.int (nI (A.2.2.2.2.2 + 1)))) σ'
  | _ => False
def sx_X9_append : ab_SX := fun w As σ K => match As with
  | [.ref a, .int c] => a = 0 ∧ wA w ∧ ∃ A, RA w σ A ∧ ((¬ bt2 0 c (nI 255) ∧ K x_ar σ) ∨ (bt2 0 c (nI 255) ∧ A.2.2.2.2.2 = 120 ∧ K x_st σ))
  | _ => False
set_option maxRecDepth 20000 in
set_option maxHeartbeats 4000000 in
theorem ok_X9_append {l : Launch} (hl : l.stackTraces = false) : ab_OkN l yX9_append (Cond.code yX9_append cX9_append 2 (some .int)) 6 sp_X9_append := by
  intro w σ As Kn hI h
  unfold sp_X9_append at h
  split at h
  · next a c =>
    obtain ⟨rfl, hw, A, k, hA, rfl, hk, hm, h⟩ := h
    refine vc_X9_append hl hI (ok_X9_within hl) (ok_X8_add hl) (Nat.le_of_ble_eq_true rfl) (fun M h0 => h0 [.ref 0, .int (nI k)] [] σ ?_)
    have w0 := hw.1
    have w1 := hw.2.1.1
    have ht := hA.2.2.2.2.2.2
    have e1 := ht.1
    simp (disch := omega) only [bX9_append_0, sp_X9_within, sp_X8_add, w0, w1, e1, q_ci, q_cl, q_ild, q_lld, q_ald, q_ist, q_ast, q_lst, q_inc, q_b2, q_d2, q_u1, q_l2, q_ld2, q_lsh, q_lcmp, q_i2l, q_l2i, q_dupi, q_dupr, q_dup2, q_popi, q_popr, q_if1, q_if2, q_nn, q_sw, q_swn, q_swc, q_gf, q_gr, q_pf, q_pz, q_pc, q_ia, q_is, q_cs, q_zs, q_la, q_lw, q_aa, q_al, q_gs, q_acp, q_m2, q_m1, q_ir, q_zr, q_lr, q_ar, q_vr, q_cN0, q_cSX0, q_cV0, q_cVX0, q_cN1, q_cSX1, q_cV1, q_cVX1, q_cN2, q_cSX2, q_cV2, q_cVX2, q_cN3, q_cSX3, q_cV3, q_cVX3, q_cN4, q_cSX4, q_cV4, q_cVX4, q_cN5, q_cSX5, q_cV5, q_cVX5, q_cN6, q_cSX6, q_cV6, q_cVX6, q_th, q_sh0, q_sh1, q_sh2, q_sh3, q_sh4, q_toL0, q_toL1, q_gl0, q_gls, q_sl0, q_sls, q_k10, q_k1s, q_lgi, q_lgr, q_lgl, q_lgn, Bool.not_false, and_true, true_and, nz_2, nz_4, nz_5, nz_8, nz_10, nz_12, nz_14, nz_16, nz_40, nz_41, nz_64, nz_100, nz_1000, nz_1024, nz_4096, nz_10000, nz_100000, not_false_eq_true, bI_0, nI_add, pk_mul, nI_lt', nI_le', nI_eq', nI_z, nI_p, nI_e0, nI_l0, nI_le0, nI_clamp, up_eq, up_ne, not_true_eq_false, Classical.not_not, false_implies, true_implies, false_and, and_false, or_true, true_or, Nat.add_zero, pk_m1, m1_0, m1_n, m1_p, Nat.zero_le, forall_const]
    refine ⟨fun _ => ⟨fun _ => ⟨hw.2.1, _, _, k, ht, hm, chr_n hk, hk, ?_⟩, fun q => absurd hm q⟩, fun q => absurd hk q⟩
    rw [chr_n hk]
    simp only [if_true]
    refine h _ (hA.txt ⟨up_eqp rfl rfl, by omega, fun j hj => ?_⟩ (fun v v1 v2 _ => by simp (disch := omega) only [up_ne])) (fun v v1 v2 => by simp (disch := omega) only [up_ne])
    rw [up_ne (by omega)]
    dsimp only
    by_cases hjm : j = A.2.2.2.2.2
    · rw [up_eqp rfl hjm, if_pos hjm]; exact ⟨rfl, hk⟩
    · rw [up_nep hjm, if_neg hjm]; exact ht.2.2 j (by omega)
  · exact h.elim
set_option maxRecDepth 20000 in
set_option maxHeartbeats 4000000 in
theorem okx_X9_append {l : Launch} (hl : l.stackTraces = false) : ab_OkX l yX9_append (Cond.code yX9_append cX9_append 2 (some .int)) 6 sx_X9_append := by
  intro w σ As Kx hI h
  unfold sx_X9_append at h
  split at h
  · next a c =>
    obtain ⟨rfl, hw, A, hA, h⟩ := h
    refine vc_X9_append hl hI (ok_X9_within hl) (ok_X8_add hl) (Nat.le_of_ble_eq_true rfl) (fun M h0 => h0 [.ref 0, .int c] [] σ ?_)
    have w0 := hw.1
    have w1 := hw.2.1.1
    have ht := hA.2.2.2.2.2.2
    have e1 := ht.1
    have e2 := ht.2.1
    simp (disch := omega) only [bX9_append_0, sp_X9_within, w0, w1, e1, q_ci, q_cl, q_ild, q_lld, q_ald, q_ist, q_ast, q_lst, q_inc, q_b2, q_d2, q_u1, q_l2, q_ld2, q_lsh, q_lcmp, q_i2l, q_l2i, q_dupi, q_dupr, q_dup2, q_popi, q_popr, q_if1, q_if2, q_nn, q_sw, q_swn, q_swc, q_gf, q_gr, q_pf, q_pz, q_pc, q_ia, q_is, q_cs, q_zs, q_la, q_lw, q_aa, q_al, q_gs, q_acp, q_m2, q_m1, q_ir, q_zr, q_lr, q_ar, q_vr, q_cN0, q_cSX0, q_cV0, q_cVX0, q_cN1, q_cSX1, q_cV1, q_cVX1, q_cN2, q_cSX2, q_cV2, q_cVX2, q_cN3, q_cSX3, q_cV3, q_cVX3, q_cN4, q_cSX4, q_cV4, q_cVX4, q_cN5, q_cSX5, q_cV5, q_cVX5, q_cN6, q_cSX6, q_cV6, q_cVX6, q_th, q_sh0, q_sh1, q_sh2, q_sh3, q_sh4, q_toL0, q_toL1, q_gl0, q_gls, q_sl0, q_sls, q_k10, q_k1s, q_lgi, q_lgr, q_lgl, q_lgn, Bool.not_false, and_true, true_and, nz_2, nz_4, nz_5, nz_8, nz_10, nz_12, nz_14, nz_16, nz_40, nz_41, nz_64, nz_100, nz_1000, nz_1024, nz_4096, nz_10000, nz_100000, not_false_eq_true, bI_0, nI_add, pk_mul, nI_lt', nI_le', nI_eq', nI_z, nI_p, nI_e0, nI_l0, nI_le0, nI_clamp, up_eq, up_ne, not_true_eq_false, Classical.not_not, false_implies, true_implies, false_and, and_false, or_true, true_or, Nat.add_zero, pk_m1, m1_0, m1_n, m1_p, Nat.zero_le, forall_const]
    rw [nI_0]
    rcases h with ⟨q, h⟩ | ⟨q, q2, h⟩
    · exact ⟨fun q1 => absurd q1 q, fun _ => h⟩
    · exact ⟨fun _ => ⟨fun q3 => absurd q3 (by omega), fun _ => h⟩, fun q1 => absurd q q1⟩
  · exact h.elim
