theorem RA.tri {w : ab_W} {σ σ' : ab_H} {A : aS} (h : RA w σ A) (e : Frk 120 29 σ σ') : RA w σ' A := by
  obtain ⟨q1, q2, q3, q4, q5, q6, q7⟩ := h
  exact ⟨q1.of (e 16 (by omega)) (e 17 (by omega)), q2.of (fun v _ _ => e v (by omega)), q3.of (fun v _ _ => e v (by omega)), q4.of (e 4 (by omega)) (fun v _ _ => e v (by omega)), q5.of (fun v _ _ => e v (by omega)), q6.of (fun v _ _ => e v (by omega)), by unfold tR at q7 ⊢; rw [e 1 (by omega), e 2 (by omega)]; exact q7⟩
theorem FrA.tri {σ σ' : ab_H} (e : Frk 120 29 σ σ') : FrA σ σ' := fun v _ _ => e v (by omega)
theorem Frk.trans {a n : Nat} {σ σ' σ2 : ab_H} (h : Frk a n σ σ') (g : Frk a n σ' σ2) : Frk a n σ σ2 := fun v hv => by rw [g v hv, h v hv]
theorem Frk.refl {a n : Nat} {σ : ab_H} : Frk a n σ σ := fun _ _ => rfl
theorem RA.net {w : ab_W} {σ σ' : ab_H} {A : aS} (h : RA w σ A) {n : nT} (hR : RC σ' 40 n) (e : Frk 40 29 σ σ') : RA w σ' (n, A.2) := by
  obtain ⟨q1, q2, q3, q4, q5, q6, q7⟩ := h
  exact ⟨q1.of (e 16 (by omega)) (e 17 (by omega)), hR, q3.of (fun v _ _ => e v (by omega)), q4.of (e 4 (by omega)) (fun v _ _ => e v (by omega)), q5.of (fun v _ _ => e v (by omega)), q6.of (fun v _ _ => e v (by omega)), by unfold tR at q7 ⊢; rw [e 1 (by omega), e 2 (by omega)]; exact q7⟩
theorem RA.mem {w : ab_W} {σ σ' : ab_H} {A : aS} (h : RA w σ A) {ms : List nT} (hR : RH σ' ms) (e : FrM σ σ') : RA w σ' (A.1, ms, A.2.2) := by
  obtain ⟨q1, q2, q3, q4, q5, q6, q7⟩ := h
  exact ⟨q1.of (e 16 (by omega) (by omega)) (e 17 (by omega) (by omega)), q2.of (fun v _ _ => e v (by omega) (by omega)), q3.of (fun v _ _ => e v (by omega) (by omega)), hR, q5.of (fun v _ _ => e v (by omega) (by omega)), q6.of (fun v _ _ => e v (by omega) (by omega)), by unfold tR at q7 ⊢; rw [e 1 (by omega) (by omega), e 2 (by omega) (by omega)]; exact q7⟩
theorem RA.act {w : ab_W} {σ σ1 σ2 : ab_H} {A : aS} {n : nT} (h : RA w σ A) (hH : RH σ1 (n_keep A.2.1 A.1)) (hF : FrM σ σ1) (hR : RC σ2 40 n) (hF2 : Frk 40 29 σ1 σ2) : RA w σ2 (aNet A n) := (h.mem hH hF).net hR hF2
theorem FrA.act {σ σ1 σ2 : ab_H} (hF : FrM σ σ1) (hF2 : Frk 40 29 σ1 σ2) : FrA σ σ2 := fun v _ _ => by rw [hF2 v (by omega), hF v (by omega) (by omega)]
set_option maxRecDepth 20000 in
set_option maxHeartbeats 4000000 in
theorem cb_X9_about {l : Launch} (hl : l.stackTraces = false) {w : ab_W} {σ : ab_H} {Kn : Option Value → ab_H → Prop} {Kx : String → ab_H → Prop} (hI : ab_Inj w) (i : Int32) (h : sbA w σ (c_about i) [x_ar] Kn Kx) : ab_Met l yX9_about (Cond.code yX9_about cX9_about 2 (some .int)) 6 1 w σ [.ref 0, .int i] Kn Kx := by
  obtain ⟨hw, A, T, hA, hW, hT, hn, hx⟩ := h
  obtain ⟨w0, w40, w41, w49, w54, w59, w63, w120, w121, w143, w4⟩ := hw.k
  obtain ⟨e41, e49, e7, e8, e9, e63, e10, e11, e12, e59, e54⟩ := hA.rd
  have hcO := hW.1.cOK
  refine vc_X9_about hl hI (ok_X7_sondesOfAll hl)  (Nat.le_of_ble_eq_true rfl) (fun M h0 => h0 [.ref 0, .int i] [] σ ?_)
  by_cases hb : bt2 (nI 0) i (nI 11)
  · obtain ⟨k, -, hk, rfl⟩ := ab_lo (a := 0) (b := 11) (by omega) (by omega) hb.1 hb.2
    have hc : c_about (nI k) A = (0, n_ab A.1 k, A) := by unfold c_about; rw [if_pos hb, cl_nI (by omega)]
    rw [hc] at hn
    have hn := hn rfl σ hA FrA.refl
    clear hc
    rcases (by omega : k = 0 ∨ k = 1 ∨ k = 2 ∨ k = 3 ∨ k = 4 ∨ k = 5 ∨ k = 6 ∨ k = 7 ∨ k = 8 ∨ k = 9 ∨ k = 10 ∨ k = 11) with rfl | rfl | rfl | rfl | rfl | rfl | rfl | rfl | rfl | rfl | rfl | rfl
    all_goals simp (disch := omega) only [bX9_about_0, sp_X7_sondesOfAll, w0, w40, w41, w49, w54, w59, w63, e41, e49, e7, e8, e9, e63, e10, e11, e12, e59, e54, q_ci, q_cl, q_ild, q_lld, q_ald, q_ist, q_ast, q_lst, q_inc, q_b2, q_d2, q_u1, q_l2, q_ld2, q_lsh, q_lcmp, q_i2l, q_l2i, q_dupi, q_dupr, q_dup2, q_popi, q_popr, q_if1, q_if2, q_nn, q_sw, q_swn, q_swc, q_gf, q_gr, q_pf, q_pz, q_pc, q_ia, q_is, q_cs, q_zs, q_la, q_lw, q_aa, q_al, q_gs, q_acp, q_m2, q_m1, q_ir, q_zr, q_lr, q_ar, q_vr, q_cN0, q_cSX0, q_cV0, q_cVX0, q_cN1, q_cSX1, q_cV1, q_cVX1, q_cN2, q_cSX2, q_cV2, q_cVX2, q_cN3, q_cSX3, q_cV3, q_cVX3, q_cN4, q_cSX4, q_cV4, q_cVX4, q_cN5, q_cSX5, q_cV5, q_cVX5, q_cN6, q_cSX6, q_cV6, q_cVX6, q_th, q_sh0, q_sh1, q_sh2, q_sh3, q_sh4, q_toL0, q_toL1, q_gl0, q_gls, q_sl0, q_sls, q_k10, q_k1s, q_lgi, q_lgr, q_lgl, q_lgn, Bool.not_false, and_true, true_and, nz_2, nz_4, nz_5, nz_8, nz_10, nz_12, nz_14, nz_16, nz_40, nz_41, nz_64, nz_100, nz_1000, nz_1024, nz_4096, nz_10000, nz_100000, not_false_eq_true, bI_0, nI_add, pk_mul, nI_lt', nI_le', nI_eq', nI_z, nI_p, nI_e0, nI_l0, nI_le0, nI_clamp, up_eq, up_ne, not_true_eq_false, Classical.not_not, false_implies, true_implies, false_and, and_false, or_true, true_or, Nat.add_zero, pk_m1, m1_0, m1_n, m1_p, Nat.zero_le, forall_const]
    all_goals try simp only [imp_self, Nat.reduceEqDiff, false_implies, true_implies, not_false_eq_true, not_true_eq_false, and_true, true_and, forall_const]
    all_goals first | exact hn | exact ⟨hw.2.2.2.1.2.1, A.1.1, hA.2.1.2.1, hcO, hn⟩
  · have hc : c_about i A = (1, 0, A) := if_neg hb
    have hx := hx 0 x_ar (by rw [hc]) rfl σ hA FrA.refl
    simp (disch := omega) only [bX9_about_0, q_ci, q_cl, q_ild, q_lld, q_ald, q_ist, q_ast, q_lst, q_inc, q_b2, q_d2, q_u1, q_l2, q_ld2, q_lsh, q_lcmp, q_i2l, q_l2i, q_dupi, q_dupr, q_dup2, q_popi, q_popr, q_if1, q_if2, q_nn, q_sw, q_swn, q_swc, q_gf, q_gr, q_pf, q_pz, q_pc, q_ia, q_is, q_cs, q_zs, q_la, q_lw, q_aa, q_al, q_gs, q_acp, q_m2, q_m1, q_ir, q_zr, q_lr, q_ar, q_vr, q_cN0, q_cSX0, q_cV0, q_cVX0, q_cN1, q_cSX1, q_cV1, q_cVX1, q_cN2, q_cSX2, q_cV2, q_cVX2, q_cN3, q_cSX3, q_cV3, q_cVX3, q_cN4, q_cSX4, q_cV4, q_cVX4, q_cN5, q_cSX5, q_cV5, q_cVX5, q_cN6, q_cSX6, q_cV6, q_cVX6, q_th, q_sh0, q_sh1, q_sh2, q_sh3, q_sh4, q_toL0, q_toL1, q_gl0, q_gls, q_sl0, q_sls, q_k10, q_k1s, q_lgi, q_lgr, q_lgl, q_lgn, Bool.not_false, and_true, true_and, nz_2, nz_4, nz_5, nz_8, nz_10, nz_12, nz_14, nz_16, nz_40, nz_41, nz_64, nz_100, nz_1000, nz_1024, nz_4096, nz_10000, nz_100000, not_false_eq_true, bI_0, nI_add, pk_mul, nI_lt', nI_le', nI_eq', nI_z, nI_p, nI_e0, nI_l0, nI_le0, nI_clamp, up_eq, up_ne, not_true_eq_false, Classical.not_not, false_implies, true_implies, false_and, and_false, or_true, true_or, Nat.add_zero, pk_m1, m1_0, m1_n, m1_p, Nat.zero_le, forall_const]
    repeat' first
      | exact hx
      | refine ⟨fun q => absurd (show bt2 (nI 0) i (nI 11) by rw [q]; exact ⟨by decide +kernel, by decide +kernel⟩) hb, fun _ => ?_⟩
def sp_X9_whatWouldBeDone : ab_S := fun w As σ K => match As with
  | [.ref a, .int i] => a = 0 ∧ wA w ∧ ∃ A T k, RA w σ A ∧ WF T A.1 ∧ T < 60000 ∧ i = nI k ∧ k < cl (A.1.1 1) ∧ ∀ σ', RA w σ' A → FrA σ σ' → K (some (.int (nI (n_deed (n_arr A.1).1 k)))) σ'
  | _ => False
set_option maxRecDepth 20000 in
set_option maxHeartbeats 4000000 in
theorem ok_X9_whatWouldBeDone {l : Launch} (hl : l.stackTraces = false) : ab_OkN l yX9_whatWouldBeDone (Cond.code yX9_whatWouldBeDone cX9_whatWouldBeDone 2 (some .int)) 5 sp_X9_whatWouldBeDone := by
  intro w σ As Kn hI h
  unfold sp_X9_whatWouldBeDone at h
  split at h
  · next a i =>
    obtain ⟨rfl, hw, A, T, k, hA, hW, hT, rfl, hk, h⟩ := h
    obtain ⟨w0, w40, w41, w49, w54, w59, w63, w120, w121, w143, w4⟩ := hw.k
    refine vc_X9_whatWouldBeDone hl hI (ok_X3_copyFrom hl) (ok_X3_takeWhatArrives hl) (ok_X3_planOf hl) (Nat.le_of_ble_eq_true rfl) (fun M h0 => h0 [.ref 0, .int (nI k)] [] σ ?_)
    simp (disch := omega) only [bX9_whatWouldBeDone_0, sp_X3_copyFrom, sp_X3_takeWhatArrives, sp_X3_planOf, w0, w40, w120, q_ci, q_cl, q_ild, q_lld, q_ald, q_ist, q_ast, q_lst, q_inc, q_b2, q_d2, q_u1, q_l2, q_ld2, q_lsh, q_lcmp, q_i2l, q_l2i, q_dupi, q_dupr, q_dup2, q_popi, q_popr, q_if1, q_if2, q_nn, q_sw, q_swn, q_swc, q_gf, q_gr, q_pf, q_pz, q_pc, q_ia, q_is, q_cs, q_zs, q_la, q_lw, q_aa, q_al, q_gs, q_acp, q_m2, q_m1, q_ir, q_zr, q_lr, q_ar, q_vr, q_cN0, q_cSX0, q_cV0, q_cVX0, q_cN1, q_cSX1, q_cV1, q_cVX1, q_cN2, q_cSX2, q_cV2, q_cVX2, q_cN3, q_cSX3, q_cV3, q_cVX3, q_cN4, q_cSX4, q_cV4, q_cVX4, q_cN5, q_cSX5, q_cV5, q_cVX5, q_cN6, q_cSX6, q_cV6, q_cVX6, q_th, q_sh0, q_sh1, q_sh2, q_sh3, q_sh4, q_toL0, q_toL1, q_gl0, q_gls, q_sl0, q_sls, q_k10, q_k1s, q_lgi, q_lgr, q_lgl, q_lgn, Bool.not_false, and_true, true_and, nz_2, nz_4, nz_5, nz_8, nz_10, nz_12, nz_14, nz_16, nz_40, nz_41, nz_64, nz_100, nz_1000, nz_1024, nz_4096, nz_10000, nz_100000, not_false_eq_true, bI_0, nI_add, pk_mul, nI_lt', nI_le', nI_eq', nI_z, nI_p, nI_e0, nI_l0, nI_le0, nI_clamp, up_eq, up_ne, not_true_eq_false, Classical.not_not, false_implies, true_implies, false_and, and_false, or_true, true_or, Nat.add_zero, pk_m1, m1_0, m1_n, m1_p, Nat.zero_le, forall_const]
    refine ⟨hw.2.2.2.2.2.1, hw.2.2.2.1, by unfold apt; omega, fun σ1 a1 a2 => ⟨hw.2.2.2.2.2.1, T, A.1, a1 T A.1 hW hA.2.1, hW, by omega, fun σ2 b1 b2 => ⟨hw.2.2.2.2.2.1, T, 0, n_arr A.1, k, b1, WF_arr hW (by omega), rfl, ?_, by omega, ?_⟩⟩⟩
    · rw [n_arr_i hW (by omega)]; exact hk
    · exact h σ2 (hA.tri (a2.trans b2)) (FrA.tri (a2.trans b2))
  · exact h.elim
theorem n_st_1 {n : nT} {s : Nat} : n_st n s 1 = n.1 (22 + 11 * s) := by unfold n_st; rw [if_pos (by omega), show 21 + 11 * s + 1 = 22 + 11 * s by omega]
theorem n_st_2 {n : nT} {s : Nat} : n_st n s 2 = n.1 (23 + 11 * s) := by unfold n_st; rw [if_pos (by omega), show 21 + 11 * s + 2 = 23 + 11 * s by omega]
theorem n_st_3 {n : nT} {s : Nat} : n_st n s 3 = n.1 (24 + 11 * s) := by unfold n_st; rw [if_pos (by omega), show 21 + 11 * s + 3 = 24 + 11 * s by omega]
theorem n_st_5 {n : nT} {s : Nat} : n_st n s 5 = n.1 (30 + 11 * s) := by unfold n_st; rw [if_neg (by omega), if_neg (by omega), if_pos (by omega), show 25 + 11 * s + 5 = 30 + 11 * s by omega]
theorem n_st_6 {n : nT} {s : Nat} : n_st n s 6 = n.1 (31 + 11 * s) := by unfold n_st; rw [if_neg (by omega), if_neg (by omega), if_pos (by omega), show 25 + 11 * s + 6 = 31 + 11 * s by omega]
set_option maxRecDepth 20000 in
set_option maxHeartbeats 4000000 in
theorem cb_X9_station {l : Launch} (hl : l.stackTraces = false) {w : ab_W} {σ : ab_H} {Kn : Option Value → ab_H → Prop} {Kx : String → ab_H → Prop} (hI : ab_Inj w) (s : Int32) (i : Int32) (h : sbA w σ (c_station s i) [x_ix, x_ar] Kn Kx) : ab_Met l yX9_station (Cond.code yX9_station cX9_station 4 (some .int)) 7 1 w σ [.ref 0, .int s, .int i] Kn Kx := by
  obtain ⟨hw, A, T, hA, hW, hT, hn, hx⟩ := h
  obtain ⟨w0, w40, w41, w49, w54, w59, w63, w120, w121, w143, w4⟩ := hw.k
  obtain ⟨e41, e49, e7, e8, e9, e63, e10, e11, e12, e59, e54⟩ := hA.rd
  have hcO := hW.1.cOK
  refine vc_X9_station hl hI (ok_X9_needStation hl) (ok_X7_sondesOf hl) (ok_X9_whatWouldBeDone hl) (okx_X9_needStation hl) (Nat.le_of_ble_eq_true rfl) (fun M h0 => h0 [.ref 0, .int s, .int i, .null] [] σ ?_)
  have hN := hw.2.2.2.1
  by_cases hv : vS A.1.1 s
  · obtain ⟨k, hk, hs⟩ : ∃ k, k < cl (A.1.1 1) ∧ s = nI k := ⟨cl s, (ab_ixs hcO hv).2, (ab_ixs hcO hv).1⟩
    subst hs
    have h5 := hcO.2
    have vk : vp_in (nI k) 5 := vp_in_nI (by omega) (by omega)
    obtain ⟨k7, g1, g2, g3, g4, g5, g6, g7, l1, l2, l3, l4, l5, l6, l7⟩ := id hN.2.1
    obtain ⟨s1, s2, s3, s4, s5, s6, s7⟩ := hA.2.1.2.1.2.1 k hk
    by_cases hb : bt2 (nI 0) i (nI 7)
    · obtain ⟨j, -, hj, rfl⟩ := ab_lo (a := 0) (b := 7) (by omega) (by omega) hb.1 hb.2
      have hc : c_station (nI k) (nI j) A = (0, n_st A.1 k j, A) := by unfold c_station; rw [if_pos hv, if_pos hb, cl_nI (by omega), cl_nI (by omega)]
      rw [hc] at hn
      have hn := hn rfl
      clear hc
      rcases (by omega : j = 0 ∨ j = 1 ∨ j = 2 ∨ j = 3 ∨ j = 4 ∨ j = 5 ∨ j = 6 ∨ j = 7) with rfl | rfl | rfl | rfl | rfl | rfl | rfl | rfl
      all_goals simp (disch := omega) only [bX9_station_0, sp_X9_needStation, sx_X9_needStation, sp_X7_sondesOf, sp_X9_whatWouldBeDone, w0, w40, w41, g1, g2, g3, g4, g5, g6, l1, l2, l3, l4, l5, l6, s1, s2, s3, s4, s5, s6, q_ci, q_cl, q_ild, q_lld, q_ald, q_ist, q_ast, q_lst, q_inc, q_b2, q_d2, q_u1, q_l2, q_ld2, q_lsh, q_lcmp, q_i2l, q_l2i, q_dupi, q_dupr, q_dup2, q_popi, q_popr, q_if1, q_if2, q_nn, q_sw, q_swn, q_swc, q_gf, q_gr, q_pf, q_pz, q_pc, q_ia, q_is, q_cs, q_zs, q_la, q_lw, q_aa, q_al, q_gs, q_acp, q_m2, q_m1, q_ir, q_zr, q_lr, q_ar, q_vr, q_cN0, q_cSX0, q_cV0, q_cVX0, q_cN1, q_cSX1, q_cV1, q_cVX1, q_cN2, q_cSX2, q_cV2, q_cVX2, q_cN3, q_cSX3, q_cV3, q_cVX3, q_cN4, q_cSX4, q_cV4, q_cVX4, q_cN5, q_cSX5, q_cV5, q_cVX5, q_cN6, q_cSX6, q_cV6, q_cVX6, q_th, q_sh0, q_sh1, q_sh2, q_sh3, q_sh4, q_toL0, q_toL1, q_gl0, q_gls, q_sl0, q_sls, q_k10, q_k1s, q_lgi, q_lgr, q_lgl, q_lgn, Bool.not_false, and_true, true_and, nz_2, nz_4, nz_5, nz_8, nz_10, nz_12, nz_14, nz_16, nz_40, nz_41, nz_64, nz_100, nz_1000, nz_1024, nz_4096, nz_10000, nz_100000, not_false_eq_true, bI_0, nI_add, pk_mul, nI_lt', nI_le', nI_eq', nI_z, nI_p, nI_e0, nI_l0, nI_le0, nI_clamp, up_eq, up_ne, not_true_eq_false, Classical.not_not, false_implies, true_implies, false_and, and_false, or_true, true_or, Nat.add_zero, pk_m1, m1_0, m1_n, m1_p, Nat.zero_le, forall_const]
      all_goals refine Or.inl ⟨hN, A.1.1, e41, hv, ?_⟩
      all_goals try simp only [imp_self, Nat.reduceEqDiff, false_implies, true_implies, not_false_eq_true, not_true_eq_false, and_true, true_and, forall_const]
      all_goals first
        | exact ⟨vk, hn σ hA FrA.refl⟩
        | exact ⟨vk, by have := hn σ hA FrA.refl; simp only [n_st_1, n_st_2, n_st_3, n_st_5, n_st_6] at this; exact this⟩
        | exact ⟨hN.2.1, k, A.1.1, hA.2.1.2.1, hcO, rfl, hk, hn σ hA FrA.refl⟩
        | exact ⟨hw, A, T, k, hA, hW.1, hT, rfl, hk, hn⟩
    · have hc : c_station (nI k) i A = (2, 0, A) := by unfold c_station; rw [if_pos hv, if_neg hb]
      have hx := hx 1 x_ar (by rw [hc]) rfl σ hA FrA.refl
      simp (disch := omega) only [bX9_station_0, sp_X9_needStation, sx_X9_needStation, w0, w40, w41, q_ci, q_cl, q_ild, q_lld, q_ald, q_ist, q_ast, q_lst, q_inc, q_b2, q_d2, q_u1, q_l2, q_ld2, q_lsh, q_lcmp, q_i2l, q_l2i, q_dupi, q_dupr, q_dup2, q_popi, q_popr, q_if1, q_if2, q_nn, q_sw, q_swn, q_swc, q_gf, q_gr, q_pf, q_pz, q_pc, q_ia, q_is, q_cs, q_zs, q_la, q_lw, q_aa, q_al, q_gs, q_acp, q_m2, q_m1, q_ir, q_zr, q_lr, q_ar, q_vr, q_cN0, q_cSX0, q_cV0, q_cVX0, q_cN1, q_cSX1, q_cV1, q_cVX1, q_cN2, q_cSX2, q_cV2, q_cVX2, q_cN3, q_cSX3, q_cV3, q_cVX3, q_cN4, q_cSX4, q_cV4, q_cVX4, q_cN5, q_cSX5, q_cV5, q_cVX5, q_cN6, q_cSX6, q_cV6, q_cVX6, q_th, q_sh0, q_sh1, q_sh2, q_sh3, q_sh4, q_toL0, q_toL1, q_gl0, q_gls, q_sl0, q_sls, q_k10, q_k1s, q_lgi, q_lgr, q_lgl, q_lgn, Bool.not_false, and_true, true_and, nz_2, nz_4, nz_5, nz_8, nz_10, nz_12, nz_14, nz_16, nz_40, nz_41, nz_64, nz_100, nz_1000, nz_1024, nz_4096, nz_10000, nz_100000, not_false_eq_true, bI_0, nI_add, pk_mul, nI_lt', nI_le', nI_eq', nI_z, nI_p, nI_e0, nI_l0, nI_le0, nI_clamp, up_eq, up_ne, not_true_eq_false, Classical.not_not, false_implies, true_implies, false_and, and_false, or_true, true_or, Nat.add_zero, pk_m1, m1_0, m1_n, m1_p, Nat.zero_le, forall_const]
      refine Or.inl ⟨hN, A.1.1, e41, hv, ?_⟩
      repeat' first
        | exact hx
        | refine ⟨fun q => absurd (show bt2 (nI 0) i (nI 7) by rw [q]; exact ⟨by decide +kernel, by decide +kernel⟩) hb, fun _ => ?_⟩
  · have hc : c_station s i A = (1, 0, A) := if_neg hv
    have hx := hx 0 x_ix (by rw [hc]) rfl σ hA FrA.refl
    simp (disch := omega) only [bX9_station_0, sp_X9_needStation, sx_X9_needStation, w0, w40, w41, q_ci, q_cl, q_ild, q_lld, q_ald, q_ist, q_ast, q_lst, q_inc, q_b2, q_d2, q_u1, q_l2, q_ld2, q_lsh, q_lcmp, q_i2l, q_l2i, q_dupi, q_dupr, q_dup2, q_popi, q_popr, q_if1, q_if2, q_nn, q_sw, q_swn, q_swc, q_gf, q_gr, q_pf, q_pz, q_pc, q_ia, q_is, q_cs, q_zs, q_la, q_lw, q_aa, q_al, q_gs, q_acp, q_m2, q_m1, q_ir, q_zr, q_lr, q_ar, q_vr, q_cN0, q_cSX0, q_cV0, q_cVX0, q_cN1, q_cSX1, q_cV1, q_cVX1, q_cN2, q_cSX2, q_cV2, q_cVX2, q_cN3, q_cSX3, q_cV3, q_cVX3, q_cN4, q_cSX4, q_cV4, q_cVX4, q_cN5, q_cSX5, q_cV5, q_cVX5, q_cN6, q_cSX6, q_cV6, q_cVX6, q_th, q_sh0, q_sh1, q_sh2, q_sh3, q_sh4, q_toL0, q_toL1, q_gl0, q_gls, q_sl0, q_sls, q_k10, q_k1s, q_lgi, q_lgr, q_lgl, q_lgn, Bool.not_false, and_true, true_and, nz_2, nz_4, nz_5, nz_8, nz_10, nz_12, nz_14, nz_16, nz_40, nz_41, nz_64, nz_100, nz_1000, nz_1024, nz_4096, nz_10000, nz_100000, not_false_eq_true, bI_0, nI_add, pk_mul, nI_lt', nI_le', nI_eq', nI_z, nI_p, nI_e0, nI_l0, nI_le0, nI_clamp, up_eq, up_ne, not_true_eq_false, Classical.not_not, false_implies, true_implies, false_and, and_false, or_true, true_or, Nat.add_zero, pk_m1, m1_0, m1_n, m1_p, Nat.zero_le, forall_const]
    exact Or.inr ⟨hN, A.1.1, e41, hv, hx⟩
set_option maxRecDepth 20000 in
set_option maxHeartbeats 4000000 in
theorem cb_X9_stock {l : Launch} (hl : l.stackTraces = false) {w : ab_W} {σ : ab_H} {Kn : Option Value → ab_H → Prop} {Kx : String → ab_H → Prop} (hI : ab_Inj w) (s : Int32) (i : Int32) (h : sbA w σ (c_stock s i) [x_ix, x_ar] Kn Kx) : ab_Met l yX9_stock (Cond.code yX9_stock cX9_stock 3 (some .int)) 7 1 w σ [.ref 0, .int s, .int i] Kn Kx := by
  obtain ⟨hw, A, T, hA, hW, hT, hn, hx⟩ := h
  obtain ⟨w0, w40, w41, w49, w54, w59, w63, w120, w121, w143, w4⟩ := hw.k
  obtain ⟨e41, e49, e7, e8, e9, e63, e10, e11, e12, e59, e54⟩ := hA.rd
  have hcO := hW.1.cOK
  refine vc_X9_stock hl hI (ok_X9_needStation hl) (ok_X9_within hl) (ok_X9_need hl) (ok_X7_sondesWith hl) (okx_X9_needStation hl) (okx_X9_need hl) (Nat.le_of_ble_eq_true rfl) (fun M h0 => h0 [.ref 0, .int s, .int i] [] σ ?_)
  have hN := hw.2.2.2.1
  by_cases hv : vS A.1.1 s
  · obtain ⟨k, hk, hs⟩ : ∃ k, k < cl (A.1.1 1) ∧ s = nI k := ⟨cl s, (ab_ixs hcO hv).2, (ab_ixs hcO hv).1⟩
    subst hs
    have h5 := hcO.2
    by_cases hb : bt2 (nI 0) i (nI 4)
    · obtain ⟨j, -, hj, rfl⟩ := ab_lo (a := 0) (b := 4) (by omega) (by omega) hb.1 hb.2
      have hc : c_stock (nI k) (nI j) A = (0, A.1.1 (25 + 11 * k + j), A) := by unfold c_stock; rw [if_pos hv, if_pos hb, cl_nI (by omega), cl_nI (by omega)]
      rw [hc] at hn
      have hn := hn rfl σ hA FrA.refl
      simp (disch := omega) only [bX9_stock_0, sp_X9_needStation, sx_X9_needStation, sp_X9_within, sp_X9_need, sx_X9_need, sp_X7_sondesWith, w0, w40, w41, q_ci, q_cl, q_ild, q_lld, q_ald, q_ist, q_ast, q_lst, q_inc, q_b2, q_d2, q_u1, q_l2, q_ld2, q_lsh, q_lcmp, q_i2l, q_l2i, q_dupi, q_dupr, q_dup2, q_popi, q_popr, q_if1, q_if2, q_nn, q_sw, q_swn, q_swc, q_gf, q_gr, q_pf, q_pz, q_pc, q_ia, q_is, q_cs, q_zs, q_la, q_lw, q_aa, q_al, q_gs, q_acp, q_m2, q_m1, q_ir, q_zr, q_lr, q_ar, q_vr, q_cN0, q_cSX0, q_cV0, q_cVX0, q_cN1, q_cSX1, q_cV1, q_cVX1, q_cN2, q_cSX2, q_cV2, q_cVX2, q_cN3, q_cSX3, q_cV3, q_cVX3, q_cN4, q_cSX4, q_cV4, q_cVX4, q_cN5, q_cSX5, q_cV5, q_cVX5, q_cN6, q_cSX6, q_cV6, q_cVX6, q_th, q_sh0, q_sh1, q_sh2, q_sh3, q_sh4, q_toL0, q_toL1, q_gl0, q_gls, q_sl0, q_sls, q_k10, q_k1s, q_lgi, q_lgr, q_lgl, q_lgn, Bool.not_false, and_true, true_and, nz_2, nz_4, nz_5, nz_8, nz_10, nz_12, nz_14, nz_16, nz_40, nz_41, nz_64, nz_100, nz_1000, nz_1024, nz_4096, nz_10000, nz_100000, not_false_eq_true, bI_0, nI_add, pk_mul, nI_lt', nI_le', nI_eq', nI_z, nI_p, nI_e0, nI_l0, nI_le0, nI_clamp, up_eq, up_ne, not_true_eq_false, Classical.not_not, false_implies, true_implies, false_and, and_false, or_true, true_or, Nat.add_zero, pk_m1, m1_0, m1_n, m1_p, Nat.zero_le, forall_const]
      exact Or.inl ⟨hN, A.1.1, e41, hv, Or.inl ⟨hj, hN.2.1, k, j, A.1.1, hA.2.1.2.1, hcO, rfl, hk, rfl, by omega, hn⟩⟩
    · have hc : c_stock (nI k) i A = (2, 0, A) := by unfold c_stock; rw [if_pos hv, if_neg hb]
      have hx := hx 1 x_ar (by rw [hc]) rfl σ hA FrA.refl
      simp (disch := omega) only [bX9_stock_0, sp_X9_needStation, sx_X9_needStation, sp_X9_within, sp_X9_need, sx_X9_need, sp_X7_sondesWith, w0, w40, w41, q_ci, q_cl, q_ild, q_lld, q_ald, q_ist, q_ast, q_lst, q_inc, q_b2, q_d2, q_u1, q_l2, q_ld2, q_lsh, q_lcmp, q_i2l, q_l2i, q_dupi, q_dupr, q_dup2, q_popi, q_popr, q_if1, q_if2, q_nn, q_sw, q_swn, q_swc, q_gf, q_gr, q_pf, q_pz, q_pc, q_ia, q_is, q_cs, q_zs, q_la, q_lw, q_aa, q_al, q_gs, q_acp, q_m2, q_m1, q_ir, q_zr, q_lr, q_ar, q_vr, q_cN0, q_cSX0, q_cV0, q_cVX0, q_cN1, q_cSX1, q_cV1, q_cVX1, q_cN2, q_cSX2, q_cV2, q_cVX2, q_cN3, q_cSX3, q_cV3, q_cVX3, q_cN4, q_cSX4, q_cV4, q_cVX4, q_cN5, q_cSX5, q_cV5, q_cVX5, q_cN6, q_cSX6, q_cV6, q_cVX6, q_th, q_sh0, q_sh1, q_sh2, q_sh3, q_sh4, q_toL0, q_toL1, q_gl0, q_gls, q_sl0, q_sls, q_k10, q_k1s, q_lgi, q_lgr, q_lgl, q_lgn, Bool.not_false, and_true, true_and, nz_2, nz_4, nz_5, nz_8, nz_10, nz_12, nz_14, nz_16, nz_40, nz_41, nz_64, nz_100, nz_1000, nz_1024, nz_4096, nz_10000, nz_100000, not_false_eq_true, bI_0, nI_add, pk_mul, nI_lt', nI_le', nI_eq', nI_z, nI_p, nI_e0, nI_l0, nI_le0, nI_clamp, up_eq, up_ne, not_true_eq_false, Classical.not_not, false_implies, true_implies, false_and, and_false, or_true, true_or, Nat.add_zero, pk_m1, m1_0, m1_n, m1_p, Nat.zero_le, forall_const]
      exact Or.inl ⟨hN, A.1.1, e41, hv, Or.inr ⟨hb, hx⟩⟩
  · have hc : c_stock s i A = (1, 0, A) := if_neg hv
    have hx := hx 0 x_ix (by rw [hc]) rfl σ hA FrA.refl
    simp (disch := omega) only [bX9_stock_0, sp_X9_needStation, sx_X9_needStation, sp_X9_within, sp_X9_need, sx_X9_need, w0, w40, w41, q_ci, q_cl, q_ild, q_lld, q_ald, q_ist, q_ast, q_lst, q_inc, q_b2, q_d2, q_u1, q_l2, q_ld2, q_lsh, q_lcmp, q_i2l, q_l2i, q_dupi, q_dupr, q_dup2, q_popi, q_popr, q_if1, q_if2, q_nn, q_sw, q_swn, q_swc, q_gf, q_gr, q_pf, q_pz, q_pc, q_ia, q_is, q_cs, q_zs, q_la, q_lw, q_aa, q_al, q_gs, q_acp, q_m2, q_m1, q_ir, q_zr, q_lr, q_ar, q_vr, q_cN0, q_cSX0, q_cV0, q_cVX0, q_cN1, q_cSX1, q_cV1, q_cVX1, q_cN2, q_cSX2, q_cV2, q_cVX2, q_cN3, q_cSX3, q_cV3, q_cVX3, q_cN4, q_cSX4, q_cV4, q_cVX4, q_cN5, q_cSX5, q_cV5, q_cVX5, q_cN6, q_cSX6, q_cV6, q_cVX6, q_th, q_sh0, q_sh1, q_sh2, q_sh3, q_sh4, q_toL0, q_toL1, q_gl0, q_gls, q_sl0, q_sls, q_k10, q_k1s, q_lgi, q_lgr, q_lgl, q_lgn, Bool.not_false, and_true, true_and, nz_2, nz_4, nz_5, nz_8, nz_10, nz_12, nz_14, nz_16, nz_40, nz_41, nz_64, nz_100, nz_1000, nz_1024, nz_4096, nz_10000, nz_100000, not_false_eq_true, bI_0, nI_add, pk_mul, nI_lt', nI_le', nI_eq', nI_z, nI_p, nI_e0, nI_l0, nI_le0, nI_clamp, up_eq, up_ne, not_true_eq_false, Classical.not_not, false_implies, true_implies, false_and, and_false, or_true, true_or, Nat.add_zero, pk_m1, m1_0, m1_n, m1_p, Nat.zero_le, forall_const]
    exact Or.inr ⟨hN, A.1.1, e41, hv, hx⟩
set_option maxRecDepth 20000 in
set_option maxHeartbeats 4000000 in
theorem cb_X9_landing {l : Launch} (hl : l.stackTraces = false) {w : ab_W} {σ : ab_H} {Kn : Option Value → ab_H → Prop} {Kx : String → ab_H → Prop} (hI : ab_Inj w) (s : Int32) (i : Int32) (h : sbA w σ (c_landing s i) [x_ix, x_ar] Kn Kx) : ab_Met l yX9_landing (Cond.code yX9_landing cX9_landing 3 (some .int)) 7 1 w σ [.ref 0, .int s, .int i] Kn Kx := by
  obtain ⟨hw, A, T, hA, hW, hT, hn, hx⟩ := h
  obtain ⟨w0, w40, w41, w49, w54, w59, w63, w120, w121, w143, w4⟩ := hw.k
  obtain ⟨e41, e49, e7, e8, e9, e63, e10, e11, e12, e59, e54⟩ := hA.rd
  have hcO := hW.1.cOK
  refine vc_X9_landing hl hI (ok_X9_needStation hl) (ok_X9_within hl) (ok_X9_need hl) (ok_X3_landingPlace hl) (okx_X9_needStation hl) (okx_X9_need hl) (Nat.le_of_ble_eq_true rfl) (fun M h0 => h0 [.ref 0, .int s, .int i] [] σ ?_)
  have hN := hw.2.2.2.1
  by_cases hv : vS A.1.1 s
  · obtain ⟨k, hk, hs⟩ : ∃ k, k < cl (A.1.1 1) ∧ s = nI k := ⟨cl s, (ab_ixs hcO hv).2, (ab_ixs hcO hv).1⟩
    subst hs
    have h5 := hcO.2
    by_cases hb : bt2 (nI 0) i (nI 3)
    · obtain ⟨j, -, hj, rfl⟩ := ab_lo (a := 0) (b := 3) (by omega) (by omega) hb.1 hb.2
      have hc : c_landing (nI k) (nI j) A = (0, n_land A.1.1 k j, A) := by unfold c_landing; rw [if_pos hv, if_pos hb, cl_nI (by omega), cl_nI (by omega)]
      rw [hc] at hn
      have hn := hn rfl σ hA FrA.refl
      simp (disch := omega) only [bX9_landing_0, sp_X9_needStation, sx_X9_needStation, sp_X9_within, sp_X9_need, sx_X9_need, sp_X3_landingPlace, w0, w40, w41, q_ci, q_cl, q_ild, q_lld, q_ald, q_ist, q_ast, q_lst, q_inc, q_b2, q_d2, q_u1, q_l2, q_ld2, q_lsh, q_lcmp, q_i2l, q_l2i, q_dupi, q_dupr, q_dup2, q_popi, q_popr, q_if1, q_if2, q_nn, q_sw, q_swn, q_swc, q_gf, q_gr, q_pf, q_pz, q_pc, q_ia, q_is, q_cs, q_zs, q_la, q_lw, q_aa, q_al, q_gs, q_acp, q_m2, q_m1, q_ir, q_zr, q_lr, q_ar, q_vr, q_cN0, q_cSX0, q_cV0, q_cVX0, q_cN1, q_cSX1, q_cV1, q_cVX1, q_cN2, q_cSX2, q_cV2, q_cVX2, q_cN3, q_cSX3, q_cV3, q_cVX3, q_cN4, q_cSX4, q_cV4, q_cVX4, q_cN5, q_cSX5, q_cV5, q_cVX5, q_cN6, q_cSX6, q_cV6, q_cVX6, q_th, q_sh0, q_sh1, q_sh2, q_sh3, q_sh4, q_toL0, q_toL1, q_gl0, q_gls, q_sl0, q_sls, q_k10, q_k1s, q_lgi, q_lgr, q_lgl, q_lgn, Bool.not_false, and_true, true_and, nz_2, nz_4, nz_5, nz_8, nz_10, nz_12, nz_14, nz_16, nz_40, nz_41, nz_64, nz_100, nz_1000, nz_1024, nz_4096, nz_10000, nz_100000, not_false_eq_true, bI_0, nI_add, pk_mul, nI_lt', nI_le', nI_eq', nI_z, nI_p, nI_e0, nI_l0, nI_le0, nI_clamp, up_eq, up_ne, not_true_eq_false, Classical.not_not, false_implies, true_implies, false_and, and_false, or_true, true_or, Nat.add_zero, pk_m1, m1_0, m1_n, m1_p, Nat.zero_le, forall_const]
      exact Or.inl ⟨hN, A.1.1, e41, hv, Or.inl ⟨hj, hN, A.1, k, j, hA.2.1, hcO, rfl, hk, rfl, by omega, hn⟩⟩
    · have hc : c_landing (nI k) i A = (2, 0, A) := by unfold c_landing; rw [if_pos hv, if_neg hb]
      have hx := hx 1 x_ar (by rw [hc]) rfl σ hA FrA.refl
      simp (disch := omega) only [bX9_landing_0, sp_X9_needStation, sx_X9_needStation, sp_X9_within, sp_X9_need, sx_X9_need, w0, w40, w41, q_ci, q_cl, q_ild, q_lld, q_ald, q_ist, q_ast, q_lst, q_inc, q_b2, q_d2, q_u1, q_l2, q_ld2, q_lsh, q_lcmp, q_i2l, q_l2i, q_dupi, q_dupr, q_dup2, q_popi, q_popr, q_if1, q_if2, q_nn, q_sw, q_swn, q_swc, q_gf, q_gr, q_pf, q_pz, q_pc, q_ia, q_is, q_cs, q_zs, q_la, q_lw, q_aa, q_al, q_gs, q_acp, q_m2, q_m1, q_ir, q_zr, q_lr, q_ar, q_vr, q_cN0, q_cSX0, q_cV0, q_cVX0, q_cN1, q_cSX1, q_cV1, q_cVX1, q_cN2, q_cSX2, q_cV2, q_cVX2, q_cN3, q_cSX3, q_cV3, q_cVX3, q_cN4, q_cSX4, q_cV4, q_cVX4, q_cN5, q_cSX5, q_cV5, q_cVX5, q_cN6, q_cSX6, q_cV6, q_cVX6, q_th, q_sh0, q_sh1, q_sh2, q_sh3, q_sh4, q_toL0, q_toL1, q_gl0, q_gls, q_sl0, q_sls, q_k10, q_k1s, q_lgi, q_lgr, q_lgl, q_lgn, Bool.not_false, and_true, true_and, nz_2, nz_4, nz_5, nz_8, nz_10, nz_12, nz_14, nz_16, nz_40, nz_41, nz_64, nz_100, nz_1000, nz_1024, nz_4096, nz_10000, nz_100000, not_false_eq_true, bI_0, nI_add, pk_mul, nI_lt', nI_le', nI_eq', nI_z, nI_p, nI_e0, nI_l0, nI_le0, nI_clamp, up_eq, up_ne, not_true_eq_false, Classical.not_not, false_implies, true_implies, false_and, and_false, or_true, true_or, Nat.add_zero, pk_m1, m1_0, m1_n, m1_p, Nat.zero_le, forall_const]
      exact Or.inl ⟨hN, A.1.1, e41, hv, Or.inr ⟨hb, hx⟩⟩
  · have hc : c_landing s i A = (1, 0, A) := if_neg hv
    have hx := hx 0 x_ix (by rw [hc]) rfl σ hA FrA.refl
    simp (disch := omega) only [bX9_landing_0, sp_X9_needStation, sx_X9_needStation, sp_X9_within, sp_X9_need, sx_X9_need, w0, w40, w41, q_ci, q_cl, q_ild, q_lld, q_ald, q_ist, q_ast, q_lst, q_inc, q_b2, q_d2, q_u1, q_l2, q_ld2, q_lsh, q_lcmp, q_i2l, q_l2i, q_dupi, q_dupr, q_dup2, q_popi, q_popr, q_if1, q_if2, q_nn, q_sw, q_swn, q_swc, q_gf, q_gr, q_pf, q_pz, q_pc, q_ia, q_is, q_cs, q_zs, q_la, q_lw, q_aa, q_al, q_gs, q_acp, q_m2, q_m1, q_ir, q_zr, q_lr, q_ar, q_vr, q_cN0, q_cSX0, q_cV0, q_cVX0, q_cN1, q_cSX1, q_cV1, q_cVX1, q_cN2, q_cSX2, q_cV2, q_cVX2, q_cN3, q_cSX3, q_cV3, q_cVX3, q_cN4, q_cSX4, q_cV4, q_cVX4, q_cN5, q_cSX5, q_cV5, q_cVX5, q_cN6, q_cSX6, q_cV6, q_cVX6, q_th, q_sh0, q_sh1, q_sh2, q_sh3, q_sh4, q_toL0, q_toL1, q_gl0, q_gls, q_sl0, q_sls, q_k10, q_k1s, q_lgi, q_lgr, q_lgl, q_lgn, Bool.not_false, and_true, true_and, nz_2, nz_4, nz_5, nz_8, nz_10, nz_12, nz_14, nz_16, nz_40, nz_41, nz_64, nz_100, nz_1000, nz_1024, nz_4096, nz_10000, nz_100000, not_false_eq_true, bI_0, nI_add, pk_mul, nI_lt', nI_le', nI_eq', nI_z, nI_p, nI_e0, nI_l0, nI_le0, nI_clamp, up_eq, up_ne, not_true_eq_false, Classical.not_not, false_implies, true_implies, false_and, and_false, or_true, true_or, Nat.add_zero, pk_m1, m1_0, m1_n, m1_p, Nat.zero_le, forall_const]
    exact Or.inr ⟨hN, A.1.1, e41, hv, hx⟩
set_option maxRecDepth 20000 in
set_option maxHeartbeats 4000000 in
theorem cb_X9_finder {l : Launch} (hl : l.stackTraces = false) {w : ab_W} {σ : ab_H} {Kn : Option Value → ab_H → Prop} {Kx : String → ab_H → Prop} (hI : ab_Inj w) (s : Int32) (i : Int32) (h : sbA w σ (c_finder s i) [x_ix, x_ar] Kn Kx) : ab_Met l yX9_finder (Cond.code yX9_finder cX9_finder 4 (some .int)) 6 1 w σ [.ref 0, .int s, .int i] Kn Kx := by
  obtain ⟨hw, A, T, hA, hW, hT, hn, hx⟩ := h
  obtain ⟨w0, w40, w41, w49, w54, w59, w63, w120, w121, w143, w4⟩ := hw.k
  obtain ⟨e41, e49, e7, e8, e9, e63, e10, e11, e12, e59, e54⟩ := hA.rd
  have hcO := hW.1.cOK
  refine vc_X9_finder hl hI (ok_X0_has hl) (ok_X7_nearestTo hl)  (Nat.le_of_ble_eq_true rfl) (fun M h0 => h0 [.ref 0, .int s, .int i, .null] [] σ ?_)
  have hN := hw.2.2.2.1
  obtain ⟨f0, g1, g2, g3, g4, m1, m2, m3, m4⟩ := id hN.2.2.1
  by_cases hv : vF A.1.1 s
  · have hc2 := hW.1.1.2.2.2.2
    obtain ⟨k, hk, hs⟩ : ∃ k, k < cl (A.1.1 2) ∧ s = nI k := by
      have hs2 := hv.2
      rw [hc2.1] at hs2
      obtain ⟨k, a, b⟩ := ab_ix (by omega) (Int32.not_lt.mpr hv.1) hs2
      exact ⟨k, a, b⟩
    subst hs
    have vk : vp_in (nI k) 6 := vp_in_nI (by omega) (by omega)
    obtain ⟨s1, s2, s3, s4⟩ := hA.2.1.2.2.1.2.1 k hk
    by_cases hb : bt2 (nI 0) i (nI 4)
    · obtain ⟨j, -, hj, rfl⟩ := ab_lo (a := 0) (b := 4) (by omega) (by omega) hb.1 hb.2
      have hc : c_finder (nI k) (nI j) A = (0, (if j = 4 then oI (n_near A.1.1 (A.1.1 (76 + 4 * k)) (cl (A.1.1 1))) else A.1.1 (76 + 4 * k + j)), A) := by unfold c_finder; rw [if_pos hv, if_pos hb, cl_nI (by omega), cl_nI (by omega)]
      rw [hc] at hn
      have hn := hn rfl σ hA FrA.refl
      clear hc
      obtain ⟨p, hp, ep⟩ := (hc2.2.2.2.1 k hk).1
      rcases (by omega : j = 0 ∨ j = 1 ∨ j = 2 ∨ j = 3 ∨ j = 4) with rfl | rfl | rfl | rfl | rfl
      all_goals simp (disch := omega) only [bX9_finder_0, sp_X0_has, sp_X7_nearestTo, w0, w40, w41, w49, g1, g2, g3, g4, m1, m2, m3, m4, s1, s2, s3, s4, e49, q_ci, q_cl, q_ild, q_lld, q_ald, q_ist, q_ast, q_lst, q_inc, q_b2, q_d2, q_u1, q_l2, q_ld2, q_lsh, q_lcmp, q_i2l, q_l2i, q_dupi, q_dupr, q_dup2, q_popi, q_popr, q_if1, q_if2, q_nn, q_sw, q_swn, q_swc, q_gf, q_gr, q_pf, q_pz, q_pc, q_ia, q_is, q_cs, q_zs, q_la, q_lw, q_aa, q_al, q_gs, q_acp, q_m2, q_m1, q_ir, q_zr, q_lr, q_ar, q_vr, q_cN0, q_cSX0, q_cV0, q_cVX0, q_cN1, q_cSX1, q_cV1, q_cVX1, q_cN2, q_cSX2, q_cV2, q_cVX2, q_cN3, q_cSX3, q_cV3, q_cVX3, q_cN4, q_cSX4, q_cV4, q_cVX4, q_cN5, q_cSX5, q_cV5, q_cVX5, q_cN6, q_cSX6, q_cV6, q_cVX6, q_th, q_sh0, q_sh1, q_sh2, q_sh3, q_sh4, q_toL0, q_toL1, q_gl0, q_gls, q_sl0, q_sls, q_k10, q_k1s, q_lgi, q_lgr, q_lgl, q_lgn, Bool.not_false, and_true, true_and, nz_2, nz_4, nz_5, nz_8, nz_10, nz_12, nz_14, nz_16, nz_40, nz_41, nz_64, nz_100, nz_1000, nz_1024, nz_4096, nz_10000, nz_100000, not_false_eq_true, bI_0, nI_add, pk_mul, nI_lt', nI_le', nI_eq', nI_z, nI_p, nI_e0, nI_l0, nI_le0, nI_clamp, up_eq, up_ne, not_true_eq_false, Classical.not_not, false_implies, true_implies, false_and, and_false, or_true, true_or, Nat.add_zero, pk_m1, m1_0, m1_n, m1_p, Nat.zero_le, forall_const]
      all_goals refine ⟨fun _ => ?_, fun q => absurd hv.2 q⟩
      all_goals try simp only [imp_self, Nat.reduceEqDiff, false_implies, true_implies, not_false_eq_true, not_true_eq_false, and_true, true_and, forall_const]
      all_goals first
        | exact ⟨vk, hn⟩
        | exact ⟨vk, by rw [if_neg (by omega), show 76 + 4 * k + 1 = 77 + 4 * k by omega] at hn; exact hn⟩
        | exact ⟨vk, by rw [if_neg (by omega), show 76 + 4 * k + 2 = 78 + 4 * k by omega] at hn; exact hn⟩
        | exact ⟨vk, by rw [if_neg (by omega), show 76 + 4 * k + 3 = 79 + 4 * k by omega] at hn; exact hn⟩
        | exact ⟨vk, hN.2.1, p, T, A.1.1, hA.2.1.2.1, hW.1.1, ep, hp, hn⟩
    · have hc : c_finder (nI k) i A = (2, 0, A) := by unfold c_finder; rw [if_pos hv, if_neg hb]
      have hx := hx 1 x_ar (by rw [hc]) rfl σ hA FrA.refl
      simp (disch := omega) only [bX9_finder_0, sp_X0_has, w0, w40, w49, e49, q_ci, q_cl, q_ild, q_lld, q_ald, q_ist, q_ast, q_lst, q_inc, q_b2, q_d2, q_u1, q_l2, q_ld2, q_lsh, q_lcmp, q_i2l, q_l2i, q_dupi, q_dupr, q_dup2, q_popi, q_popr, q_if1, q_if2, q_nn, q_sw, q_swn, q_swc, q_gf, q_gr, q_pf, q_pz, q_pc, q_ia, q_is, q_cs, q_zs, q_la, q_lw, q_aa, q_al, q_gs, q_acp, q_m2, q_m1, q_ir, q_zr, q_lr, q_ar, q_vr, q_cN0, q_cSX0, q_cV0, q_cVX0, q_cN1, q_cSX1, q_cV1, q_cVX1, q_cN2, q_cSX2, q_cV2, q_cVX2, q_cN3, q_cSX3, q_cV3, q_cVX3, q_cN4, q_cSX4, q_cV4, q_cVX4, q_cN5, q_cSX5, q_cV5, q_cVX5, q_cN6, q_cSX6, q_cV6, q_cVX6, q_th, q_sh0, q_sh1, q_sh2, q_sh3, q_sh4, q_toL0, q_toL1, q_gl0, q_gls, q_sl0, q_sls, q_k10, q_k1s, q_lgi, q_lgr, q_lgl, q_lgn, Bool.not_false, and_true, true_and, nz_2, nz_4, nz_5, nz_8, nz_10, nz_12, nz_14, nz_16, nz_40, nz_41, nz_64, nz_100, nz_1000, nz_1024, nz_4096, nz_10000, nz_100000, not_false_eq_true, bI_0, nI_add, pk_mul, nI_lt', nI_le', nI_eq', nI_z, nI_p, nI_e0, nI_l0, nI_le0, nI_clamp, up_eq, up_ne, not_true_eq_false, Classical.not_not, false_implies, true_implies, false_and, and_false, or_true, true_or, Nat.add_zero, pk_m1, m1_0, m1_n, m1_p, Nat.zero_le, forall_const]
      refine ⟨fun _ => ?_, fun q => absurd hv.2 q⟩
      repeat' first
        | exact hx
        | refine ⟨fun q => absurd (show bt2 (nI 0) i (nI 4) by rw [q]; exact ⟨by decide +kernel, by decide +kernel⟩) hb, fun _ => ?_⟩
  · have hc : c_finder s i A = (1, 0, A) := if_neg hv
    have hx := hx 0 x_ix (by rw [hc]) rfl σ hA FrA.refl
    simp (disch := omega) only [bX9_finder_0, sp_X0_has, w0, w40, w49, e49, q_ci, q_cl, q_ild, q_lld, q_ald, q_ist, q_ast, q_lst, q_inc, q_b2, q_d2, q_u1, q_l2, q_ld2, q_lsh, q_lcmp, q_i2l, q_l2i, q_dupi, q_dupr, q_dup2, q_popi, q_popr, q_if1, q_if2, q_nn, q_sw, q_swn, q_swc, q_gf, q_gr, q_pf, q_pz, q_pc, q_ia, q_is, q_cs, q_zs, q_la, q_lw, q_aa, q_al, q_gs, q_acp, q_m2, q_m1, q_ir, q_zr, q_lr, q_ar, q_vr, q_cN0, q_cSX0, q_cV0, q_cVX0, q_cN1, q_cSX1, q_cV1, q_cVX1, q_cN2, q_cSX2, q_cV2, q_cVX2, q_cN3, q_cSX3, q_cV3, q_cVX3, q_cN4, q_cSX4, q_cV4, q_cVX4, q_cN5, q_cSX5, q_cV5, q_cVX5, q_cN6, q_cSX6, q_cV6, q_cVX6, q_th, q_sh0, q_sh1, q_sh2, q_sh3, q_sh4, q_toL0, q_toL1, q_gl0, q_gls, q_sl0, q_sls, q_k10, q_k1s, q_lgi, q_lgr, q_lgl, q_lgn, Bool.not_false, and_true, true_and, nz_2, nz_4, nz_5, nz_8, nz_10, nz_12, nz_14, nz_16, nz_40, nz_41, nz_64, nz_100, nz_1000, nz_1024, nz_4096, nz_10000, nz_100000, not_false_eq_true, bI_0, nI_add, pk_mul, nI_lt', nI_le', nI_eq', nI_z, nI_p, nI_e0, nI_l0, nI_le0, nI_clamp, up_eq, up_ne, not_true_eq_false, Classical.not_not, false_implies, true_implies, false_and, and_false, or_true, true_or, Nat.add_zero, pk_m1, m1_0, m1_n, m1_p, Nat.zero_le, forall_const]
    exact ⟨fun q => absurd q hv, fun _ => hx⟩
