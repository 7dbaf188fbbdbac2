def sp_X3_releaseAndEndWatch : ab_S := fun w As σ K => match As with
  | [.ref b] => wN w b ∧ ∃ T n, RC σ b n ∧ WFm T 0 n ∧ T < 100000 ∧ ∀ σ', RC σ' b (n_tick (n_loop (cl (n.1 1)) n)) → Frk b 29 σ σ' → K none σ'
  | _ => False
set_option maxRecDepth 20000 in
set_option maxHeartbeats 4000000 in
theorem ok_X3_releaseAndEndWatch {l : Launch} (hl : l.stackTraces = false) : ab_OkN l yX3_releaseAndEndWatch (Cond.code yX3_releaseAndEndWatch cX3_releaseAndEndWatch 3 none) 4 sp_X3_releaseAndEndWatch := by
  intro w σ As Kn hI h
  unfold sp_X3_releaseAndEndWatch at h
  split at h
  · next b =>
    obtain ⟨b, rfl⟩ : ∃ z : Nat, z = b := ⟨_, rfl⟩
    obtain ⟨hw, T, n, hR, hW, hT, ha⟩ := h
    refine vc_X3_releaseAndEndWatch hl hI (ok_X3_planOf hl) (ok_X3_release hl) (ok_X1_add hl) (Nat.le_of_ble_eq_true rfl) (fun M h0 h1 h2 h3 => h0 [.ref b, .null, .null] [] σ ?_)
    have k3 := hw.1
    have hS := hw.2.1
    obtain ⟨k7, g1, g2, g3, g4, g5, g6, g7, l1, l2, l3, l4, l5, l6, -⟩ := id hS
    have kG := hw.2.2.2.2.2.1.1
    have h5 : cl (n.1 1) ≤ 5 := hW.1.2.2.2.1
    have H : ∀ d k, k + d = cl (n.1 1) → ∀ x σ1, RC σ1 b (n_loop k n) → Frk b 29 σ σ1 → M 2 [.ref b, .int (nI k), x] [] σ1 := by
      intro d
      induction d with
      | zero =>
        intro k hk x σ1 hR1 hF1
        refine h1 _ _ _ ?_
        obtain ⟨w1, w2, w3⟩ := n_loop_W hW hT k (by omega)
        have hc := w1.cOK
        have e1 : σ1 (b + 1) 0 = nI (cl (n.1 1)) := by rw [hR1.2.1.1, hc.1, w2]
        have e7 : σ1 b 7 = (n_loop k n).1 0 := hR1.1.1
        simp (disch := omega) only [bX3_releaseAndEndWatch_2, k3, k7, e1, q_ci, q_cl, q_ild, q_lld, q_ald, q_ist, q_ast, q_lst, q_inc, q_b2, q_d2, q_u1, q_l2, q_ld2, q_lsh, q_lcmp, q_i2l, q_l2i, q_dupi, q_dupr, q_dup2, q_popi, q_popr, q_if1, q_if2, q_nn, q_sw, q_swn, q_swc, q_gf, q_gr, q_pf, q_pz, q_pc, q_ia, q_is, q_cs, q_zs, q_la, q_lw, q_aa, q_al, q_gs, q_acp, q_m2, q_m1, q_ir, q_zr, q_lr, q_ar, q_vr, q_cN0, q_cSX0, q_cV0, q_cVX0, q_cN1, q_cSX1, q_cV1, q_cVX1, q_cN2, q_cSX2, q_cV2, q_cVX2, q_cN3, q_cSX3, q_cV3, q_cVX3, q_cN4, q_cSX4, q_cV4, q_cVX4, q_cN5, q_cSX5, q_cV5, q_cVX5, q_cN6, q_cSX6, q_cV6, q_cVX6, q_th, q_sh0, q_sh1, q_sh2, q_sh3, q_sh4, q_toL0, q_toL1, q_gl0, q_gls, q_sl0, q_sls, q_k10, q_k1s, q_lgi, q_lgr, q_lgl, q_lgn, Bool.not_false, and_true, true_and, nz_2, nz_4, nz_5, nz_8, nz_10, nz_12, nz_14, nz_16, nz_40, nz_41, nz_64, nz_100, nz_1000, nz_1024, nz_4096, nz_10000, nz_100000, not_false_eq_true, bI_0, nI_add, pk_mul, nI_lt', nI_le', nI_eq', nI_z, nI_p, nI_e0, nI_l0, nI_le0, nI_clamp, up_eq, up_ne, not_true_eq_false, Classical.not_not, false_implies, true_implies, false_and, and_false, or_true, true_or, Nat.add_zero, pk_m1, m1_0, m1_n, m1_p, Nat.zero_le, forall_const]
        refine ⟨fun _ => ?_, fun q => absurd (by omega) q⟩
        rw [e7, nI_one]
        have hkc : k = cl (n.1 1) := by omega
        subst hkc
        refine ha _ (hR1.N (by omega)) (fun v hv => by simp (disch := omega) only [up_ne]; exact hF1 v hv)
      | succ d ih =>
        intro k hk x σ1 hR1 hF1
        refine h1 _ _ _ ?_
        obtain ⟨w1, w2, w3⟩ := n_loop_W hW hT k (by omega)
        have hc := w1.cOK
        have e1 : σ1 (b + 1) 0 = nI (cl (n.1 1)) := by rw [hR1.2.1.1, hc.1, w2]
        have e7 : σ1 b 7 = (n_loop k n).1 0 := hR1.1.1
        simp (disch := omega) only [bX3_releaseAndEndWatch_2, k3, k7, e1, sp_X3_planOf, q_ci, q_cl, q_ild, q_lld, q_ald, q_ist, q_ast, q_lst, q_inc, q_b2, q_d2, q_u1, q_l2, q_ld2, q_lsh, q_lcmp, q_i2l, q_l2i, q_dupi, q_dupr, q_dup2, q_popi, q_popr, q_if1, q_if2, q_nn, q_sw, q_swn, q_swc, q_gf, q_gr, q_pf, q_pz, q_pc, q_ia, q_is, q_cs, q_zs, q_la, q_lw, q_aa, q_al, q_gs, q_acp, q_m2, q_m1, q_ir, q_zr, q_lr, q_ar, q_vr, q_cN0, q_cSX0, q_cV0, q_cVX0, q_cN1, q_cSX1, q_cV1, q_cVX1, q_cN2, q_cSX2, q_cV2, q_cVX2, q_cN3, q_cSX3, q_cV3, q_cVX3, q_cN4, q_cSX4, q_cV4, q_cVX4, q_cN5, q_cSX5, q_cV5, q_cVX5, q_cN6, q_cSX6, q_cV6, q_cVX6, q_th, q_sh0, q_sh1, q_sh2, q_sh3, q_sh4, q_toL0, q_toL1, q_gl0, q_gls, q_sl0, q_sls, q_k10, q_k1s, q_lgi, q_lgr, q_lgl, q_lgn, Bool.not_false, and_true, true_and, nz_2, nz_4, nz_5, nz_8, nz_10, nz_12, nz_14, nz_16, nz_40, nz_41, nz_64, nz_100, nz_1000, nz_1024, nz_4096, nz_10000, nz_100000, not_false_eq_true, bI_0, nI_add, pk_mul, nI_lt', nI_le', nI_eq', nI_z, nI_p, nI_e0, nI_l0, nI_le0, nI_clamp, up_eq, up_ne, not_true_eq_false, Classical.not_not, false_implies, true_implies, false_and, and_false, or_true, true_or, Nat.add_zero, pk_m1, m1_0, m1_n, m1_p, Nat.zero_le, forall_const]
        have hk1 : k < cl ((n_loop k n).1 1) := by rw [w2]; omega
        have H71 : ∀ x σ', RC σ' b (n_step (n_loop k n) k) → Frk b 29 σ σ' → M 71 [.ref b, .int (nI k), x] [] σ' := fun x σ' a1 a2 => by
          refine h3 _ _ _ ?_
          simp (disch := omega) only [bX3_releaseAndEndWatch_71, q_ci, q_cl, q_ild, q_lld, q_ald, q_ist, q_ast, q_lst, q_inc, q_b2, q_d2, q_u1, q_l2, q_ld2, q_lsh, q_lcmp, q_i2l, q_l2i, q_dupi, q_dupr, q_dup2, q_popi, q_popr, q_if1, q_if2, q_nn, q_sw, q_swn, q_swc, q_gf, q_gr, q_pf, q_pz, q_pc, q_ia, q_is, q_cs, q_zs, q_la, q_lw, q_aa, q_al, q_gs, q_acp, q_m2, q_m1, q_ir, q_zr, q_lr, q_ar, q_vr, q_cN0, q_cSX0, q_cV0, q_cVX0, q_cN1, q_cSX1, q_cV1, q_cVX1, q_cN2, q_cSX2, q_cV2, q_cVX2, q_cN3, q_cSX3, q_cV3, q_cVX3, q_cN4, q_cSX4, q_cV4, q_cVX4, q_cN5, q_cSX5, q_cV5, q_cVX5, q_cN6, q_cSX6, q_cV6, q_cVX6, q_th, q_sh0, q_sh1, q_sh2, q_sh3, q_sh4, q_toL0, q_toL1, q_gl0, q_gls, q_sl0, q_sls, q_k10, q_k1s, q_lgi, q_lgr, q_lgl, q_lgn, Bool.not_false, and_true, true_and, nz_2, nz_4, nz_5, nz_8, nz_10, nz_12, nz_14, nz_16, nz_40, nz_41, nz_64, nz_100, nz_1000, nz_1024, nz_4096, nz_10000, nz_100000, not_false_eq_true, bI_0, nI_add, pk_mul, nI_lt', nI_le', nI_eq', nI_z, nI_p, nI_e0, nI_l0, nI_le0, nI_clamp, up_eq, up_ne, not_true_eq_false, Classical.not_not, false_implies, true_implies, false_and, and_false, or_true, true_or, Nat.add_zero, pk_m1, m1_0, m1_n, m1_p, Nat.zero_le, forall_const]
          exact ih (k + 1) (by omega) x σ' a1 a2
        clear ih
        generalize n_loop k n = m at *
        have hd := @n_deed_lt m.1 k
        have hWN := w1.2.2.2.2
        have hT0 := w1.1.2.1
        have h55 : cl (m.1 1) ≤ 5 := hc.2
        have vk : vp_in (nI k) 5 := vp_in_nI (by omega) (by omega)
        have H55 : ∀ r x, n_deed m.1 k = r + 1 → 1 ≤ r → M 55 [.ref b, .int (nI k), x] [.int (nI r), .int (nI k), .int (m.1 0), .ref (b + 23)] σ1 := by
          intro r x hr hr1
          refine h2 _ _ _ ?_
          simp (disch := omega) only [bX3_releaseAndEndWatch_55, sp_X1_add, kG, k3, k7, g6, l6, q_ci, q_cl, q_ild, q_lld, q_ald, q_ist, q_ast, q_lst, q_inc, q_b2, q_d2, q_u1, q_l2, q_ld2, q_lsh, q_lcmp, q_i2l, q_l2i, q_dupi, q_dupr, q_dup2, q_popi, q_popr, q_if1, q_if2, q_nn, q_sw, q_swn, q_swc, q_gf, q_gr, q_pf, q_pz, q_pc, q_ia, q_is, q_cs, q_zs, q_la, q_lw, q_aa, q_al, q_gs, q_acp, q_m2, q_m1, q_ir, q_zr, q_lr, q_ar, q_vr, q_cN0, q_cSX0, q_cV0, q_cVX0, q_cN1, q_cSX1, q_cV1, q_cVX1, q_cN2, q_cSX2, q_cV2, q_cVX2, q_cN3, q_cSX3, q_cV3, q_cVX3, q_cN4, q_cSX4, q_cV4, q_cVX4, q_cN5, q_cSX5, q_cV5, q_cVX5, q_cN6, q_cSX6, q_cV6, q_cVX6, q_th, q_sh0, q_sh1, q_sh2, q_sh3, q_sh4, q_toL0, q_toL1, q_gl0, q_gls, q_sl0, q_sls, q_k10, q_k1s, q_lgi, q_lgr, q_lgl, q_lgn, Bool.not_false, and_true, true_and, nz_2, nz_4, nz_5, nz_8, nz_10, nz_12, nz_14, nz_16, nz_40, nz_41, nz_64, nz_100, nz_1000, nz_1024, nz_4096, nz_10000, nz_100000, not_false_eq_true, bI_0, nI_add, pk_mul, nI_lt', nI_le', nI_eq', nI_z, nI_p, nI_e0, nI_l0, nI_le0, nI_clamp, up_eq, up_ne, not_true_eq_false, Classical.not_not, false_implies, true_implies, false_and, and_false, or_true, true_or, Nat.add_zero, pk_m1, m1_0, m1_n, m1_p, Nat.zero_le, forall_const]
          refine ⟨hw.2.2.2.2.2.1, m.2.2.2, (cl (m.1 0), k, r), cl (m.1 5), by rw [← hWN.1]; exact hR1.2.2.2.2.2.1, by have := hWN.2.1; omega, hWN.2.2.1, w1.1.1, rfl, rfl, fun σ2 hG hFr => ⟨vk, ?_⟩⟩
          have e31 : σ2 (b + 1 + 6) k = m.1 (31 + 11 * k) := by rw [hFr _ (by omega)]; exact (hR1.2.1.2.1 k hk1).2.2.2.2.2.1
          rw [e31, nI_one]
          have R2 := hR1.G hG (fun v hv => hFr v (by omega))
          have R3 := R2.S (R2.2.1.set (k := k) (c := 6) (i := 31) (by dsimp only; rw [upd_nep (by omega)]; exact hk1) (m.1 (31 + 11 * k) + 1) (by omega)) (fun v hv => by simp (disch := omega) only [up_ne]) (fun i hi => by simp (disch := omega) only [upd_nep])
          refine ⟨vk, H71 _ _ ?_ (fun v hv => by simp (disch := omega) only [up_ne]; rw [hFr v (by omega)]; exact hF1 v hv)⟩
          unfold n_step
          rw [if_neg (by omega), if_neg (by omega), hr]
          unfold n_gap
          rw [← nI_1, ← hWN.1] at R3
          exact R3
        rw [e7]
        refine ⟨fun q => absurd q (by omega), fun _ => ⟨hw, T, k, m, k, hR1, w1, rfl, hk1, hT, ?_⟩⟩
        rw [nI_e0 (by omega), nI_eq' (by omega) (by omega), nI_eq' (by omega) (by omega)]
        refine ⟨fun q1 => ⟨fun q2 => ?_, fun q2 => ⟨fun q3 => ?_, fun q3 => ?_⟩⟩, fun q1 => ?_⟩
        · refine H71 _ _ ?_ hF1
          unfold n_step; rw [if_pos q2]; exact hR1
        · exact H55 2 _ (by omega) (by omega)
        · exact H55 1 _ (by omega) (by omega)
        · obtain ⟨q, hq⟩ : ∃ q, n_most m.1 k = some q := by
            refine Option.ne_none_iff_exists'.mp (fun q => ?_)
            unfold n_deed at q1
            rw [q] at q1
            split at q1
            · omega
            · split at q1
              · omega
              · simp at q1
          show sp_X3_release w _ _ _
          unfold sp_X3_release
          dsimp only
          refine ⟨hw, T, k, m, k, q, hR1, w1, by omega, rfl, hk1, hq, hT, fun σ2 a1 a2 => H71 _ _ ?_ (fun v hv => by rw [a2 v hv]; exact hF1 v hv)⟩
          unfold n_step; rw [if_neg (by omega), if_pos q1]; exact a1
    simp (disch := omega) only [bX3_releaseAndEndWatch_0, q_ci, q_cl, q_ild, q_lld, q_ald, q_ist, q_ast, q_lst, q_inc, q_b2, q_d2, q_u1, q_l2, q_ld2, q_lsh, q_lcmp, q_i2l, q_l2i, q_dupi, q_dupr, q_dup2, q_popi, q_popr, q_if1, q_if2, q_nn, q_sw, q_swn, q_swc, q_gf, q_gr, q_pf, q_pz, q_pc, q_ia, q_is, q_cs, q_zs, q_la, q_lw, q_aa, q_al, q_gs, q_acp, q_m2, q_m1, q_ir, q_zr, q_lr, q_ar, q_vr, q_cN0, q_cSX0, q_cV0, q_cVX0, q_cN1, q_cSX1, q_cV1, q_cVX1, q_cN2, q_cSX2, q_cV2, q_cVX2, q_cN3, q_cSX3, q_cV3, q_cVX3, q_cN4, q_cSX4, q_cV4, q_cVX4, q_cN5, q_cSX5, q_cV5, q_cVX5, q_cN6, q_cSX6, q_cV6, q_cVX6, q_th, q_sh0, q_sh1, q_sh2, q_sh3, q_sh4, q_toL0, q_toL1, q_gl0, q_gls, q_sl0, q_sls, q_k10, q_k1s, q_lgi, q_lgr, q_lgl, q_lgn, Bool.not_false, and_true, true_and, nz_2, nz_4, nz_5, nz_8, nz_10, nz_12, nz_14, nz_16, nz_40, nz_41, nz_64, nz_100, nz_1000, nz_1024, nz_4096, nz_10000, nz_100000, not_false_eq_true, bI_0, nI_add, pk_mul, nI_lt', nI_le', nI_eq', nI_z, nI_p, nI_e0, nI_l0, nI_le0, nI_clamp, up_eq, up_ne, not_true_eq_false, Classical.not_not, false_implies, true_implies, false_and, and_false, or_true, true_or, Nat.add_zero, pk_m1, m1_0, m1_n, m1_p, Nat.zero_le, forall_const]
    exact H (cl (n.1 1)) 0 (by omega) _ σ hR (fun v hv => rfl)
  · exact h.elim
def sp_X3_tryWatches : ab_S := fun w As σ K => match As with
  | [.ref b, .int x, .int y] => wN w b ∧ ∃ T n m, RC σ b n ∧ WF T n ∧ y = nI m ∧ m ≤ 100 ∧ T + m < 100000 ∧ (1 ≤ x ∧ x ≤ y → ∀ σ', RC σ' b (n_run (cl x) n) → Frk b 29 σ σ' → K (some (.int 1)) σ') ∧ (¬ (1 ≤ x ∧ x ≤ y) → K (some (.int 0)) σ)
  | _ => False
set_option maxRecDepth 20000 in
set_option maxHeartbeats 4000000 in
theorem ok_X3_tryWatches {l : Launch} (hl : l.stackTraces = false) : ab_OkN l yX3_tryWatches (Cond.code yX3_tryWatches cX3_tryWatches 4 (some .boolean)) 5 sp_X3_tryWatches := by
  intro w σ As Kn hI h
  unfold sp_X3_tryWatches at h
  split at h
  · next b x y =>
    obtain ⟨b, rfl⟩ : ∃ z : Nat, z = b := ⟨_, rfl⟩
    obtain ⟨hw, T, n, m, hR, hW, rfl, hm, hT, ha, hb⟩ := h
    refine vc_X3_tryWatches hl hI (ok_X9_within hl) (ok_X3_takeWhatArrives hl) (ok_X3_releaseAndEndWatch hl) (Nat.le_of_ble_eq_true rfl) (fun M h0 h1 => h0 [.ref b, .int x, .int (nI m), .null] [] σ ?_)
    simp (disch := omega) only [bX3_tryWatches_0, sp_X9_within, nI_one, q_ci, q_cl, q_ild, q_lld, q_ald, q_ist, q_ast, q_lst, q_inc, q_b2, q_d2, q_u1, q_l2, q_ld2, q_lsh, q_lcmp, q_i2l, q_l2i, q_dupi, q_dupr, q_dup2, q_popi, q_popr, q_if1, q_if2, q_nn, q_sw, q_swn, q_swc, q_gf, q_gr, q_pf, q_pz, q_pc, q_ia, q_is, q_cs, q_zs, q_la, q_lw, q_aa, q_al, q_gs, q_acp, q_m2, q_m1, q_ir, q_zr, q_lr, q_ar, q_vr, q_cN0, q_cSX0, q_cV0, q_cVX0, q_cN1, q_cSX1, q_cV1, q_cVX1, q_cN2, q_cSX2, q_cV2, q_cVX2, q_cN3, q_cSX3, q_cV3, q_cVX3, q_cN4, q_cSX4, q_cV4, q_cVX4, q_cN5, q_cSX5, q_cV5, q_cVX5, q_cN6, q_cSX6, q_cV6, q_cVX6, q_th, q_sh0, q_sh1, q_sh2, q_sh3, q_sh4, q_toL0, q_toL1, q_gl0, q_gls, q_sl0, q_sls, q_k10, q_k1s, q_lgi, q_lgr, q_lgl, q_lgn, Bool.not_false, and_true, true_and, nz_2, nz_4, nz_5, nz_8, nz_10, nz_12, nz_14, nz_16, nz_40, nz_41, nz_64, nz_100, nz_1000, nz_1024, nz_4096, nz_10000, nz_100000, not_false_eq_true, bI_0, nI_add, pk_mul, nI_lt', nI_le', nI_eq', nI_z, nI_p, nI_e0, nI_l0, nI_le0, nI_clamp, up_eq, up_ne, not_true_eq_false, Classical.not_not, false_implies, true_implies, false_and, and_false, or_true, true_or, Nat.add_zero, pk_m1, m1_0, m1_n, m1_p, Nat.zero_le, forall_const]
    refine ⟨fun q => ?_, fun q => ?_⟩
    · obtain ⟨ex, hx⟩ := ab_ixc (by omega) (Int32.le_trans (by decide) q.1) q.2
      have hx1 : 1 ≤ cl x := by have := q.1; rw [ex, ← nI_one, nI_le' (by omega) (by omega)] at this; exact this
      have ha' := ha q
      generalize cl x = c at *
      subst ex
      have H : ∀ d k, k + d = c → ∀ σ1, RC σ1 b (n_run k n) → Frk b 29 σ σ1 → M 13 [.ref b, .int (nI c), .int (nI m), .int (nI k)] [] σ1 := by
        intro d
        induction d with
        | zero =>
          intro k hk σ1 hR1 hF1
          have hkc : k = c := by omega
          subst hkc
          refine h1 _ _ _ ?_
          simp (disch := omega) only [bX3_tryWatches_13, q_ci, q_cl, q_ild, q_lld, q_ald, q_ist, q_ast, q_lst, q_inc, q_b2, q_d2, q_u1, q_l2, q_ld2, q_lsh, q_lcmp, q_i2l, q_l2i, q_dupi, q_dupr, q_dup2, q_popi, q_popr, q_if1, q_if2, q_nn, q_sw, q_swn, q_swc, q_gf, q_gr, q_pf, q_pz, q_pc, q_ia, q_is, q_cs, q_zs, q_la, q_lw, q_aa, q_al, q_gs, q_acp, q_m2, q_m1, q_ir, q_zr, q_lr, q_ar, q_vr, q_cN0, q_cSX0, q_cV0, q_cVX0, q_cN1, q_cSX1, q_cV1, q_cVX1, q_cN2, q_cSX2, q_cV2, q_cVX2, q_cN3, q_cSX3, q_cV3, q_cVX3, q_cN4, q_cSX4, q_cV4, q_cVX4, q_cN5, q_cSX5, q_cV5, q_cVX5, q_cN6, q_cSX6, q_cV6, q_cVX6, q_th, q_sh0, q_sh1, q_sh2, q_sh3, q_sh4, q_toL0, q_toL1, q_gl0, q_gls, q_sl0, q_sls, q_k10, q_k1s, q_lgi, q_lgr, q_lgl, q_lgn, Bool.not_false, and_true, true_and, nz_2, nz_4, nz_5, nz_8, nz_10, nz_12, nz_14, nz_16, nz_40, nz_41, nz_64, nz_100, nz_1000, nz_1024, nz_4096, nz_10000, nz_100000, not_false_eq_true, bI_0, nI_add, pk_mul, nI_lt', nI_le', nI_eq', nI_z, nI_p, nI_e0, nI_l0, nI_le0, nI_clamp, up_eq, up_ne, not_true_eq_false, Classical.not_not, false_implies, true_implies, false_and, and_false, or_true, true_or, Nat.add_zero, pk_m1, m1_0, m1_n, m1_p, Nat.zero_le, forall_const]
          rw [nI_one]
          exact ⟨fun _ => ⟨Or.inr rfl, ha' σ1 hR1 hF1⟩, fun q1 => absurd (by omega) q1⟩
        | succ d ih =>
          intro k hk σ1 hR1 hF1
          refine h1 _ _ _ ?_
          have hWk := WF_run hW k (by omega)
          have hWa := WF_arr hWk (by omega)
          have k3 := hw.1
          simp (disch := omega) only [bX3_tryWatches_13, sp_X3_takeWhatArrives, sp_X3_releaseAndEndWatch, q_ci, q_cl, q_ild, q_lld, q_ald, q_ist, q_ast, q_lst, q_inc, q_b2, q_d2, q_u1, q_l2, q_ld2, q_lsh, q_lcmp, q_i2l, q_l2i, q_dupi, q_dupr, q_dup2, q_popi, q_popr, q_if1, q_if2, q_nn, q_sw, q_swn, q_swc, q_gf, q_gr, q_pf, q_pz, q_pc, q_ia, q_is, q_cs, q_zs, q_la, q_lw, q_aa, q_al, q_gs, q_acp, q_m2, q_m1, q_ir, q_zr, q_lr, q_ar, q_vr, q_cN0, q_cSX0, q_cV0, q_cVX0, q_cN1, q_cSX1, q_cV1, q_cVX1, q_cN2, q_cSX2, q_cV2, q_cVX2, q_cN3, q_cSX3, q_cV3, q_cVX3, q_cN4, q_cSX4, q_cV4, q_cVX4, q_cN5, q_cSX5, q_cV5, q_cVX5, q_cN6, q_cSX6, q_cV6, q_cVX6, q_th, q_sh0, q_sh1, q_sh2, q_sh3, q_sh4, q_toL0, q_toL1, q_gl0, q_gls, q_sl0, q_sls, q_k10, q_k1s, q_lgi, q_lgr, q_lgl, q_lgn, Bool.not_false, and_true, true_and, nz_2, nz_4, nz_5, nz_8, nz_10, nz_12, nz_14, nz_16, nz_40, nz_41, nz_64, nz_100, nz_1000, nz_1024, nz_4096, nz_10000, nz_100000, not_false_eq_true, bI_0, nI_add, pk_mul, nI_lt', nI_le', nI_eq', nI_z, nI_p, nI_e0, nI_l0, nI_le0, nI_clamp, up_eq, up_ne, not_true_eq_false, Classical.not_not, false_implies, true_implies, false_and, and_false, or_true, true_or, Nat.add_zero, pk_m1, m1_0, m1_n, m1_p, Nat.zero_le, forall_const]
          refine ⟨fun q1 => absurd q1 (by omega), fun _ => ⟨k3, hw, T + k, n_run k n, hR1, hWk, by omega, fun σ2 a1 a2 => ⟨k3, hw, T + k, n_arr (n_run k n), a1, hWa, by omega, fun σ3 b1 b2 => ?_⟩⟩⟩
          exact ih (k + 1) (by omega) σ3 b1 (fun v hv => by rw [b2 v hv, a2 v hv]; exact hF1 v hv)
      exact H c 0 (by omega) σ hR (fun v hv => rfl)
    · exact hb q
  · exact h.elim
