def sp_X3_release : ab_S := fun w As σ K => match As with
  | [.ref b, .int i] => wN w b ∧ ∃ T m n k q, RC σ b n ∧ WFm T m n ∧ m < 5 ∧ i = nI k ∧ k < cl (n.1 1) ∧ n_most n.1 k = some q ∧ T < 100000 ∧ ∀ σ', RC σ' b (n_rel n k) → Frk b 29 σ σ' → K none σ'
  | _ => False
set_option maxRecDepth 20000 in
set_option maxHeartbeats 4000000 in
theorem ok_X3_release {l : Launch} (hl : l.stackTraces = false) : ab_OkN l yX3_release (Cond.code yX3_release cX3_release 6 none) 3 sp_X3_release := by
  intro w σ As Kn hI h
  unfold sp_X3_release at h
  split at h
  · next b i =>
    obtain ⟨b, rfl⟩ : ∃ z : Nat, z = b := ⟨_, rfl⟩
    obtain ⟨hw, T, m, n, k, q, hR, hW, hm5, rfl, hk, hq, hT, ha⟩ := h
    refine vc_X3_release hl hI (ok_X7_mostFlownOf hl) (ok_X7_addSondes hl) (ok_X3_hourOfNow hl) (ok_X3_landingPlace hl) (ok_X0_whoFindsAt hl) (ok_X7_nearestTo hl) (ok_X5_add hl) (Nat.le_of_ble_eq_true rfl) (fun M h0 h1 h2 => h0 [.ref b, .int (nI k), .null, .null, .null, .null] [] σ ?_)
    have k3 := hw.1
    have hS := hw.2.1
    obtain ⟨k7, g1, g2, g3, g4, g5, g6, g7, l1, l2, l3, l4, l5, -⟩ := id hS
    have hc := hW.cOK
    have h5 := hc.2
    have hq4 := n_most_lt hq
    have hT0 := hW.1.2.1
    have v1 : vp_in (nI k) 5 := vp_in_nI (by omega) (by omega)
    have eq : oI (n_most n.1 k) = nI q := by rw [hq]; rfl
    have hcc : σ (b + 1) 0 = nI (cl (n.1 1)) := hR.2.1.1.trans hc.1
    obtain ⟨s1, s2, s3, s4, s5, s6, s7⟩ := hR.2.1.2.1 k hk
    have e9 : σ b 9 = n.1 4 := hR.1.2.2.1
    have e7 : σ b 7 = nI (cl (n.1 0)) := hR.1.1.trans hW.1.1
    have er : nI (cl (n.1 0)) - nI (cl (n.1 0)) / nI 4 * nI 4 = nI (cl (n.1 0) % 4) := pk_rem (by omega) (by decide) (by decide)
    simp (disch := omega) only [bX3_release_0, sp_X7_mostFlownOf, sp_X7_addSondes, k3, k7, q_ci, q_cl, q_ild, q_lld, q_ald, q_ist, q_ast, q_lst, q_inc, q_b2, q_d2, q_u1, q_l2, q_ld2, q_lsh, q_lcmp, q_i2l, q_l2i, q_dupi, q_dupr, q_dup2, q_popi, q_popr, q_if1, q_if2, q_nn, q_sw, q_swn, q_swc, q_gf, q_gr, q_pf, q_pz, q_pc, q_ia, q_is, q_cs, q_zs, q_la, q_lw, q_aa, q_al, q_gs, q_acp, q_m2, q_m1, q_ir, q_zr, q_lr, q_ar, q_vr, q_cN0, q_cSX0, q_cV0, q_cVX0, q_cN1, q_cSX1, q_cV1, q_cVX1, q_cN2, q_cSX2, q_cV2, q_cVX2, q_cN3, q_cSX3, q_cV3, q_cVX3, q_cN4, q_cSX4, q_cV4, q_cVX4, q_cN5, q_cSX5, q_cV5, q_cVX5, q_cN6, q_cSX6, q_cV6, q_cVX6, q_th, q_sh0, q_sh1, q_sh2, q_sh3, q_sh4, q_toL0, q_toL1, q_gl0, q_gls, q_sl0, q_sls, q_k10, q_k1s, q_lgi, q_lgr, q_lgl, q_lgn, Bool.not_false, and_true, true_and, nz_2, nz_4, nz_5, nz_8, nz_10, nz_12, nz_14, nz_16, nz_40, nz_41, nz_64, nz_100, nz_1000, nz_1024, nz_4096, nz_10000, nz_100000, not_false_eq_true, bI_0, nI_add, pk_mul, nI_lt', nI_le', nI_eq', nI_z, nI_p, nI_e0, nI_l0, nI_le0, nI_clamp, up_eq, up_ne, not_true_eq_false, Classical.not_not, false_implies, true_implies, false_and, and_false, or_true, true_or, Nat.add_zero, pk_m1, m1_0, m1_n, m1_p, Nat.zero_le, forall_const]
    refine ⟨hS, k, n.1, hR.2.1, hc, rfl, hk, hS, k, cl (n.1 1), q, ⟨rfl, hcc, hk, h5⟩, eq, by omega, ?_⟩
    simp (disch := omega) only [sp_X3_landingPlace, k3, g3, g4, g5, l3, l4, l5, s3, s4, s5, e9, e7, eq, q_ci, q_cl, q_ild, q_lld, q_ald, q_ist, q_ast, q_lst, q_inc, q_b2, q_d2, q_u1, q_l2, q_ld2, q_lsh, q_lcmp, q_i2l, q_l2i, q_dupi, q_dupr, q_dup2, q_popi, q_popr, q_if1, q_if2, q_nn, q_sw, q_swn, q_swc, q_gf, q_gr, q_pf, q_pz, q_pc, q_ia, q_is, q_cs, q_zs, q_la, q_lw, q_aa, q_al, q_gs, q_acp, q_m2, q_m1, q_ir, q_zr, q_lr, q_ar, q_vr, q_cN0, q_cSX0, q_cV0, q_cVX0, q_cN1, q_cSX1, q_cV1, q_cVX1, q_cN2, q_cSX2, q_cV2, q_cVX2, q_cN3, q_cSX3, q_cV3, q_cVX3, q_cN4, q_cSX4, q_cV4, q_cVX4, q_cN5, q_cSX5, q_cV5, q_cVX5, q_cN6, q_cSX6, q_cV6, q_cVX6, q_th, q_sh0, q_sh1, q_sh2, q_sh3, q_sh4, q_toL0, q_toL1, q_gl0, q_gls, q_sl0, q_sls, q_k10, q_k1s, q_lgi, q_lgr, q_lgl, q_lgn, Bool.not_false, and_true, true_and, nz_2, nz_4, nz_5, nz_8, nz_10, nz_12, nz_14, nz_16, nz_40, nz_41, nz_64, nz_100, nz_1000, nz_1024, nz_4096, nz_10000, nz_100000, not_false_eq_true, bI_0, nI_add, pk_mul, nI_lt', nI_le', nI_eq', nI_z, nI_p, nI_e0, nI_l0, nI_le0, nI_clamp, up_eq, up_ne, not_true_eq_false, Classical.not_not, false_implies, true_implies, false_and, and_false, or_true, true_or, Nat.add_zero, pk_m1, m1_0, m1_n, m1_p, Nat.zero_le, forall_const]
    have hR1 : RC (ab_up (ab_up (ab_up (ab_up σ (b + 1 + 7) (k * 5 + q) (σ (b + 1 + 7) (k * 5 + q) + -1)) (b + 1 + 4) k (n.1 (24 + 11 * k) - n.1 (23 + 11 * k))) (b + 1 + 5) k (n.1 (30 + 11 * k) + nI 1)) b 9 (n.1 4 + nI 1)) b (n_up1 n.1 k q, n.2) := by
      have a1 := hR.2.1.stk hk (show q < 5 by omega) (-1)
      have u1 : upd n.1 (25 + 11 * k + q) (n.1 (25 + 11 * k + q) + -1) 1 = n.1 1 := upd_nep (by omega)
      have a2 := a1.set (k := k) (c := 4) (i := 24) (by rw [u1]; exact hk) (n.1 (24 + 11 * k) - n.1 (23 + 11 * k)) (by omega)
      have a3 := a2.set (k := k) (c := 5) (i := 30) (by rw [upd_nep (by omega), u1]; exact hk) (n.1 (30 + 11 * k) + nI 1) (by omega)
      have b3 := hR.S a3 (fun v hv => by simp (disch := omega) only [up_ne]) (fun i hi => by simp (disch := omega) only [upd_nep])
      have b4 := b3.N (c := 9) (i := 4) (v := n.1 4 + nI 1) (by omega)
      unfold n_up1
      rw [Int32.sub_eq_add_neg (n.1 (25 + 11 * k + q)) 1, ← nI_one]
      rw [← nI_one] at b4
      exact b4
    have hF1 : Frk b 29 σ (ab_up (ab_up (ab_up (ab_up σ (b + 1 + 7) (k * 5 + q) (σ (b + 1 + 7) (k * 5 + q) + -1)) (b + 1 + 4) k (n.1 (24 + 11 * k) - n.1 (23 + 11 * k))) (b + 1 + 5) k (n.1 (30 + 11 * k) + nI 1)) b 9 (n.1 4 + nI 1)) := fun v hv => by simp (disch := omega) only [up_ne]
    generalize (ab_up (ab_up (ab_up (ab_up σ (b + 1 + 7) (k * 5 + q) (σ (b + 1 + 7) (k * 5 + q) + -1)) (b + 1 + 4) k (n.1 (24 + 11 * k) - n.1 (23 + 11 * k))) (b + 1 + 5) k (n.1 (30 + 11 * k) + nI 1)) b 9 (n.1 4 + nI 1)) = σ1 at hR1 hF1 ⊢
    have hui := fun i => @n_up1_i n.1 k q i
    have hWF : WFf T (n_up1 n.1 k q) := hW.1.of (hui 0 (by omega) (by omega) (by omega) (by omega)) (hui 1 (by omega) (by omega) (by omega) (by omega)) (hui 2 (by omega) (by omega) (by omega) (by omega)) (hui 12 (by omega) (by omega) (by omega) (by omega)) (hui 13 (by omega) (by omega) (by omega) (by omega)) (fun s hs => ⟨hui _ (by omega) (by omega) (by omega) (by omega), hui _ (by omega) (by omega) (by omega) (by omega)⟩) (fun j hj => ⟨hui _ (by omega) (by omega) (by omega) (by omega), hui _ (by omega) (by omega) (by omega) (by omega), hui _ (by omega) (by omega) (by omega) (by omega)⟩)
    have hu0 := hui 0 (by omega) (by omega) (by omega) (by omega)
    have hu1 := hui 1 (by omega) (by omega) (by omega) (by omega)
    have er0 : n_rel n k = match n_find (n_up1 n.1 k q) k with
      | none => (upd (n_up1 n.1 k q) 6 (n_up1 n.1 k q 6 + 1), n.2)
      | some kk =>
        let g := upd (n_up1 n.1 k q) (79 + 4 * kk) (n_up1 n.1 k q (79 + 4 * kk) + 1)
        if g 13 ≤ nI (q + 1) then (upd g 8 (g 8 + 1), n.2)
        else (g, n.2.1, n_ins (cl (g 0) + cl (g (78 + 4 * kk)), (n_near g (g (76 + 4 * kk)) (cl (g 1))).getD 0, q + 1) n.2.2.1, n.2.2.2) := by
      unfold n_rel; rw [hq]; rfl
    have hWB := hW.2.2.2.1
    have hB0 : cl (n.1 0) = cl (n_up1 n.1 k q 0) := by rw [hu0]
    generalize hFF : n_up1 n.1 k q = F at *
    have H : ∀ p, M 97 [.ref b, .int (nI k), .int (nI q), .int (nI (q + 1)), .int p, .null] [.int (oI (n_find F k))] σ1 := by
      intro p
      refine h1 _ _ _ ?_
      cases hf : n_find F k with
      | none =>
        rw [hf] at er0
        rw [er0] at ha
        have ez : oI none = -1 := rfl
        simp (disch := omega) only [bX3_release_97, ez, k3, q_ci, q_cl, q_ild, q_lld, q_ald, q_ist, q_ast, q_lst, q_inc, q_b2, q_d2, q_u1, q_l2, q_ld2, q_lsh, q_lcmp, q_i2l, q_l2i, q_dupi, q_dupr, q_dup2, q_popi, q_popr, q_if1, q_if2, q_nn, q_sw, q_swn, q_swc, q_gf, q_gr, q_pf, q_pz, q_pc, q_ia, q_is, q_cs, q_zs, q_la, q_lw, q_aa, q_al, q_gs, q_acp, q_m2, q_m1, q_ir, q_zr, q_lr, q_ar, q_vr, q_cN0, q_cSX0, q_cV0, q_cVX0, q_cN1, q_cSX1, q_cV1, q_cVX1, q_cN2, q_cSX2, q_cV2, q_cVX2, q_cN3, q_cSX3, q_cV3, q_cVX3, q_cN4, q_cSX4, q_cV4, q_cVX4, q_cN5, q_cSX5, q_cV5, q_cVX5, q_cN6, q_cSX6, q_cV6, q_cVX6, q_th, q_sh0, q_sh1, q_sh2, q_sh3, q_sh4, q_toL0, q_toL1, q_gl0, q_gls, q_sl0, q_sls, q_k10, q_k1s, q_lgi, q_lgr, q_lgl, q_lgn, Bool.not_false, and_true, true_and, nz_2, nz_4, nz_5, nz_8, nz_10, nz_12, nz_14, nz_16, nz_40, nz_41, nz_64, nz_100, nz_1000, nz_1024, nz_4096, nz_10000, nz_100000, not_false_eq_true, bI_0, nI_add, pk_mul, nI_lt', nI_le', nI_eq', nI_z, nI_p, nI_e0, nI_l0, nI_le0, nI_clamp, up_eq, up_ne, not_true_eq_false, Classical.not_not, false_implies, true_implies, false_and, and_false, or_true, true_or, Nat.add_zero, pk_m1, m1_0, m1_n, m1_p, Nat.zero_le, forall_const]
        have c10 : σ1 b 10 = F 6 := hR1.1.2.2.2.1
        have R2 := hR1.N (c := 10) (i := 6) (v := F 6 + 1) (by omega)
        rw [c10, nI_one]
        exact ha _ R2 (fun v hv => by simp (disch := omega) only [up_ne]; exact hF1 v hv)
      | some kk =>
        rw [hf] at er0
        dsimp only at er0
        have hkk := n_find_lt hf
        have ez : oI (some kk) = nI kk := rfl
        have hc6 := hWF.2.2.2.2.2.1
        obtain ⟨f0, f1, f2, f3, f4, m1, m2, m3, m4⟩ := id hw.2.2.1
        obtain ⟨t1, t2, t3, t4⟩ := hR1.2.2.1.2.1 kk hkk
        obtain ⟨⟨pp, hpp, epp⟩, -, ⟨dd, hd1, hd30, edd⟩⟩ := hWF.2.2.2.2.2.2.2.1 kk hkk
        have c7 : σ1 b 7 = nI (cl (F 0)) := hR1.1.1.trans hWF.1
        have cd : σ1 (b + 9 + 3) kk = nI dd := t3.trans edd
        have cp : σ1 (b + 9 + 1) kk = nI pp := t1.trans epp
        have c28 : σ1 (b + 28) 1 = F 13 := hR1.2.2.2.2.2.2.2 1 (by omega)
        have c12 : σ1 b 12 = F 8 := hR1.1.2.2.2.2.2
        have kT := hw.2.2.2.2.2.2.2.2.1
        have kTl := hw.2.2.2.2.2.2.2.2.2
        have k5 := hw.2.2.2.2.1.1
        have vk : vp_in (nI kk) 6 := vp_in_nI (by omega) (by omega)
        have vo : vp_in (nI 1) 5 := vp_in_nI (by omega) (by omega)
        have hne : ¬ nI kk = -1 := by rw [m1_ne (by omega)]; exact fun q => q
        have R2 : RC (ab_up σ1 (b + 9 + 4) kk (F (79 + 4 * kk) + 1)) b (upd F (79 + 4 * kk) (F (79 + 4 * kk) + 1), n.2) := hR1.F (by show cl (F 1) ≤ 5; exact hWF.2.2.2.1) (hR1.2.2.1.fnd hkk _) (fun v hv => by simp (disch := omega) only [up_ne]) (fun i h1 h2 => upd_nep (by omega))
        have F2 : Frk b 29 σ (ab_up σ1 (b + 9 + 4) kk (F (79 + 4 * kk) + 1)) := fun v hv => by simp (disch := omega) only [up_ne]; exact hF1 v hv
        have hWG : WFf T (upd F (79 + 4 * kk) (F (79 + 4 * kk) + 1)) := hWF.of (upd_nep (by omega)) (upd_nep (by omega)) (upd_nep (by omega)) (upd_nep (by omega)) (upd_nep (by omega)) (fun s hs => ⟨upd_nep (by omega), upd_nep (by omega)⟩) (fun j hj => ⟨upd_nep (by omega), upd_nep (by omega), upd_nep (by omega)⟩)
        have G13 : upd F (79 + 4 * kk) (F (79 + 4 * kk) + 1) 13 = F 13 := upd_nep (by omega)
        have G8 : upd F (79 + 4 * kk) (F (79 + 4 * kk) + 1) 8 = F 8 := upd_nep (by omega)
        have G0 : upd F (79 + 4 * kk) (F (79 + 4 * kk) + 1) 0 = F 0 := upd_nep (by omega)
        have G1 : upd F (79 + 4 * kk) (F (79 + 4 * kk) + 1) 1 = F 1 := upd_nep (by omega)
        have G78 : upd F (79 + 4 * kk) (F (79 + 4 * kk) + 1) (78 + 4 * kk) = nI dd := by rw [upd_nep (by omega)]; exact edd
        have G76 : upd F (79 + 4 * kk) (F (79 + 4 * kk) + 1) (76 + 4 * kk) = nI pp := by rw [upd_nep (by omega)]; exact epp
        rw [G13, G8, G0, G78, G76] at er0
        generalize upd F (79 + 4 * kk) (F (79 + 4 * kk) + 1) = G at *
        simp (disch := omega) only [bX3_release_97, ez, k3, sp_X7_nearestTo, sp_X5_add, k5, k7, kT, kTl, f0, f1, f2, f3, f4, m1, m2, m3, m4, t4, c7, cd, cp, c28, c12, q_ci, q_cl, q_ild, q_lld, q_ald, q_ist, q_ast, q_lst, q_inc, q_b2, q_d2, q_u1, q_l2, q_ld2, q_lsh, q_lcmp, q_i2l, q_l2i, q_dupi, q_dupr, q_dup2, q_popi, q_popr, q_if1, q_if2, q_nn, q_sw, q_swn, q_swc, q_gf, q_gr, q_pf, q_pz, q_pc, q_ia, q_is, q_cs, q_zs, q_la, q_lw, q_aa, q_al, q_gs, q_acp, q_m2, q_m1, q_ir, q_zr, q_lr, q_ar, q_vr, q_cN0, q_cSX0, q_cV0, q_cVX0, q_cN1, q_cSX1, q_cV1, q_cVX1, q_cN2, q_cSX2, q_cV2, q_cVX2, q_cN3, q_cSX3, q_cV3, q_cVX3, q_cN4, q_cSX4, q_cV4, q_cVX4, q_cN5, q_cSX5, q_cV5, q_cVX5, q_cN6, q_cSX6, q_cV6, q_cVX6, q_th, q_sh0, q_sh1, q_sh2, q_sh3, q_sh4, q_toL0, q_toL1, q_gl0, q_gls, q_sl0, q_sls, q_k10, q_k1s, q_lgi, q_lgr, q_lgl, q_lgn, Bool.not_false, and_true, true_and, nz_2, nz_4, nz_5, nz_8, nz_10, nz_12, nz_14, nz_16, nz_40, nz_41, nz_64, nz_100, nz_1000, nz_1024, nz_4096, nz_10000, nz_100000, not_false_eq_true, bI_0, nI_add, pk_mul, nI_lt', nI_le', nI_eq', nI_z, nI_p, nI_e0, nI_l0, nI_le0, nI_clamp, up_eq, up_ne, not_true_eq_false, Classical.not_not, false_implies, true_implies, false_and, and_false, or_true, true_or, Nat.add_zero, pk_m1, m1_0, m1_n, m1_p, Nat.zero_le, forall_const]
        simp only [nI_one] at vo ⊢
        refine ⟨fun _ => ⟨vk, vk, vo, fun q1 => ?_, fun q1 => ?_⟩, fun q1 => absurd q1 hne⟩
        · rw [if_neg (Int32.not_le.mpr q1)] at er0
          obtain ⟨nb, hnb⟩ := n_near_some (f := G) (p := nI pp) (cl (G 1)) (by rw [G1, hu1]; omega)
          have hnb5 := n_near_lt _ _ hnb
          rw [hnb, cl_nI (show dd < 2 ^ 31 by omega)] at er0
          dsimp only [Option.getD] at er0
          rw [er0] at ha
          refine ⟨vk, vk, hS, pp, T, G, R2.2.1, hWG, rfl, hpp, hw.2.2.2.2.1, n.2.2.1, (cl (F 0) + dd, nb, q + 1), R2.2.2.2.2.1, ?_, ?_, ?_, rfl, by rw [hnb]; rfl, rfl, fun σ' hB hFr => ?_⟩
          · have := hWB.lenm; omega
          · intro x hx; have := hWB.1 x hx; omega
          · show cl (F 0) + dd < 2 ^ 31
            omega
          · refine h2 _ _ _ ?_
            simp (disch := omega) only [bX3_release_193, q_ci, q_cl, q_ild, q_lld, q_ald, q_ist, q_ast, q_lst, q_inc, q_b2, q_d2, q_u1, q_l2, q_ld2, q_lsh, q_lcmp, q_i2l, q_l2i, q_dupi, q_dupr, q_dup2, q_popi, q_popr, q_if1, q_if2, q_nn, q_sw, q_swn, q_swc, q_gf, q_gr, q_pf, q_pz, q_pc, q_ia, q_is, q_cs, q_zs, q_la, q_lw, q_aa, q_al, q_gs, q_acp, q_m2, q_m1, q_ir, q_zr, q_lr, q_ar, q_vr, q_cN0, q_cSX0, q_cV0, q_cVX0, q_cN1, q_cSX1, q_cV1, q_cVX1, q_cN2, q_cSX2, q_cV2, q_cVX2, q_cN3, q_cSX3, q_cV3, q_cVX3, q_cN4, q_cSX4, q_cV4, q_cVX4, q_cN5, q_cSX5, q_cV5, q_cVX5, q_cN6, q_cSX6, q_cV6, q_cVX6, q_th, q_sh0, q_sh1, q_sh2, q_sh3, q_sh4, q_toL0, q_toL1, q_gl0, q_gls, q_sl0, q_sls, q_k10, q_k1s, q_lgi, q_lgr, q_lgl, q_lgn, Bool.not_false, and_true, true_and, nz_2, nz_4, nz_5, nz_8, nz_10, nz_12, nz_14, nz_16, nz_40, nz_41, nz_64, nz_100, nz_1000, nz_1024, nz_4096, nz_10000, nz_100000, not_false_eq_true, bI_0, nI_add, pk_mul, nI_lt', nI_le', nI_eq', nI_z, nI_p, nI_e0, nI_l0, nI_le0, nI_clamp, up_eq, up_ne, not_true_eq_false, Classical.not_not, false_implies, true_implies, false_and, and_false, or_true, true_or, Nat.add_zero, pk_m1, m1_0, m1_n, m1_p, Nat.zero_le, forall_const]
            exact ha _ (R2.B hB (fun v hv => hFr v (by omega))) (fun v hv => by rw [hFr v (by omega)]; exact F2 v hv)
        · rw [if_pos (Int32.not_lt.mp q1)] at er0
          rw [er0] at ha
          refine h2 _ _ _ ?_
          have R3 := R2.N (c := 12) (i := 8) (v := F 8 + 1) (by omega)
          simp (disch := omega) only [bX3_release_193, q_ci, q_cl, q_ild, q_lld, q_ald, q_ist, q_ast, q_lst, q_inc, q_b2, q_d2, q_u1, q_l2, q_ld2, q_lsh, q_lcmp, q_i2l, q_l2i, q_dupi, q_dupr, q_dup2, q_popi, q_popr, q_if1, q_if2, q_nn, q_sw, q_swn, q_swc, q_gf, q_gr, q_pf, q_pz, q_pc, q_ia, q_is, q_cs, q_zs, q_la, q_lw, q_aa, q_al, q_gs, q_acp, q_m2, q_m1, q_ir, q_zr, q_lr, q_ar, q_vr, q_cN0, q_cSX0, q_cV0, q_cVX0, q_cN1, q_cSX1, q_cV1, q_cVX1, q_cN2, q_cSX2, q_cV2, q_cVX2, q_cN3, q_cSX3, q_cV3, q_cVX3, q_cN4, q_cSX4, q_cV4, q_cVX4, q_cN5, q_cSX5, q_cV5, q_cVX5, q_cN6, q_cSX6, q_cV6, q_cVX6, q_th, q_sh0, q_sh1, q_sh2, q_sh3, q_sh4, q_toL0, q_toL1, q_gl0, q_gls, q_sl0, q_sls, q_k10, q_k1s, q_lgi, q_lgr, q_lgl, q_lgn, Bool.not_false, and_true, true_and, nz_2, nz_4, nz_5, nz_8, nz_10, nz_12, nz_14, nz_16, nz_40, nz_41, nz_64, nz_100, nz_1000, nz_1024, nz_4096, nz_10000, nz_100000, not_false_eq_true, bI_0, nI_add, pk_mul, nI_lt', nI_le', nI_eq', nI_z, nI_p, nI_e0, nI_l0, nI_le0, nI_clamp, up_eq, up_ne, not_true_eq_false, Classical.not_not, false_implies, true_implies, false_and, and_false, or_true, true_or, Nat.add_zero, pk_m1, m1_0, m1_n, m1_p, Nat.zero_le, forall_const]
          exact ha _ R3 (fun v hv => by simp (disch := omega) only [up_ne]; exact hF1 v hv)
    refine ⟨v1, v1, v1, v1, v1, ?_⟩
    unfold sp_X3_hourOfNow
    dsimp only
    refine ⟨k3, cl (n.1 0), hR1.1.1.trans (by show F 0 = _; rw [hu0]; exact hW.1.1), by omega, ?_⟩
    simp (disch := omega) only [sp_X3_landingPlace, k3, g3, g4, g5, l3, l4, l5, s3, s4, s5, e9, e7, eq, q_ci, q_cl, q_ild, q_lld, q_ald, q_ist, q_ast, q_lst, q_inc, q_b2, q_d2, q_u1, q_l2, q_ld2, q_lsh, q_lcmp, q_i2l, q_l2i, q_dupi, q_dupr, q_dup2, q_popi, q_popr, q_if1, q_if2, q_nn, q_sw, q_swn, q_swc, q_gf, q_gr, q_pf, q_pz, q_pc, q_ia, q_is, q_cs, q_zs, q_la, q_lw, q_aa, q_al, q_gs, q_acp, q_m2, q_m1, q_ir, q_zr, q_lr, q_ar, q_vr, q_cN0, q_cSX0, q_cV0, q_cVX0, q_cN1, q_cSX1, q_cV1, q_cVX1, q_cN2, q_cSX2, q_cV2, q_cVX2, q_cN3, q_cSX3, q_cV3, q_cVX3, q_cN4, q_cSX4, q_cV4, q_cVX4, q_cN5, q_cSX5, q_cV5, q_cVX5, q_cN6, q_cSX6, q_cV6, q_cVX6, q_th, q_sh0, q_sh1, q_sh2, q_sh3, q_sh4, q_toL0, q_toL1, q_gl0, q_gls, q_sl0, q_sls, q_k10, q_k1s, q_lgi, q_lgr, q_lgl, q_lgn, Bool.not_false, and_true, true_and, nz_2, nz_4, nz_5, nz_8, nz_10, nz_12, nz_14, nz_16, nz_40, nz_41, nz_64, nz_100, nz_1000, nz_1024, nz_4096, nz_10000, nz_100000, not_false_eq_true, bI_0, nI_add, pk_mul, nI_lt', nI_le', nI_eq', nI_z, nI_p, nI_e0, nI_l0, nI_le0, nI_clamp, up_eq, up_ne, not_true_eq_false, Classical.not_not, false_implies, true_implies, false_and, and_false, or_true, true_or, Nat.add_zero, pk_m1, m1_0, m1_n, m1_p, Nat.zero_le, forall_const]
    refine ⟨hw, (F, n.2), k, cl (n.1 0) % 4, hR1, ⟨hWF.2.2.1, hWF.2.2.2.1⟩, rfl, by show k < cl (F 1); rw [hu1]; exact hk, rfl, by omega, fun q0 => ?_, fun q0 => ?_⟩
    · refine ⟨hw.2.2.1.1, ?_⟩
      have hrg : 0 ≤ n_land F k (cl (n.1 0) % 4) ∧ n_land F k (cl (n.1 0) % 4) ≤ nI 99 := by
        revert q0; unfold n_land; split
        · intro _; assumption
        · intro q0; exact absurd rfl q0
      obtain ⟨ev, hv⟩ := ab_ixc (by omega) hrg.1 hrg.2
      refine ⟨hw.2.2.1, cl (n_land F k (cl (n.1 0) % 4)), T, F, hR1.2.2.1, hWF, ev, hv, ?_⟩
      have := H (n_land F k (cl (n.1 0) % 4))
      unfold n_find at this
      rw [← hB0, if_neg q0] at this
      exact this
    · have := H (n_land F k (cl (n.1 0) % 4))
      unfold n_find at this
      rw [← hB0, if_pos q0] at this
      exact this
  · exact h.elim
