theorem tR.of {σ σ' : ab_H} {t : Nat → Nat} {m : Nat} (h : tR σ t m) (e1 : σ' 1 = σ 1) (e2 : σ' 2 = σ 2) : tR σ' t m := by unfold tR at h ⊢; rw [e1, e2]; exact h
set_option maxRecDepth 20000 in
set_option maxHeartbeats 4000000 in
theorem cb_X9_load {l : Launch} (hl : l.stackTraces = false) {w : ab_W} {σ : ab_H} {Kn : Option Value → ab_H → Prop} {Kx : String → ab_H → Prop} (hI : ab_Inj w) (h : sbA w σ c_load [x_st] Kn Kx) : ab_Met l yX9_load (Cond.code yX9_load cX9_load 3 (some .int)) 7 1 w σ [.ref 0] Kn Kx := by
  obtain ⟨hw, A, T, hA, hW, hT, hn, hx⟩ := h
  obtain ⟨w0, w40, w41, w49, w54, w59, w63, w120, w121, w143, w4⟩ := hw.k
  obtain ⟨e41, e49, e7, e8, e9, e63, e10, e11, e12, e59, e54⟩ := hA.rd
  have hcO := hW.1.cOK
  refine vc_X9_load hl hI (ok_X8_firstError hl) (ok_X3_copyFrom hl) (ok_X2_forget hl) (ok_X8_startReading hl) (ok_X8_readCommand hl) (ok_X9_doReadCommand hl)  (Nat.le_of_ble_eq_true rfl) (fun M h0 h1 h2 h3 => h0 [.ref 0, .null, .null] [] σ ?_)
  have hN := hw.2.2.2.1
  have hNE := hw.2.2.2.2.1
  obtain ⟨-, hX, -, -, -, -, w719, hN0, w759, hN1⟩ := id hw
  have w1 := hX.1
  have ht := hA.2.2.2.2.2.2
  have hm : aM A ≤ 120 := ht.2.1
  simp (disch := omega) only [bX9_load_0, sp_X8_firstError, sp_X3_copyFrom, sp_X2_forget, sp_X8_startReading, w0, w1, w40, w4, w719, w759, hX, hN, hNE, q_ci, q_cl, q_ild, q_lld, q_ald, q_ist, q_ast, q_lst, q_inc, q_b2, q_d2, q_u1, q_l2, q_ld2, q_lsh, q_lcmp, q_i2l, q_l2i, q_dupi, q_dupr, q_dup2, q_popi, q_popr, q_if1, q_if2, q_nn, q_sw, q_swn, q_swc, q_gf, q_gr, q_pf, q_pz, q_pc, q_ia, q_is, q_cs, q_zs, q_la, q_lw, q_aa, q_al, q_gs, q_acp, q_m2, q_m1, q_ir, q_zr, q_lr, q_ar, q_vr, q_cN0, q_cSX0, q_cV0, q_cVX0, q_cN1, q_cSX1, q_cV1, q_cVX1, q_cN2, q_cSX2, q_cV2, q_cVX2, q_cN3, q_cSX3, q_cV3, q_cVX3, q_cN4, q_cSX4, q_cV4, q_cVX4, q_cN5, q_cSX5, q_cV5, q_cVX5, q_cN6, q_cSX6, q_cV6, q_cVX6, q_th, q_sh0, q_sh1, q_sh2, q_sh3, q_sh4, q_toL0, q_toL1, q_gl0, q_gls, q_sl0, q_sls, q_k10, q_k1s, q_lgi, q_lgr, q_lgl, q_lgn, Bool.not_false, and_true, true_and, nz_2, nz_4, nz_5, nz_8, nz_10, nz_12, nz_14, nz_16, nz_40, nz_41, nz_64, nz_100, nz_1000, nz_1024, nz_4096, nz_10000, nz_100000, not_false_eq_true, bI_0, nI_add, pk_mul, nI_lt', nI_le', nI_eq', nI_z, nI_p, nI_e0, nI_l0, nI_le0, nI_clamp, up_eq, up_ne, not_true_eq_false, Classical.not_not, false_implies, true_implies, false_and, and_false, or_true, true_or, Nat.add_zero, pk_m1, m1_0, m1_n, m1_p, Nat.zero_le, forall_const, Nat.zero_add, Nat.reduceAdd, Nat.reduceEqDiff, or_false, false_or, Nat.one_ne_zero]
  refine ⟨aT A, aM A, ht, fun σ1 f => ?_⟩
  rcases hp : p_text (aT A) (aM A) with _ | j
  · have hc : c_load A = (0, nI (x_all (aT A) (aM A) 120 1 n_new 0).2, ((x_all (aT A) (aM A) 120 1 n_new 0).1, [], none, none, A.2.2.2.2)) := by unfold c_load; rw [hp]
    rw [hc] at hn
    have hn := hn rfl
    generalize hX0 : x_all (aT A) (aM A) 120 1 n_new 0 = X at hn
    have HE : ∀ q n k σ1, RA w σ1 (n, [], none, none, A.2.2.2.2) → FrA σ σ1 → X = (n, q) → M 99 [.ref 0, .int (nI q), .int (nI k)] [] σ1 := by
      intro q n k σ1 hA1 hF he
      refine h3 _ _ _ ?_
      rw [he] at hn
      simp (disch := omega) only [bX9_load_99, q_ci, q_cl, q_ild, q_lld, q_ald, q_ist, q_ast, q_lst, q_inc, q_b2, q_d2, q_u1, q_l2, q_ld2, q_lsh, q_lcmp, q_i2l, q_l2i, q_dupi, q_dupr, q_dup2, q_popi, q_popr, q_if1, q_if2, q_nn, q_sw, q_swn, q_swc, q_gf, q_gr, q_pf, q_pz, q_pc, q_ia, q_is, q_cs, q_zs, q_la, q_lw, q_aa, q_al, q_gs, q_acp, q_m2, q_m1, q_ir, q_zr, q_lr, q_ar, q_vr, q_cN0, q_cSX0, q_cV0, q_cVX0, q_cN1, q_cSX1, q_cV1, q_cVX1, q_cN2, q_cSX2, q_cV2, q_cVX2, q_cN3, q_cSX3, q_cV3, q_cVX3, q_cN4, q_cSX4, q_cV4, q_cVX4, q_cN5, q_cSX5, q_cV5, q_cVX5, q_cN6, q_cSX6, q_cV6, q_cVX6, q_th, q_sh0, q_sh1, q_sh2, q_sh3, q_sh4, q_toL0, q_toL1, q_gl0, q_gls, q_sl0, q_sls, q_k10, q_k1s, q_lgi, q_lgr, q_lgl, q_lgn, Bool.not_false, and_true, true_and, nz_2, nz_4, nz_5, nz_8, nz_10, nz_12, nz_14, nz_16, nz_40, nz_41, nz_64, nz_100, nz_1000, nz_1024, nz_4096, nz_10000, nz_100000, not_false_eq_true, bI_0, nI_add, pk_mul, nI_lt', nI_le', nI_eq', nI_z, nI_p, nI_e0, nI_l0, nI_le0, nI_clamp, up_eq, up_ne, not_true_eq_false, Classical.not_not, false_implies, true_implies, false_and, and_false, or_true, true_or, Nat.add_zero, pk_m1, m1_0, m1_n, m1_p, Nat.zero_le, forall_const, Nat.zero_add, Nat.reduceAdd, Nat.reduceEqDiff, or_false, false_or, Nat.one_ne_zero]
      exact hn σ1 hA1 hF
    have H : ∀ d k i q n T' σ1, k + d = 120 → RA w σ1 (n, [], none, none, A.2.2.2.2) → tI σ1 (aM A) i → WF T' n → T' ≤ 9 * k → p_err (aT A) (aM A) d i = none → X = x_all (aT A) (aM A) d i n q → FrA σ σ1 → M 67 [.ref 0, .int (nI q), .int (nI k)] [] σ1 := by
      intro d
      induction d with
      | zero =>
        intro k i q n T' σ1 hk hA1 hi hWn hT' he hx' hF
        refine h1 _ _ _ ?_
        simp (disch := omega) only [bX9_load_67, q_ci, q_cl, q_ild, q_lld, q_ald, q_ist, q_ast, q_lst, q_inc, q_b2, q_d2, q_u1, q_l2, q_ld2, q_lsh, q_lcmp, q_i2l, q_l2i, q_dupi, q_dupr, q_dup2, q_popi, q_popr, q_if1, q_if2, q_nn, q_sw, q_swn, q_swc, q_gf, q_gr, q_pf, q_pz, q_pc, q_ia, q_is, q_cs, q_zs, q_la, q_lw, q_aa, q_al, q_gs, q_acp, q_m2, q_m1, q_ir, q_zr, q_lr, q_ar, q_vr, q_cN0, q_cSX0, q_cV0, q_cVX0, q_cN1, q_cSX1, q_cV1, q_cVX1, q_cN2, q_cSX2, q_cV2, q_cVX2, q_cN3, q_cSX3, q_cV3, q_cVX3, q_cN4, q_cSX4, q_cV4, q_cVX4, q_cN5, q_cSX5, q_cV5, q_cVX5, q_cN6, q_cSX6, q_cV6, q_cVX6, q_th, q_sh0, q_sh1, q_sh2, q_sh3, q_sh4, q_toL0, q_toL1, q_gl0, q_gls, q_sl0, q_sls, q_k10, q_k1s, q_lgi, q_lgr, q_lgl, q_lgn, Bool.not_false, and_true, true_and, nz_2, nz_4, nz_5, nz_8, nz_10, nz_12, nz_14, nz_16, nz_40, nz_41, nz_64, nz_100, nz_1000, nz_1024, nz_4096, nz_10000, nz_100000, not_false_eq_true, bI_0, nI_add, pk_mul, nI_lt', nI_le', nI_eq', nI_z, nI_p, nI_e0, nI_l0, nI_le0, nI_clamp, up_eq, up_ne, not_true_eq_false, Classical.not_not, false_implies, true_implies, false_and, and_false, or_true, true_or, Nat.add_zero, pk_m1, m1_0, m1_n, m1_p, Nat.zero_le, forall_const, Nat.zero_add, Nat.reduceAdd, Nat.reduceEqDiff, or_false, false_or, Nat.one_ne_zero]
        exact ⟨fun _ => HE q n k σ1 hA1 hF hx', fun q => absurd (by omega) q⟩
      | succ d ih =>
        intro k i q n T' σ1 hk hA1 hi hWn hT' he hx' hF
        refine h1 _ _ _ ?_
        unfold p_err at he
        rw [x_all] at hx'
        have H93 : ∀ q' n' σ', X = x_all (aT A) (aM A) d (p_cmd (aT A) (aM A) i).1 n' q' → p_err (aT A) (aM A) d (p_cmd (aT A) (aM A) i).1 = none → tI σ' (aM A) (p_cmd (aT A) (aM A) i).1 → RA w σ' (n', [], none, none, A.2.2.2.2) → WF (T' + 9) n' → FrA σ σ' → M 93 [.ref 0, .int (nI q'), .int (nI k)] [] σ' := by
          intro q' n' σ' hx2 he2 hi2 hA2 hW2 hF2
          refine h2 _ _ _ ?_
          simp (disch := omega) only [bX9_load_93, q_ci, q_cl, q_ild, q_lld, q_ald, q_ist, q_ast, q_lst, q_inc, q_b2, q_d2, q_u1, q_l2, q_ld2, q_lsh, q_lcmp, q_i2l, q_l2i, q_dupi, q_dupr, q_dup2, q_popi, q_popr, q_if1, q_if2, q_nn, q_sw, q_swn, q_swc, q_gf, q_gr, q_pf, q_pz, q_pc, q_ia, q_is, q_cs, q_zs, q_la, q_lw, q_aa, q_al, q_gs, q_acp, q_m2, q_m1, q_ir, q_zr, q_lr, q_ar, q_vr, q_cN0, q_cSX0, q_cV0, q_cVX0, q_cN1, q_cSX1, q_cV1, q_cVX1, q_cN2, q_cSX2, q_cV2, q_cVX2, q_cN3, q_cSX3, q_cV3, q_cVX3, q_cN4, q_cSX4, q_cV4, q_cVX4, q_cN5, q_cSX5, q_cV5, q_cVX5, q_cN6, q_cSX6, q_cV6, q_cVX6, q_th, q_sh0, q_sh1, q_sh2, q_sh3, q_sh4, q_toL0, q_toL1, q_gl0, q_gls, q_sl0, q_sls, q_k10, q_k1s, q_lgi, q_lgr, q_lgl, q_lgn, Bool.not_false, and_true, true_and, nz_2, nz_4, nz_5, nz_8, nz_10, nz_12, nz_14, nz_16, nz_40, nz_41, nz_64, nz_100, nz_1000, nz_1024, nz_4096, nz_10000, nz_100000, not_false_eq_true, bI_0, nI_add, pk_mul, nI_lt', nI_le', nI_eq', nI_z, nI_p, nI_e0, nI_l0, nI_le0, nI_clamp, up_eq, up_ne, not_true_eq_false, Classical.not_not, false_implies, true_implies, false_and, and_false, or_true, true_or, Nat.add_zero, pk_m1, m1_0, m1_n, m1_p, Nat.zero_le, forall_const, Nat.zero_add, Nat.reduceAdd, Nat.reduceEqDiff, or_false, false_or, Nat.one_ne_zero]
          exact ih (k + 1) _ q' n' (T' + 9) σ' (by omega) hA2 hi2 hW2 (by omega) he2 hx2 hF2
        simp (disch := omega) only [bX9_load_67, sp_X8_readCommand, sp_X9_doReadCommand, w0, w1, hX, hN, q_ci, q_cl, q_ild, q_lld, q_ald, q_ist, q_ast, q_lst, q_inc, q_b2, q_d2, q_u1, q_l2, q_ld2, q_lsh, q_lcmp, q_i2l, q_l2i, q_dupi, q_dupr, q_dup2, q_popi, q_popr, q_if1, q_if2, q_nn, q_sw, q_swn, q_swc, q_gf, q_gr, q_pf, q_pz, q_pc, q_ia, q_is, q_cs, q_zs, q_la, q_lw, q_aa, q_al, q_gs, q_acp, q_m2, q_m1, q_ir, q_zr, q_lr, q_ar, q_vr, q_cN0, q_cSX0, q_cV0, q_cVX0, q_cN1, q_cSX1, q_cV1, q_cVX1, q_cN2, q_cSX2, q_cV2, q_cVX2, q_cN3, q_cSX3, q_cV3, q_cVX3, q_cN4, q_cSX4, q_cV4, q_cVX4, q_cN5, q_cSX5, q_cV5, q_cVX5, q_cN6, q_cSX6, q_cV6, q_cVX6, q_th, q_sh0, q_sh1, q_sh2, q_sh3, q_sh4, q_toL0, q_toL1, q_gl0, q_gls, q_sl0, q_sls, q_k10, q_k1s, q_lgi, q_lgr, q_lgl, q_lgn, Bool.not_false, and_true, true_and, nz_2, nz_4, nz_5, nz_8, nz_10, nz_12, nz_14, nz_16, nz_40, nz_41, nz_64, nz_100, nz_1000, nz_1024, nz_4096, nz_10000, nz_100000, not_false_eq_true, bI_0, nI_add, pk_mul, nI_lt', nI_le', nI_eq', nI_z, nI_p, nI_e0, nI_l0, nI_le0, nI_clamp, up_eq, up_ne, not_true_eq_false, Classical.not_not, false_implies, true_implies, false_and, and_false, or_true, true_or, Nat.add_zero, pk_m1, m1_0, m1_n, m1_p, Nat.zero_le, forall_const, Nat.zero_add, Nat.reduceAdd, Nat.reduceEqDiff, or_false, false_or, Nat.one_ne_zero]
        refine ⟨fun q => absurd q (by omega), fun _ => ⟨aT A, aM A, i, hA1.2.2.2.2.2.2, hi, fun q2 => ?_, fun q2 σ2 c e f g hl3 hv => ?_, fun q2 σ2 e f g => ?_⟩⟩
        · rw [if_neg q2] at hx'
          first
            | exact HE q n k σ1 hA1 hF hx'
            | exact ⟨fun _ => HE q n k σ1 hA1 hF hx', fun q => absurd rfl q⟩
        · have e2 : (p_cmd (aT A) (aM A) i).2 = some c := by rw [e]
          rw [if_pos q2, e2] at he hx'
          dsimp only at he hx'
          have hok := p_cmd_ok e2
          have hA2 : RA w σ2 (n, [], none, none, A.2.2.2.2) := hA1.txt (f.t hA1.2.2.2.2.2.2) (fun v v1 _ v3 => f.1 v v1 v3)
          have hF2 : FrA σ σ2 := fun v v1 v2 => by rw [f.1 v (by omega) (by omega)]; exact hF v v1 v2
          have hS : (∀ n', x_cmd n c = some n' → ∀ σ', RC σ' 40 n' → Frk 40 29 σ2 σ' → M 93 [.ref 0, .int (nI q), .int (nI k)] [] σ') ∧ (x_cmd n c = none → M 93 [.ref 0, .int (nI (q + 1)), .int (nI k)] [] σ2) := by
            refine ⟨fun n' hn' σ' b1 b2 => ?_, fun hn' => ?_⟩
            · rw [hn'] at hx'
              exact H93 q n' σ' hx' he (by unfold tI at g ⊢; rw [b2 1 (by omega)]; exact g) (hA2.net b1 b2) (WF_xcmd hWn hok (by omega) hn') (fun v v1 v2 => by rw [b2 v (by omega)]; exact hF2 v v1 v2)
            · rw [hn'] at hx'
              exact H93 (q + 1) n σ2 hx' he g hA2 (hWn.mono (by omega)) hF2
          exact ⟨fun q => absurd q (by decide +kernel), fun _ => ⟨T', n, c, hA2.2.1, hWn, by omega, hok.ok, hl3, hv, fun n' hn' σ' b1 b2 => ⟨fun _ => hS.1 n' hn' σ' b1 b2, fun q => absurd q (by decide +kernel)⟩, hS.2⟩⟩
        · rw [if_pos q2, e] at he
          cases he
    have f' := f
    refine ⟨fun _ => ⟨by unfold apt; omega, fun σ2 a1 a2 σ3 b1 b2 => ⟨aT A, aM A, ?_, fun q σ4 c1 c2 c3 => ?_, fun q => ?_⟩⟩, fun q => absurd rfl q⟩
    · exact (f.t ht).of (by simp (disch := omega) only [up_ne]; rw [b2 1 (by omega), a2 1 (by omega)]) (by simp (disch := omega) only [up_ne]; rw [b2 2 (by omega), a2 2 (by omega)])
    · have hfr : ∀ v, v ≠ 1 → v ≠ 3 → v ≠ 4 → v ≠ 719 → v ≠ 759 → (v < 40 ∨ 69 ≤ v) → σ4 v = σ v := fun v v1 v3 v4 v7 v8 v9 => by
        rw [c1.1 v v1 v3, up_ne v8, up_ne v7, b2 v (by omega), a2 v v9, f.1 v v1 v3]
      obtain ⟨r1, r2, r3, r4, r5, r6, r7⟩ := hA
      refine H 120 0 1 0 n_new 0 σ4 (by omega) ⟨r1.of (hfr 16 (by omega) (by omega) (by omega) (by omega) (by omega) (by omega)) (hfr 17 (by omega) (by omega) (by omega) (by omega) (by omega) (by omega)), ?_, r3.of (fun v _ _ => hfr v (by omega) (by omega) (by omega) (by omega) (by omega) (by omega)), ?_, ?_, ?_, ?_⟩ c2 WF_new (by omega) ?_ hX0.symm (fun v v1 v2 => hfr v (by omega) (by omega) (by omega) (by omega) (by omega) (by omega))
      · refine (a1 0 n_new WF_new (r3.of (fun v _ _ => f.1 v (by omega) (by omega)))).of (fun v _ _ => ?_)
        rw [c1.1 v (by omega) (by omega), up_ne (by omega), up_ne (by omega), b2 v (by omega)]
      · refine b1.of ?_ (fun v _ _ => ?_)
        · rw [c1.1 4 (by omega) (by omega), up_ne (by omega), up_ne (by omega)]
        · rw [c1.1 v (by omega) (by omega), up_ne (by omega), up_ne (by omega)]
      · show σ4 719 1 = 0
        rw [c1.1 719 (by omega) (by omega), up_ne (by omega), up_eqp rfl rfl, nI_0]
      · show σ4 759 1 = 0
        rw [c1.1 759 (by omega) (by omega), up_eqp rfl rfl, nI_0]
      · exact c1.t ((f.t ht).of (by simp (disch := omega) only [up_ne]; rw [b2 1 (by omega), a2 1 (by omega)]) (by simp (disch := omega) only [up_ne]; rw [b2 2 (by omega), a2 2 (by omega)]))
      · unfold p_text at hp; rw [if_pos q] at hp; exact hp
    · unfold p_text at hp; rw [if_neg q] at hp; cases hp
  · have hc : c_load A = (1, 0, A) := by unfold c_load; rw [hp]
    have hj := p_text_le hp
    have hne : ¬ oI (some j) = -1 := by
      show ¬ nI j = -1
      rw [m1_ne (by omega)]; exact fun q => q
    exact ⟨fun q => absurd q hne, fun _ => hx 0 x_st (by rw [hc]) rfl σ1 (hA.txt (f.t ht) (fun v v1 _ v3 => f.1 v v1 v3)) (fun v v1 v2 => f.1 v (by omega) (by omega))⟩
