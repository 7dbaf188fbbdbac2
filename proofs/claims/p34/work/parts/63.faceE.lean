theorem rM_0 {f : nF} {s t : Int32} (h : rM f s t = 0) : vS f s ∧ vS f t ∧ n_most f (cl s) ≠ none := by
  unfold rM at h
  split at h
  · next q =>
    split at h
    · omega
    · next q2 => exact ⟨q.1, q.2, fun q3 => q2 (Or.inr q3)⟩
  · omega
theorem WF_movI {T : Nat} {n : nT} (h : WF T n) {s t : Int32} (hr : rM n.1 s t = 0) : WF T (n_mov n (cl s) (cl t)) := by
  obtain ⟨q1, q2, q3⟩ := rM_0 hr
  have h5 := h.cOK.2
  exact WF_mov h (by have := (ab_ixs h.cOK q1).2; omega) (by have := (ab_ixs h.cOK q2).2; omega) q3
theorem WF_chgI {T : Nat} {n : nT} (h : WF T n) {s p z : Int32} (hr : rC n.1 s p z = 0) : WF T (n_chg n (cl s) p z) := by
  unfold rC at hr
  split at hr
  · next q =>
    split at hr
    · next q2 =>
      have h5 := h.cOK.2
      exact WF_chg h (by have := (ab_ixs h.cOK q).2; omega) q2.2
    · omega
  · omega
theorem WF_grp {T g : Nat} {n n' : nT} (h : WF T n) (hT : T + 40 < 100000) (hx : x_grp n g = some n') : WF (T + 40) n' := by
  have cn : ∀ k, k < 100000 → cl (nI k) = k := fun k hk => cl_nI (by omega)
  have inv : ∀ {p : Prop} [Decidable p] {x : nT}, (if p then some x else none) = some n' → p ∧ x = n' := by
    intro p _ x q
    split at q
    · next q1 => cases q; exact ⟨q1, rfl⟩
    · cases q
  unfold x_grp at hx
  dsimp only at hx
  split at hx
  · obtain ⟨q, rfl⟩ := inv hx
    have := WF_ordI h q
    rw [cn _ (by omega), cn _ (by omega), cn _ (by omega)] at this
    exact this.mono (by omega)
  split at hx
  · obtain ⟨q, rfl⟩ := inv hx
    have := WF_movI h q.2.2
    rw [cn _ (by omega), cn _ (by omega)] at this
    exact this.mono (by omega)
  split at hx
  · obtain ⟨q, rfl⟩ := inv hx
    have := WF_chgI h q
    rw [cn _ (by omega)] at this
    exact this.mono (by omega)
  split at hx
  · obtain ⟨q, rfl⟩ := inv hx
    have hok : okW (nI (g / 1000 % 10)) (nI (g / 10 % 100) - nI 20) := by
      have := q.2; unfold rW at this; split at this
      · assumption
      · omega
    have h3 := hok.1.2
    rw [nI_le' (by omega) (by omega)] at h3
    exact (WF_wind h (by omega) _).mono (by omega)
  split at hx
  · obtain ⟨q, rfl⟩ := inv hx
    have := WF_set h q.2
    rw [cn _ (by omega)] at this
    exact this.mono (by omega)
  split at hx
  · obtain ⟨q, rfl⟩ := inv hx
    exact (WF_run h _ (by omega)).mono (by omega)
  split at hx
  · obtain ⟨q, rfl⟩ := inv hx; exact h.mono (by omega)
  split at hx
  · obtain ⟨q, rfl⟩ := inv hx; exact h.mono (by omega)
  split at hx
  · obtain ⟨q, rfl⟩ := inv hx; exact h.mono (by omega)
  · cases hx
theorem WF_turn {T g : Nat} {n : nT} (h : WF T n) (hT : T + 4 < 100000) : WF (T + 4) (x_turn n g) := by
  have cn : ∀ k, k < 100000 → cl (nI k) = k := fun k hk => cl_nI (by omega)
  unfold x_turn
  dsimp only
  split
  · split
    · next q =>
      have := WF_ordI h q
      rw [cn _ (by omega), cn _ (by omega), cn _ (by omega)] at this
      exact this.mono (by omega)
    · exact h.mono (by omega)
  split
  · split
    · next q =>
      have := WF_movI h q
      rw [cn _ (by omega), cn _ (by omega)] at this
      exact this.mono (by omega)
    · exact h.mono (by omega)
  split
  · exact (WF_wind h (by omega) _).mono (by omega)
  split
  · split
    · next q =>
      have := WF_chgI h q
      rw [cn _ (by omega)] at this
      exact this.mono (by omega)
    · exact h.mono (by omega)
  · exact (WF_run h _ (by omega)).mono (by omega)
theorem x_sh {x : Int64} : ((x.toUInt64 >>> ((nI 33).toInt64.toUInt64 &&& Int64.toUInt64 63)).toInt64).toInt32 = nI (x_r x) := by
  have e33 : ((nI 33).toInt64.toUInt64 &&& Int64.toUInt64 63) = 33 := by decide +kernel
  have e : x.toUInt64 >>> 33 = UInt64.ofNat (x_r x) := by
    apply UInt64.toNat_inj.mp
    rw [UInt64.toNat_shiftRight]
    have hu := UInt64.toNat_lt x.toUInt64
    have h33 : (33 : UInt64).toNat % 64 = 33 := by decide +kernel
    rw [h33, Nat.shiftRight_eq_div_pow, UInt64.toNat_ofNat_of_lt' (by have hz : UInt64.size = 18446744073709551616 := rfl; unfold x_r; omega)]
    rfl
  rw [e33, e]
  show (lN (x_r x)).toInt32 = _
  exact lN_i _
theorem x_next_d {x : Int64} {k : Nat} : x_seq x k * 6364136223846793005 + 1442695040888963407 = x_seq x (k + 1) := by rw [x_seq, x_next]
theorem p3 {c : Nat} (h1 : 1 ≤ c) (h3 : c ≤ 3) : (100000 : Int) ^ c = ((100000 ^ c : Nat) : Int) := by
  rcases (by omega : c = 1 ∨ c = 2 ∨ c = 3) with rfl | rfl | rfl <;> decide +kernel
theorem x_r_lt {x : Int64} : x_r x < 2 ^ 31 := by
  have hu := UInt64.toNat_lt x.toUInt64
  unfold x_r; omega
set_option maxRecDepth 20000 in
set_option maxHeartbeats 4000000 in
theorem cb_X9_simulate {l : Launch} (hl : l.stackTraces = false) {w : ab_W} {σ : ab_H} {Kn : Option Value → ab_H → Prop} {Kx : String → ab_H → Prop} (hI : ab_Inj w) (x : Int64) (m : Int32) (h : sbA w σ (c_simulate x m) [x_ar] Kn Kx) : ab_Met l yX9_simulate (Cond.code yX9_simulate cX9_simulate 7 (some .int)) 7 1 w σ [.ref 0, .long x, .int m] Kn Kx := by
  obtain ⟨hw, A, T, hA, hW, hT, hn, hx⟩ := h
  obtain ⟨w0, w40, w41, w49, w54, w59, w63, w120, w121, w143, w4⟩ := hw.k
  obtain ⟨e41, e49, e7, e8, e9, e63, e10, e11, e12, e59, e54⟩ := hA.rd
  have hcO := hW.1.cOK
  refine vc_X9_simulate hl hI (ok_X9_within hl) (ok_X9_need hl) (ok_X3_copyFrom hl) (ok_X9_doTurn hl) (okx_X9_need hl) (Nat.le_of_ble_eq_true rfl) (fun M h0 h1 => h0 [.ref 0, .long x, .null, .int m, .null, .null, .null] [] σ ?_)
  have hN := hw.2.2.2.1
  have hN2 := hw.2.2.2.2.2.1
  by_cases hb : bt2 (nI 1) m (nI 40)
  · obtain ⟨c, hc1, hc6, rfl⟩ := ab_lo (a := 1) (b := 40) (by omega) (by omega) hb.1 hb.2
    have hc : c_simulate x (nI c) A = (0, nI 1000 * ((x_sim x A.1 c).1 4 - A.1.1 4) + (x_sim x A.1 c).1 5 - A.1.1 5, A) := by unfold c_simulate; rw [if_pos hb, cl_nI (by omega)]
    rw [hc] at hn
    have hn := hn rfl
    have H : ∀ d k T' σ1, k + d = c → RC σ1 120 (x_sim x A.1 k) → WF T' (x_sim x A.1 k) → T' ≤ T + 4 * k → Frk 120 29 σ σ1 → M 27 [.ref 0, .long x, .null, .int (nI c), .long (x_seq x k), .null, .int (nI k)] [] σ1 := by
      intro d
      induction d with
      | zero =>
        intro k T' σ1 hk hR hWn hT' hF
        refine h1 _ _ _ ?_
        have hkc : k = c := by omega
        subst hkc
        have q9 : σ1 120 9 = (x_sim x A.1 k).1 4 := hR.1.2.2.1
        have q5 : σ1 143 0 = (x_sim x A.1 k).1 5 := hR.2.2.2.2.2.1.1
        have q8 : σ1 40 9 = A.1.1 4 := by rw [hF 40 (by omega)]; exact e9
        have q6 : σ1 63 0 = A.1.1 5 := by rw [hF 63 (by omega)]; exact e63
        simp (disch := omega) only [bX9_simulate_27, w0, w40, w120, w63, w143, q9, q5, q8, q6, q_ci, q_cl, q_ild, q_lld, q_ald, q_ist, q_ast, q_lst, q_inc, q_b2, q_d2, q_u1, q_l2, q_ld2, q_lsh, q_lcmp, q_i2l, q_l2i, q_dupi, q_dupr, q_dup2, q_popi, q_popr, q_if1, q_if2, q_nn, q_sw, q_swn, q_swc, q_gf, q_gr, q_pf, q_pz, q_pc, q_ia, q_is, q_cs, q_zs, q_la, q_lw, q_aa, q_al, q_gs, q_acp, q_m2, q_m1, q_ir, q_zr, q_lr, q_ar, q_vr, q_cN0, q_cSX0, q_cV0, q_cVX0, q_cN1, q_cSX1, q_cV1, q_cVX1, q_cN2, q_cSX2, q_cV2, q_cVX2, q_cN3, q_cSX3, q_cV3, q_cVX3, q_cN4, q_cSX4, q_cV4, q_cVX4, q_cN5, q_cSX5, q_cV5, q_cVX5, q_cN6, q_cSX6, q_cV6, q_cVX6, q_th, q_sh0, q_sh1, q_sh2, q_sh3, q_sh4, q_toL0, q_toL1, q_gl0, q_gls, q_sl0, q_sls, q_k10, q_k1s, q_lgi, q_lgr, q_lgl, q_lgn, Bool.not_false, and_true, true_and, nz_2, nz_4, nz_5, nz_8, nz_10, nz_12, nz_14, nz_16, nz_40, nz_41, nz_64, nz_100, nz_1000, nz_1024, nz_4096, nz_10000, nz_100000, not_false_eq_true, bI_0, nI_add, pk_mul, nI_lt', nI_le', nI_eq', nI_z, nI_p, nI_e0, nI_l0, nI_le0, nI_clamp, up_eq, up_ne, not_true_eq_false, Classical.not_not, false_implies, true_implies, false_and, and_false, or_true, true_or, Nat.add_zero, pk_m1, m1_0, m1_n, m1_p, Nat.zero_le, forall_const, Nat.zero_add, Nat.reduceAdd, Nat.reduceEqDiff, or_false, false_or, Nat.one_ne_zero]
        exact ⟨fun _ => hn σ1 (hA.tri hF) (FrA.tri hF), fun q => absurd (Nat.le_refl _) q⟩
      | succ d ih =>
        intro k T' σ1 hk hR hWn hT' hF
        refine h1 _ _ _ ?_
        simp (disch := omega) only [bX9_simulate_27, sp_X9_doTurn, w0, w40, w120, w63, w143, hN2, q_ci, q_cl, q_ild, q_lld, q_ald, q_ist, q_ast, q_lst, q_inc, q_b2, q_d2, q_u1, q_l2, q_ld2, q_lsh, q_lcmp, q_i2l, q_l2i, q_dupi, q_dupr, q_dup2, q_popi, q_popr, q_if1, q_if2, q_nn, q_sw, q_swn, q_swc, q_gf, q_gr, q_pf, q_pz, q_pc, q_ia, q_is, q_cs, q_zs, q_la, q_lw, q_aa, q_al, q_gs, q_acp, q_m2, q_m1, q_ir, q_zr, q_lr, q_ar, q_vr, q_cN0, q_cSX0, q_cV0, q_cVX0, q_cN1, q_cSX1, q_cV1, q_cVX1, q_cN2, q_cSX2, q_cV2, q_cVX2, q_cN3, q_cSX3, q_cV3, q_cVX3, q_cN4, q_cSX4, q_cV4, q_cVX4, q_cN5, q_cSX5, q_cV5, q_cVX5, q_cN6, q_cSX6, q_cV6, q_cVX6, q_th, q_sh0, q_sh1, q_sh2, q_sh3, q_sh4, q_toL0, q_toL1, q_gl0, q_gls, q_sl0, q_sls, q_k10, q_k1s, q_lgi, q_lgr, q_lgl, q_lgn, Bool.not_false, and_true, true_and, nz_2, nz_4, nz_5, nz_8, nz_10, nz_12, nz_14, nz_16, nz_40, nz_41, nz_64, nz_100, nz_1000, nz_1024, nz_4096, nz_10000, nz_100000, not_false_eq_true, bI_0, nI_add, pk_mul, nI_lt', nI_le', nI_eq', nI_z, nI_p, nI_e0, nI_l0, nI_le0, nI_clamp, up_eq, up_ne, not_true_eq_false, Classical.not_not, false_implies, true_implies, false_and, and_false, or_true, true_or, Nat.add_zero, pk_m1, m1_0, m1_n, m1_p, Nat.zero_le, forall_const, Nat.zero_add, Nat.reduceAdd, Nat.reduceEqDiff, or_false, false_or, Nat.one_ne_zero]
        refine ⟨fun q => absurd q (by omega), fun _ => ?_⟩
        rw [x_next_d, x_sh]
        have hst : x_sim x A.1 (k + 1) = x_turn (x_sim x A.1 k) (x_r (x_seq x (k + 1))) := by rw [x_sim]
        exact ⟨T', x_sim x A.1 k, x_r (x_seq x (k + 1)), hR, hWn, by omega, rfl, x_r_lt, fun σ2 b1 b2 => ih (k + 1) (T' + 4) σ2 (by omega) (by rw [hst]; exact b1) (by rw [hst]; exact WF_turn hWn (by omega)) (by omega) (hF.trans b2)⟩
    simp (disch := omega) only [bX9_simulate_0, sp_X9_within, sp_X9_need, sx_X9_need, sp_X3_copyFrom, w0, w40, w120, hN, hN2, q_ci, q_cl, q_ild, q_lld, q_ald, q_ist, q_ast, q_lst, q_inc, q_b2, q_d2, q_u1, q_l2, q_ld2, q_lsh, q_lcmp, q_i2l, q_l2i, q_dupi, q_dupr, q_dup2, q_popi, q_popr, q_if1, q_if2, q_nn, q_sw, q_swn, q_swc, q_gf, q_gr, q_pf, q_pz, q_pc, q_ia, q_is, q_cs, q_zs, q_la, q_lw, q_aa, q_al, q_gs, q_acp, q_m2, q_m1, q_ir, q_zr, q_lr, q_ar, q_vr, q_cN0, q_cSX0, q_cV0, q_cVX0, q_cN1, q_cSX1, q_cV1, q_cVX1, q_cN2, q_cSX2, q_cV2, q_cVX2, q_cN3, q_cSX3, q_cV3, q_cVX3, q_cN4, q_cSX4, q_cV4, q_cVX4, q_cN5, q_cSX5, q_cV5, q_cVX5, q_cN6, q_cSX6, q_cV6, q_cVX6, q_th, q_sh0, q_sh1, q_sh2, q_sh3, q_sh4, q_toL0, q_toL1, q_gl0, q_gls, q_sl0, q_sls, q_k10, q_k1s, q_lgi, q_lgr, q_lgl, q_lgn, Bool.not_false, and_true, true_and, nz_2, nz_4, nz_5, nz_8, nz_10, nz_12, nz_14, nz_16, nz_40, nz_41, nz_64, nz_100, nz_1000, nz_1024, nz_4096, nz_10000, nz_100000, not_false_eq_true, bI_0, nI_add, pk_mul, nI_lt', nI_le', nI_eq', nI_z, nI_p, nI_e0, nI_l0, nI_le0, nI_clamp, up_eq, up_ne, not_true_eq_false, Classical.not_not, false_implies, true_implies, false_and, and_false, or_true, true_or, Nat.add_zero, pk_m1, m1_0, m1_n, m1_p, Nat.zero_le, forall_const, Nat.zero_add, Nat.reduceAdd, Nat.reduceEqDiff, or_false, false_or, Nat.one_ne_zero]
    exact Or.inl ⟨⟨hc1, hc6⟩, by unfold apt; omega, fun σ1 a1 a2 => H c 0 T σ1 (by omega) (a1 T A.1 hW.1 hA.2.1) hW.1 (by omega) a2⟩
  · have hc : c_simulate x m A = (1, 0, A) := if_neg hb
    have hx := hx 0 x_ar (by rw [hc]) rfl σ hA FrA.refl
    simp (disch := omega) only [bX9_simulate_0, sp_X9_within, sp_X9_need, sx_X9_need, w0, w40, w120, q_ci, q_cl, q_ild, q_lld, q_ald, q_ist, q_ast, q_lst, q_inc, q_b2, q_d2, q_u1, q_l2, q_ld2, q_lsh, q_lcmp, q_i2l, q_l2i, q_dupi, q_dupr, q_dup2, q_popi, q_popr, q_if1, q_if2, q_nn, q_sw, q_swn, q_swc, q_gf, q_gr, q_pf, q_pz, q_pc, q_ia, q_is, q_cs, q_zs, q_la, q_lw, q_aa, q_al, q_gs, q_acp, q_m2, q_m1, q_ir, q_zr, q_lr, q_ar, q_vr, q_cN0, q_cSX0, q_cV0, q_cVX0, q_cN1, q_cSX1, q_cV1, q_cVX1, q_cN2, q_cSX2, q_cV2, q_cVX2, q_cN3, q_cSX3, q_cV3, q_cVX3, q_cN4, q_cSX4, q_cV4, q_cVX4, q_cN5, q_cSX5, q_cV5, q_cVX5, q_cN6, q_cSX6, q_cV6, q_cVX6, q_th, q_sh0, q_sh1, q_sh2, q_sh3, q_sh4, q_toL0, q_toL1, q_gl0, q_gls, q_sl0, q_sls, q_k10, q_k1s, q_lgi, q_lgr, q_lgl, q_lgn, Bool.not_false, and_true, true_and, nz_2, nz_4, nz_5, nz_8, nz_10, nz_12, nz_14, nz_16, nz_40, nz_41, nz_64, nz_100, nz_1000, nz_1024, nz_4096, nz_10000, nz_100000, not_false_eq_true, bI_0, nI_add, pk_mul, nI_lt', nI_le', nI_eq', nI_z, nI_p, nI_e0, nI_l0, nI_le0, nI_clamp, up_eq, up_ne, not_true_eq_false, Classical.not_not, false_implies, true_implies, false_and, and_false, or_true, true_or, Nat.add_zero, pk_m1, m1_0, m1_n, m1_p, Nat.zero_le, forall_const, Nat.zero_add, Nat.reduceAdd, Nat.reduceEqDiff, or_false, false_or, Nat.one_ne_zero]
    exact Or.inr ⟨hb, hx⟩
set_option maxRecDepth 20000 in
set_option maxHeartbeats 4000000 in
theorem cb_X9_runScript {l : Launch} (hl : l.stackTraces = false) {w : ab_W} {σ : ab_H} {Kn : Option Value → ab_H → Prop} {Kx : String → ab_H → Prop} (hI : ab_Inj w) (n : Int32) (z : Int64) (h : sbA w σ (c_runScript n z) [x_ar] Kn Kx) : ab_Met l yX9_runScript (Cond.code yX9_runScript cX9_runScript 5 (some .int)) 7 1 w σ [.ref 0, .int n, .long z] Kn Kx := by
  obtain ⟨hw, A, T, hA, hW, hT, hn, hx⟩ := h
  obtain ⟨w0, w40, w41, w49, w54, w59, w63, w120, w121, w143, w4⟩ := hw.k
  obtain ⟨e41, e49, e7, e8, e9, e63, e10, e11, e12, e59, e54⟩ := hA.rd
  have hcO := hW.1.cOK
  refine vc_X9_runScript hl hI (ok_X9_within hl) (ok_X9_need hl) (ok_X9_longestScript hl) (ok_X3_copyFrom hl) (ok_X9_scriptGroup hl) (ok_X9_doScriptCommand hl) (okx_X9_need hl) (Nat.le_of_ble_eq_true rfl) (fun M h0 h1 h2 h3 => h0 [.ref 0, .int n, .long z, .null, .null] [] σ ?_)
  have hN := hw.2.2.2.1
  have hN2 := hw.2.2.2.2.2.1
  by_cases hb1 : bt2 (nI 1) n (nI 3)
  · obtain ⟨c, hc1, hc6, rfl⟩ := ab_lo (a := 1) (b := 3) (by omega) (by omega) hb1.1 hb1.2
    have ecc : cl (nI c) = c := cl_nI (by omega)
    have hp : 100000 ^ c ≤ 1000000000000000 := by
      rcases (by omega : c = 1 ∨ c = 2 ∨ c = 3) with rfl | rfl | rfl <;> decide
    have hp1 : 1 ≤ 100000 ^ c := Nat.pow_pos (by omega)
    by_cases hb2 : 0 ≤ z.toInt ∧ z.toInt < 100000 ^ c
    · obtain ⟨Z, hZ, rfl⟩ : ∃ Z, Z < 100000 ^ c ∧ z = lN Z := by
        obtain ⟨Z, hZ, rfl⟩ := pk_lOf (x := z) (by rw [Int64.lt_iff_toInt_lt]; have h0 : (0 : Int64).toInt = 0 := by decide
                                                   omega)
        rw [pk_lT hZ, p3 hc1 hc6] at hb2
        exact ⟨Z, by have := hb2.2; omega, rfl⟩
      have hc : c_runScript (nI c) (lN Z) A = (0, oI (x_scr Z c 0 A.1), A) := by
        unfold c_runScript; rw [ecc, if_pos ⟨hb1, hb2⟩, pk_lT (by omega)]; rfl
      rw [hc] at hn
      have hn := hn rfl
      have H : ∀ d k n T' σ1, k + d = c → RC σ1 120 n → WF T' n → T' ≤ T + 40 * k → x_scr Z c 0 A.1 = x_scr Z d k n → Frk 120 29 σ σ1 → M 46 [.ref 0, .int (nI c), .long (lN Z), .null, .int (nI k)] [] σ1 := by
        intro d
        induction d with
        | zero =>
          intro k n T' σ1 hk hR hWn hT' he hF
          refine h3 _ _ _ ?_
          rw [he] at hn
          simp (disch := omega) only [bX9_runScript_46, q_ci, q_cl, q_ild, q_lld, q_ald, q_ist, q_ast, q_lst, q_inc, q_b2, q_d2, q_u1, q_l2, q_ld2, q_lsh, q_lcmp, q_i2l, q_l2i, q_dupi, q_dupr, q_dup2, q_popi, q_popr, q_if1, q_if2, q_nn, q_sw, q_swn, q_swc, q_gf, q_gr, q_pf, q_pz, q_pc, q_ia, q_is, q_cs, q_zs, q_la, q_lw, q_aa, q_al, q_gs, q_acp, q_m2, q_m1, q_ir, q_zr, q_lr, q_ar, q_vr, q_cN0, q_cSX0, q_cV0, q_cVX0, q_cN1, q_cSX1, q_cV1, q_cVX1, q_cN2, q_cSX2, q_cV2, q_cVX2, q_cN3, q_cSX3, q_cV3, q_cVX3, q_cN4, q_cSX4, q_cV4, q_cVX4, q_cN5, q_cSX5, q_cV5, q_cVX5, q_cN6, q_cSX6, q_cV6, q_cVX6, q_th, q_sh0, q_sh1, q_sh2, q_sh3, q_sh4, q_toL0, q_toL1, q_gl0, q_gls, q_sl0, q_sls, q_k10, q_k1s, q_lgi, q_lgr, q_lgl, q_lgn, Bool.not_false, and_true, true_and, nz_2, nz_4, nz_5, nz_8, nz_10, nz_12, nz_14, nz_16, nz_40, nz_41, nz_64, nz_100, nz_1000, nz_1024, nz_4096, nz_10000, nz_100000, not_false_eq_true, bI_0, nI_add, pk_mul, nI_lt', nI_le', nI_eq', nI_z, nI_p, nI_e0, nI_l0, nI_le0, nI_clamp, up_eq, up_ne, not_true_eq_false, Classical.not_not, false_implies, true_implies, false_and, and_false, or_true, true_or, Nat.add_zero, pk_m1, m1_0, m1_n, m1_p, Nat.zero_le, forall_const, Nat.zero_add, Nat.reduceAdd, Nat.reduceEqDiff, or_false, false_or, Nat.one_ne_zero]
          exact ⟨fun _ => hn σ1 (hA.tri hF) (FrA.tri hF), fun q => absurd (by omega) q⟩
        | succ d ih =>
          intro k n T' σ1 hk hR hWn hT' he hF
          refine h3 _ _ _ ?_
          have esub : nI c - nI 1 - nI k = nI d := by rw [pk_sub (by omega), pk_sub (by omega)]; congr 1; omega
          simp (disch := omega) only [bX9_runScript_46, sp_X9_scriptGroup, sp_X9_doScriptCommand, w0, hN2, esub, q_ci, q_cl, q_ild, q_lld, q_ald, q_ist, q_ast, q_lst, q_inc, q_b2, q_d2, q_u1, q_l2, q_ld2, q_lsh, q_lcmp, q_i2l, q_l2i, q_dupi, q_dupr, q_dup2, q_popi, q_popr, q_if1, q_if2, q_nn, q_sw, q_swn, q_swc, q_gf, q_gr, q_pf, q_pz, q_pc, q_ia, q_is, q_cs, q_zs, q_la, q_lw, q_aa, q_al, q_gs, q_acp, q_m2, q_m1, q_ir, q_zr, q_lr, q_ar, q_vr, q_cN0, q_cSX0, q_cV0, q_cVX0, q_cN1, q_cSX1, q_cV1, q_cVX1, q_cN2, q_cSX2, q_cV2, q_cVX2, q_cN3, q_cSX3, q_cV3, q_cVX3, q_cN4, q_cSX4, q_cV4, q_cVX4, q_cN5, q_cSX5, q_cV5, q_cVX5, q_cN6, q_cSX6, q_cV6, q_cVX6, q_th, q_sh0, q_sh1, q_sh2, q_sh3, q_sh4, q_toL0, q_toL1, q_gl0, q_gls, q_sl0, q_sls, q_k10, q_k1s, q_lgi, q_lgr, q_lgl, q_lgn, Bool.not_false, and_true, true_and, nz_2, nz_4, nz_5, nz_8, nz_10, nz_12, nz_14, nz_16, nz_40, nz_41, nz_64, nz_100, nz_1000, nz_1024, nz_4096, nz_10000, nz_100000, not_false_eq_true, bI_0, nI_add, pk_mul, nI_lt', nI_le', nI_eq', nI_z, nI_p, nI_e0, nI_l0, nI_le0, nI_clamp, up_eq, up_ne, not_true_eq_false, Classical.not_not, false_implies, true_implies, false_and, and_false, or_true, true_or, Nat.add_zero, pk_m1, m1_0, m1_n, m1_p, Nat.zero_le, forall_const, Nat.zero_add, Nat.reduceAdd, Nat.reduceEqDiff, or_false, false_or, Nat.one_ne_zero]
          refine ⟨fun q => absurd q (by omega), fun _ => ⟨Z, d, rfl, by omega, rfl, by omega, hA.1.of (hF 16 (by omega)) (hF 17 (by omega)), T', n, _, hR, hWn, by omega, rfl, Nat.mod_lt _ (by omega), fun n' hn' σ2 b1 b2 => ?_, fun hn' => ?_⟩⟩
          · have he : x_scr Z c 0 A.1 = x_scr Z d (k + 1) n' := by rw [he]; show (match x_grp _ _ with | none => _ | some _ => _) = _; rw [hn']
            have := ih (k + 1) n' (T' + 40) σ2 (by omega) b1 (WF_grp hWn (by omega) hn') (by omega) he (hF.trans b2)
            first
              | exact this
              | exact ⟨fun _ => this, fun q => absurd q (by decide +kernel)⟩
          · have he : x_scr Z c 0 A.1 = some k := by rw [he]; show (match x_grp _ _ with | none => _ | some _ => _) = _; rw [hn']
            rw [he] at hn
            have := hn σ1 (hA.tri hF) (FrA.tri hF)
            first
              | exact this
              | exact ⟨fun q => absurd rfl q, fun _ => this⟩
      have h29' : M 29 [.ref 0, .int (nI c), .long (lN Z), .null, .null] [.int (nI 1)] σ := by
        refine h2 _ _ _ ?_
        simp (disch := omega) only [bX9_runScript_29, sp_X9_need, sx_X9_need, sp_X3_copyFrom, w0, w40, w120, hN, hN2, q_ci, q_cl, q_ild, q_lld, q_ald, q_ist, q_ast, q_lst, q_inc, q_b2, q_d2, q_u1, q_l2, q_ld2, q_lsh, q_lcmp, q_i2l, q_l2i, q_dupi, q_dupr, q_dup2, q_popi, q_popr, q_if1, q_if2, q_nn, q_sw, q_swn, q_swc, q_gf, q_gr, q_pf, q_pz, q_pc, q_ia, q_is, q_cs, q_zs, q_la, q_lw, q_aa, q_al, q_gs, q_acp, q_m2, q_m1, q_ir, q_zr, q_lr, q_ar, q_vr, q_cN0, q_cSX0, q_cV0, q_cVX0, q_cN1, q_cSX1, q_cV1, q_cVX1, q_cN2, q_cSX2, q_cV2, q_cVX2, q_cN3, q_cSX3, q_cV3, q_cVX3, q_cN4, q_cSX4, q_cV4, q_cVX4, q_cN5, q_cSX5, q_cV5, q_cVX5, q_cN6, q_cSX6, q_cV6, q_cVX6, q_th, q_sh0, q_sh1, q_sh2, q_sh3, q_sh4, q_toL0, q_toL1, q_gl0, q_gls, q_sl0, q_sls, q_k10, q_k1s, q_lgi, q_lgr, q_lgl, q_lgn, Bool.not_false, and_true, true_and, nz_2, nz_4, nz_5, nz_8, nz_10, nz_12, nz_14, nz_16, nz_40, nz_41, nz_64, nz_100, nz_1000, nz_1024, nz_4096, nz_10000, nz_100000, not_false_eq_true, bI_0, nI_add, pk_mul, nI_lt', nI_le', nI_eq', nI_z, nI_p, nI_e0, nI_l0, nI_le0, nI_clamp, up_eq, up_ne, not_true_eq_false, Classical.not_not, false_implies, true_implies, false_and, and_false, or_true, true_or, Nat.add_zero, pk_m1, m1_0, m1_n, m1_p, Nat.zero_le, forall_const, Nat.zero_add, Nat.reduceAdd, Nat.reduceEqDiff, or_false, false_or, Nat.one_ne_zero]
        first
          | exact ⟨by unfold apt; omega, fun σ1 a1 a2 => H c 0 A.1 T σ1 (by omega) (a1 T A.1 hW.1 hA.2.1) hW.1 (by omega) rfl a2⟩
          | exact Or.inl ⟨by unfold apt; omega, fun σ1 a1 a2 => H c 0 A.1 T σ1 (by omega) (a1 T A.1 hW.1 hA.2.1) hW.1 (by omega) rfl a2⟩
      simp (disch := omega) only [bX9_runScript_0, sp_X9_within, sp_X9_need, sx_X9_need, sp_X9_longestScript, w0, q_ci, q_cl, q_ild, q_lld, q_ald, q_ist, q_ast, q_lst, q_inc, q_b2, q_d2, q_u1, q_l2, q_ld2, q_lsh, q_lcmp, q_i2l, q_l2i, q_dupi, q_dupr, q_dup2, q_popi, q_popr, q_if1, q_if2, q_nn, q_sw, q_swn, q_swc, q_gf, q_gr, q_pf, q_pz, q_pc, q_ia, q_is, q_cs, q_zs, q_la, q_lw, q_aa, q_al, q_gs, q_acp, q_m2, q_m1, q_ir, q_zr, q_lr, q_ar, q_vr, q_cN0, q_cSX0, q_cV0, q_cVX0, q_cN1, q_cSX1, q_cV1, q_cVX1, q_cN2, q_cSX2, q_cV2, q_cVX2, q_cN3, q_cSX3, q_cV3, q_cVX3, q_cN4, q_cSX4, q_cV4, q_cVX4, q_cN5, q_cSX5, q_cV5, q_cVX5, q_cN6, q_cSX6, q_cV6, q_cVX6, q_th, q_sh0, q_sh1, q_sh2, q_sh3, q_sh4, q_toL0, q_toL1, q_gl0, q_gls, q_sl0, q_sls, q_k10, q_k1s, q_lgi, q_lgr, q_lgl, q_lgn, Bool.not_false, and_true, true_and, nz_2, nz_4, nz_5, nz_8, nz_10, nz_12, nz_14, nz_16, nz_40, nz_41, nz_64, nz_100, nz_1000, nz_1024, nz_4096, nz_10000, nz_100000, not_false_eq_true, bI_0, nI_add, pk_mul, nI_lt', nI_le', nI_eq', nI_z, nI_p, nI_e0, nI_l0, nI_le0, nI_clamp, up_eq, up_ne, not_true_eq_false, Classical.not_not, false_implies, true_implies, false_and, and_false, or_true, true_or, Nat.add_zero, pk_m1, m1_0, m1_n, m1_p, Nat.zero_le, forall_const, Nat.zero_add, Nat.reduceAdd, Nat.reduceEqDiff, or_false, false_or, Nat.one_ne_zero]
      refine Or.inl ⟨⟨hc1, hc6⟩, fun q => ?_, fun _ => ⟨c, rfl, hc1, hc6, fun q => ?_, fun _ => h29'⟩⟩
      · rw [lg_cmp_lt, pk_lLT (by omega) (by omega)] at q; omega
      · rw [lg_cmp_gt, pk_lLT (by omega) (by omega)] at q; omega
    · have hc : c_runScript (nI c) z A = (1, 0, A) := by unfold c_runScript; rw [ecc, if_neg (fun q => hb2 q.2)]
      have hx := hx 0 x_ar (by rw [hc]) rfl σ hA FrA.refl
      have h28' : M 28 [.ref 0, .int (nI c), .long z, .null, .null] [] σ := by
        refine h1 _ _ _ ?_
        simp (disch := omega) only [bX9_runScript_28, q_ci, q_cl, q_ild, q_lld, q_ald, q_ist, q_ast, q_lst, q_inc, q_b2, q_d2, q_u1, q_l2, q_ld2, q_lsh, q_lcmp, q_i2l, q_l2i, q_dupi, q_dupr, q_dup2, q_popi, q_popr, q_if1, q_if2, q_nn, q_sw, q_swn, q_swc, q_gf, q_gr, q_pf, q_pz, q_pc, q_ia, q_is, q_cs, q_zs, q_la, q_lw, q_aa, q_al, q_gs, q_acp, q_m2, q_m1, q_ir, q_zr, q_lr, q_ar, q_vr, q_cN0, q_cSX0, q_cV0, q_cVX0, q_cN1, q_cSX1, q_cV1, q_cVX1, q_cN2, q_cSX2, q_cV2, q_cVX2, q_cN3, q_cSX3, q_cV3, q_cVX3, q_cN4, q_cSX4, q_cV4, q_cVX4, q_cN5, q_cSX5, q_cV5, q_cVX5, q_cN6, q_cSX6, q_cV6, q_cVX6, q_th, q_sh0, q_sh1, q_sh2, q_sh3, q_sh4, q_toL0, q_toL1, q_gl0, q_gls, q_sl0, q_sls, q_k10, q_k1s, q_lgi, q_lgr, q_lgl, q_lgn, Bool.not_false, and_true, true_and, nz_2, nz_4, nz_5, nz_8, nz_10, nz_12, nz_14, nz_16, nz_40, nz_41, nz_64, nz_100, nz_1000, nz_1024, nz_4096, nz_10000, nz_100000, not_false_eq_true, bI_0, nI_add, pk_mul, nI_lt', nI_le', nI_eq', nI_z, nI_p, nI_e0, nI_l0, nI_le0, nI_clamp, up_eq, up_ne, not_true_eq_false, Classical.not_not, false_implies, true_implies, false_and, and_false, or_true, true_or, Nat.add_zero, pk_m1, m1_0, m1_n, m1_p, Nat.zero_le, forall_const, Nat.zero_add, Nat.reduceAdd, Nat.reduceEqDiff, or_false, false_or, Nat.one_ne_zero]
        refine h2 _ _ _ ?_
        simp (disch := omega) only [bX9_runScript_29, sp_X9_need, sx_X9_need, q_ci, q_cl, q_ild, q_lld, q_ald, q_ist, q_ast, q_lst, q_inc, q_b2, q_d2, q_u1, q_l2, q_ld2, q_lsh, q_lcmp, q_i2l, q_l2i, q_dupi, q_dupr, q_dup2, q_popi, q_popr, q_if1, q_if2, q_nn, q_sw, q_swn, q_swc, q_gf, q_gr, q_pf, q_pz, q_pc, q_ia, q_is, q_cs, q_zs, q_la, q_lw, q_aa, q_al, q_gs, q_acp, q_m2, q_m1, q_ir, q_zr, q_lr, q_ar, q_vr, q_cN0, q_cSX0, q_cV0, q_cVX0, q_cN1, q_cSX1, q_cV1, q_cVX1, q_cN2, q_cSX2, q_cV2, q_cVX2, q_cN3, q_cSX3, q_cV3, q_cVX3, q_cN4, q_cSX4, q_cV4, q_cVX4, q_cN5, q_cSX5, q_cV5, q_cVX5, q_cN6, q_cSX6, q_cV6, q_cVX6, q_th, q_sh0, q_sh1, q_sh2, q_sh3, q_sh4, q_toL0, q_toL1, q_gl0, q_gls, q_sl0, q_sls, q_k10, q_k1s, q_lgi, q_lgr, q_lgl, q_lgn, Bool.not_false, and_true, true_and, nz_2, nz_4, nz_5, nz_8, nz_10, nz_12, nz_14, nz_16, nz_40, nz_41, nz_64, nz_100, nz_1000, nz_1024, nz_4096, nz_10000, nz_100000, not_false_eq_true, bI_0, nI_add, pk_mul, nI_lt', nI_le', nI_eq', nI_z, nI_p, nI_e0, nI_l0, nI_le0, nI_clamp, up_eq, up_ne, not_true_eq_false, Classical.not_not, false_implies, true_implies, false_and, and_false, or_true, true_or, Nat.add_zero, pk_m1, m1_0, m1_n, m1_p, Nat.zero_le, forall_const, Nat.zero_add, Nat.reduceAdd, Nat.reduceEqDiff, or_false, false_or, Nat.one_ne_zero]
        first | exact hx | exact Or.inr hx
      simp (disch := omega) only [bX9_runScript_0, sp_X9_within, sp_X9_need, sx_X9_need, sp_X9_longestScript, w0, q_ci, q_cl, q_ild, q_lld, q_ald, q_ist, q_ast, q_lst, q_inc, q_b2, q_d2, q_u1, q_l2, q_ld2, q_lsh, q_lcmp, q_i2l, q_l2i, q_dupi, q_dupr, q_dup2, q_popi, q_popr, q_if1, q_if2, q_nn, q_sw, q_swn, q_swc, q_gf, q_gr, q_pf, q_pz, q_pc, q_ia, q_is, q_cs, q_zs, q_la, q_lw, q_aa, q_al, q_gs, q_acp, q_m2, q_m1, q_ir, q_zr, q_lr, q_ar, q_vr, q_cN0, q_cSX0, q_cV0, q_cVX0, q_cN1, q_cSX1, q_cV1, q_cVX1, q_cN2, q_cSX2, q_cV2, q_cVX2, q_cN3, q_cSX3, q_cV3, q_cVX3, q_cN4, q_cSX4, q_cV4, q_cVX4, q_cN5, q_cSX5, q_cV5, q_cVX5, q_cN6, q_cSX6, q_cV6, q_cVX6, q_th, q_sh0, q_sh1, q_sh2, q_sh3, q_sh4, q_toL0, q_toL1, q_gl0, q_gls, q_sl0, q_sls, q_k10, q_k1s, q_lgi, q_lgr, q_lgl, q_lgn, Bool.not_false, and_true, true_and, nz_2, nz_4, nz_5, nz_8, nz_10, nz_12, nz_14, nz_16, nz_40, nz_41, nz_64, nz_100, nz_1000, nz_1024, nz_4096, nz_10000, nz_100000, not_false_eq_true, bI_0, nI_add, pk_mul, nI_lt', nI_le', nI_eq', nI_z, nI_p, nI_e0, nI_l0, nI_le0, nI_clamp, up_eq, up_ne, not_true_eq_false, Classical.not_not, false_implies, true_implies, false_and, and_false, or_true, true_or, Nat.add_zero, pk_m1, m1_0, m1_n, m1_p, Nat.zero_le, forall_const, Nat.zero_add, Nat.reduceAdd, Nat.reduceEqDiff, or_false, false_or, Nat.one_ne_zero]
      refine Or.inl ⟨⟨hc1, hc6⟩, fun _ => h28', fun q => ⟨c, rfl, hc1, hc6, fun _ => h28', fun q2 => absurd ⟨?_, ?_⟩ hb2⟩⟩
      · rw [lg_cmp_lt, Int64.lt_iff_toInt_lt, lN_toInt (by omega)] at q; omega
      · rw [lg_cmp_gt, Int64.lt_iff_toInt_lt, pk_lT (by omega)] at q2
        have : z.toInt ≤ ((100000 ^ c - 1 : Nat) : Int) := by omega
        have h2 : ((100000 ^ c - 1 : Nat) : Int) < ((100000 ^ c : Nat) : Int) := by omega
        rw [p3 hc1 hc6]
        omega
  · have hc : c_runScript n z A = (1, 0, A) := if_neg (fun q => hb1 q.1)
    have hx := hx 0 x_ar (by rw [hc]) rfl σ hA FrA.refl
    simp (disch := omega) only [bX9_runScript_0, sp_X9_within, sp_X9_need, sx_X9_need, w0, q_ci, q_cl, q_ild, q_lld, q_ald, q_ist, q_ast, q_lst, q_inc, q_b2, q_d2, q_u1, q_l2, q_ld2, q_lsh, q_lcmp, q_i2l, q_l2i, q_dupi, q_dupr, q_dup2, q_popi, q_popr, q_if1, q_if2, q_nn, q_sw, q_swn, q_swc, q_gf, q_gr, q_pf, q_pz, q_pc, q_ia, q_is, q_cs, q_zs, q_la, q_lw, q_aa, q_al, q_gs, q_acp, q_m2, q_m1, q_ir, q_zr, q_lr, q_ar, q_vr, q_cN0, q_cSX0, q_cV0, q_cVX0, q_cN1, q_cSX1, q_cV1, q_cVX1, q_cN2, q_cSX2, q_cV2, q_cVX2, q_cN3, q_cSX3, q_cV3, q_cVX3, q_cN4, q_cSX4, q_cV4, q_cVX4, q_cN5, q_cSX5, q_cV5, q_cVX5, q_cN6, q_cSX6, q_cV6, q_cVX6, q_th, q_sh0, q_sh1, q_sh2, q_sh3, q_sh4, q_toL0, q_toL1, q_gl0, q_gls, q_sl0, q_sls, q_k10, q_k1s, q_lgi, q_lgr, q_lgl, q_lgn, Bool.not_false, and_true, true_and, nz_2, nz_4, nz_5, nz_8, nz_10, nz_12, nz_14, nz_16, nz_40, nz_41, nz_64, nz_100, nz_1000, nz_1024, nz_4096, nz_10000, nz_100000, not_false_eq_true, bI_0, nI_add, pk_mul, nI_lt', nI_le', nI_eq', nI_z, nI_p, nI_e0, nI_l0, nI_le0, nI_clamp, up_eq, up_ne, not_true_eq_false, Classical.not_not, false_implies, true_implies, false_and, and_false, or_true, true_or, Nat.add_zero, pk_m1, m1_0, m1_n, m1_p, Nat.zero_le, forall_const, Nat.zero_add, Nat.reduceAdd, Nat.reduceEqDiff, or_false, false_or, Nat.one_ne_zero]
    exact Or.inr ⟨hb1, hx⟩
