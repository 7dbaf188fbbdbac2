theorem p_s_ok {t : Nat → Nat} {m i : Nat} {c : tC} (h : (p_s t m i).2 = some c) : tOK2 c := by
  unfold p_s at h
  obtain ⟨p, hp, h⟩ := pb_inv h
  obtain ⟨q, hq, h⟩ := pb_inv h
  obtain ⟨r, hr, h⟩ := pb_inv h
  obtain ⟨u, hu, h⟩ := pb_inv h
  obtain ⟨v, hv, h⟩ := pb_inv h
  cases h
  have := p_n2_in hp; have := p_n2_in hq; have := p_n1_in hr; have := p_n2_in hu; have := p_n1_in hv
  refine Or.inl ⟨rfl, ?_, ?_, ?_, ?_, ?_, ?_⟩ <;> dsimp only <;> omega
theorem p_f_ok {t : Nat → Nat} {m i : Nat} {c : tC} (h : (p_f t m i).2 = some c) : tOK2 c := by
  unfold p_f at h
  obtain ⟨p, hp, h⟩ := pb_inv h
  obtain ⟨q, hq, h⟩ := pb_inv h
  obtain ⟨r, hr, h⟩ := pb_inv h
  cases h
  have := p_n2_in hp; have := p_n2_in hq; have := p_n2_in hr
  refine Or.inr (Or.inl ⟨rfl, ?_, ?_, ?_, ?_⟩) <;> dsimp only <;> omega
theorem p_w_ok {t : Nat → Nat} {m i : Nat} {c : tC} (h : (p_w t m i).2 = some c) : tOK2 c := by
  unfold p_w at h
  obtain ⟨p, hp, h⟩ := pb_inv h
  obtain ⟨q, hq, h⟩ := pb_inv h
  obtain ⟨r, hr, h⟩ := pb_inv h
  cases h
  have := p_n1_in hp; have := p_n2_in hr
  refine Or.inr (Or.inr (Or.inl ⟨rfl, ?_, ?_, ?_⟩)) <;> dsimp only
  · omega
  · split <;> omega
  · omega
theorem p_o_ok {t : Nat → Nat} {m i : Nat} {c : tC} (h : (p_o t m i).2 = some c) : tOK2 c := by
  unfold p_o at h
  obtain ⟨p, hp, h⟩ := pb_inv h
  obtain ⟨q, hq, h⟩ := pb_inv h
  obtain ⟨r, hr, h⟩ := pb_inv h
  cases h
  have := p_n1_in hp; have := p_n2_in hq; have := p_n1_in hr
  refine Or.inr (Or.inr (Or.inr (Or.inl ⟨rfl, ?_, ?_, ?_⟩))) <;> dsimp only <;> omega
theorem p_r_ok {t : Nat → Nat} {m i : Nat} {c : tC} (h : (p_r t m i).2 = some c) : tOK2 c := by
  unfold p_r at h
  obtain ⟨p, hp, h⟩ := pb_inv h
  cases h
  have := p_n1_in hp
  refine Or.inr (Or.inr (Or.inr (Or.inr ⟨rfl, ?_, ?_⟩))) <;> dsimp only <;> omega
def lo1 (n : nT) (c : tC) : Nat := match x_cmd n c with
  | none => 1
  | some _ => 0
theorem lo1_n {n : nT} {c : tC} (h : x_cmd n c = none) : lo1 n c = 1 := by unfold lo1; rw [h]
theorem lo1_s {n n' : nT} {c : tC} (h : x_cmd n c = some n') : lo1 n c = 0 := by unfold lo1; rw [h]
/-- what holds behind the reading of one command -/
def rdK (σ : ab_H) (h : nF) (q : Nat) (n : nT) (x : tP tC) (K : Option Value → ab_H → Prop) : Prop := ∀ h' r', (∀ k, k ≠ 3 → k ≠ 4 → k ≠ 5 → k ≠ 14 → h' k = h k) → (∀ c, x.2 = some c → h' 5 = nI (q + lo1 n c) → RM r' ((x_cmd n c).getD n) → K none (rset (rset σ 8 (hX h' true x.1)) 10 r')) ∧ (x.2 = none → K none (rset (rset σ 8 (hX h' false x.1)) 10 r'))
def sp_rd (X : (Nat → Nat) → Nat → Nat → tP tC) (a : Nat) (w : ab_W) (σ : ab_H) (K : Option Value → ab_H → Prop) : Prop := a = 8 ∧ wD w ∧ ∃ t m h i q n T, dT σ t m ∧ h 2 = nI m ∧ h 5 = nI q ∧ σ 8 = hX h true i ∧ i ≤ m ∧ RM (σ 10) n ∧ WF T n ∧ T + 20 < 100000 ∧ rdK σ h q n (X t m i) K
def sp_X10_readStation : ab_S := fun w As σ K => match As with
  | [.ref a] => sp_rd p_s a w σ K
  | _ => False
def sp_X10_readFinder : ab_S := fun w As σ K => match As with
  | [.ref a] => sp_rd p_f a w σ K
  | _ => False
def sp_X10_readWind : ab_S := fun w As σ K => match As with
  | [.ref a] => sp_rd p_w a w σ K
  | _ => False
def sp_X10_readDelivery : ab_S := fun w As σ K => match As with
  | [.ref a] => sp_rd p_o a w σ K
  | _ => False
def sp_X10_readRun : ab_S := fun w As σ K => match As with
  | [.ref a] => sp_rd p_r a w σ K
  | _ => False
theorem rset_id10 {σ : ab_H} {h : nF} : rset (rset σ 8 h) 10 (σ 10) = rset σ 8 h := by
  rw [show σ 10 = (rset σ 8 h) 10 from (rset_ne (by decide)).symm, rset_self]
theorem iz_t : ((1 : Int32) = 0) = False := i32_10

set_option maxRecDepth 20000 in
set_option maxHeartbeats 4000000 in
theorem ok_X10_readStation {l : Launch} (hl : l.stackTraces = false) : ab_OkN l yX10_readStation (Cond.code yX10_readStation cX10_readStation 6 none) 4 sp_X10_readStation := by
  intro w σ As Kn hI h
  unfold sp_X10_readStation at h
  split at h
  rotate_left 1
  · exact h.elim
  next a =>
    obtain ⟨rfl, hw, t, m, h', i, q, n, T, hT, h2, h5, h8, him, hR, hW, hTT, hK⟩ := h
    obtain ⟨k8, k9, l9, ⟨k10, l10⟩, -⟩ := id hw
    refine vc_X10_readStation hl hI (ok_X10_two hl) (ok_X10_digit hl) (ok_X10_goes hl) (ok_X10_addStationIn hl) (Nat.le_of_ble_eq_true rfl) (fun M h0 h57 h78 => ?_)
    suffices HS : M 0 [.ref 8, .null, .null, .null, .null, .null] [] (rset σ 8 (σ 8)) from (by rw [rset_self] at HS; exact HS)
    refine h0 _ _ _ ?_
    rw [h8]
    have e10 : ∀ X, rset σ 8 X 10 = σ 10 := fun X => rset_ne (by decide)
    have hcO := hW.cOK
    have hc51 := hcO.2
    have hc2 := hW.1.2.2.2.2
    obtain ⟨r1, e1⟩ : ∃ r, r = m_2 t m true i 0 99 := ⟨_, rfl⟩
    have b1 := m_2_le (t := t) (m := m) (i := i) (lo := 0) (hi := 99) (g := true) (by omega) (by omega) (by omega)
    rw [← e1] at b1
    obtain ⟨r2, e2⟩ : ∃ r, r = m_2 t m r1.2.1 r1.2.2 0 15 := ⟨_, rfl⟩
    have b2 := m_2_le (t := t) (m := m) (i := r1.2.2) (lo := 0) (hi := 15) (g := r1.2.1) (by omega) (by omega) (by omega)
    rw [← e2] at b2
    obtain ⟨r3, e3⟩ : ∃ r, r = m_d t m r2.2.1 r2.2.2 1 5 := ⟨_, rfl⟩
    have b3 := m_d_le (t := t) (m := m) (i := r2.2.2) (lo := 1) (hi := 5) (g := r2.2.1) (by omega) (by omega) (by omega)
    rw [← e3] at b3
    obtain ⟨r4, e4⟩ : ∃ r, r = m_2 t m r3.2.1 r3.2.2 0 99 := ⟨_, rfl⟩
    have b4 := m_2_le (t := t) (m := m) (i := r3.2.2) (lo := 0) (hi := 99) (g := r3.2.1) (by omega) (by omega) (by omega)
    rw [← e4] at b4
    obtain ⟨r5, e5⟩ : ∃ r, r = m_d t m r4.2.1 r4.2.2 0 9 := ⟨_, rfl⟩
    have b5 := m_d_le (t := t) (m := m) (i := r4.2.2) (lo := 0) (hi := 9) (g := r4.2.1) (by omega) (by omega) (by omega)
    rw [← e5] at b5
    have hms := m_s (t := t) (m := m) (i := i) e1 e2 e3 e4 e5
    have v1 : vp_in (nI 1) 304 := vp_in_nI (by omega) (by omega)
    have e101 : σ 10 1 = nI (cl (n.1 1)) := (hR.1 1 (by omega) (by omega) (by omega) (by omega)).trans hcO.1
    have f78 : ∀ L τ, Kn none τ → M 78 L [] τ := fun L τ q => h78 _ _ _ (by simp (disch := omega) only [bX10_readStation_78, q_ci, q_cl, q_ild, q_lld, q_ald, q_ist, q_ast, q_lst, q_inc, q_b2, q_d2, q_u1, q_l2, q_ld2, q_lsh, q_lcmp, q_i2l, q_l2i, q_dupi, q_dupr, q_dup2, q_popi, q_popr, q_if1, q_if2, q_nn, q_sw, q_swn, q_swc, q_gf, q_gr, q_pf, q_pz, q_pc, q_ia, q_is, q_cs, q_zs, q_la, q_lw, q_aa, q_al, q_gs, q_acp, q_m2, q_m1, q_ir, q_zr, q_lr, q_ar, q_vr, q_cN0, q_cSX0, q_cV0, q_cVX0, q_cN1, q_cSX1, q_cV1, q_cVX1, q_cN2, q_cSX2, q_cV2, q_cVX2, q_cN3, q_cSX3, q_cV3, q_cVX3, q_cN4, q_cSX4, q_cV4, q_cVX4, q_cN5, q_cSX5, q_cV5, q_cVX5, q_cN6, q_cSX6, q_cV6, q_cVX6, q_th, q_sh0, q_sh1, q_sh2, q_sh3, q_sh4, q_toL0, q_toL1, q_gl0, q_gls, q_sl0, q_sls, q_k10, q_k1s, q_lgi, q_lgr, q_lgl, q_lgn, Bool.not_false, and_true, true_and, nz_2, nz_4, nz_5, nz_8, nz_10, nz_12, nz_14, nz_16, nz_40, nz_41, nz_64, nz_100, nz_1000, nz_1024, nz_4096, nz_10000, nz_100000, not_false_eq_true, bI_0, nI_add, pk_mul, nI_lt', nI_le', nI_eq', nI_z, nI_p, nI_e0, nI_l0, nI_le0, nI_clamp, up_eq, up_ne, not_true_eq_false, Classical.not_not, false_implies, true_implies, false_and, and_false, or_true, true_or, Nat.add_zero, pk_m1, m1_0, m1_n, m1_p, Nat.zero_le, forall_const, Nat.zero_add, Nat.reduceAdd, Nat.reduceEqDiff, or_false, false_or, Nat.one_ne_zero, l64_2, l64_3, l64_4, l64_5, l64_7, l64_9, l64_10, l64_11, l64_15, l64_20, l64_30, l64_40, l64_60, l64_99, l64_255, l64_999, le64l, le64r, le64b, le64n, rset_eq, rset_upd, rset_rset, upd_nep, upd_eqp, ix21_4k, ix21_1, ix21_2, ix21_3, ix21_4, ix21_5, ix21_6, ix21_7, ix21_8, ix21_9, ix21_10, ix76_1, ix76_2, ix76_3, ix100_1, ix100_2, ix100_3]; exact q)
    have H57 : ∀ p, p = decide (cl (n.1 1) < 5) → M 57 [.ref 8, .int (nI r1.1), .int (nI r2.1), .int (nI r3.1), .int (nI r4.1), .int (nI r5.1)] [.int (zb p), .ref 8] (rset σ 8 (hX h' r5.2.1 r5.2.2)) := by
      intro p hp
      refine h57 _ _ _ ?_
      simp (disch := omega) only [bX10_readStation_57, sp_X10_goes, k8, zb_0, q_ci, q_cl, q_ild, q_lld, q_ald, q_ist, q_ast, q_lst, q_inc, q_b2, q_d2, q_u1, q_l2, q_ld2, q_lsh, q_lcmp, q_i2l, q_l2i, q_dupi, q_dupr, q_dup2, q_popi, q_popr, q_if1, q_if2, q_nn, q_sw, q_swn, q_swc, q_gf, q_gr, q_pf, q_pz, q_pc, q_ia, q_is, q_cs, q_zs, q_la, q_lw, q_aa, q_al, q_gs, q_acp, q_m2, q_m1, q_ir, q_zr, q_lr, q_ar, q_vr, q_cN0, q_cSX0, q_cV0, q_cVX0, q_cN1, q_cSX1, q_cV1, q_cVX1, q_cN2, q_cSX2, q_cV2, q_cVX2, q_cN3, q_cSX3, q_cV3, q_cVX3, q_cN4, q_cSX4, q_cV4, q_cVX4, q_cN5, q_cSX5, q_cV5, q_cVX5, q_cN6, q_cSX6, q_cV6, q_cVX6, q_th, q_sh0, q_sh1, q_sh2, q_sh3, q_sh4, q_toL0, q_toL1, q_gl0, q_gls, q_sl0, q_sls, q_k10, q_k1s, q_lgi, q_lgr, q_lgl, q_lgn, Bool.not_false, and_true, true_and, nz_2, nz_4, nz_5, nz_8, nz_10, nz_12, nz_14, nz_16, nz_40, nz_41, nz_64, nz_100, nz_1000, nz_1024, nz_4096, nz_10000, nz_100000, not_false_eq_true, bI_0, nI_add, pk_mul, nI_lt', nI_le', nI_eq', nI_z, nI_p, nI_e0, nI_l0, nI_le0, nI_clamp, up_eq, up_ne, not_true_eq_false, Classical.not_not, false_implies, true_implies, false_and, and_false, or_true, true_or, Nat.add_zero, pk_m1, m1_0, m1_n, m1_p, Nat.zero_le, forall_const, Nat.zero_add, Nat.reduceAdd, Nat.reduceEqDiff, or_false, false_or, Nat.one_ne_zero, l64_2, l64_3, l64_4, l64_5, l64_7, l64_9, l64_10, l64_11, l64_15, l64_20, l64_30, l64_40, l64_60, l64_99, l64_255, l64_999, le64l, le64r, le64b, le64n, rset_eq, rset_upd, rset_rset, upd_nep, upd_eqp, ix21_4k, ix21_1, ix21_2, ix21_3, ix21_4, ix21_5, ix21_6, ix21_7, ix21_8, ix21_9, ix21_10, ix76_1, ix76_2, ix76_3, ix100_1, ix100_2, ix100_3]
      refine ⟨hw, h', r5.2.1, r5.2.2, p, q, rfl, h5, rfl, ?_⟩
      obtain ⟨hm1, hm2⟩ := hms
      rcases hx : p_s t m i with ⟨j, _ | c⟩
      · rw [hx] at hm1 hK
        have hm1 : r5.2 = (false, j) := hm1
        rw [hm1]
        refine ⟨fun _ => f78 _ _ ?_, fun q => absurd rfl q⟩
        have := (hK (upd h' 5 (nI (q + if (false && !p) = true then 1 else 0))) (σ 10) (fun k k1 k2 k3 k4 => upd_nep k3)).2 rfl
        rw [rset_id10] at this
        exact this
      · rw [hx] at hm1 hm2 hK
        have hm1 : r5.2 = (true, j) := hm1
        have hok := p_s_ok (t := t) (m := m) (i := i) (c := c) (by rw [hx])
        have hcc := hm2 c rfl
        rw [hm1]
        obtain ⟨c0, c1, c2, c3, c4, c5⟩ := c
        cases hcc
        unfold tOK2 at hok
        dsimp only at hok
        have hos : okS (nI r1.1) (nI r2.1) (nI r3.1) (nI r4.1) (nI r5.1) := by
          refine ⟨⟨?_, ?_⟩, ⟨?_, ?_⟩, ⟨?_, ?_⟩, ⟨?_, ?_⟩, ⟨?_, ?_⟩⟩ <;> rw [nI_le' (by omega) (by omega)] <;> omega
        by_cases hc5 : cl (n.1 1) < 5
        · have hp1 : p = true := by rw [hp, decide_eq_true hc5]
          subst hp1
          have ex : x_cmd n (115, r1.1, r2.1, r3.1, r4.1, r5.1) = some (n_addS n (nI r1.1) (nI r2.1) (nI r3.1) (nI r4.1) (nI r5.1)) := by
            unfold x_cmd; rw [if_pos rfl]; exact if_pos (by unfold rS; rw [if_pos hos, if_pos hc5])
          refine ⟨fun q => absurd q (by simp), fun _ => ?_⟩
          simp (disch := omega) only [sp_X10_addStationIn, k10, l10, e10, q_ci, q_cl, q_ild, q_lld, q_ald, q_ist, q_ast, q_lst, q_inc, q_b2, q_d2, q_u1, q_l2, q_ld2, q_lsh, q_lcmp, q_i2l, q_l2i, q_dupi, q_dupr, q_dup2, q_popi, q_popr, q_if1, q_if2, q_nn, q_sw, q_swn, q_swc, q_gf, q_gr, q_pf, q_pz, q_pc, q_ia, q_is, q_cs, q_zs, q_la, q_lw, q_aa, q_al, q_gs, q_acp, q_m2, q_m1, q_ir, q_zr, q_lr, q_ar, q_vr, q_cN0, q_cSX0, q_cV0, q_cVX0, q_cN1, q_cSX1, q_cV1, q_cVX1, q_cN2, q_cSX2, q_cV2, q_cVX2, q_cN3, q_cSX3, q_cV3, q_cVX3, q_cN4, q_cSX4, q_cV4, q_cVX4, q_cN5, q_cSX5, q_cV5, q_cVX5, q_cN6, q_cSX6, q_cV6, q_cVX6, q_th, q_sh0, q_sh1, q_sh2, q_sh3, q_sh4, q_toL0, q_toL1, q_gl0, q_gls, q_sl0, q_sls, q_k10, q_k1s, q_lgi, q_lgr, q_lgl, q_lgn, Bool.not_false, and_true, true_and, nz_2, nz_4, nz_5, nz_8, nz_10, nz_12, nz_14, nz_16, nz_40, nz_41, nz_64, nz_100, nz_1000, nz_1024, nz_4096, nz_10000, nz_100000, not_false_eq_true, bI_0, nI_add, pk_mul, nI_lt', nI_le', nI_eq', nI_z, nI_p, nI_e0, nI_l0, nI_le0, nI_clamp, up_eq, up_ne, not_true_eq_false, Classical.not_not, false_implies, true_implies, false_and, and_false, or_true, true_or, Nat.add_zero, pk_m1, m1_0, m1_n, m1_p, Nat.zero_le, forall_const, Nat.zero_add, Nat.reduceAdd, Nat.reduceEqDiff, or_false, false_or, Nat.one_ne_zero, l64_2, l64_3, l64_4, l64_5, l64_7, l64_9, l64_10, l64_11, l64_15, l64_20, l64_30, l64_40, l64_60, l64_99, l64_255, l64_999, le64l, le64r, le64b, le64n, rset_eq, rset_upd, rset_rset, upd_nep, upd_eqp, ix21_4k, ix21_1, ix21_2, ix21_3, ix21_4, ix21_5, ix21_6, ix21_7, ix21_8, ix21_9, ix21_10, ix76_1, ix76_2, ix76_3, ix100_1, ix100_2, ix100_3]
          refine ⟨⟨k10, l10⟩, n, hR, hcO.1, hc5, fun r' hr' => f78 _ _ ?_⟩
          refine (hK (upd h' 5 (nI (q + if (true && !true) = true then 1 else 0))) r' (fun k k1 k2 k3 k4 => upd_nep k3)).1 _ rfl ?_ ?_
          · rw [lo1_s ex]; exact upd_eq
          · rw [ex]; exact hr'
        · have hp1 : p = false := by rw [hp, decide_eq_false hc5]
          subst hp1
          have ex : x_cmd n (115, r1.1, r2.1, r3.1, r4.1, r5.1) = none := by
            unfold x_cmd; rw [if_pos rfl]; exact if_neg (by unfold rS; rw [if_pos hos, if_neg hc5]; decide)
          refine ⟨fun _ => f78 _ _ ?_, fun q => absurd rfl q⟩
          have := (hK (upd h' 5 (nI (q + if (true && !false) = true then 1 else 0))) (σ 10) (fun k k1 k2 k3 k4 => upd_nep k3)).1 _ rfl (by rw [lo1_n ex]; exact upd_eq) (by rw [ex]; exact hR)
          rw [rset_id10] at this
          exact this
    simp (disch := omega) only [bX10_readStation_0, sp_X10_two, sp_X10_digit, k8, k10, l10, e10, e101, q_ci, q_cl, q_ild, q_lld, q_ald, q_ist, q_ast, q_lst, q_inc, q_b2, q_d2, q_u1, q_l2, q_ld2, q_lsh, q_lcmp, q_i2l, q_l2i, q_dupi, q_dupr, q_dup2, q_popi, q_popr, q_if1, q_if2, q_nn, q_sw, q_swn, q_swc, q_gf, q_gr, q_pf, q_pz, q_pc, q_ia, q_is, q_cs, q_zs, q_la, q_lw, q_aa, q_al, q_gs, q_acp, q_m2, q_m1, q_ir, q_zr, q_lr, q_ar, q_vr, q_cN0, q_cSX0, q_cV0, q_cVX0, q_cN1, q_cSX1, q_cV1, q_cVX1, q_cN2, q_cSX2, q_cV2, q_cVX2, q_cN3, q_cSX3, q_cV3, q_cVX3, q_cN4, q_cSX4, q_cV4, q_cVX4, q_cN5, q_cSX5, q_cV5, q_cVX5, q_cN6, q_cSX6, q_cV6, q_cVX6, q_th, q_sh0, q_sh1, q_sh2, q_sh3, q_sh4, q_toL0, q_toL1, q_gl0, q_gls, q_sl0, q_sls, q_k10, q_k1s, q_lgi, q_lgr, q_lgl, q_lgn, Bool.not_false, and_true, true_and, nz_2, nz_4, nz_5, nz_8, nz_10, nz_12, nz_14, nz_16, nz_40, nz_41, nz_64, nz_100, nz_1000, nz_1024, nz_4096, nz_10000, nz_100000, not_false_eq_true, bI_0, nI_add, pk_mul, nI_lt', nI_le', nI_eq', nI_z, nI_p, nI_e0, nI_l0, nI_le0, nI_clamp, up_eq, up_ne, not_true_eq_false, Classical.not_not, false_implies, true_implies, false_and, and_false, or_true, true_or, Nat.add_zero, pk_m1, m1_0, m1_n, m1_p, Nat.zero_le, forall_const, Nat.zero_add, Nat.reduceAdd, Nat.reduceEqDiff, or_false, false_or, Nat.one_ne_zero, l64_2, l64_3, l64_4, l64_5, l64_7, l64_9, l64_10, l64_11, l64_15, l64_20, l64_30, l64_40, l64_60, l64_99, l64_255, l64_999, le64l, le64r, le64b, le64n, rset_eq, rset_upd, rset_rset, upd_nep, upd_eqp, ix21_4k, ix21_1, ix21_2, ix21_3, ix21_4, ix21_5, ix21_6, ix21_7, ix21_8, ix21_9, ix21_10, ix76_1, ix76_2, ix76_3, ix100_1, ix100_2, ix100_3]
    refine ⟨hw, t, m, h', true, i, 0, 99, hT.r, h2, rfl, by omega, rfl, rfl, by omega, by omega, ?_⟩
    rw [← e1]
    refine ⟨hw, t, m, h', r1.2.1, r1.2.2, 0, 15, hT.r, h2, rfl, by omega, rfl, rfl, by omega, by omega, ?_⟩
    rw [← e2]
    refine ⟨hw, t, m, h', r2.2.1, r2.2.2, 1, 5, hT.r, h2, rfl, by omega, rfl, rfl, by omega, by omega, ?_⟩
    rw [← e3]
    refine ⟨hw, t, m, h', r3.2.1, r3.2.2, 0, 99, hT.r, h2, rfl, by omega, rfl, rfl, by omega, by omega, ?_⟩
    rw [← e4]
    refine ⟨hw, t, m, h', r4.2.1, r4.2.2, 0, 9, hT.r, h2, rfl, by omega, rfl, rfl, by omega, by omega, ?_⟩
    rw [← e5]
    refine ⟨v1, fun q => ?_, fun q => ?_⟩
    · rw [nI_0]; exact H57 false (by rw [decide_eq_false (by omega)])
    · rw [nI_one]; exact H57 true (by rw [decide_eq_true (by omega)])

set_option maxRecDepth 20000 in
set_option maxHeartbeats 4000000 in
theorem ok_X10_readFinder {l : Launch} (hl : l.stackTraces = false) : ab_OkN l yX10_readFinder (Cond.code yX10_readFinder cX10_readFinder 4 none) 4 sp_X10_readFinder := by
  intro w σ As Kn hI h
  unfold sp_X10_readFinder at h
  split at h
  rotate_left 1
  · exact h.elim
  next a =>
    obtain ⟨rfl, hw, t, m, h', i, q, n, T, hT, h2, h5, h8, him, hR, hW, hTT, hK⟩ := h
    obtain ⟨k8, k9, l9, ⟨k10, l10⟩, -⟩ := id hw
    refine vc_X10_readFinder hl hI (ok_X10_two hl) (ok_X10_goes hl) (ok_X10_addFinderIn hl) (Nat.le_of_ble_eq_true rfl) (fun M h0 h41 h58 => ?_)
    suffices HS : M 0 [.ref 8, .null, .null, .null] [] (rset σ 8 (σ 8)) from (by rw [rset_self] at HS; exact HS)
    refine h0 _ _ _ ?_
    rw [h8]
    have e10 : ∀ X, rset σ 8 X 10 = σ 10 := fun X => rset_ne (by decide)
    have hcO := hW.cOK
    have hc51 := hcO.2
    have hc2 := hW.1.2.2.2.2
    obtain ⟨r1, e1⟩ : ∃ r, r = m_2 t m true i 0 99 := ⟨_, rfl⟩
    have b1 := m_2_le (t := t) (m := m) (i := i) (lo := 0) (hi := 99) (g := true) (by omega) (by omega) (by omega)
    rw [← e1] at b1
    obtain ⟨r2, e2⟩ : ∃ r, r = m_2 t m r1.2.1 r1.2.2 0 20 := ⟨_, rfl⟩
    have b2 := m_2_le (t := t) (m := m) (i := r1.2.2) (lo := 0) (hi := 20) (g := r1.2.1) (by omega) (by omega) (by omega)
    rw [← e2] at b2
    obtain ⟨r3, e3⟩ : ∃ r, r = m_2 t m r2.2.1 r2.2.2 1 30 := ⟨_, rfl⟩
    have b3 := m_2_le (t := t) (m := m) (i := r2.2.2) (lo := 1) (hi := 30) (g := r2.2.1) (by omega) (by omega) (by omega)
    rw [← e3] at b3
    have hms := m_f (t := t) (m := m) (i := i) e1 e2 e3
    have v1 : vp_in (nI 2) 304 := vp_in_nI (by omega) (by omega)
    have e101 : σ 10 2 = nI (cl (n.1 2)) := (hR.1 2 (by omega) (by omega) (by omega) (by omega)).trans hc2.1
    have f58 : ∀ L τ, Kn none τ → M 58 L [] τ := fun L τ q => h58 _ _ _ (by simp (disch := omega) only [bX10_readFinder_58, q_ci, q_cl, q_ild, q_lld, q_ald, q_ist, q_ast, q_lst, q_inc, q_b2, q_d2, q_u1, q_l2, q_ld2, q_lsh, q_lcmp, q_i2l, q_l2i, q_dupi, q_dupr, q_dup2, q_popi, q_popr, q_if1, q_if2, q_nn, q_sw, q_swn, q_swc, q_gf, q_gr, q_pf, q_pz, q_pc, q_ia, q_is, q_cs, q_zs, q_la, q_lw, q_aa, q_al, q_gs, q_acp, q_m2, q_m1, q_ir, q_zr, q_lr, q_ar, q_vr, q_cN0, q_cSX0, q_cV0, q_cVX0, q_cN1, q_cSX1, q_cV1, q_cVX1, q_cN2, q_cSX2, q_cV2, q_cVX2, q_cN3, q_cSX3, q_cV3, q_cVX3, q_cN4, q_cSX4, q_cV4, q_cVX4, q_cN5, q_cSX5, q_cV5, q_cVX5, q_cN6, q_cSX6, q_cV6, q_cVX6, q_th, q_sh0, q_sh1, q_sh2, q_sh3, q_sh4, q_toL0, q_toL1, q_gl0, q_gls, q_sl0, q_sls, q_k10, q_k1s, q_lgi, q_lgr, q_lgl, q_lgn, Bool.not_false, and_true, true_and, nz_2, nz_4, nz_5, nz_8, nz_10, nz_12, nz_14, nz_16, nz_40, nz_41, nz_64, nz_100, nz_1000, nz_1024, nz_4096, nz_10000, nz_100000, not_false_eq_true, bI_0, nI_add, pk_mul, nI_lt', nI_le', nI_eq', nI_z, nI_p, nI_e0, nI_l0, nI_le0, nI_clamp, up_eq, up_ne, not_true_eq_false, Classical.not_not, false_implies, true_implies, false_and, and_false, or_true, true_or, Nat.add_zero, pk_m1, m1_0, m1_n, m1_p, Nat.zero_le, forall_const, Nat.zero_add, Nat.reduceAdd, Nat.reduceEqDiff, or_false, false_or, Nat.one_ne_zero, l64_2, l64_3, l64_4, l64_5, l64_7, l64_9, l64_10, l64_11, l64_15, l64_20, l64_30, l64_40, l64_60, l64_99, l64_255, l64_999, le64l, le64r, le64b, le64n, rset_eq, rset_upd, rset_rset, upd_nep, upd_eqp, ix21_4k, ix21_1, ix21_2, ix21_3, ix21_4, ix21_5, ix21_6, ix21_7, ix21_8, ix21_9, ix21_10, ix76_1, ix76_2, ix76_3, ix100_1, ix100_2, ix100_3]; exact q)
    have H41 : ∀ p, p = decide (cl (n.1 2) < 6) → M 41 [.ref 8, .int (nI r1.1), .int (nI r2.1), .int (nI r3.1)] [.int (zb p), .ref 8] (rset σ 8 (hX h' r3.2.1 r3.2.2)) := by
      intro p hp
      refine h41 _ _ _ ?_
      simp (disch := omega) only [bX10_readFinder_41, sp_X10_goes, k8, zb_0, q_ci, q_cl, q_ild, q_lld, q_ald, q_ist, q_ast, q_lst, q_inc, q_b2, q_d2, q_u1, q_l2, q_ld2, q_lsh, q_lcmp, q_i2l, q_l2i, q_dupi, q_dupr, q_dup2, q_popi, q_popr, q_if1, q_if2, q_nn, q_sw, q_swn, q_swc, q_gf, q_gr, q_pf, q_pz, q_pc, q_ia, q_is, q_cs, q_zs, q_la, q_lw, q_aa, q_al, q_gs, q_acp, q_m2, q_m1, q_ir, q_zr, q_lr, q_ar, q_vr, q_cN0, q_cSX0, q_cV0, q_cVX0, q_cN1, q_cSX1, q_cV1, q_cVX1, q_cN2, q_cSX2, q_cV2, q_cVX2, q_cN3, q_cSX3, q_cV3, q_cVX3, q_cN4, q_cSX4, q_cV4, q_cVX4, q_cN5, q_cSX5, q_cV5, q_cVX5, q_cN6, q_cSX6, q_cV6, q_cVX6, q_th, q_sh0, q_sh1, q_sh2, q_sh3, q_sh4, q_toL0, q_toL1, q_gl0, q_gls, q_sl0, q_sls, q_k10, q_k1s, q_lgi, q_lgr, q_lgl, q_lgn, Bool.not_false, and_true, true_and, nz_2, nz_4, nz_5, nz_8, nz_10, nz_12, nz_14, nz_16, nz_40, nz_41, nz_64, nz_100, nz_1000, nz_1024, nz_4096, nz_10000, nz_100000, not_false_eq_true, bI_0, nI_add, pk_mul, nI_lt', nI_le', nI_eq', nI_z, nI_p, nI_e0, nI_l0, nI_le0, nI_clamp, up_eq, up_ne, not_true_eq_false, Classical.not_not, false_implies, true_implies, false_and, and_false, or_true, true_or, Nat.add_zero, pk_m1, m1_0, m1_n, m1_p, Nat.zero_le, forall_const, Nat.zero_add, Nat.reduceAdd, Nat.reduceEqDiff, or_false, false_or, Nat.one_ne_zero, l64_2, l64_3, l64_4, l64_5, l64_7, l64_9, l64_10, l64_11, l64_15, l64_20, l64_30, l64_40, l64_60, l64_99, l64_255, l64_999, le64l, le64r, le64b, le64n, rset_eq, rset_upd, rset_rset, upd_nep, upd_eqp, ix21_4k, ix21_1, ix21_2, ix21_3, ix21_4, ix21_5, ix21_6, ix21_7, ix21_8, ix21_9, ix21_10, ix76_1, ix76_2, ix76_3, ix100_1, ix100_2, ix100_3]
      refine ⟨hw, h', r3.2.1, r3.2.2, p, q, rfl, h5, rfl, ?_⟩
      obtain ⟨hm1, hm2⟩ := hms
      rcases hx : p_f t m i with ⟨j, _ | c⟩
      · rw [hx] at hm1 hK
        have hm1 : r3.2 = (false, j) := hm1
        rw [hm1]
        refine ⟨fun _ => f58 _ _ ?_, fun q => absurd rfl q⟩
        have := (hK (upd h' 5 (nI (q + if (false && !p) = true then 1 else 0))) (σ 10) (fun k k1 k2 k3 k4 => upd_nep k3)).2 rfl
        rw [rset_id10] at this
        exact this
      · rw [hx] at hm1 hm2 hK
        have hm1 : r3.2 = (true, j) := hm1
        have hok := p_f_ok (t := t) (m := m) (i := i) (c := c) (by rw [hx])
        have hcc := hm2 c rfl
        rw [hm1]
        obtain ⟨c0, c1, c2, c3, c4, c5⟩ := c
        cases hcc
        unfold tOK2 at hok
        dsimp only at hok
        have hos : okF (nI r1.1) (nI r2.1) (nI r3.1) := by
          refine ⟨⟨?_, ?_⟩, ⟨?_, ?_⟩, ⟨?_, ?_⟩⟩ <;> rw [nI_le' (by omega) (by omega)] <;> omega
        by_cases hc5 : cl (n.1 2) < 6
        · have hp1 : p = true := by rw [hp, decide_eq_true hc5]
          subst hp1
          have ex : x_cmd n (102, r1.1, r2.1, r3.1, 0, 0) = some (n_addF n (nI r1.1) (nI r2.1) (nI r3.1)) := by
            unfold x_cmd; dsimp only; rw [if_neg (by decide), if_pos rfl]; exact if_pos (by unfold rF; rw [if_pos hos, if_pos hc5])
          refine ⟨fun q => absurd q (by simp), fun _ => ?_⟩
          simp (disch := omega) only [sp_X10_addFinderIn, k10, l10, e10, q_ci, q_cl, q_ild, q_lld, q_ald, q_ist, q_ast, q_lst, q_inc, q_b2, q_d2, q_u1, q_l2, q_ld2, q_lsh, q_lcmp, q_i2l, q_l2i, q_dupi, q_dupr, q_dup2, q_popi, q_popr, q_if1, q_if2, q_nn, q_sw, q_swn, q_swc, q_gf, q_gr, q_pf, q_pz, q_pc, q_ia, q_is, q_cs, q_zs, q_la, q_lw, q_aa, q_al, q_gs, q_acp, q_m2, q_m1, q_ir, q_zr, q_lr, q_ar, q_vr, q_cN0, q_cSX0, q_cV0, q_cVX0, q_cN1, q_cSX1, q_cV1, q_cVX1, q_cN2, q_cSX2, q_cV2, q_cVX2, q_cN3, q_cSX3, q_cV3, q_cVX3, q_cN4, q_cSX4, q_cV4, q_cVX4, q_cN5, q_cSX5, q_cV5, q_cVX5, q_cN6, q_cSX6, q_cV6, q_cVX6, q_th, q_sh0, q_sh1, q_sh2, q_sh3, q_sh4, q_toL0, q_toL1, q_gl0, q_gls, q_sl0, q_sls, q_k10, q_k1s, q_lgi, q_lgr, q_lgl, q_lgn, Bool.not_false, and_true, true_and, nz_2, nz_4, nz_5, nz_8, nz_10, nz_12, nz_14, nz_16, nz_40, nz_41, nz_64, nz_100, nz_1000, nz_1024, nz_4096, nz_10000, nz_100000, not_false_eq_true, bI_0, nI_add, pk_mul, nI_lt', nI_le', nI_eq', nI_z, nI_p, nI_e0, nI_l0, nI_le0, nI_clamp, up_eq, up_ne, not_true_eq_false, Classical.not_not, false_implies, true_implies, false_and, and_false, or_true, true_or, Nat.add_zero, pk_m1, m1_0, m1_n, m1_p, Nat.zero_le, forall_const, Nat.zero_add, Nat.reduceAdd, Nat.reduceEqDiff, or_false, false_or, Nat.one_ne_zero, l64_2, l64_3, l64_4, l64_5, l64_7, l64_9, l64_10, l64_11, l64_15, l64_20, l64_30, l64_40, l64_60, l64_99, l64_255, l64_999, le64l, le64r, le64b, le64n, rset_eq, rset_upd, rset_rset, upd_nep, upd_eqp, ix21_4k, ix21_1, ix21_2, ix21_3, ix21_4, ix21_5, ix21_6, ix21_7, ix21_8, ix21_9, ix21_10, ix76_1, ix76_2, ix76_3, ix100_1, ix100_2, ix100_3]
          refine ⟨⟨k10, l10⟩, n, hR, hc2.1, hc5, fun r' hr' => f58 _ _ ?_⟩
          refine (hK (upd h' 5 (nI (q + if (true && !true) = true then 1 else 0))) r' (fun k k1 k2 k3 k4 => upd_nep k3)).1 _ rfl ?_ ?_
          · rw [lo1_s ex]; exact upd_eq
          · rw [ex]; exact hr'
        · have hp1 : p = false := by rw [hp, decide_eq_false hc5]
          subst hp1
          have ex : x_cmd n (102, r1.1, r2.1, r3.1, 0, 0) = none := by
            unfold x_cmd; dsimp only; rw [if_neg (by decide), if_pos rfl]; exact if_neg (by unfold rF; rw [if_pos hos, if_neg hc5]; decide)
          refine ⟨fun _ => f58 _ _ ?_, fun q => absurd rfl q⟩
          have := (hK (upd h' 5 (nI (q + if (true && !false) = true then 1 else 0))) (σ 10) (fun k k1 k2 k3 k4 => upd_nep k3)).1 _ rfl (by rw [lo1_n ex]; exact upd_eq) (by rw [ex]; exact hR)
          rw [rset_id10] at this
          exact this
    simp (disch := omega) only [bX10_readFinder_0, sp_X10_two, sp_X10_digit, k8, k10, l10, e10, e101, q_ci, q_cl, q_ild, q_lld, q_ald, q_ist, q_ast, q_lst, q_inc, q_b2, q_d2, q_u1, q_l2, q_ld2, q_lsh, q_lcmp, q_i2l, q_l2i, q_dupi, q_dupr, q_dup2, q_popi, q_popr, q_if1, q_if2, q_nn, q_sw, q_swn, q_swc, q_gf, q_gr, q_pf, q_pz, q_pc, q_ia, q_is, q_cs, q_zs, q_la, q_lw, q_aa, q_al, q_gs, q_acp, q_m2, q_m1, q_ir, q_zr, q_lr, q_ar, q_vr, q_cN0, q_cSX0, q_cV0, q_cVX0, q_cN1, q_cSX1, q_cV1, q_cVX1, q_cN2, q_cSX2, q_cV2, q_cVX2, q_cN3, q_cSX3, q_cV3, q_cVX3, q_cN4, q_cSX4, q_cV4, q_cVX4, q_cN5, q_cSX5, q_cV5, q_cVX5, q_cN6, q_cSX6, q_cV6, q_cVX6, q_th, q_sh0, q_sh1, q_sh2, q_sh3, q_sh4, q_toL0, q_toL1, q_gl0, q_gls, q_sl0, q_sls, q_k10, q_k1s, q_lgi, q_lgr, q_lgl, q_lgn, Bool.not_false, and_true, true_and, nz_2, nz_4, nz_5, nz_8, nz_10, nz_12, nz_14, nz_16, nz_40, nz_41, nz_64, nz_100, nz_1000, nz_1024, nz_4096, nz_10000, nz_100000, not_false_eq_true, bI_0, nI_add, pk_mul, nI_lt', nI_le', nI_eq', nI_z, nI_p, nI_e0, nI_l0, nI_le0, nI_clamp, up_eq, up_ne, not_true_eq_false, Classical.not_not, false_implies, true_implies, false_and, and_false, or_true, true_or, Nat.add_zero, pk_m1, m1_0, m1_n, m1_p, Nat.zero_le, forall_const, Nat.zero_add, Nat.reduceAdd, Nat.reduceEqDiff, or_false, false_or, Nat.one_ne_zero, l64_2, l64_3, l64_4, l64_5, l64_7, l64_9, l64_10, l64_11, l64_15, l64_20, l64_30, l64_40, l64_60, l64_99, l64_255, l64_999, le64l, le64r, le64b, le64n, rset_eq, rset_upd, rset_rset, upd_nep, upd_eqp, ix21_4k, ix21_1, ix21_2, ix21_3, ix21_4, ix21_5, ix21_6, ix21_7, ix21_8, ix21_9, ix21_10, ix76_1, ix76_2, ix76_3, ix100_1, ix100_2, ix100_3]
    refine ⟨hw, t, m, h', true, i, 0, 99, hT.r, h2, rfl, by omega, rfl, rfl, by omega, by omega, ?_⟩
    rw [← e1]
    refine ⟨hw, t, m, h', r1.2.1, r1.2.2, 0, 20, hT.r, h2, rfl, by omega, rfl, rfl, by omega, by omega, ?_⟩
    rw [← e2]
    refine ⟨hw, t, m, h', r2.2.1, r2.2.2, 1, 30, hT.r, h2, rfl, by omega, rfl, rfl, by omega, by omega, ?_⟩
    rw [← e3]
    refine ⟨v1, fun q => ?_, fun q => ?_⟩
    · rw [nI_0]; exact H41 false (by rw [decide_eq_false (by omega)])
    · rw [nI_one]; exact H41 true (by rw [decide_eq_true (by omega)])

set_option maxRecDepth 20000 in
set_option maxHeartbeats 4000000 in
theorem ok_X10_readDelivery {l : Launch} (hl : l.stackTraces = false) : ab_OkN l yX10_readDelivery (Cond.code yX10_readDelivery cX10_readDelivery 4 none) 4 sp_X10_readDelivery := by
  intro w σ As Kn hI h
  unfold sp_X10_readDelivery at h
  split at h
  rotate_left 1
  · exact h.elim
  next a =>
    obtain ⟨rfl, hw, t, m, h', i, q, n, T, hT, h2, h5, h8, him, hR, hW, hTT, hK⟩ := h
    obtain ⟨k8, k9, l9, ⟨k10, l10⟩, -⟩ := id hw
    refine vc_X10_readDelivery hl hI (ok_X10_digit hl) (ok_X10_two hl) (ok_X10_canDeliver hl) (ok_X10_goes hl) (ok_X10_deliverIn hl) (Nat.le_of_ble_eq_true rfl) (fun M h0 h50 h51 h68 => ?_)
    suffices HS : M 0 [.ref 8, .null, .null, .null] [] (rset σ 8 (σ 8)) from (by rw [rset_self] at HS; exact HS)
    refine h0 _ _ _ ?_
    rw [h8]
    have e10 : ∀ X, rset σ 8 X 10 = σ 10 := fun X => rset_ne (by decide)
    have hcO := hW.cOK
    have hc51 := hcO.2
    have hc2 := hW.1.2.2.2.2
    obtain ⟨r1, e1⟩ : ∃ r, r = m_d t m true i 0 4 := ⟨_, rfl⟩
    have b1 := m_d_le (t := t) (m := m) (i := i) (lo := 0) (hi := 4) (g := true) (by omega) (by omega) (by omega)
    rw [← e1] at b1
    obtain ⟨r2, e2⟩ : ∃ r, r = m_2 t m r1.2.1 r1.2.2 0 99 := ⟨_, rfl⟩
    have b2 := m_2_le (t := t) (m := m) (i := r1.2.2) (lo := 0) (hi := 99) (g := r1.2.1) (by omega) (by omega) (by omega)
    rw [← e2] at b2
    obtain ⟨r3, e3⟩ : ∃ r, r = m_d t m r2.2.1 r2.2.2 0 9 := ⟨_, rfl⟩
    have b3 := m_d_le (t := t) (m := m) (i := r2.2.2) (lo := 0) (hi := 9) (g := r2.2.1) (by omega) (by omega) (by omega)
    rw [← e3] at b3
    have hms := m_o (t := t) (m := m) (i := i) e1 e2 e3
    have v1 : vp_in (nI 1) 304 := vp_in_nI (by omega) (by omega)
    have e101 : σ 10 1 = nI (cl (n.1 1)) := (hR.1 1 (by omega) (by omega) (by omega) (by omega)).trans hcO.1
    have f68 : ∀ L τ, Kn none τ → M 68 L [] τ := fun L τ q => h68 _ _ _ (by simp (disch := omega) only [bX10_readDelivery_68, q_ci, q_cl, q_ild, q_lld, q_ald, q_ist, q_ast, q_lst, q_inc, q_b2, q_d2, q_u1, q_l2, q_ld2, q_lsh, q_lcmp, q_i2l, q_l2i, q_dupi, q_dupr, q_dup2, q_popi, q_popr, q_if1, q_if2, q_nn, q_sw, q_swn, q_swc, q_gf, q_gr, q_pf, q_pz, q_pc, q_ia, q_is, q_cs, q_zs, q_la, q_lw, q_aa, q_al, q_gs, q_acp, q_m2, q_m1, q_ir, q_zr, q_lr, q_ar, q_vr, q_cN0, q_cSX0, q_cV0, q_cVX0, q_cN1, q_cSX1, q_cV1, q_cVX1, q_cN2, q_cSX2, q_cV2, q_cVX2, q_cN3, q_cSX3, q_cV3, q_cVX3, q_cN4, q_cSX4, q_cV4, q_cVX4, q_cN5, q_cSX5, q_cV5, q_cVX5, q_cN6, q_cSX6, q_cV6, q_cVX6, q_th, q_sh0, q_sh1, q_sh2, q_sh3, q_sh4, q_toL0, q_toL1, q_gl0, q_gls, q_sl0, q_sls, q_k10, q_k1s, q_lgi, q_lgr, q_lgl, q_lgn, Bool.not_false, and_true, true_and, nz_2, nz_4, nz_5, nz_8, nz_10, nz_12, nz_14, nz_16, nz_40, nz_41, nz_64, nz_100, nz_1000, nz_1024, nz_4096, nz_10000, nz_100000, not_false_eq_true, bI_0, nI_add, pk_mul, nI_lt', nI_le', nI_eq', nI_z, nI_p, nI_e0, nI_l0, nI_le0, nI_clamp, up_eq, up_ne, not_true_eq_false, Classical.not_not, false_implies, true_implies, false_and, and_false, or_true, true_or, Nat.add_zero, pk_m1, m1_0, m1_n, m1_p, Nat.zero_le, forall_const, Nat.zero_add, Nat.reduceAdd, Nat.reduceEqDiff, or_false, false_or, Nat.one_ne_zero, l64_2, l64_3, l64_4, l64_5, l64_7, l64_9, l64_10, l64_11, l64_15, l64_20, l64_30, l64_40, l64_60, l64_99, l64_255, l64_999, le64l, le64r, le64b, le64n, rset_eq, rset_upd, rset_rset, upd_nep, upd_eqp, ix21_4k, ix21_1, ix21_2, ix21_3, ix21_4, ix21_5, ix21_6, ix21_7, ix21_8, ix21_9, ix21_10, ix76_1, ix76_2, ix76_3, ix100_1, ix100_2, ix100_3]; exact q)
    have H51 : ∀ p, p = decide (r1.1 < cl (n.1 1) ∧ 0 < r2.1 + r3.1 ∧ n.2.1.length < 8) → M 51 [.ref 8, .int (nI r1.1), .int (nI r2.1), .int (nI r3.1)] [.int (zb p), .ref 8] (rset σ 8 (hX h' r3.2.1 r3.2.2)) := by
      intro p hp
      refine h51 _ _ _ ?_
      simp (disch := omega) only [bX10_readDelivery_51, sp_X10_goes, k8, zb_0, q_ci, q_cl, q_ild, q_lld, q_ald, q_ist, q_ast, q_lst, q_inc, q_b2, q_d2, q_u1, q_l2, q_ld2, q_lsh, q_lcmp, q_i2l, q_l2i, q_dupi, q_dupr, q_dup2, q_popi, q_popr, q_if1, q_if2, q_nn, q_sw, q_swn, q_swc, q_gf, q_gr, q_pf, q_pz, q_pc, q_ia, q_is, q_cs, q_zs, q_la, q_lw, q_aa, q_al, q_gs, q_acp, q_m2, q_m1, q_ir, q_zr, q_lr, q_ar, q_vr, q_cN0, q_cSX0, q_cV0, q_cVX0, q_cN1, q_cSX1, q_cV1, q_cVX1, q_cN2, q_cSX2, q_cV2, q_cVX2, q_cN3, q_cSX3, q_cV3, q_cVX3, q_cN4, q_cSX4, q_cV4, q_cVX4, q_cN5, q_cSX5, q_cV5, q_cVX5, q_cN6, q_cSX6, q_cV6, q_cVX6, q_th, q_sh0, q_sh1, q_sh2, q_sh3, q_sh4, q_toL0, q_toL1, q_gl0, q_gls, q_sl0, q_sls, q_k10, q_k1s, q_lgi, q_lgr, q_lgl, q_lgn, Bool.not_false, and_true, true_and, nz_2, nz_4, nz_5, nz_8, nz_10, nz_12, nz_14, nz_16, nz_40, nz_41, nz_64, nz_100, nz_1000, nz_1024, nz_4096, nz_10000, nz_100000, not_false_eq_true, bI_0, nI_add, pk_mul, nI_lt', nI_le', nI_eq', nI_z, nI_p, nI_e0, nI_l0, nI_le0, nI_clamp, up_eq, up_ne, not_true_eq_false, Classical.not_not, false_implies, true_implies, false_and, and_false, or_true, true_or, Nat.add_zero, pk_m1, m1_0, m1_n, m1_p, Nat.zero_le, forall_const, Nat.zero_add, Nat.reduceAdd, Nat.reduceEqDiff, or_false, false_or, Nat.one_ne_zero, l64_2, l64_3, l64_4, l64_5, l64_7, l64_9, l64_10, l64_11, l64_15, l64_20, l64_30, l64_40, l64_60, l64_99, l64_255, l64_999, le64l, le64r, le64b, le64n, rset_eq, rset_upd, rset_rset, upd_nep, upd_eqp, ix21_4k, ix21_1, ix21_2, ix21_3, ix21_4, ix21_5, ix21_6, ix21_7, ix21_8, ix21_9, ix21_10, ix76_1, ix76_2, ix76_3, ix100_1, ix100_2, ix100_3]
      refine ⟨hw, h', r3.2.1, r3.2.2, p, q, rfl, h5, rfl, ?_⟩
      obtain ⟨hm1, hm2⟩ := hms
      rcases hx : p_o t m i with ⟨j, _ | c⟩
      · rw [hx] at hm1 hK
        have hm1 : r3.2 = (false, j) := hm1
        rw [hm1]
        refine ⟨fun _ => f68 _ _ ?_, fun q => absurd rfl q⟩
        have := (hK (upd h' 5 (nI (q + if (false && !p) = true then 1 else 0))) (σ 10) (fun k k1 k2 k3 k4 => upd_nep k3)).2 rfl
        rw [rset_id10] at this
        exact this
      · rw [hx] at hm1 hm2 hK
        have hm1 : r3.2 = (true, j) := hm1
        have hok := p_o_ok (t := t) (m := m) (i := i) (c := c) (by rw [hx])
        have hcc := hm2 c rfl
        rw [hm1]
        obtain ⟨c0, c1, c2, c3, c4, c5⟩ := c
        cases hcc
        unfold tOK2 at hok
        dsimp only at hok
        have hos : okL (nI r2.1) (nI r3.1) := by
          refine ⟨⟨?_, ?_⟩, ⟨?_, ?_⟩⟩ <;> rw [nI_le' (by omega) (by omega)] <;> omega
        have hvs : vS n.1 (nI r1.1) = (r1.1 < cl (n.1 1)) := by
          have h5' := hcO.2
          unfold vS
          rw [hcO.1, nI_lt' (by omega) (by omega), cl_nI (by omega), ← nI_0, nI_le' (by omega) (by omega)]
          exact propext ⟨fun q => q.2, fun q => ⟨by omega, q⟩⟩
        have hz : ((nI r2.1 = 0 ∧ nI r3.1 = 0) ∨ 8 ≤ n.2.1.length) = ¬ (0 < r2.1 + r3.1 ∧ n.2.1.length < 8) := by
          rw [nI_e0 (by omega), nI_e0 (by omega)]
          exact propext ⟨fun q => by omega, fun q => by omega⟩
        by_cases hc5 : r1.1 < cl (n.1 1) ∧ 0 < r2.1 + r3.1 ∧ n.2.1.length < 8
        · have hp1 : p = true := by rw [hp, decide_eq_true hc5]
          subst hp1
          have ex : x_cmd n (100, r1.1, r2.1, r3.1, 0, 0) = some (n_ord n r1.1 r2.1 r3.1) := by
            unfold x_cmd; dsimp only; rw [if_neg (by decide), if_neg (by decide), if_neg (by decide), if_pos rfl]
            rw [if_pos (by unfold rO; rw [if_pos (by rw [hvs]; exact hc5.1), if_pos hos, if_neg (by rw [hz]; exact fun q => q hc5.2)]), cl_nI (by omega), cl_nI (by omega), cl_nI (by omega)]
          refine ⟨fun q => absurd q (by simp), fun _ => ?_⟩
          simp (disch := omega) only [sp_X10_deliverIn, k10, l10, e10, q_ci, q_cl, q_ild, q_lld, q_ald, q_ist, q_ast, q_lst, q_inc, q_b2, q_d2, q_u1, q_l2, q_ld2, q_lsh, q_lcmp, q_i2l, q_l2i, q_dupi, q_dupr, q_dup2, q_popi, q_popr, q_if1, q_if2, q_nn, q_sw, q_swn, q_swc, q_gf, q_gr, q_pf, q_pz, q_pc, q_ia, q_is, q_cs, q_zs, q_la, q_lw, q_aa, q_al, q_gs, q_acp, q_m2, q_m1, q_ir, q_zr, q_lr, q_ar, q_vr, q_cN0, q_cSX0, q_cV0, q_cVX0, q_cN1, q_cSX1, q_cV1, q_cVX1, q_cN2, q_cSX2, q_cV2, q_cVX2, q_cN3, q_cSX3, q_cV3, q_cVX3, q_cN4, q_cSX4, q_cV4, q_cVX4, q_cN5, q_cSX5, q_cV5, q_cVX5, q_cN6, q_cSX6, q_cV6, q_cVX6, q_th, q_sh0, q_sh1, q_sh2, q_sh3, q_sh4, q_toL0, q_toL1, q_gl0, q_gls, q_sl0, q_sls, q_k10, q_k1s, q_lgi, q_lgr, q_lgl, q_lgn, Bool.not_false, and_true, true_and, nz_2, nz_4, nz_5, nz_8, nz_10, nz_12, nz_14, nz_16, nz_40, nz_41, nz_64, nz_100, nz_1000, nz_1024, nz_4096, nz_10000, nz_100000, not_false_eq_true, bI_0, nI_add, pk_mul, nI_lt', nI_le', nI_eq', nI_z, nI_p, nI_e0, nI_l0, nI_le0, nI_clamp, up_eq, up_ne, not_true_eq_false, Classical.not_not, false_implies, true_implies, false_and, and_false, or_true, true_or, Nat.add_zero, pk_m1, m1_0, m1_n, m1_p, Nat.zero_le, forall_const, Nat.zero_add, Nat.reduceAdd, Nat.reduceEqDiff, or_false, false_or, Nat.one_ne_zero, l64_2, l64_3, l64_4, l64_5, l64_7, l64_9, l64_10, l64_11, l64_15, l64_20, l64_30, l64_40, l64_60, l64_99, l64_255, l64_999, le64l, le64r, le64b, le64n, rset_eq, rset_upd, rset_rset, upd_nep, upd_eqp, ix21_4k, ix21_1, ix21_2, ix21_3, ix21_4, ix21_5, ix21_6, ix21_7, ix21_8, ix21_9, ix21_10, ix76_1, ix76_2, ix76_3, ix100_1, ix100_2, ix100_3]
          refine ⟨⟨k10, l10⟩, n, T, r1.1, r2.1, r3.1, hR, hW.1, by omega, hc5.2.2, rfl, rfl, rfl, by omega, by omega, by omega, fun r' hr' => f68 _ _ ?_⟩
          refine (hK (upd h' 5 (nI (q + if (true && !true) = true then 1 else 0))) r' (fun k k1 k2 k3 k4 => upd_nep k3)).1 _ rfl ?_ ?_
          · rw [lo1_s ex]; exact upd_eq
          · rw [ex]; exact hr'
        · have hp1 : p = false := by rw [hp, decide_eq_false hc5]
          subst hp1
          have ex : x_cmd n (100, r1.1, r2.1, r3.1, 0, 0) = none := by
            unfold x_cmd; dsimp only; rw [if_neg (by decide), if_neg (by decide), if_neg (by decide), if_pos rfl]
            refine if_neg ?_
            unfold rO
            by_cases q1 : r1.1 < cl (n.1 1)
            · rw [if_pos (by rw [hvs]; exact q1), if_pos hos, if_pos (by rw [hz]; exact fun q => hc5 ⟨q1, q⟩)]; decide
            · rw [if_neg (by rw [hvs]; exact q1)]; decide
          refine ⟨fun _ => f68 _ _ ?_, fun q => absurd rfl q⟩
          have := (hK (upd h' 5 (nI (q + if (true && !false) = true then 1 else 0))) (σ 10) (fun k k1 k2 k3 k4 => upd_nep k3)).1 _ rfl (by rw [lo1_n ex]; exact upd_eq) (by rw [ex]; exact hR)
          rw [rset_id10] at this
          exact this
    have f50 : ¬ (r1.1 < cl (n.1 1) ∧ 0 < r2.1 + r3.1 ∧ n.2.1.length < 8) → M 50 [.ref 8, .int (nI r1.1), .int (nI r2.1), .int (nI r3.1)] [.ref 8] (rset σ 8 (hX h' r3.2.1 r3.2.2)) := by
      intro q1
      refine h50 _ _ _ ?_
      simp (disch := omega) only [bX10_readDelivery_50, q_ci, q_cl, q_ild, q_lld, q_ald, q_ist, q_ast, q_lst, q_inc, q_b2, q_d2, q_u1, q_l2, q_ld2, q_lsh, q_lcmp, q_i2l, q_l2i, q_dupi, q_dupr, q_dup2, q_popi, q_popr, q_if1, q_if2, q_nn, q_sw, q_swn, q_swc, q_gf, q_gr, q_pf, q_pz, q_pc, q_ia, q_is, q_cs, q_zs, q_la, q_lw, q_aa, q_al, q_gs, q_acp, q_m2, q_m1, q_ir, q_zr, q_lr, q_ar, q_vr, q_cN0, q_cSX0, q_cV0, q_cVX0, q_cN1, q_cSX1, q_cV1, q_cVX1, q_cN2, q_cSX2, q_cV2, q_cVX2, q_cN3, q_cSX3, q_cV3, q_cVX3, q_cN4, q_cSX4, q_cV4, q_cVX4, q_cN5, q_cSX5, q_cV5, q_cVX5, q_cN6, q_cSX6, q_cV6, q_cVX6, q_th, q_sh0, q_sh1, q_sh2, q_sh3, q_sh4, q_toL0, q_toL1, q_gl0, q_gls, q_sl0, q_sls, q_k10, q_k1s, q_lgi, q_lgr, q_lgl, q_lgn, Bool.not_false, and_true, true_and, nz_2, nz_4, nz_5, nz_8, nz_10, nz_12, nz_14, nz_16, nz_40, nz_41, nz_64, nz_100, nz_1000, nz_1024, nz_4096, nz_10000, nz_100000, not_false_eq_true, bI_0, nI_add, pk_mul, nI_lt', nI_le', nI_eq', nI_z, nI_p, nI_e0, nI_l0, nI_le0, nI_clamp, up_eq, up_ne, not_true_eq_false, Classical.not_not, false_implies, true_implies, false_and, and_false, or_true, true_or, Nat.add_zero, pk_m1, m1_0, m1_n, m1_p, Nat.zero_le, forall_const, Nat.zero_add, Nat.reduceAdd, Nat.reduceEqDiff, or_false, false_or, Nat.one_ne_zero, l64_2, l64_3, l64_4, l64_5, l64_7, l64_9, l64_10, l64_11, l64_15, l64_20, l64_30, l64_40, l64_60, l64_99, l64_255, l64_999, le64l, le64r, le64b, le64n, rset_eq, rset_upd, rset_rset, upd_nep, upd_eqp, ix21_4k, ix21_1, ix21_2, ix21_3, ix21_4, ix21_5, ix21_6, ix21_7, ix21_8, ix21_9, ix21_10, ix76_1, ix76_2, ix76_3, ix100_1, ix100_2, ix100_3]
      rw [nI_0]; exact H51 false (by rw [decide_eq_false q1])
    simp (disch := omega) only [bX10_readDelivery_0, sp_X10_two, sp_X10_digit, sp_X10_canDeliver, k8, k10, l10, e10, e101, q_ci, q_cl, q_ild, q_lld, q_ald, q_ist, q_ast, q_lst, q_inc, q_b2, q_d2, q_u1, q_l2, q_ld2, q_lsh, q_lcmp, q_i2l, q_l2i, q_dupi, q_dupr, q_dup2, q_popi, q_popr, q_if1, q_if2, q_nn, q_sw, q_swn, q_swc, q_gf, q_gr, q_pf, q_pz, q_pc, q_ia, q_is, q_cs, q_zs, q_la, q_lw, q_aa, q_al, q_gs, q_acp, q_m2, q_m1, q_ir, q_zr, q_lr, q_ar, q_vr, q_cN0, q_cSX0, q_cV0, q_cVX0, q_cN1, q_cSX1, q_cV1, q_cVX1, q_cN2, q_cSX2, q_cV2, q_cVX2, q_cN3, q_cSX3, q_cV3, q_cVX3, q_cN4, q_cSX4, q_cV4, q_cVX4, q_cN5, q_cSX5, q_cV5, q_cVX5, q_cN6, q_cSX6, q_cV6, q_cVX6, q_th, q_sh0, q_sh1, q_sh2, q_sh3, q_sh4, q_toL0, q_toL1, q_gl0, q_gls, q_sl0, q_sls, q_k10, q_k1s, q_lgi, q_lgr, q_lgl, q_lgn, Bool.not_false, and_true, true_and, nz_2, nz_4, nz_5, nz_8, nz_10, nz_12, nz_14, nz_16, nz_40, nz_41, nz_64, nz_100, nz_1000, nz_1024, nz_4096, nz_10000, nz_100000, not_false_eq_true, bI_0, nI_add, pk_mul, nI_lt', nI_le', nI_eq', nI_z, nI_p, nI_e0, nI_l0, nI_le0, nI_clamp, up_eq, up_ne, not_true_eq_false, Classical.not_not, false_implies, true_implies, false_and, and_false, or_true, true_or, Nat.add_zero, pk_m1, m1_0, m1_n, m1_p, Nat.zero_le, forall_const, Nat.zero_add, Nat.reduceAdd, Nat.reduceEqDiff, or_false, false_or, Nat.one_ne_zero, l64_2, l64_3, l64_4, l64_5, l64_7, l64_9, l64_10, l64_11, l64_15, l64_20, l64_30, l64_40, l64_60, l64_99, l64_255, l64_999, le64l, le64r, le64b, le64n, rset_eq, rset_upd, rset_rset, upd_nep, upd_eqp, ix21_4k, ix21_1, ix21_2, ix21_3, ix21_4, ix21_5, ix21_6, ix21_7, ix21_8, ix21_9, ix21_10, ix76_1, ix76_2, ix76_3, ix100_1, ix100_2, ix100_3]
    refine ⟨hw, t, m, h', true, i, 0, 4, hT.r, h2, rfl, by omega, rfl, rfl, by omega, by omega, ?_⟩
    rw [← e1]
    refine ⟨hw, t, m, h', r1.2.1, r1.2.2, 0, 99, hT.r, h2, rfl, by omega, rfl, rfl, by omega, by omega, ?_⟩
    rw [← e2]
    refine ⟨hw, t, m, h', r2.2.1, r2.2.2, 0, 9, hT.r, h2, rfl, by omega, rfl, rfl, by omega, by omega, ?_⟩
    rw [← e3]
    have h5' := hcO.2
    refine ⟨v1, fun q => f50 (fun q2 => by have := q2.1; revert q; rw [nI_le' (by omega) (by omega)]; omega), fun q => ⟨⟨k10, l10⟩, n, r2.1, r3.1, hR, rfl, rfl, by omega, by omega, hW.2.2.1.1, fun q2 => f50 (fun q3 => q2 q3.2), fun q2 => ?_⟩⟩
    rw [nI_one]
    refine H51 true ?_
    have q' : ¬ (cl (n.1 1) ≤ r1.1) := fun q3 => q (by first | exact q3 | exact (nI_leI (by omega) (by omega)).mpr q3)
    rw [decide_eq_true ⟨by omega, q2⟩]

set_option maxRecDepth 20000 in
set_option maxHeartbeats 4000000 in
theorem ok_X10_readRun {l : Launch} (hl : l.stackTraces = false) : ab_OkN l yX10_readRun (Cond.code yX10_readRun cX10_readRun 2 none) 6 sp_X10_readRun := by
  intro w σ As Kn hI h
  unfold sp_X10_readRun at h
  split at h
  rotate_left 1
  · exact h.elim
  next a =>
    obtain ⟨rfl, hw, t, m, h', i, q, n, T, hT, h2, h5, h8, him, hR, hW, hTT, hK⟩ := h
    obtain ⟨k8, k9, l9, ⟨k10, l10⟩, -⟩ := id hw
    refine vc_X10_readRun hl hI (ok_X10_digit hl) (ok_X10_runIn hl) (Nat.le_of_ble_eq_true rfl) (fun M h0 h25 => ?_)
    suffices HS : M 0 [.ref 8, .null] [] (rset σ 8 (σ 8)) from (by rw [rset_self] at HS; exact HS)
    refine h0 _ _ _ ?_
    rw [h8]
    have e10 : ∀ X, rset σ 8 X 10 = σ 10 := fun X => rset_ne (by decide)
    have hcO := hW.cOK
    have hc51 := hcO.2
    have hc2 := hW.1.2.2.2.2
    obtain ⟨r1, e1⟩ : ∃ r, r = m_d t m true i 1 9 := ⟨_, rfl⟩
    have b1 := m_d_le (t := t) (m := m) (i := i) (lo := 1) (hi := 9) (g := true) (by omega) (by omega) (by omega)
    rw [← e1] at b1
    have hms := m_r (t := t) (m := m) (i := i) e1
    have f25 : ∀ L τ, Kn none τ → M 25 L [] τ := fun L τ q => h25 _ _ _ (by simp (disch := omega) only [bX10_readRun_25, q_ci, q_cl, q_ild, q_lld, q_ald, q_ist, q_ast, q_lst, q_inc, q_b2, q_d2, q_u1, q_l2, q_ld2, q_lsh, q_lcmp, q_i2l, q_l2i, q_dupi, q_dupr, q_dup2, q_popi, q_popr, q_if1, q_if2, q_nn, q_sw, q_swn, q_swc, q_gf, q_gr, q_pf, q_pz, q_pc, q_ia, q_is, q_cs, q_zs, q_la, q_lw, q_aa, q_al, q_gs, q_acp, q_m2, q_m1, q_ir, q_zr, q_lr, q_ar, q_vr, q_cN0, q_cSX0, q_cV0, q_cVX0, q_cN1, q_cSX1, q_cV1, q_cVX1, q_cN2, q_cSX2, q_cV2, q_cVX2, q_cN3, q_cSX3, q_cV3, q_cVX3, q_cN4, q_cSX4, q_cV4, q_cVX4, q_cN5, q_cSX5, q_cV5, q_cVX5, q_cN6, q_cSX6, q_cV6, q_cVX6, q_th, q_sh0, q_sh1, q_sh2, q_sh3, q_sh4, q_toL0, q_toL1, q_gl0, q_gls, q_sl0, q_sls, q_k10, q_k1s, q_lgi, q_lgr, q_lgl, q_lgn, Bool.not_false, and_true, true_and, nz_2, nz_4, nz_5, nz_8, nz_10, nz_12, nz_14, nz_16, nz_40, nz_41, nz_64, nz_100, nz_1000, nz_1024, nz_4096, nz_10000, nz_100000, not_false_eq_true, bI_0, nI_add, pk_mul, nI_lt', nI_le', nI_eq', nI_z, nI_p, nI_e0, nI_l0, nI_le0, nI_clamp, up_eq, up_ne, not_true_eq_false, Classical.not_not, false_implies, true_implies, false_and, and_false, or_true, true_or, Nat.add_zero, pk_m1, m1_0, m1_n, m1_p, Nat.zero_le, forall_const, Nat.zero_add, Nat.reduceAdd, Nat.reduceEqDiff, or_false, false_or, Nat.one_ne_zero, l64_2, l64_3, l64_4, l64_5, l64_7, l64_9, l64_10, l64_11, l64_15, l64_20, l64_30, l64_40, l64_60, l64_99, l64_255, l64_999, le64l, le64r, le64b, le64n, rset_eq, rset_upd, rset_rset, upd_nep, upd_eqp, ix21_4k, ix21_1, ix21_2, ix21_3, ix21_4, ix21_5, ix21_6, ix21_7, ix21_8, ix21_9, ix21_10, ix76_1, ix76_2, ix76_3, ix100_1, ix100_2, ix100_3]; exact q)
    simp (disch := omega) only [bX10_readRun_0, sp_X10_digit, sp_X10_runIn, k8, k10, l10, e10, q_ci, q_cl, q_ild, q_lld, q_ald, q_ist, q_ast, q_lst, q_inc, q_b2, q_d2, q_u1, q_l2, q_ld2, q_lsh, q_lcmp, q_i2l, q_l2i, q_dupi, q_dupr, q_dup2, q_popi, q_popr, q_if1, q_if2, q_nn, q_sw, q_swn, q_swc, q_gf, q_gr, q_pf, q_pz, q_pc, q_ia, q_is, q_cs, q_zs, q_la, q_lw, q_aa, q_al, q_gs, q_acp, q_m2, q_m1, q_ir, q_zr, q_lr, q_ar, q_vr, q_cN0, q_cSX0, q_cV0, q_cVX0, q_cN1, q_cSX1, q_cV1, q_cVX1, q_cN2, q_cSX2, q_cV2, q_cVX2, q_cN3, q_cSX3, q_cV3, q_cVX3, q_cN4, q_cSX4, q_cV4, q_cVX4, q_cN5, q_cSX5, q_cV5, q_cVX5, q_cN6, q_cSX6, q_cV6, q_cVX6, q_th, q_sh0, q_sh1, q_sh2, q_sh3, q_sh4, q_toL0, q_toL1, q_gl0, q_gls, q_sl0, q_sls, q_k10, q_k1s, q_lgi, q_lgr, q_lgl, q_lgn, Bool.not_false, and_true, true_and, nz_2, nz_4, nz_5, nz_8, nz_10, nz_12, nz_14, nz_16, nz_40, nz_41, nz_64, nz_100, nz_1000, nz_1024, nz_4096, nz_10000, nz_100000, not_false_eq_true, bI_0, nI_add, pk_mul, nI_lt', nI_le', nI_eq', nI_z, nI_p, nI_e0, nI_l0, nI_le0, nI_clamp, up_eq, up_ne, not_true_eq_false, Classical.not_not, false_implies, true_implies, false_and, and_false, or_true, true_or, Nat.add_zero, pk_m1, m1_0, m1_n, m1_p, Nat.zero_le, forall_const, Nat.zero_add, Nat.reduceAdd, Nat.reduceEqDiff, or_false, false_or, Nat.one_ne_zero, l64_2, l64_3, l64_4, l64_5, l64_7, l64_9, l64_10, l64_11, l64_15, l64_20, l64_30, l64_40, l64_60, l64_99, l64_255, l64_999, le64l, le64r, le64b, le64n, rset_eq, rset_upd, rset_rset, upd_nep, upd_eqp, ix21_4k, ix21_1, ix21_2, ix21_3, ix21_4, ix21_5, ix21_6, ix21_7, ix21_8, ix21_9, ix21_10, ix76_1, ix76_2, ix76_3, ix100_1, ix100_2, ix100_3]
    refine ⟨hw, t, m, h', true, i, 1, 9, hT.r, h2, rfl, by omega, rfl, rfl, by omega, by omega, ?_⟩
    rw [← e1, hX_4, zb_0]
    obtain ⟨hm1, hm2⟩ := hms
    rcases hx : p_r t m i with ⟨j, _ | c⟩
    · rw [hx] at hm1 hK
      have hm1 : r1.2 = (false, j) := hm1
      rw [hm1]
      refine ⟨fun _ => f25 _ _ ?_, fun q => absurd rfl q⟩
      have := (hK h' (σ 10) (fun k k1 k2 k3 k4 => rfl)).2 rfl
      rw [rset_id10] at this
      exact this
    · rw [hx] at hm1 hm2 hK
      have hm1 : r1.2 = (true, j) := hm1
      have hok := p_r_ok (t := t) (m := m) (i := i) (c := c) (by rw [hx])
      have hcc := hm2 c rfl
      rw [hm1]
      obtain ⟨c0, c1, c2, c3, c4, c5⟩ := c
      cases hcc
      unfold tOK2 at hok
      dsimp only at hok
      have ex : x_cmd n (114, r1.1, 0, 0, 0, 0) = some (n_run r1.1 n) := by
        unfold x_cmd; dsimp only; rw [if_neg (by decide), if_neg (by decide), if_neg (by decide), if_neg (by decide), cl_nI (by omega)]
      refine ⟨fun q => absurd q (by simp), fun _ => ⟨⟨k10, l10⟩, by decide, n, T, r1.1, hR, hW, rfl, by omega, by omega, fun r' hr' => f25 _ _ ?_⟩⟩
      have hu : ∀ y, upd (hX h' true j) 14 y = hX (upd h' 14 y) true j := fun y => hX_u (by decide) (by decide)
      dsimp only
      rw [hu]
      refine (hK _ r' (fun k k1 k2 k3 k4 => upd_nep k4)).1 _ rfl ?_ ?_
      · rw [lo1_s ex, upd_nep (by decide)]; exact h5
      · rw [ex]; exact hr'

set_option maxRecDepth 20000 in
set_option maxHeartbeats 4000000 in
theorem ok_X10_readWind {l : Launch} (hl : l.stackTraces = false) : ab_OkN l yX10_readWind (Cond.code yX10_readWind cX10_readWind 4 none) 4 sp_X10_readWind := by
  intro w σ As Kn hI h
  unfold sp_X10_readWind at h
  split at h
  rotate_left 1
  · exact h.elim
  next a =>
    obtain ⟨rfl, hw, t, m, h', i, q, n, T, hT, h2, h5, h8, him, hR, hW, hTT, hK⟩ := h
    obtain ⟨k8, k9, l9, ⟨k10, l10⟩, -⟩ := id hw
    refine vc_X10_readWind hl hI (ok_X10_digit hl) (ok_X10_isNext hl) (ok_X10_accept hl) (ok_X10_two hl) (Nat.le_of_ble_eq_true rfl) (fun M h0 h28 h33 h81 => ?_)
    suffices HS : M 0 [.ref 8, .null, .null, .null] [] (rset σ 8 (σ 8)) from (by rw [rset_self] at HS; exact HS)
    refine h0 _ _ _ ?_
    rw [h8]
    have e10 : ∀ X, rset σ 8 X 10 = σ 10 := fun X => rset_ne (by decide)
    have hcO := hW.cOK
    have hc51 := hcO.2
    have hc2 := hW.1.2.2.2.2
    obtain ⟨r1, e1⟩ : ∃ r, r = m_d t m true i 0 3 := ⟨_, rfl⟩
    have b1 := m_d_le (t := t) (m := m) (i := i) (lo := 0) (hi := 3) (g := true) (by omega) (by omega) (by omega)
    rw [← e1] at b1
    obtain ⟨r2, e2⟩ : ∃ r, r = m_pm t m r1.2.1 r1.2.2 := ⟨_, rfl⟩
    have b2 := m_pm_le (t := t) (m := m) (i := r1.2.2) (g := r1.2.1) (by omega)
    rw [← e2] at b2
    obtain ⟨r3, e3⟩ : ∃ r, r = m_2 t m r2.2.1 r2.2.2 0 20 := ⟨_, rfl⟩
    have b3 := m_2_le (t := t) (m := m) (i := r2.2.2) (lo := 0) (hi := 20) (g := r2.2.1) (by omega) (by omega) (by omega)
    rw [← e3] at b3
    have hms := m_w (t := t) (m := m) (i := i) e1 e2 e3
    have vh : vp_in (nI (17 + r1.1)) 304 := vp_in_nI (by omega) (by omega)
    have H81 : ∀ v, (r3.2.1 = false → v = σ 10 (17 + r1.1)) → (r3.2.1 = true → v = (if r2.1 = true then -1 else 1) * nI r3.1) → M 81 [.ref 8, .int (nI r1.1), .int (zb r2.1), .int (nI r3.1)] [.int v, .int (nI (17 + r1.1)), .ref 10] (rset σ 8 (hX h' r3.2.1 r3.2.2)) := by
      intro v hv1 hv2
      refine h81 _ _ _ ?_
      simp (disch := omega) only [bX10_readWind_81, k10, l10, q_ci, q_cl, q_ild, q_lld, q_ald, q_ist, q_ast, q_lst, q_inc, q_b2, q_d2, q_u1, q_l2, q_ld2, q_lsh, q_lcmp, q_i2l, q_l2i, q_dupi, q_dupr, q_dup2, q_popi, q_popr, q_if1, q_if2, q_nn, q_sw, q_swn, q_swc, q_gf, q_gr, q_pf, q_pz, q_pc, q_ia, q_is, q_cs, q_zs, q_la, q_lw, q_aa, q_al, q_gs, q_acp, q_m2, q_m1, q_ir, q_zr, q_lr, q_ar, q_vr, q_cN0, q_cSX0, q_cV0, q_cVX0, q_cN1, q_cSX1, q_cV1, q_cVX1, q_cN2, q_cSX2, q_cV2, q_cVX2, q_cN3, q_cSX3, q_cV3, q_cVX3, q_cN4, q_cSX4, q_cV4, q_cVX4, q_cN5, q_cSX5, q_cV5, q_cVX5, q_cN6, q_cSX6, q_cV6, q_cVX6, q_th, q_sh0, q_sh1, q_sh2, q_sh3, q_sh4, q_toL0, q_toL1, q_gl0, q_gls, q_sl0, q_sls, q_k10, q_k1s, q_lgi, q_lgr, q_lgl, q_lgn, Bool.not_false, and_true, true_and, nz_2, nz_4, nz_5, nz_8, nz_10, nz_12, nz_14, nz_16, nz_40, nz_41, nz_64, nz_100, nz_1000, nz_1024, nz_4096, nz_10000, nz_100000, not_false_eq_true, bI_0, nI_add, pk_mul, nI_lt', nI_le', nI_eq', nI_z, nI_p, nI_e0, nI_l0, nI_le0, nI_clamp, up_eq, up_ne, not_true_eq_false, Classical.not_not, false_implies, true_implies, false_and, and_false, or_true, true_or, Nat.add_zero, pk_m1, m1_0, m1_n, m1_p, Nat.zero_le, forall_const, Nat.zero_add, Nat.reduceAdd, Nat.reduceEqDiff, or_false, false_or, Nat.one_ne_zero, l64_2, l64_3, l64_4, l64_5, l64_7, l64_9, l64_10, l64_11, l64_15, l64_20, l64_30, l64_40, l64_60, l64_99, l64_255, l64_999, le64l, le64r, le64b, le64n, rset_eq, rset_upd, rset_rset, upd_nep, upd_eqp, ix21_4k, ix21_1, ix21_2, ix21_3, ix21_4, ix21_5, ix21_6, ix21_7, ix21_8, ix21_9, ix21_10, ix76_1, ix76_2, ix76_3, ix100_1, ix100_2, ix100_3]
      refine ⟨vh, ?_⟩
      rw [rset_up, e10]
      obtain ⟨hm1, hm2⟩ := hms
      rcases hx : p_w t m i with ⟨j, _ | c⟩
      · rw [hx] at hm1 hK
        have hm1 : r3.2 = (false, j) := hm1
        rw [hm1]
        exact (hK h' _ (fun k k1 k2 k3 k4 => rfl)).2 rfl
      · rw [hx] at hm1 hm2 hK
        have hm1 : r3.2 = (true, j) := hm1
        have hok := p_w_ok (t := t) (m := m) (i := i) (c := c) (by rw [hx])
        have hcc := hm2 c rfl
        have hv := hv2 (by rw [hm1])
        rw [hm1]
        obtain ⟨c0, c1, c2, c3, c4, c5⟩ := c
        cases hcc
        unfold tOK2 at hok
        dsimp only at hok
        have e12 : (if (if r2.1 = true then 1 else 0) = 1 then (-1 : Int32) else 1) = (if r2.1 = true then -1 else 1) := by cases r2.1 <;> rfl
        have hw0 : okW (nI r1.1) ((if r2.1 = true then -1 else 1) * nI r3.1) := by
          have h41 : ∀ (b : Bool) (k : Fin 21), bt2 (-20) ((if b = true then -1 else 1) * nI k.1) (nI 20) := by decide +kernel
          exact ⟨⟨by rw [nI_le' (by omega) (by omega)]; omega, by rw [nI_le' (by omega) (by omega)]; omega⟩, h41 r2.1 ⟨r3.1, by omega⟩⟩
        have ex : x_cmd n (119, r1.1, (if r2.1 = true then 1 else 0), r3.1, 0, 0) = some (n_wind n r1.1 ((if r2.1 = true then -1 else 1) * nI r3.1)) := by
          unfold x_cmd; dsimp only; rw [if_neg (by decide), if_neg (by decide), if_pos rfl]
          rw [e12, if_pos (by unfold rW; rw [if_pos hw0]), cl_nI (by omega)]
        refine (hK h' _ (fun k k1 k2 k3 k4 => rfl)).1 _ rfl ?_ ?_
        · rw [lo1_s ex]; exact h5
        · rw [ex, hv]
          exact hR.up _ (by omega) (by omega) (by omega) (by omega)
    have H33 : ∀ p, p = (decide (r1.2.2 < m ∧ t r1.2.2 = 45) || decide (r1.2.2 < m ∧ t r1.2.2 = 43)) → ∀ x, M 33 [.ref 8, .int (nI r1.1), .int (zb r2.1), x] [.int (zb p), .ref 8] (rset σ 8 (hX h' r1.2.1 r1.2.2)) := by
      intro p hp x
      refine h33 _ _ _ ?_
      simp (disch := omega) only [bX10_readWind_33, sp_X10_accept, sp_X10_two, k8, k10, l10, e10, q_ci, q_cl, q_ild, q_lld, q_ald, q_ist, q_ast, q_lst, q_inc, q_b2, q_d2, q_u1, q_l2, q_ld2, q_lsh, q_lcmp, q_i2l, q_l2i, q_dupi, q_dupr, q_dup2, q_popi, q_popr, q_if1, q_if2, q_nn, q_sw, q_swn, q_swc, q_gf, q_gr, q_pf, q_pz, q_pc, q_ia, q_is, q_cs, q_zs, q_la, q_lw, q_aa, q_al, q_gs, q_acp, q_m2, q_m1, q_ir, q_zr, q_lr, q_ar, q_vr, q_cN0, q_cSX0, q_cV0, q_cVX0, q_cN1, q_cSX1, q_cV1, q_cVX1, q_cN2, q_cSX2, q_cV2, q_cVX2, q_cN3, q_cSX3, q_cV3, q_cVX3, q_cN4, q_cSX4, q_cV4, q_cVX4, q_cN5, q_cSX5, q_cV5, q_cVX5, q_cN6, q_cSX6, q_cV6, q_cVX6, q_th, q_sh0, q_sh1, q_sh2, q_sh3, q_sh4, q_toL0, q_toL1, q_gl0, q_gls, q_sl0, q_sls, q_k10, q_k1s, q_lgi, q_lgr, q_lgl, q_lgn, Bool.not_false, and_true, true_and, nz_2, nz_4, nz_5, nz_8, nz_10, nz_12, nz_14, nz_16, nz_40, nz_41, nz_64, nz_100, nz_1000, nz_1024, nz_4096, nz_10000, nz_100000, not_false_eq_true, bI_0, nI_add, pk_mul, nI_lt', nI_le', nI_eq', nI_z, nI_p, nI_e0, nI_l0, nI_le0, nI_clamp, up_eq, up_ne, not_true_eq_false, Classical.not_not, false_implies, true_implies, false_and, and_false, or_true, true_or, Nat.add_zero, pk_m1, m1_0, m1_n, m1_p, Nat.zero_le, forall_const, Nat.zero_add, Nat.reduceAdd, Nat.reduceEqDiff, or_false, false_or, Nat.one_ne_zero, l64_2, l64_3, l64_4, l64_5, l64_7, l64_9, l64_10, l64_11, l64_15, l64_20, l64_30, l64_40, l64_60, l64_99, l64_255, l64_999, le64l, le64r, le64b, le64n, rset_eq, rset_upd, rset_rset, upd_nep, upd_eqp, ix21_4k, ix21_1, ix21_2, ix21_3, ix21_4, ix21_5, ix21_6, ix21_7, ix21_8, ix21_9, ix21_10, ix76_1, ix76_2, ix76_3, ix100_1, ix100_2, ix100_3]
      refine ⟨hw, h', r1.2.1, r1.2.2, p, rfl, rfl, hw, t, m, h', r2.2.1, r2.2.2, 0, 20, hT.r, h2, ?_, by omega, rfl, rfl, by omega, by omega, ?_⟩
      · rw [e2, hp]; rfl
      rw [← e3, hX_4, zb_0]
      refine ⟨fun q1 => ?_, fun q1 => ⟨vh, H81 _ (fun _ => rfl) (fun q2 => by rw [q2] at q1; exact absurd q1 (by simp))⟩⟩
      refine ⟨fun q2 => H81 _ (fun q3 => ?_) (fun q3 => ?_), fun q2 => H81 _ (fun q3 => ?_) (fun q3 => ?_)⟩
      · exact absurd q3 q1
      · have q4 : r2.1 = false := by rw [← zb_0]; exact q2
        rw [q4, if_neg (by decide), Int32.one_mul]
      · exact absurd q3 q1
      · have q4 : r2.1 = true := by
          rw [zb_0] at q2; revert q2; cases r2.1 <;> simp
        rw [q4, if_pos rfl]; grind
    have er2 : decide (r1.2.2 < m ∧ t r1.2.2 = 45) = r2.1 := by rw [e2]; rfl
    have f28 : (decide (r1.2.2 < m ∧ t r1.2.2 = 45) || decide (r1.2.2 < m ∧ t r1.2.2 = 43)) = true → ∀ x, M 28 [.ref 8, .int (nI r1.1), .int (zb r2.1), x] [.ref 8] (rset σ 8 (hX h' r1.2.1 r1.2.2)) := by
      intro q1 x
      refine h28 _ _ _ ?_
      simp (disch := omega) only [bX10_readWind_28, q_ci, q_cl, q_ild, q_lld, q_ald, q_ist, q_ast, q_lst, q_inc, q_b2, q_d2, q_u1, q_l2, q_ld2, q_lsh, q_lcmp, q_i2l, q_l2i, q_dupi, q_dupr, q_dup2, q_popi, q_popr, q_if1, q_if2, q_nn, q_sw, q_swn, q_swc, q_gf, q_gr, q_pf, q_pz, q_pc, q_ia, q_is, q_cs, q_zs, q_la, q_lw, q_aa, q_al, q_gs, q_acp, q_m2, q_m1, q_ir, q_zr, q_lr, q_ar, q_vr, q_cN0, q_cSX0, q_cV0, q_cVX0, q_cN1, q_cSX1, q_cV1, q_cVX1, q_cN2, q_cSX2, q_cV2, q_cVX2, q_cN3, q_cSX3, q_cV3, q_cVX3, q_cN4, q_cSX4, q_cV4, q_cVX4, q_cN5, q_cSX5, q_cV5, q_cVX5, q_cN6, q_cSX6, q_cV6, q_cVX6, q_th, q_sh0, q_sh1, q_sh2, q_sh3, q_sh4, q_toL0, q_toL1, q_gl0, q_gls, q_sl0, q_sls, q_k10, q_k1s, q_lgi, q_lgr, q_lgl, q_lgn, Bool.not_false, and_true, true_and, nz_2, nz_4, nz_5, nz_8, nz_10, nz_12, nz_14, nz_16, nz_40, nz_41, nz_64, nz_100, nz_1000, nz_1024, nz_4096, nz_10000, nz_100000, not_false_eq_true, bI_0, nI_add, pk_mul, nI_lt', nI_le', nI_eq', nI_z, nI_p, nI_e0, nI_l0, nI_le0, nI_clamp, up_eq, up_ne, not_true_eq_false, Classical.not_not, false_implies, true_implies, false_and, and_false, or_true, true_or, Nat.add_zero, pk_m1, m1_0, m1_n, m1_p, Nat.zero_le, forall_const, Nat.zero_add, Nat.reduceAdd, Nat.reduceEqDiff, or_false, false_or, Nat.one_ne_zero, l64_2, l64_3, l64_4, l64_5, l64_7, l64_9, l64_10, l64_11, l64_15, l64_20, l64_30, l64_40, l64_60, l64_99, l64_255, l64_999, le64l, le64r, le64b, le64n, rset_eq, rset_upd, rset_rset, upd_nep, upd_eqp, ix21_4k, ix21_1, ix21_2, ix21_3, ix21_4, ix21_5, ix21_6, ix21_7, ix21_8, ix21_9, ix21_10, ix76_1, ix76_2, ix76_3, ix100_1, ix100_2, ix100_3]
      rw [nI_one]; exact H33 true q1.symm x
    simp (disch := omega) only [bX10_readWind_0, sp_X10_digit, sp_X10_isNext, k8, k10, l10, e10, q_ci, q_cl, q_ild, q_lld, q_ald, q_ist, q_ast, q_lst, q_inc, q_b2, q_d2, q_u1, q_l2, q_ld2, q_lsh, q_lcmp, q_i2l, q_l2i, q_dupi, q_dupr, q_dup2, q_popi, q_popr, q_if1, q_if2, q_nn, q_sw, q_swn, q_swc, q_gf, q_gr, q_pf, q_pz, q_pc, q_ia, q_is, q_cs, q_zs, q_la, q_lw, q_aa, q_al, q_gs, q_acp, q_m2, q_m1, q_ir, q_zr, q_lr, q_ar, q_vr, q_cN0, q_cSX0, q_cV0, q_cVX0, q_cN1, q_cSX1, q_cV1, q_cVX1, q_cN2, q_cSX2, q_cV2, q_cVX2, q_cN3, q_cSX3, q_cV3, q_cVX3, q_cN4, q_cSX4, q_cV4, q_cVX4, q_cN5, q_cSX5, q_cV5, q_cVX5, q_cN6, q_cSX6, q_cV6, q_cVX6, q_th, q_sh0, q_sh1, q_sh2, q_sh3, q_sh4, q_toL0, q_toL1, q_gl0, q_gls, q_sl0, q_sls, q_k10, q_k1s, q_lgi, q_lgr, q_lgl, q_lgn, Bool.not_false, and_true, true_and, nz_2, nz_4, nz_5, nz_8, nz_10, nz_12, nz_14, nz_16, nz_40, nz_41, nz_64, nz_100, nz_1000, nz_1024, nz_4096, nz_10000, nz_100000, not_false_eq_true, bI_0, nI_add, pk_mul, nI_lt', nI_le', nI_eq', nI_z, nI_p, nI_e0, nI_l0, nI_le0, nI_clamp, up_eq, up_ne, not_true_eq_false, Classical.not_not, false_implies, true_implies, false_and, and_false, or_true, true_or, Nat.add_zero, pk_m1, m1_0, m1_n, m1_p, Nat.zero_le, forall_const, Nat.zero_add, Nat.reduceAdd, Nat.reduceEqDiff, or_false, false_or, Nat.one_ne_zero, l64_2, l64_3, l64_4, l64_5, l64_7, l64_9, l64_10, l64_11, l64_15, l64_20, l64_30, l64_40, l64_60, l64_99, l64_255, l64_999, le64l, le64r, le64b, le64n, rset_eq, rset_upd, rset_rset, upd_nep, upd_eqp, ix21_4k, ix21_1, ix21_2, ix21_3, ix21_4, ix21_5, ix21_6, ix21_7, ix21_8, ix21_9, ix21_10, ix76_1, ix76_2, ix76_3, ix100_1, ix100_2, ix100_3]
    refine ⟨hw, t, m, h', true, i, 0, 3, hT.r, h2, rfl, him, rfl, rfl, by omega, by omega, ?_⟩
    rw [← e1]
    refine ⟨hw, t, m, h', r1.2.1, r1.2.2, 45, hT.r, h2, rfl, by omega, rfl, by omega, ?_⟩
    rw [er2]
    simp only [zb_0]
    refine ⟨fun q1 => f28 ?_ _, fun q1 => ⟨hw, t, m, h', r1.2.1, r1.2.2, 43, hT.r, h2, rfl, by omega, rfl, by omega, ?_⟩⟩
    · rw [er2]; revert q1; cases r2.1 <;> simp
    · have q2 : r2.1 = false := by revert q1; cases r2.1 <;> simp
      refine ⟨fun q3 => ?_, fun q3 => f28 ?_ _⟩
      · rw [nI_0]; exact H33 false (by rw [er2, q2, q3]; rfl) _
      · rw [er2, q2]; revert q3; cases decide (r1.2.2 < m ∧ t r1.2.2 = 43) <;> simp
