theorem appx {α : Type} {ms : List α} {n x : α} {k : Nat} (h : (ms ++ [n])[k]? = some x) : (k < ms.length ∧ ms[k]? = some x) ∨ (k = ms.length ∧ n = x) := by
  rw [List.getElem?_append] at h
  split at h
  · next q => exact Or.inl ⟨q, h⟩
  · next q =>
    rw [List.getElem?_singleton] at h
    split at h
    · exact Or.inr ⟨by omega, Option.some.inj h⟩
    · simp at h
def sp_X10_tellGap : ab_S := fun w As σ K => match As with
  | [.ref a, .int s, .int q] => wR w a ∧ ∃ n s' q', RM (σ a) n ∧ WQ n ∧ s = nI s' ∧ q = nI q' ∧ s' < 5 ∧ q' ≤ 2 ∧ ∀ r', RM r' (n_gap n s' q') → K none (rset σ a r')
  | _ => False
def sp_X10_sendBack : ab_S := fun w As σ K => match As with
  | [.ref a, .int p, .int q, .int m] => wR w a ∧ ∃ n x, RM (σ a) n ∧ WQ n ∧ n.2.2.1.length < 150 ∧ p = nI x.1 ∧ q = nI x.2.1 ∧ m = nI x.2.2 ∧ x.1 ≤ 300000 ∧ x.2.1 < 10 ∧ x.2.2 < 10 ∧ ∀ r', RM r' (n.1, n.2.1, n_ins x n.2.2.1, n.2.2.2) → K none (rset σ a r')
  | _ => False
def sp_X10_dropFirstBack : ab_S := fun w As σ K => match As with
  | [.ref a] => wR w a ∧ ∃ n b l, RM (σ a) n ∧ n.2.2.1 = b :: l ∧ l.length < 150 ∧ n.2.1.length ≤ 8 ∧ n.2.2.2.length ≤ 12 ∧ ∀ r', RM r' (n.1, n.2.1, l, n.2.2.2) → K none (rset σ a r')
  | _ => False
def sp_X10_dropSend : ab_S := fun w As σ K => match As with
  | [.ref a, .int i] => wR w a ∧ ∃ n k, RM (σ a) n ∧ i = nI k ∧ k < n.2.1.length ∧ n.2.1.length ≤ 8 ∧ ∀ r', RM r' (n.1, n.2.1.eraseIdx k, n.2.2.1, n.2.2.2) → K none (rset σ a r')
  | _ => False
set_option maxRecDepth 20000 in
set_option maxHeartbeats 4000000 in
theorem ok_X10_tellGap {l : Launch} (hl : l.stackTraces = false) : ab_OkN l yX10_tellGap (Cond.code yX10_tellGap cX10_tellGap 3 none) 2 sp_X10_tellGap := by
  intro w σ As Kn hI h
  unfold sp_X10_tellGap at h
  split at h
  rotate_left 1
  · exact h.elim
  next a s q =>
    obtain ⟨a, rfl⟩ : ∃ z : Nat, z = a := ⟨_, rfl⟩
    obtain ⟨⟨ka, la⟩, n, s, q, hR, hW, rfl, rfl, hs, hq, h⟩ := h
    refine vc_X10_tellGap hl hI (ok_X10_copy hl) (ok_X10_stationAt hl) (Nat.le_of_ble_eq_true rfl) (fun M h0 h30 => ?_)
    suffices HS : M 0 [.ref a, .int (nI s), .int (nI q)] [] (rset σ a (σ a)) from (by rw [rset_self] at HS; exact HS)
    refine h0 _ _ _ ?_
    have hr := hR.1
    obtain ⟨z0, z1, z2, z3, z4, z5, z6, z7, z8, z9, z10⟩ := id hW
    have w0 : vp_in (nI 0) 304 := vp_in_nI (by omega) (by omega)
    have w5 : vp_in (nI 5) 304 := vp_in_nI (by omega) (by omega)
    have w11 : vp_in (nI 11) 304 := vp_in_nI (by omega) (by omega)
    have ws : vp_in (nI (31 + 11 * s)) 304 := vp_in_nI (by omega) (by omega)
    have e11 := hR.2.2.2.1
    have H30 : ∀ r c, c ≤ 11 → r 11 = nI c → (∀ i, (i < 132 ∨ 144 ≤ i) → i ≠ 11 → r i = σ a i) → ((if n.2.2.2.length = 12 then n.2.2.2.drop 1 else n.2.2.2).length = c) → (∀ k x, (if n.2.2.2.length = 12 then n.2.2.2.drop 1 else n.2.2.2)[k]? = some x → r (132 + k) = nI (cd3 x)) → M 30 [.ref a, .int (nI s), .int (nI q)] [] (rset σ a r) := by
      intro r c hc h11 hri hl hg
      refine h30 _ _ _ ?_
      have e0 : r 0 = nI (cl (n.1 0)) := by rw [hri 0 (by omega) (by omega), hr 0 (by omega) (by omega) (by omega) (by omega)]; exact z0
      have e5 : r 5 = n.1 5 := by rw [hri 5 (by omega) (by omega), hr 5 (by omega) (by omega) (by omega) (by omega)]
      have es : r (31 + 11 * s) = n.1 (31 + 11 * s) := by rw [hri _ (by omega) (by omega), hr _ (by omega) (by omega) (by omega) (by omega)]
      have vc : vp_in (nI (132 + c)) 304 := vp_in_nI (by omega) (by omega)
      simp (disch := omega) only [bX10_tellGap_30, sp_X10_stationAt, ka, la, h11, e0, e5, es, q_ci, q_cl, q_ild, q_lld, q_ald, q_ist, q_ast, q_lst, q_inc, q_b2, q_d2, q_u1, q_l2, q_ld2, q_lsh, q_lcmp, q_i2l, q_l2i, q_dupi, q_dupr, q_dup2, q_popi, q_popr, q_if1, q_if2, q_nn, q_sw, q_swn, q_swc, q_gf, q_gr, q_pf, q_pz, q_pc, q_ia, q_is, q_cs, q_zs, q_la, q_lw, q_aa, q_al, q_gs, q_acp, q_m2, q_m1, q_ir, q_zr, q_lr, q_ar, q_vr, q_cN0, q_cSX0, q_cV0, q_cVX0, q_cN1, q_cSX1, q_cV1, q_cVX1, q_cN2, q_cSX2, q_cV2, q_cVX2, q_cN3, q_cSX3, q_cV3, q_cVX3, q_cN4, q_cSX4, q_cV4, q_cVX4, q_cN5, q_cSX5, q_cV5, q_cVX5, q_cN6, q_cSX6, q_cV6, q_cVX6, q_th, q_sh0, q_sh1, q_sh2, q_sh3, q_sh4, q_toL0, q_toL1, q_gl0, q_gls, q_sl0, q_sls, q_k10, q_k1s, q_lgi, q_lgr, q_lgl, q_lgn, Bool.not_false, and_true, true_and, nz_2, nz_4, nz_5, nz_8, nz_10, nz_12, nz_14, nz_16, nz_40, nz_41, nz_64, nz_100, nz_1000, nz_1024, nz_4096, nz_10000, nz_100000, not_false_eq_true, bI_0, nI_add, pk_mul, nI_lt', nI_le', nI_eq', nI_z, nI_p, nI_e0, nI_l0, nI_le0, nI_clamp, up_eq, up_ne, not_true_eq_false, Classical.not_not, false_implies, true_implies, false_and, and_false, or_true, true_or, Nat.add_zero, pk_m1, m1_0, m1_n, m1_p, Nat.zero_le, forall_const, Nat.zero_add, Nat.reduceAdd, Nat.reduceEqDiff, or_false, false_or, Nat.one_ne_zero, l64_2, l64_3, l64_4, l64_5, l64_7, l64_9, l64_10, l64_11, l64_15, l64_20, l64_30, l64_40, l64_60, l64_99, l64_255, l64_999, le64l, le64r, le64b, le64n, rset_eq, rset_upd, rset_rset, upd_nep, upd_eqp, ix21_4k, ix21_1, ix21_2, ix21_3, ix21_4, ix21_5, ix21_6, ix21_7, ix21_8, ix21_9, ix21_10, ix76_1, ix76_2, ix76_3, ix100_1, ix100_2, ix100_3]
      refine ⟨w11, w0, vc, w11, w11, w5, w5, ws, ws, h _ ?_⟩
      unfold n_gap
      generalize (if n.2.2.2.length = 12 then n.2.2.2.drop 1 else n.2.2.2) = L at hl hg ⊢
      subst hl
      refine RM.mk (fun i h1 h2 h3 h4 => ?_) ?_ ?_ ?_ (fun j x q => (hR.o j x q).of (fun i i1 i2 => ?_)) (fun j x q => ?_) (fun j x q => ?_)
      · rw [nI_one]
        by_cases i3 : i = 31 + 11 * s
        · rw [upd_eqp i3, upd_eqp i3]
        rw [upd_nep i3, upd_nep i3]
        by_cases i4 : i = 5
        · rw [upd_eqp i4, upd_eqp i4]
        rw [upd_nep i4, upd_nep i4, upd_nep (by omega), upd_nep (by omega), hri i (by omega) (by omega)]
        exact hr i h1 h2 h3 h4
      · simp (disch := omega) only [upd_nep]; rw [hri _ (by omega) (by omega)]; exact hR.2.1
      · simp (disch := omega) only [upd_nep]; rw [hri _ (by omega) (by omega)]; exact hR.2.2.1
      · simp (disch := omega) only [upd_nep, upd_eqp]; rw [List.length_append, List.length_singleton]
      · have := getq q
        simp (disch := omega) only [upd_nep]; exact hri _ (by omega) (by omega)
      · simp (disch := omega) only [upd_nep]; rw [hri _ (by omega) (by omega)]; exact hR.b j x q
      · rcases appx q with ⟨q2, q3⟩ | ⟨q2, q3⟩
        · simp (disch := omega) only [upd_nep]; exact hg j x q3
        · subst q3
          simp (disch := omega) only [upd_nep, upd_eqp]
          rfl
    by_cases h12 : n.2.2.2.length = 12
    · rw [h12] at e11
      simp (disch := omega) only [bX10_tellGap_0, sp_X10_copy, ka, la, e11, q_ci, q_cl, q_ild, q_lld, q_ald, q_ist, q_ast, q_lst, q_inc, q_b2, q_d2, q_u1, q_l2, q_ld2, q_lsh, q_lcmp, q_i2l, q_l2i, q_dupi, q_dupr, q_dup2, q_popi, q_popr, q_if1, q_if2, q_nn, q_sw, q_swn, q_swc, q_gf, q_gr, q_pf, q_pz, q_pc, q_ia, q_is, q_cs, q_zs, q_la, q_lw, q_aa, q_al, q_gs, q_acp, q_m2, q_m1, q_ir, q_zr, q_lr, q_ar, q_vr, q_cN0, q_cSX0, q_cV0, q_cVX0, q_cN1, q_cSX1, q_cV1, q_cVX1, q_cN2, q_cSX2, q_cV2, q_cVX2, q_cN3, q_cSX3, q_cV3, q_cVX3, q_cN4, q_cSX4, q_cV4, q_cVX4, q_cN5, q_cSX5, q_cV5, q_cVX5, q_cN6, q_cSX6, q_cV6, q_cVX6, q_th, q_sh0, q_sh1, q_sh2, q_sh3, q_sh4, q_toL0, q_toL1, q_gl0, q_gls, q_sl0, q_sls, q_k10, q_k1s, q_lgi, q_lgr, q_lgl, q_lgn, Bool.not_false, and_true, true_and, nz_2, nz_4, nz_5, nz_8, nz_10, nz_12, nz_14, nz_16, nz_40, nz_41, nz_64, nz_100, nz_1000, nz_1024, nz_4096, nz_10000, nz_100000, not_false_eq_true, bI_0, nI_add, pk_mul, nI_lt', nI_le', nI_eq', nI_z, nI_p, nI_e0, nI_l0, nI_le0, nI_clamp, up_eq, up_ne, not_true_eq_false, Classical.not_not, false_implies, true_implies, false_and, and_false, or_true, true_or, Nat.add_zero, pk_m1, m1_0, m1_n, m1_p, Nat.zero_le, forall_const, Nat.zero_add, Nat.reduceAdd, Nat.reduceEqDiff, or_false, false_or, Nat.one_ne_zero, l64_2, l64_3, l64_4, l64_5, l64_7, l64_9, l64_10, l64_11, l64_15, l64_20, l64_30, l64_40, l64_60, l64_99, l64_255, l64_999, le64l, le64r, le64b, le64n, rset_eq, rset_upd, rset_rset, upd_nep, upd_eqp, ix21_4k, ix21_1, ix21_2, ix21_3, ix21_4, ix21_5, ix21_6, ix21_7, ix21_8, ix21_9, ix21_10, ix76_1, ix76_2, ix76_3, ix100_1, ix100_2, ix100_3]
      refine ⟨w11, 133, 132, 11, rfl, rfl, rfl, by omega, by omega, by omega, by omega, Or.inr (by omega), ?_⟩
      have ec : cpy (σ a) (σ a) 133 132 11 11 = nI 12 := by unfold cpy; rw [if_neg (by omega)]; exact e11
      have e1211 : nI 12 - nI 1 = nI 11 := by rw [pk_sub (by omega)]
      simp (disch := omega) only [ka, la, ec, e1211, q_ci, q_cl, q_ild, q_lld, q_ald, q_ist, q_ast, q_lst, q_inc, q_b2, q_d2, q_u1, q_l2, q_ld2, q_lsh, q_lcmp, q_i2l, q_l2i, q_dupi, q_dupr, q_dup2, q_popi, q_popr, q_if1, q_if2, q_nn, q_sw, q_swn, q_swc, q_gf, q_gr, q_pf, q_pz, q_pc, q_ia, q_is, q_cs, q_zs, q_la, q_lw, q_aa, q_al, q_gs, q_acp, q_m2, q_m1, q_ir, q_zr, q_lr, q_ar, q_vr, q_cN0, q_cSX0, q_cV0, q_cVX0, q_cN1, q_cSX1, q_cV1, q_cVX1, q_cN2, q_cSX2, q_cV2, q_cVX2, q_cN3, q_cSX3, q_cV3, q_cVX3, q_cN4, q_cSX4, q_cV4, q_cVX4, q_cN5, q_cSX5, q_cV5, q_cVX5, q_cN6, q_cSX6, q_cV6, q_cVX6, q_th, q_sh0, q_sh1, q_sh2, q_sh3, q_sh4, q_toL0, q_toL1, q_gl0, q_gls, q_sl0, q_sls, q_k10, q_k1s, q_lgi, q_lgr, q_lgl, q_lgn, Bool.not_false, and_true, true_and, nz_2, nz_4, nz_5, nz_8, nz_10, nz_12, nz_14, nz_16, nz_40, nz_41, nz_64, nz_100, nz_1000, nz_1024, nz_4096, nz_10000, nz_100000, not_false_eq_true, bI_0, nI_add, pk_mul, nI_lt', nI_le', nI_eq', nI_z, nI_p, nI_e0, nI_l0, nI_le0, nI_clamp, up_eq, up_ne, not_true_eq_false, Classical.not_not, false_implies, true_implies, false_and, and_false, or_true, true_or, Nat.add_zero, pk_m1, m1_0, m1_n, m1_p, Nat.zero_le, forall_const, Nat.zero_add, Nat.reduceAdd, Nat.reduceEqDiff, or_false, false_or, Nat.one_ne_zero, l64_2, l64_3, l64_4, l64_5, l64_7, l64_9, l64_10, l64_11, l64_15, l64_20, l64_30, l64_40, l64_60, l64_99, l64_255, l64_999, le64l, le64r, le64b, le64n, rset_eq, rset_upd, rset_rset, upd_nep, upd_eqp, ix21_4k, ix21_1, ix21_2, ix21_3, ix21_4, ix21_5, ix21_6, ix21_7, ix21_8, ix21_9, ix21_10, ix76_1, ix76_2, ix76_3, ix100_1, ix100_2, ix100_3]
      refine ⟨w11, w11, H30 _ 11 (by omega) (upd_eqp rfl) (fun i i1 i2 => ?_) (by rw [if_pos h12, List.length_drop, h12]) (fun k x q => ?_)⟩
      · rw [upd_nep i2]; unfold cpy; rw [if_neg (by omega)]
      · rw [if_pos h12] at q
        have hk := getq q
        rw [List.length_drop, h12] at hk
        rw [List.getElem?_drop] at q
        rw [upd_nep (by omega)]; unfold cpy; rw [if_pos (by omega), show 133 + (132 + k - 132) = 132 + (1 + k) by omega]
        exact hR.g _ x q
    · simp (disch := omega) only [bX10_tellGap_0, sp_X10_copy, ka, la, e11, q_ci, q_cl, q_ild, q_lld, q_ald, q_ist, q_ast, q_lst, q_inc, q_b2, q_d2, q_u1, q_l2, q_ld2, q_lsh, q_lcmp, q_i2l, q_l2i, q_dupi, q_dupr, q_dup2, q_popi, q_popr, q_if1, q_if2, q_nn, q_sw, q_swn, q_swc, q_gf, q_gr, q_pf, q_pz, q_pc, q_ia, q_is, q_cs, q_zs, q_la, q_lw, q_aa, q_al, q_gs, q_acp, q_m2, q_m1, q_ir, q_zr, q_lr, q_ar, q_vr, q_cN0, q_cSX0, q_cV0, q_cVX0, q_cN1, q_cSX1, q_cV1, q_cVX1, q_cN2, q_cSX2, q_cV2, q_cVX2, q_cN3, q_cSX3, q_cV3, q_cVX3, q_cN4, q_cSX4, q_cV4, q_cVX4, q_cN5, q_cSX5, q_cV5, q_cVX5, q_cN6, q_cSX6, q_cV6, q_cVX6, q_th, q_sh0, q_sh1, q_sh2, q_sh3, q_sh4, q_toL0, q_toL1, q_gl0, q_gls, q_sl0, q_sls, q_k10, q_k1s, q_lgi, q_lgr, q_lgl, q_lgn, Bool.not_false, and_true, true_and, nz_2, nz_4, nz_5, nz_8, nz_10, nz_12, nz_14, nz_16, nz_40, nz_41, nz_64, nz_100, nz_1000, nz_1024, nz_4096, nz_10000, nz_100000, not_false_eq_true, bI_0, nI_add, pk_mul, nI_lt', nI_le', nI_eq', nI_z, nI_p, nI_e0, nI_l0, nI_le0, nI_clamp, up_eq, up_ne, not_true_eq_false, Classical.not_not, false_implies, true_implies, false_and, and_false, or_true, true_or, Nat.add_zero, pk_m1, m1_0, m1_n, m1_p, Nat.zero_le, forall_const, Nat.zero_add, Nat.reduceAdd, Nat.reduceEqDiff, or_false, false_or, Nat.one_ne_zero, l64_2, l64_3, l64_4, l64_5, l64_7, l64_9, l64_10, l64_11, l64_15, l64_20, l64_30, l64_40, l64_60, l64_99, l64_255, l64_999, le64l, le64r, le64b, le64n, rset_eq, rset_upd, rset_rset, upd_nep, upd_eqp, ix21_4k, ix21_1, ix21_2, ix21_3, ix21_4, ix21_5, ix21_6, ix21_7, ix21_8, ix21_9, ix21_10, ix76_1, ix76_2, ix76_3, ix100_1, ix100_2, ix100_3]
      refine ⟨w11, fun _ => H30 (σ a) n.2.2.2.length (by omega) e11 (fun _ _ _ => rfl) (by rw [if_neg h12]) (by rw [if_neg h12]; exact hR.g), fun q => absurd q h12⟩
set_option maxRecDepth 20000 in
set_option maxHeartbeats 4000000 in
theorem ok_X10_dropFirstBack {l : Launch} (hl : l.stackTraces = false) : ab_OkN l yX10_dropFirstBack (Cond.code yX10_dropFirstBack cX10_dropFirstBack 2 none) 1 sp_X10_dropFirstBack := by
  intro w σ As Kn hI h
  unfold sp_X10_dropFirstBack at h
  split at h
  rotate_left 1
  · exact h.elim
  next a =>
    obtain ⟨a, rfl⟩ : ∃ z : Nat, z = a := ⟨_, rfl⟩
    obtain ⟨⟨ka, la⟩, n, b, ls, hR, hb, hlb, hO8, hG12, h⟩ := h
    refine vc_X10_dropFirstBack hl hI  (Nat.le_of_ble_eq_true rfl) (fun M h0 h10 => ?_)
    suffices HS : M 0 [.ref a, .null] [] (rset σ a (σ a)) from (by rw [rset_self] at HS; exact HS)
    refine h0 _ _ _ ?_
    have hr := hR.1
    have w9 : vp_in (nI 9) 304 := vp_in_nI (by omega) (by omega)
    have e9 : σ a 9 = nI (ls.length + 1) := by have := hR.2.2.1; rw [hb] at this; exact this
    have hbk : ∀ k x, (b :: ls)[k]? = some x → σ a (144 + k) = nI (cd3 x) := by rw [← hb]; exact hR.b
    have es : nI (ls.length + 1) - nI 1 = nI ls.length := by rw [pk_sub (by omega)]; rfl
    have H : ∀ d k r, k + d = ls.length → (∀ i, i < 144 → i ≠ 9 → r i = σ a i) → r 9 = nI ls.length → (∀ i x, i < k → ls[i]? = some x → r (144 + i) = nI (cd3 x)) → (∀ i x, k ≤ i → ls[i]? = some x → r (145 + i) = nI (cd3 x)) → M 10 [.ref a, .int (nI k)] [] (rset σ a r) := by
      intro d
      induction d with
      | zero =>
        intro k r hk hri h9 hlo hhi
        refine h10 _ _ _ ?_
        simp (disch := omega) only [bX10_dropFirstBack_10, ka, la, h9, q_ci, q_cl, q_ild, q_lld, q_ald, q_ist, q_ast, q_lst, q_inc, q_b2, q_d2, q_u1, q_l2, q_ld2, q_lsh, q_lcmp, q_i2l, q_l2i, q_dupi, q_dupr, q_dup2, q_popi, q_popr, q_if1, q_if2, q_nn, q_sw, q_swn, q_swc, q_gf, q_gr, q_pf, q_pz, q_pc, q_ia, q_is, q_cs, q_zs, q_la, q_lw, q_aa, q_al, q_gs, q_acp, q_m2, q_m1, q_ir, q_zr, q_lr, q_ar, q_vr, q_cN0, q_cSX0, q_cV0, q_cVX0, q_cN1, q_cSX1, q_cV1, q_cVX1, q_cN2, q_cSX2, q_cV2, q_cVX2, q_cN3, q_cSX3, q_cV3, q_cVX3, q_cN4, q_cSX4, q_cV4, q_cVX4, q_cN5, q_cSX5, q_cV5, q_cVX5, q_cN6, q_cSX6, q_cV6, q_cVX6, q_th, q_sh0, q_sh1, q_sh2, q_sh3, q_sh4, q_toL0, q_toL1, q_gl0, q_gls, q_sl0, q_sls, q_k10, q_k1s, q_lgi, q_lgr, q_lgl, q_lgn, Bool.not_false, and_true, true_and, nz_2, nz_4, nz_5, nz_8, nz_10, nz_12, nz_14, nz_16, nz_40, nz_41, nz_64, nz_100, nz_1000, nz_1024, nz_4096, nz_10000, nz_100000, not_false_eq_true, bI_0, nI_add, pk_mul, nI_lt', nI_le', nI_eq', nI_z, nI_p, nI_e0, nI_l0, nI_le0, nI_clamp, up_eq, up_ne, not_true_eq_false, Classical.not_not, false_implies, true_implies, false_and, and_false, or_true, true_or, Nat.add_zero, pk_m1, m1_0, m1_n, m1_p, Nat.zero_le, forall_const, Nat.zero_add, Nat.reduceAdd, Nat.reduceEqDiff, or_false, false_or, Nat.one_ne_zero, l64_2, l64_3, l64_4, l64_5, l64_7, l64_9, l64_10, l64_11, l64_15, l64_20, l64_30, l64_40, l64_60, l64_99, l64_255, l64_999, le64l, le64r, le64b, le64n, rset_eq, rset_upd, rset_rset, upd_nep, upd_eqp, ix21_4k, ix21_1, ix21_2, ix21_3, ix21_4, ix21_5, ix21_6, ix21_7, ix21_8, ix21_9, ix21_10, ix76_1, ix76_2, ix76_3, ix100_1, ix100_2, ix100_3]
        refine ⟨w9, fun _ => h r ?_, fun q => absurd (by omega) q⟩
        refine RM.mk (fun i h1 h2 h3 h4 => (hri i (by omega) h2).trans (hr i h1 h2 h3 h4)) ((hri 10 (by omega) (by omega)).trans hR.2.1) h9 ((hri 11 (by omega) (by omega)).trans hR.2.2.2.1) (fun j x q => (hR.o j x q).of (fun i i1 i2 => ?_)) (fun j x q => hlo j x (by have := getq q; omega) q) (fun j x q => ?_)
        · have := getq q; exact hri i (by omega) (by omega)
        · have := getq q; rw [hri _ (by omega) (by omega)]; exact hR.g j x q
      | succ d ih =>
        intro k r hk hri h9 hlo hhi
        refine h10 _ _ _ ?_
        have hg : ls[k]? = some ls[k] := List.getElem?_eq_getElem (by omega)
        have v0 : vp_in (nI (144 + k)) 304 := vp_in_nI (by omega) (by omega)
        have v1 : vp_in (nI (145 + k)) 304 := vp_in_nI (by omega) (by omega)
        have ex : 144 + k + 1 = 145 + k := by omega
        simp (disch := omega) only [bX10_dropFirstBack_10, ka, la, h9, ex, q_ci, q_cl, q_ild, q_lld, q_ald, q_ist, q_ast, q_lst, q_inc, q_b2, q_d2, q_u1, q_l2, q_ld2, q_lsh, q_lcmp, q_i2l, q_l2i, q_dupi, q_dupr, q_dup2, q_popi, q_popr, q_if1, q_if2, q_nn, q_sw, q_swn, q_swc, q_gf, q_gr, q_pf, q_pz, q_pc, q_ia, q_is, q_cs, q_zs, q_la, q_lw, q_aa, q_al, q_gs, q_acp, q_m2, q_m1, q_ir, q_zr, q_lr, q_ar, q_vr, q_cN0, q_cSX0, q_cV0, q_cVX0, q_cN1, q_cSX1, q_cV1, q_cVX1, q_cN2, q_cSX2, q_cV2, q_cVX2, q_cN3, q_cSX3, q_cV3, q_cVX3, q_cN4, q_cSX4, q_cV4, q_cVX4, q_cN5, q_cSX5, q_cV5, q_cVX5, q_cN6, q_cSX6, q_cV6, q_cVX6, q_th, q_sh0, q_sh1, q_sh2, q_sh3, q_sh4, q_toL0, q_toL1, q_gl0, q_gls, q_sl0, q_sls, q_k10, q_k1s, q_lgi, q_lgr, q_lgl, q_lgn, Bool.not_false, and_true, true_and, nz_2, nz_4, nz_5, nz_8, nz_10, nz_12, nz_14, nz_16, nz_40, nz_41, nz_64, nz_100, nz_1000, nz_1024, nz_4096, nz_10000, nz_100000, not_false_eq_true, bI_0, nI_add, pk_mul, nI_lt', nI_le', nI_eq', nI_z, nI_p, nI_e0, nI_l0, nI_le0, nI_clamp, up_eq, up_ne, not_true_eq_false, Classical.not_not, false_implies, true_implies, false_and, and_false, or_true, true_or, Nat.add_zero, pk_m1, m1_0, m1_n, m1_p, Nat.zero_le, forall_const, Nat.zero_add, Nat.reduceAdd, Nat.reduceEqDiff, or_false, false_or, Nat.one_ne_zero, l64_2, l64_3, l64_4, l64_5, l64_7, l64_9, l64_10, l64_11, l64_15, l64_20, l64_30, l64_40, l64_60, l64_99, l64_255, l64_999, le64l, le64r, le64b, le64n, rset_eq, rset_upd, rset_rset, upd_nep, upd_eqp, ix21_4k, ix21_1, ix21_2, ix21_3, ix21_4, ix21_5, ix21_6, ix21_7, ix21_8, ix21_9, ix21_10, ix76_1, ix76_2, ix76_3, ix100_1, ix100_2, ix100_3]
        refine ⟨w9, fun q => absurd q (by omega), fun _ => ⟨v1, v0, ih (k + 1) _ (by omega) (fun i i1 i2 => by rw [upd_nep (by omega)]; exact hri i i1 i2) (by rw [upd_nep (by omega)]; exact h9) (fun i x hi hx => ?_) (fun i x hi hx => by rw [upd_nep (by omega)]; exact hhi i x (by omega) hx)⟩⟩
        by_cases hik : i = k
        · subst hik
          rw [upd_eqp rfl]; exact hhi i x (Nat.le_refl _) hx
        · rw [upd_nep (by omega)]; exact hlo i x (by omega) hx
    simp (disch := omega) only [bX10_dropFirstBack_0, ka, la, e9, es, q_ci, q_cl, q_ild, q_lld, q_ald, q_ist, q_ast, q_lst, q_inc, q_b2, q_d2, q_u1, q_l2, q_ld2, q_lsh, q_lcmp, q_i2l, q_l2i, q_dupi, q_dupr, q_dup2, q_popi, q_popr, q_if1, q_if2, q_nn, q_sw, q_swn, q_swc, q_gf, q_gr, q_pf, q_pz, q_pc, q_ia, q_is, q_cs, q_zs, q_la, q_lw, q_aa, q_al, q_gs, q_acp, q_m2, q_m1, q_ir, q_zr, q_lr, q_ar, q_vr, q_cN0, q_cSX0, q_cV0, q_cVX0, q_cN1, q_cSX1, q_cV1, q_cVX1, q_cN2, q_cSX2, q_cV2, q_cVX2, q_cN3, q_cSX3, q_cV3, q_cVX3, q_cN4, q_cSX4, q_cV4, q_cVX4, q_cN5, q_cSX5, q_cV5, q_cVX5, q_cN6, q_cSX6, q_cV6, q_cVX6, q_th, q_sh0, q_sh1, q_sh2, q_sh3, q_sh4, q_toL0, q_toL1, q_gl0, q_gls, q_sl0, q_sls, q_k10, q_k1s, q_lgi, q_lgr, q_lgl, q_lgn, Bool.not_false, and_true, true_and, nz_2, nz_4, nz_5, nz_8, nz_10, nz_12, nz_14, nz_16, nz_40, nz_41, nz_64, nz_100, nz_1000, nz_1024, nz_4096, nz_10000, nz_100000, not_false_eq_true, bI_0, nI_add, pk_mul, nI_lt', nI_le', nI_eq', nI_z, nI_p, nI_e0, nI_l0, nI_le0, nI_clamp, up_eq, up_ne, not_true_eq_false, Classical.not_not, false_implies, true_implies, false_and, and_false, or_true, true_or, Nat.add_zero, pk_m1, m1_0, m1_n, m1_p, Nat.zero_le, forall_const, Nat.zero_add, Nat.reduceAdd, Nat.reduceEqDiff, or_false, false_or, Nat.one_ne_zero, l64_2, l64_3, l64_4, l64_5, l64_7, l64_9, l64_10, l64_11, l64_15, l64_20, l64_30, l64_40, l64_60, l64_99, l64_255, l64_999, le64l, le64r, le64b, le64n, rset_eq, rset_upd, rset_rset, upd_nep, upd_eqp, ix21_4k, ix21_1, ix21_2, ix21_3, ix21_4, ix21_5, ix21_6, ix21_7, ix21_8, ix21_9, ix21_10, ix76_1, ix76_2, ix76_3, ix100_1, ix100_2, ix100_3]
    refine ⟨w9, w9, H ls.length 0 _ (by omega) (fun i i1 i2 => upd_nep i2) (upd_eqp rfl) (fun i x hi _ => absurd hi (by omega)) (fun i x _ hx => ?_)⟩
    rw [upd_nep (by omega), show 145 + i = 144 + (i + 1) by omega]
    exact hbk (i + 1) x (by rw [List.getElem?_cons_succ]; exact hx)
theorem cd_div {y : nB} (h1 : y.2.1 < 10) (h2 : y.2.2 < 10) : cd3 y / 100 = y.1 := by unfold cd3; omega
theorem cd_mid {y : nB} (h1 : y.2.1 < 10) (h2 : y.2.2 < 10) : cd3 y / 10 % 10 = y.2.1 := by unfold cd3; omega
theorem cd_low {y : nB} (h1 : y.2.1 < 10) (h2 : y.2.2 < 10) : cd3 y % 10 = y.2.2 := by unfold cd3; omega
theorem cd_lt {y : nB} (h0 : y.1 ≤ 300000) (h1 : y.2.1 < 10) (h2 : y.2.2 < 10) : cd3 y < 2 ^ 30 := by unfold cd3; omega
set_option maxRecDepth 20000 in
set_option maxHeartbeats 4000000 in
theorem ok_X10_sendBack {l : Launch} (hl : l.stackTraces = false) : ab_OkN l yX10_sendBack (Cond.code yX10_sendBack cX10_sendBack 5 none) 1 sp_X10_sendBack := by
  intro w σ As Kn hI h
  unfold sp_X10_sendBack at h
  split at h
  rotate_left 1
  · exact h.elim
  next a p q m =>
    obtain ⟨a, rfl⟩ : ∃ z : Nat, z = a := ⟨_, rfl⟩
    obtain ⟨⟨ka, la⟩, n, x, hR, hW, hlen, rfl, rfl, rfl, hx1, hx2, hx3, h⟩ := h
    refine vc_X10_sendBack hl hI  (Nat.le_of_ble_eq_true rfl) (fun M h0 h6 h52 => ?_)
    suffices HS : M 0 [.ref a, .int (nI x.1), .int (nI x.2.1), .int (nI x.2.2), .null] [] (rset σ a (σ a)) from (by rw [rset_self] at HS; exact HS)
    refine h0 _ _ _ ?_
    have hr := hR.1
    obtain ⟨z0, z1, z2, z3, z4, z5, z6, z7, z8, z9, z10⟩ := id hW
    have w9 : vp_in (nI 9) 304 := vp_in_nI (by omega) (by omega)
    have e9 := hR.2.2.1
    generalize hls : n.2.2.1 = ls at *
    have z25 := z2.2
    have hbk := hR.b
    rw [hls] at hbk
    have hfin : ∀ r k, k = n_pos ls x.1 ls.length → (∀ i, i < 144 → r i = σ a i) → (∀ i y, i < k → ls[i]? = some y → r (144 + i) = nI (cd3 y)) → (∀ i y, k ≤ i → ls[i]? = some y → r (145 + i) = nI (cd3 y)) →
        M 52 [.ref a, .int (nI x.1), .int (nI x.2.1), .int (nI x.2.2), .int (nI k)] [] (rset σ a r) := by
      intro r k hk hri hlo hhi
      have hkl : k ≤ ls.length := by rw [hk]; exact n_pos_le _ _ _
      refine h52 _ _ _ ?_
      have vk : vp_in (nI (144 + k)) 304 := vp_in_nI (by omega) (by omega)
      have r9 : r 9 = nI ls.length := (hri 9 (by omega)).trans e9
      simp (disch := omega) only [bX10_sendBack_52, ka, la, r9, q_ci, q_cl, q_ild, q_lld, q_ald, q_ist, q_ast, q_lst, q_inc, q_b2, q_d2, q_u1, q_l2, q_ld2, q_lsh, q_lcmp, q_i2l, q_l2i, q_dupi, q_dupr, q_dup2, q_popi, q_popr, q_if1, q_if2, q_nn, q_sw, q_swn, q_swc, q_gf, q_gr, q_pf, q_pz, q_pc, q_ia, q_is, q_cs, q_zs, q_la, q_lw, q_aa, q_al, q_gs, q_acp, q_m2, q_m1, q_ir, q_zr, q_lr, q_ar, q_vr, q_cN0, q_cSX0, q_cV0, q_cVX0, q_cN1, q_cSX1, q_cV1, q_cVX1, q_cN2, q_cSX2, q_cV2, q_cVX2, q_cN3, q_cSX3, q_cV3, q_cVX3, q_cN4, q_cSX4, q_cV4, q_cVX4, q_cN5, q_cSX5, q_cV5, q_cVX5, q_cN6, q_cSX6, q_cV6, q_cVX6, q_th, q_sh0, q_sh1, q_sh2, q_sh3, q_sh4, q_toL0, q_toL1, q_gl0, q_gls, q_sl0, q_sls, q_k10, q_k1s, q_lgi, q_lgr, q_lgl, q_lgn, Bool.not_false, and_true, true_and, nz_2, nz_4, nz_5, nz_8, nz_10, nz_12, nz_14, nz_16, nz_40, nz_41, nz_64, nz_100, nz_1000, nz_1024, nz_4096, nz_10000, nz_100000, not_false_eq_true, bI_0, nI_add, pk_mul, nI_lt', nI_le', nI_eq', nI_z, nI_p, nI_e0, nI_l0, nI_le0, nI_clamp, up_eq, up_ne, not_true_eq_false, Classical.not_not, false_implies, true_implies, false_and, and_false, or_true, true_or, Nat.add_zero, pk_m1, m1_0, m1_n, m1_p, Nat.zero_le, forall_const, Nat.zero_add, Nat.reduceAdd, Nat.reduceEqDiff, or_false, false_or, Nat.one_ne_zero, l64_2, l64_3, l64_4, l64_5, l64_7, l64_9, l64_10, l64_11, l64_15, l64_20, l64_30, l64_40, l64_60, l64_99, l64_255, l64_999, le64l, le64r, le64b, le64n, rset_eq, rset_upd, rset_rset, upd_nep, upd_eqp, ix21_4k, ix21_1, ix21_2, ix21_3, ix21_4, ix21_5, ix21_6, ix21_7, ix21_8, ix21_9, ix21_10, ix76_1, ix76_2, ix76_3, ix100_1, ix100_2, ix100_3]
      refine ⟨vk, w9, w9, h _ ?_⟩
      refine RM.mk (fun i h1 h2 h3 h4 => ?_) ?_ ?_ ?_ (fun j y q => (hR.o j y q).of (fun i i1 i2 => ?_)) (fun j y q => ?_) (fun j y q => ?_)
      · rw [upd_nep h2, upd_nep (by omega), hri i (by omega)]; exact hr i h1 h2 h3 h4
      · rw [upd_nep (by omega), upd_nep (by omega), hri _ (by omega)]; exact hR.2.1
      · rw [upd_eqp rfl, n_ins_len]
      · rw [upd_nep (by omega), upd_nep (by omega), hri _ (by omega)]; exact hR.2.2.2.1
      · have := getq q
        rw [upd_nep (by omega), upd_nep (by omega), hri _ (by omega)]
      · rw [upd_nep (by omega)]
        rw [n_ins, ← hk] at q
        have htl : (ls.take k).length = k := by rw [List.length_take]; omega
        by_cases h1i : j < k
        · rw [List.getElem?_append_left (by omega), List.getElem?_take_of_lt h1i] at q
          rw [upd_nep (by omega)]; exact hlo j y h1i q
        · by_cases h2i : j = k
          · subst h2i
            rw [List.getElem?_append_right (by omega), htl, Nat.sub_self] at q
            cases q
            rw [upd_eqp rfl]; rfl
          · obtain ⟨i, rfl⟩ : ∃ i, j = i + 1 := ⟨j - 1, by omega⟩
            rw [List.getElem?_append_right (by omega), htl, show i + 1 - k = (i - k) + 1 by omega, List.getElem?_cons_succ, List.getElem?_drop, show k + (i - k) = i by omega] at q
            rw [upd_nep (by omega), show 144 + (i + 1) = 145 + i by omega]
            exact hhi i y (by omega) q
      · have := getq q
        rw [upd_nep (by omega), upd_nep (by omega), hri _ (by omega)]; exact hR.g j y q
    have loop : ∀ k r, k ≤ ls.length → n_pos ls x.1 k = n_pos ls x.1 ls.length → (∀ i, i < 144 → r i = σ a i) → (∀ i y, i < k → ls[i]? = some y → r (144 + i) = nI (cd3 y)) → (∀ i y, k ≤ i → ls[i]? = some y → r (145 + i) = nI (cd3 y)) →
        M 6 [.ref a, .int (nI x.1), .int (nI x.2.1), .int (nI x.2.2), .int (nI k)] [] (rset σ a r) := by
      intro k
      induction k with
      | zero =>
        intro r hk hp hri hlo hhi
        refine h6 _ _ _ ?_
        have f52 := hfin r 0 (by rw [← hp]; rfl) hri hlo hhi
        simp (disch := omega) only [bX10_sendBack_6, q_ci, q_cl, q_ild, q_lld, q_ald, q_ist, q_ast, q_lst, q_inc, q_b2, q_d2, q_u1, q_l2, q_ld2, q_lsh, q_lcmp, q_i2l, q_l2i, q_dupi, q_dupr, q_dup2, q_popi, q_popr, q_if1, q_if2, q_nn, q_sw, q_swn, q_swc, q_gf, q_gr, q_pf, q_pz, q_pc, q_ia, q_is, q_cs, q_zs, q_la, q_lw, q_aa, q_al, q_gs, q_acp, q_m2, q_m1, q_ir, q_zr, q_lr, q_ar, q_vr, q_cN0, q_cSX0, q_cV0, q_cVX0, q_cN1, q_cSX1, q_cV1, q_cVX1, q_cN2, q_cSX2, q_cV2, q_cVX2, q_cN3, q_cSX3, q_cV3, q_cVX3, q_cN4, q_cSX4, q_cV4, q_cVX4, q_cN5, q_cSX5, q_cV5, q_cVX5, q_cN6, q_cSX6, q_cV6, q_cVX6, q_th, q_sh0, q_sh1, q_sh2, q_sh3, q_sh4, q_toL0, q_toL1, q_gl0, q_gls, q_sl0, q_sls, q_k10, q_k1s, q_lgi, q_lgr, q_lgl, q_lgn, Bool.not_false, and_true, true_and, nz_2, nz_4, nz_5, nz_8, nz_10, nz_12, nz_14, nz_16, nz_40, nz_41, nz_64, nz_100, nz_1000, nz_1024, nz_4096, nz_10000, nz_100000, not_false_eq_true, bI_0, nI_add, pk_mul, nI_lt', nI_le', nI_eq', nI_z, nI_p, nI_e0, nI_l0, nI_le0, nI_clamp, up_eq, up_ne, not_true_eq_false, Classical.not_not, false_implies, true_implies, false_and, and_false, or_true, true_or, Nat.add_zero, pk_m1, m1_0, m1_n, m1_p, Nat.zero_le, forall_const, Nat.zero_add, Nat.reduceAdd, Nat.reduceEqDiff, or_false, false_or, Nat.one_ne_zero, l64_2, l64_3, l64_4, l64_5, l64_7, l64_9, l64_10, l64_11, l64_15, l64_20, l64_30, l64_40, l64_60, l64_99, l64_255, l64_999, le64l, le64r, le64b, le64n, rset_eq, rset_upd, rset_rset, upd_nep, upd_eqp, ix21_4k, ix21_1, ix21_2, ix21_3, ix21_4, ix21_5, ix21_6, ix21_7, ix21_8, ix21_9, ix21_10, ix76_1, ix76_2, ix76_3, ix100_1, ix100_2, ix100_3]
        first
          | exact f52
          | exact ⟨fun _ => f52, fun q => absurd rfl q⟩
      | succ k ih =>
        intro r hk hp hri hlo hhi
        have hg : ls[k]? = some ls[k] := List.getElem?_eq_getElem (by omega)
        have ek := hlo k _ (by omega) hg
        obtain ⟨b1, b2, b3⟩ := z8 _ (List.getElem_mem (show k < ls.length by omega))
        have hgd : (ls.getD k (0, 0, 0)) = ls[k] := by rw [List.getD_eq_getElem?_getD, hg]; rfl
        have hp0 := hp
        rw [n_pos, hgd] at hp
        generalize hy : ls[k] = y at ek b1 b2 b3 hp hg
        have edv := cd_div (y := y) (by omega) (by omega)
        have hcl := cd_lt (y := y) b1 (by omega) (by omega)
        have es : nI (144 + (k + 1)) - nI 1 = nI (144 + k) := by rw [pk_sub (by omega)]; rfl
        have v0 : vp_in (nI (144 + k)) 304 := vp_in_nI (by omega) (by omega)
        have v1 : vp_in (nI (144 + (k + 1))) 304 := vp_in_nI (by omega) (by omega)
        refine h6 _ _ _ ?_
        simp (disch := omega) only [bX10_sendBack_6, ka, la, es, ek, pk_div, edv, q_ci, q_cl, q_ild, q_lld, q_ald, q_ist, q_ast, q_lst, q_inc, q_b2, q_d2, q_u1, q_l2, q_ld2, q_lsh, q_lcmp, q_i2l, q_l2i, q_dupi, q_dupr, q_dup2, q_popi, q_popr, q_if1, q_if2, q_nn, q_sw, q_swn, q_swc, q_gf, q_gr, q_pf, q_pz, q_pc, q_ia, q_is, q_cs, q_zs, q_la, q_lw, q_aa, q_al, q_gs, q_acp, q_m2, q_m1, q_ir, q_zr, q_lr, q_ar, q_vr, q_cN0, q_cSX0, q_cV0, q_cVX0, q_cN1, q_cSX1, q_cV1, q_cVX1, q_cN2, q_cSX2, q_cV2, q_cVX2, q_cN3, q_cSX3, q_cV3, q_cVX3, q_cN4, q_cSX4, q_cV4, q_cVX4, q_cN5, q_cSX5, q_cV5, q_cVX5, q_cN6, q_cSX6, q_cV6, q_cVX6, q_th, q_sh0, q_sh1, q_sh2, q_sh3, q_sh4, q_toL0, q_toL1, q_gl0, q_gls, q_sl0, q_sls, q_k10, q_k1s, q_lgi, q_lgr, q_lgl, q_lgn, Bool.not_false, and_true, true_and, nz_2, nz_4, nz_5, nz_8, nz_10, nz_12, nz_14, nz_16, nz_40, nz_41, nz_64, nz_100, nz_1000, nz_1024, nz_4096, nz_10000, nz_100000, not_false_eq_true, bI_0, nI_add, pk_mul, nI_lt', nI_le', nI_eq', nI_z, nI_p, nI_e0, nI_l0, nI_le0, nI_clamp, up_eq, up_ne, not_true_eq_false, Classical.not_not, false_implies, true_implies, false_and, and_false, or_true, true_or, Nat.add_zero, pk_m1, m1_0, m1_n, m1_p, Nat.zero_le, forall_const, Nat.zero_add, Nat.reduceAdd, Nat.reduceEqDiff, or_false, false_or, Nat.one_ne_zero, l64_2, l64_3, l64_4, l64_5, l64_7, l64_9, l64_10, l64_11, l64_15, l64_20, l64_30, l64_40, l64_60, l64_99, l64_255, l64_999, le64l, le64r, le64b, le64n, rset_eq, rset_upd, rset_rset, upd_nep, upd_eqp, ix21_4k, ix21_1, ix21_2, ix21_3, ix21_4, ix21_5, ix21_6, ix21_7, ix21_8, ix21_9, ix21_10, ix76_1, ix76_2, ix76_3, ix100_1, ix100_2, ix100_3]
        refine ⟨v0, fun q => hfin r (k + 1) ?_ hri hlo hhi, fun q => ⟨v0, v1, ?_⟩⟩
        · rw [if_neg (by omega)] at hp; exact hp
        · rw [if_pos (by omega)] at hp
          refine ih _ (by omega) hp (fun i i1 => by rw [upd_nep (by omega)]; exact hri i i1) (fun i z hi hz => by rw [upd_nep (by omega)]; exact hlo i z (by omega) hz) (fun i z hi hz => ?_)
          by_cases hik : i = k
          · subst hik
            rw [hg] at hz; cases hz
            rw [upd_eqp (by omega)]
          · rw [upd_nep (by omega)]; exact hhi i z (by omega) hz
    simp (disch := omega) only [bX10_sendBack_0, ka, la, e9, q_ci, q_cl, q_ild, q_lld, q_ald, q_ist, q_ast, q_lst, q_inc, q_b2, q_d2, q_u1, q_l2, q_ld2, q_lsh, q_lcmp, q_i2l, q_l2i, q_dupi, q_dupr, q_dup2, q_popi, q_popr, q_if1, q_if2, q_nn, q_sw, q_swn, q_swc, q_gf, q_gr, q_pf, q_pz, q_pc, q_ia, q_is, q_cs, q_zs, q_la, q_lw, q_aa, q_al, q_gs, q_acp, q_m2, q_m1, q_ir, q_zr, q_lr, q_ar, q_vr, q_cN0, q_cSX0, q_cV0, q_cVX0, q_cN1, q_cSX1, q_cV1, q_cVX1, q_cN2, q_cSX2, q_cV2, q_cVX2, q_cN3, q_cSX3, q_cV3, q_cVX3, q_cN4, q_cSX4, q_cV4, q_cVX4, q_cN5, q_cSX5, q_cV5, q_cVX5, q_cN6, q_cSX6, q_cV6, q_cVX6, q_th, q_sh0, q_sh1, q_sh2, q_sh3, q_sh4, q_toL0, q_toL1, q_gl0, q_gls, q_sl0, q_sls, q_k10, q_k1s, q_lgi, q_lgr, q_lgl, q_lgn, Bool.not_false, and_true, true_and, nz_2, nz_4, nz_5, nz_8, nz_10, nz_12, nz_14, nz_16, nz_40, nz_41, nz_64, nz_100, nz_1000, nz_1024, nz_4096, nz_10000, nz_100000, not_false_eq_true, bI_0, nI_add, pk_mul, nI_lt', nI_le', nI_eq', nI_z, nI_p, nI_e0, nI_l0, nI_le0, nI_clamp, up_eq, up_ne, not_true_eq_false, Classical.not_not, false_implies, true_implies, false_and, and_false, or_true, true_or, Nat.add_zero, pk_m1, m1_0, m1_n, m1_p, Nat.zero_le, forall_const, Nat.zero_add, Nat.reduceAdd, Nat.reduceEqDiff, or_false, false_or, Nat.one_ne_zero, l64_2, l64_3, l64_4, l64_5, l64_7, l64_9, l64_10, l64_11, l64_15, l64_20, l64_30, l64_40, l64_60, l64_99, l64_255, l64_999, le64l, le64r, le64b, le64n, rset_eq, rset_upd, rset_rset, upd_nep, upd_eqp, ix21_4k, ix21_1, ix21_2, ix21_3, ix21_4, ix21_5, ix21_6, ix21_7, ix21_8, ix21_9, ix21_10, ix76_1, ix76_2, ix76_3, ix100_1, ix100_2, ix100_3]
    exact ⟨w9, loop ls.length (σ a) (Nat.le_refl _) rfl (fun _ _ => rfl) (fun i y _ hy => hbk i y hy) (fun i y hi hy => absurd (getq hy) (by omega))⟩
set_option maxRecDepth 20000 in
set_option maxHeartbeats 4000000 in
theorem ok_X10_dropSend {l : Launch} (hl : l.stackTraces = false) : ab_OkN l yX10_dropSend (Cond.code yX10_dropSend cX10_dropSend 3 none) 2 sp_X10_dropSend := by
  intro w σ As Kn hI h
  unfold sp_X10_dropSend at h
  split at h
  rotate_left 1
  · exact h.elim
  next a i =>
    obtain ⟨a, rfl⟩ : ∃ z : Nat, z = a := ⟨_, rfl⟩
    obtain ⟨⟨ka, la⟩, n, k0, hR, rfl, hk0, hl8, h⟩ := h
    refine vc_X10_dropSend hl hI (ok_X10_sendAt hl) (ok_X10_copy hl) (Nat.le_of_ble_eq_true rfl) (fun M h0 h10 => ?_)
    suffices HS : M 0 [.ref a, .int (nI k0), .null] [] (rset σ a (σ a)) from (by rw [rset_self] at HS; exact HS)
    refine h0 _ _ _ ?_
    have hr := hR.1
    have w10 : vp_in (nI 10) 304 := vp_in_nI (by omega) (by omega)
    have e10 := hR.2.1
    have hO := hR.o
    generalize hls : n.2.1 = ls at *
    obtain ⟨c, hc⟩ : ∃ c, ls.length = c + 1 := ⟨ls.length - 1, by omega⟩
    have hle : (ls.eraseIdx k0).length = c := by rw [List.length_eraseIdx_of_lt hk0]; omega
    rw [hc] at e10
    have es : nI (c + 1) - nI 1 = nI c := by rw [pk_sub (by omega)]; rfl
    have H : ∀ d k r, k + d = c → k0 ≤ k → (∀ i, (i < 100 ∨ 132 ≤ i) → i ≠ 10 → r i = σ a i) → r 10 = nI c → (∀ i x, i < k → (ls.eraseIdx k0)[i]? = some x → O4 r i x) → (∀ i x, k < i → ls[i]? = some x → O4 r i x) → M 10 [.ref a, .int (nI k0), .int (nI k)] [] (rset σ a r) := by
      intro d
      induction d with
      | zero =>
        intro k r hk hkk hri h10' hlo hhi
        refine h10 _ _ _ ?_
        simp (disch := omega) only [bX10_dropSend_10, ka, la, h10', q_ci, q_cl, q_ild, q_lld, q_ald, q_ist, q_ast, q_lst, q_inc, q_b2, q_d2, q_u1, q_l2, q_ld2, q_lsh, q_lcmp, q_i2l, q_l2i, q_dupi, q_dupr, q_dup2, q_popi, q_popr, q_if1, q_if2, q_nn, q_sw, q_swn, q_swc, q_gf, q_gr, q_pf, q_pz, q_pc, q_ia, q_is, q_cs, q_zs, q_la, q_lw, q_aa, q_al, q_gs, q_acp, q_m2, q_m1, q_ir, q_zr, q_lr, q_ar, q_vr, q_cN0, q_cSX0, q_cV0, q_cVX0, q_cN1, q_cSX1, q_cV1, q_cVX1, q_cN2, q_cSX2, q_cV2, q_cVX2, q_cN3, q_cSX3, q_cV3, q_cVX3, q_cN4, q_cSX4, q_cV4, q_cVX4, q_cN5, q_cSX5, q_cV5, q_cVX5, q_cN6, q_cSX6, q_cV6, q_cVX6, q_th, q_sh0, q_sh1, q_sh2, q_sh3, q_sh4, q_toL0, q_toL1, q_gl0, q_gls, q_sl0, q_sls, q_k10, q_k1s, q_lgi, q_lgr, q_lgl, q_lgn, Bool.not_false, and_true, true_and, nz_2, nz_4, nz_5, nz_8, nz_10, nz_12, nz_14, nz_16, nz_40, nz_41, nz_64, nz_100, nz_1000, nz_1024, nz_4096, nz_10000, nz_100000, not_false_eq_true, bI_0, nI_add, pk_mul, nI_lt', nI_le', nI_eq', nI_z, nI_p, nI_e0, nI_l0, nI_le0, nI_clamp, up_eq, up_ne, not_true_eq_false, Classical.not_not, false_implies, true_implies, false_and, and_false, or_true, true_or, Nat.add_zero, pk_m1, m1_0, m1_n, m1_p, Nat.zero_le, forall_const, Nat.zero_add, Nat.reduceAdd, Nat.reduceEqDiff, or_false, false_or, Nat.one_ne_zero, l64_2, l64_3, l64_4, l64_5, l64_7, l64_9, l64_10, l64_11, l64_15, l64_20, l64_30, l64_40, l64_60, l64_99, l64_255, l64_999, le64l, le64r, le64b, le64n, rset_eq, rset_upd, rset_rset, upd_nep, upd_eqp, ix21_4k, ix21_1, ix21_2, ix21_3, ix21_4, ix21_5, ix21_6, ix21_7, ix21_8, ix21_9, ix21_10, ix76_1, ix76_2, ix76_3, ix100_1, ix100_2, ix100_3]
        refine ⟨w10, fun _ => h r ?_, fun q => absurd (by omega) q⟩
        refine RM.mk (fun i h1 h2 h3 h4 => (hri i (by omega) h3).trans (hr i h1 h2 h3 h4)) (by rw [hle]; exact h10') ((hri 9 (by omega) (by omega)).trans hR.2.2.1) ((hri 11 (by omega) (by omega)).trans hR.2.2.2.1) (fun j x q => hlo j x (by have := getq q; omega) q) (fun j x q => (hri _ (by omega) (by omega)).trans (hR.b j x q)) (fun j x q => (hri _ (by omega) (by omega)).trans (hR.g j x q))
      | succ d ih =>
        intro k r hk hkk hri h10' hlo hhi
        refine h10 _ _ _ ?_
        simp (disch := omega) only [bX10_dropSend_10, sp_X10_sendAt, sp_X10_copy, ka, la, h10', q_ci, q_cl, q_ild, q_lld, q_ald, q_ist, q_ast, q_lst, q_inc, q_b2, q_d2, q_u1, q_l2, q_ld2, q_lsh, q_lcmp, q_i2l, q_l2i, q_dupi, q_dupr, q_dup2, q_popi, q_popr, q_if1, q_if2, q_nn, q_sw, q_swn, q_swc, q_gf, q_gr, q_pf, q_pz, q_pc, q_ia, q_is, q_cs, q_zs, q_la, q_lw, q_aa, q_al, q_gs, q_acp, q_m2, q_m1, q_ir, q_zr, q_lr, q_ar, q_vr, q_cN0, q_cSX0, q_cV0, q_cVX0, q_cN1, q_cSX1, q_cV1, q_cVX1, q_cN2, q_cSX2, q_cV2, q_cVX2, q_cN3, q_cSX3, q_cV3, q_cVX3, q_cN4, q_cSX4, q_cV4, q_cVX4, q_cN5, q_cSX5, q_cV5, q_cVX5, q_cN6, q_cSX6, q_cV6, q_cVX6, q_th, q_sh0, q_sh1, q_sh2, q_sh3, q_sh4, q_toL0, q_toL1, q_gl0, q_gls, q_sl0, q_sls, q_k10, q_k1s, q_lgi, q_lgr, q_lgl, q_lgn, Bool.not_false, and_true, true_and, nz_2, nz_4, nz_5, nz_8, nz_10, nz_12, nz_14, nz_16, nz_40, nz_41, nz_64, nz_100, nz_1000, nz_1024, nz_4096, nz_10000, nz_100000, not_false_eq_true, bI_0, nI_add, pk_mul, nI_lt', nI_le', nI_eq', nI_z, nI_p, nI_e0, nI_l0, nI_le0, nI_clamp, up_eq, up_ne, not_true_eq_false, Classical.not_not, false_implies, true_implies, false_and, and_false, or_true, true_or, Nat.add_zero, pk_m1, m1_0, m1_n, m1_p, Nat.zero_le, forall_const, Nat.zero_add, Nat.reduceAdd, Nat.reduceEqDiff, or_false, false_or, Nat.one_ne_zero, l64_2, l64_3, l64_4, l64_5, l64_7, l64_9, l64_10, l64_11, l64_15, l64_20, l64_30, l64_40, l64_60, l64_99, l64_255, l64_999, le64l, le64r, le64b, le64n, rset_eq, rset_upd, rset_rset, upd_nep, upd_eqp, ix21_4k, ix21_1, ix21_2, ix21_3, ix21_4, ix21_5, ix21_6, ix21_7, ix21_8, ix21_9, ix21_10, ix76_1, ix76_2, ix76_3, ix100_1, ix100_2, ix100_3]
        refine ⟨w10, fun q => absurd q (by omega), fun _ => ⟨100 + 4 * (k + 1), 100 + 4 * k, 4, rfl, rfl, rfl, by omega, by omega, by omega, by omega, Or.inr (by omega), ?_⟩⟩
        refine ih (k + 1) _ (by omega) (by omega) (fun i i1 i2 => ?_) ?_ (fun i x hi hx => ?_) (fun i x hi hx => ?_)
        · unfold cpy; rw [if_neg (by omega)]; exact hri i i1 i2
        · unfold cpy; rw [if_neg (by omega)]; exact h10'
        · by_cases hik : i = k
          · subst hik
            rw [List.getElem?_eraseIdx_of_ge hkk] at hx
            have := hhi (i + 1) x (by omega) hx
            unfold O4 cpy at *
            rw [if_pos (by omega), if_pos (by omega), if_pos (by omega), if_pos (by omega), show 100 + 4 * (i + 1) + (100 + 4 * i - (100 + 4 * i)) = 100 + 4 * (i + 1) by omega, show 100 + 4 * (i + 1) + (101 + 4 * i - (100 + 4 * i)) = 101 + 4 * (i + 1) by omega, show 100 + 4 * (i + 1) + (102 + 4 * i - (100 + 4 * i)) = 102 + 4 * (i + 1) by omega, show 100 + 4 * (i + 1) + (103 + 4 * i - (100 + 4 * i)) = 103 + 4 * (i + 1) by omega]
            exact this
          · exact (hlo i x (by omega) hx).of (fun j j1 j2 => by unfold cpy; rw [if_neg (by omega)])
        · exact (hhi i x (by omega) hx).of (fun j j1 j2 => by unfold cpy; rw [if_neg (by omega)])
    simp (disch := omega) only [bX10_dropSend_0, ka, la, e10, es, q_ci, q_cl, q_ild, q_lld, q_ald, q_ist, q_ast, q_lst, q_inc, q_b2, q_d2, q_u1, q_l2, q_ld2, q_lsh, q_lcmp, q_i2l, q_l2i, q_dupi, q_dupr, q_dup2, q_popi, q_popr, q_if1, q_if2, q_nn, q_sw, q_swn, q_swc, q_gf, q_gr, q_pf, q_pz, q_pc, q_ia, q_is, q_cs, q_zs, q_la, q_lw, q_aa, q_al, q_gs, q_acp, q_m2, q_m1, q_ir, q_zr, q_lr, q_ar, q_vr, q_cN0, q_cSX0, q_cV0, q_cVX0, q_cN1, q_cSX1, q_cV1, q_cVX1, q_cN2, q_cSX2, q_cV2, q_cVX2, q_cN3, q_cSX3, q_cV3, q_cVX3, q_cN4, q_cSX4, q_cV4, q_cVX4, q_cN5, q_cSX5, q_cV5, q_cVX5, q_cN6, q_cSX6, q_cV6, q_cVX6, q_th, q_sh0, q_sh1, q_sh2, q_sh3, q_sh4, q_toL0, q_toL1, q_gl0, q_gls, q_sl0, q_sls, q_k10, q_k1s, q_lgi, q_lgr, q_lgl, q_lgn, Bool.not_false, and_true, true_and, nz_2, nz_4, nz_5, nz_8, nz_10, nz_12, nz_14, nz_16, nz_40, nz_41, nz_64, nz_100, nz_1000, nz_1024, nz_4096, nz_10000, nz_100000, not_false_eq_true, bI_0, nI_add, pk_mul, nI_lt', nI_le', nI_eq', nI_z, nI_p, nI_e0, nI_l0, nI_le0, nI_clamp, up_eq, up_ne, not_true_eq_false, Classical.not_not, false_implies, true_implies, false_and, and_false, or_true, true_or, Nat.add_zero, pk_m1, m1_0, m1_n, m1_p, Nat.zero_le, forall_const, Nat.zero_add, Nat.reduceAdd, Nat.reduceEqDiff, or_false, false_or, Nat.one_ne_zero, l64_2, l64_3, l64_4, l64_5, l64_7, l64_9, l64_10, l64_11, l64_15, l64_20, l64_30, l64_40, l64_60, l64_99, l64_255, l64_999, le64l, le64r, le64b, le64n, rset_eq, rset_upd, rset_rset, upd_nep, upd_eqp, ix21_4k, ix21_1, ix21_2, ix21_3, ix21_4, ix21_5, ix21_6, ix21_7, ix21_8, ix21_9, ix21_10, ix76_1, ix76_2, ix76_3, ix100_1, ix100_2, ix100_3]
    refine ⟨w10, w10, H (c - k0) k0 _ (by omega) (Nat.le_refl _) (fun i i1 i2 => upd_nep i2) (upd_eqp rfl) (fun i x hi hx => ?_) (fun i x hi hx => ?_)⟩
    · rw [List.getElem?_eraseIdx_of_lt hi] at hx
      exact (hO i x hx).of (fun j _ _ => upd_nep (by omega))
    · exact (hO i x hx).of (fun j _ _ => upd_nep (by omega))
