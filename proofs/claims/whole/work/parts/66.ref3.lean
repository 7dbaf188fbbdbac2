/-! what the reference's row needs of a net -/
def WQ (n : nT) : Prop := n.1 0 = nI (cl (n.1 0)) ∧ cl (n.1 0) < 200000 ∧ cOK n.1 ∧ n.1 2 = nI (cl (n.1 2)) ∧ cl (n.1 2) ≤ 6 ∧ n.2.1.length ≤ 8 ∧ (∀ o ∈ n.2.1, o.2.1 < cl (n.1 1) ∧ o.2.2.1 ≤ 999 ∧ o.2.2.2 ≤ 99 ∧ o.1 ≤ 300000) ∧ n.2.2.1.length ≤ 150 ∧ (∀ b ∈ n.2.2.1, b.1 ≤ 300000 ∧ b.2.1 < cl (n.1 1) ∧ b.2.2 ≤ 4) ∧ n.2.2.2.length ≤ 12 ∧ ∀ b ∈ n.2.2.2, b.1 ≤ 300000 ∧ b.2.1 < 5 ∧ b.2.2 ≤ 2
theorem WF.q {T : Nat} {n : nT} (h : WF T n) (hT : T < 100000) : WQ n := by
  obtain ⟨hf, hg, ho, hb, hn⟩ := id h
  have hcT := hf.2.1
  refine ⟨hf.1, by omega, h.cOK, hf.2.2.2.2.1, hf.2.2.2.2.2.1, ho.1, fun o q => ?_, hb.len, fun b q => ?_, by have := hn.2.2.1; omega, fun b q => ?_⟩
  · have := ho.2 o q; exact ⟨this.1, this.2.1, this.2.2.1, by omega⟩
  · have := hb.1 b q; exact ⟨by omega, this.2.2.1, this.2.2.2.2⟩
  · have := hn.2.2.2 b q; exact ⟨by omega, this.2.1, this.2.2.2⟩
theorem WFm.q {T m : Nat} {n : nT} (h : WFm T m n) (hT : T < 100000) (hm : m ≤ 5) : WQ n := by
  obtain ⟨hf, hg, ho, hb, hn⟩ := id h
  have hcT := hf.2.1
  refine ⟨hf.1, by omega, h.cOK, hf.2.2.2.2.1, hf.2.2.2.2.2.1, ho.1, fun o q => ?_, by have := hb.lenm; omega, fun b q => ?_, by have := hn.2.2.1; omega, fun b q => ?_⟩
  · have := ho.2 o q; exact ⟨this.1, this.2.1, this.2.2.1, by omega⟩
  · have := hb.1 b q; exact ⟨by omega, this.2.2.1, this.2.2.2.2⟩
  · have := hn.2.2.2 b q; exact ⟨by omega, this.2.1, this.2.2.2⟩
def cd3 (x : nB) : Nat := 100 * x.1 + 10 * x.2.1 + x.2.2
def O4 (r : nF) (i : Nat) (x : nO) : Prop := r (100 + 4 * i) = nI x.1 ∧ r (101 + 4 * i) = nI x.2.1 ∧ r (102 + 4 * i) = nI x.2.2.1 ∧ r (103 + 4 * i) = nI x.2.2.2
theorem RM.mk {r : nF} {f : nF} {O : List nO} {B G : List nB} (h1 : ∀ i, i < 100 → i ≠ 9 → i ≠ 10 → i ≠ 11 → r i = f i) (h2 : r 10 = nI O.length) (h3 : r 9 = nI B.length) (h4 : r 11 = nI G.length) (h5 : ∀ k x, O[k]? = some x → O4 r k x) (h6 : ∀ k x, B[k]? = some x → r (144 + k) = nI (cd3 x)) (h7 : ∀ k x, G[k]? = some x → r (132 + k) = nI (cd3 x)) : RM r (f, O, B, G) := ⟨h1, h2, h3, h4, h5, h6, h7⟩
theorem RM.o {r : nF} {n : nT} (h : RM r n) : ∀ k x, n.2.1[k]? = some x → O4 r k x := h.2.2.2.2.1
theorem RM.b {r : nF} {n : nT} (h : RM r n) : ∀ k x, n.2.2.1[k]? = some x → r (144 + k) = nI (cd3 x) := h.2.2.2.2.2.1
theorem RM.g {r : nF} {n : nT} (h : RM r n) : ∀ k x, n.2.2.2[k]? = some x → r (132 + k) = nI (cd3 x) := h.2.2.2.2.2.2
theorem O4.of {r q : nF} {i : Nat} {x : nO} (h : O4 r i x) (e : ∀ j, 100 + 4 * i ≤ j → j < 104 + 4 * i → q j = r j) : O4 q i x := by
  unfold O4 at h ⊢
  rw [e _ (by omega) (by omega), e _ (by omega) (by omega), e _ (by omega) (by omega), e _ (by omega) (by omega)]
  exact h
/-- one of the numbers changes -/
theorem RM.up {r : nF} {n : nT} (h : RM r n) {i : Nat} (x : Int32) (hi : i < 100) (h9 : i ≠ 9) (h10 : i ≠ 10) (h11 : i ≠ 11) : RM (upd r i x) (upd n.1 i x, n.2) := by
  refine RM.mk (fun j j1 j2 j3 j4 => ?_) ?_ ?_ ?_ (fun k y q => ?_) (fun k y q => ?_) (fun k y q => ?_)
  · by_cases hj : j = i
    · rw [upd_eqp hj, upd_eqp hj]
    · rw [upd_nep hj, upd_nep hj]; exact h.1 j j1 j2 j3 j4
  · rw [upd_nep (by omega)]; exact h.2.1
  · rw [upd_nep (by omega)]; exact h.2.2.1
  · rw [upd_nep (by omega)]; exact h.2.2.2.1
  · exact (h.o k y q).of (fun j _ _ => upd_nep (by omega))
  · rw [upd_nep (by omega)]; exact h.b k y q
  · rw [upd_nep (by omega)]; exact h.g k y q
theorem RM.nf {r : nF} {n : nT} {f : nF} (h : RM r n) (e : ∀ i, i < 100 → i ≠ 9 → i ≠ 10 → i ≠ 11 → n.1 i = f i) : RM r (f, n.2) := ⟨fun i h1 h2 h3 h4 => (h.1 i h1 h2 h3 h4).trans (e i h1 h2 h3 h4), h.2⟩
theorem upd_comm {f : nF} {i j : Nat} {x y : Int32} (h : i ≠ j) : upd (upd f i x) j y = upd (upd f j y) i x := by
  funext k
  by_cases h1 : k = i
  · subst h1; rw [upd_nep h, upd_eqp rfl, upd_eqp rfl]
  · by_cases h2 : k = j
    · subst h2; rw [upd_eqp rfl, upd_nep h1, upd_eqp rfl]
    · rw [upd_nep h2, upd_nep h1, upd_nep h1, upd_nep h2]
def sp_X10_changeIn : ab_S := fun w As σ K => match As with
  | [.ref a, .int s, .int p, .int z] => wR w a ∧ ∃ n k, RM (σ a) n ∧ s = nI k ∧ k < 5 ∧ ∀ r', RM r' (n_chg n k p z) → K (some (.int (n.1 (22 + 11 * k)))) (rset σ a r')
  | _ => False
def sp_X10_moveIn : ab_S := fun w As σ K => match As with
  | [.ref a, .int s, .int t] => wR w a ∧ ∃ n k j m, RM (σ a) n ∧ s = nI k ∧ k < 5 ∧ t = nI j ∧ j < 5 ∧ k ≠ j ∧ n_most n.1 k = some m ∧ ∀ r', RM r' (n_mov n k j) → K (some (.int (oI (n_most n.1 k)))) (rset σ a r')
  | _ => False
def sp_X10_addFinderIn : ab_S := fun w As σ K => match As with
  | [.ref a, .int p, .int q, .int d] => wR w a ∧ ∃ n, RM (σ a) n ∧ n.1 2 = nI (cl (n.1 2)) ∧ cl (n.1 2) < 6 ∧ ∀ r', RM r' (n_addF n p q d) → K (some (.int (n.1 2))) (rset σ a r')
  | _ => False
def sp_X10_addStationIn : ab_S := fun w As σ K => match As with
  | [.ref a, .int p, .int h, .int z, .int g, .int k] => wR w a ∧ ∃ n, RM (σ a) n ∧ n.1 1 = nI (cl (n.1 1)) ∧ cl (n.1 1) < 5 ∧ ∀ r', RM r' (n_addS n p h z g k) → K (some (.int (n.1 1))) (rset σ a r')
  | _ => False
def sp_X10_deliverIn : ab_S := fun w As σ K => match As with
  | [.ref a, .int s, .int g, .int k] => wR w a ∧ ∃ n T s' g' k', RM (σ a) n ∧ WFf T n.1 ∧ T < 200000 ∧ n.2.1.length < 8 ∧ s = nI s' ∧ g = nI g' ∧ k = nI k' ∧ s' < 100 ∧ g' ≤ 999 ∧ k' ≤ 99 ∧ ∀ r', RM r' (n_ord n s' g' k') → K (some (.int (n_price n.1 g k))) (rset σ a r')
  | _ => False
set_option maxRecDepth 20000 in
set_option maxHeartbeats 4000000 in
theorem ok_X10_changeIn {l : Launch} (hl : l.stackTraces = false) : ab_OkN l yX10_changeIn (Cond.code yX10_changeIn cX10_changeIn 5 (some .int)) 2 sp_X10_changeIn := by
  intro w σ As Kn hI h
  unfold sp_X10_changeIn at h
  split at h
  rotate_left 1
  · exact h.elim
  next a s p z =>
    obtain ⟨a, rfl⟩ : ∃ z : Nat, z = a := ⟨_, rfl⟩
    obtain ⟨⟨ka, la⟩, n, s, hR, rfl, hs, h⟩ := h
    refine vc_X10_changeIn hl hI (ok_X10_stationAt hl) (Nat.le_of_ble_eq_true rfl) (fun M h0 => ?_)
    suffices HS : M 0 [.ref a, .int (nI s), .int p, .int z, .null] [] (rset σ a (σ a)) from (by rw [rset_self] at HS; exact HS)
    refine h0 _ _ _ ?_
    have hr := hR.1
    have v1 : vp_in (nI (22 + 11 * s)) 304 := vp_in_nI (by omega) (by omega)
    have v2 : vp_in (nI (23 + 11 * s)) 304 := vp_in_nI (by omega) (by omega)
    simp (disch := omega) only [bX10_changeIn_0, sp_X10_stationAt, ka, la, hr, q_ci, q_cl, q_ild, q_lld, q_ald, q_ist, q_ast, q_lst, q_inc, q_b2, q_d2, q_u1, q_l2, q_ld2, q_lsh, q_lcmp, q_i2l, q_l2i, q_dupi, q_dupr, q_dup2, q_popi, q_popr, q_if1, q_if2, q_nn, q_sw, q_swn, q_swc, q_gf, q_gr, q_pf, q_pz, q_pc, q_ia, q_is, q_cs, q_zs, q_la, q_lw, q_aa, q_al, q_gs, q_acp, q_m2, q_m1, q_ir, q_zr, q_lr, q_ar, q_vr, q_cN0, q_cSX0, q_cV0, q_cVX0, q_cN1, q_cSX1, q_cV1, q_cVX1, q_cN2, q_cSX2, q_cV2, q_cVX2, q_cN3, q_cSX3, q_cV3, q_cVX3, q_cN4, q_cSX4, q_cV4, q_cVX4, q_cN5, q_cSX5, q_cV5, q_cVX5, q_cN6, q_cSX6, q_cV6, q_cVX6, q_th, q_sh0, q_sh1, q_sh2, q_sh3, q_sh4, q_toL0, q_toL1, q_gl0, q_gls, q_sl0, q_sls, q_k10, q_k1s, q_lgi, q_lgr, q_lgl, q_lgn, Bool.not_false, and_true, true_and, nz_2, nz_4, nz_5, nz_8, nz_10, nz_12, nz_14, nz_16, nz_40, nz_41, nz_64, nz_100, nz_1000, nz_1024, nz_4096, nz_10000, nz_100000, not_false_eq_true, bI_0, nI_add, pk_mul, nI_lt', nI_le', nI_eq', nI_z, nI_p, nI_e0, nI_l0, nI_le0, nI_clamp, up_eq, up_ne, not_true_eq_false, Classical.not_not, false_implies, true_implies, false_and, and_false, or_true, true_or, Nat.add_zero, pk_m1, m1_0, m1_n, m1_p, Nat.zero_le, forall_const, Nat.zero_add, Nat.reduceAdd, Nat.reduceEqDiff, or_false, false_or, Nat.one_ne_zero, l64_2, l64_3, l64_4, l64_5, l64_7, l64_9, l64_10, l64_11, l64_15, l64_20, l64_30, l64_40, l64_60, l64_99, l64_255, l64_999, le64l, le64r, le64b, le64n, rset_eq, rset_upd, rset_rset, upd_nep, upd_eqp, ix21_4k, ix21_1, ix21_2, ix21_3, ix21_4, ix21_5, ix21_6, ix21_7, ix21_8, ix21_9, ix21_10, ix76_1, ix76_2, ix76_3, ix100_1, ix100_2, ix100_3]
    exact ⟨v1, v1, v2, h _ ((hR.up p (by omega) (by omega) (by omega) (by omega)).up z (by omega) (by omega) (by omega) (by omega))⟩
set_option maxRecDepth 20000 in
set_option maxHeartbeats 4000000 in
theorem ok_X10_moveIn {l : Launch} (hl : l.stackTraces = false) : ab_OkN l yX10_moveIn (Cond.code yX10_moveIn cX10_moveIn 4 (some .int)) 3 sp_X10_moveIn := by
  intro w σ As Kn hI h
  unfold sp_X10_moveIn at h
  split at h
  rotate_left 1
  · exact h.elim
  next a s t =>
    obtain ⟨a, rfl⟩ : ∃ z : Nat, z = a := ⟨_, rfl⟩
    obtain ⟨⟨ka, la⟩, n, s, t, m, hR, rfl, hs, rfl, ht, hst, hm, h⟩ := h
    refine vc_X10_moveIn hl hI (ok_X10_mostFlown hl) (ok_X10_stationAt hl) (Nat.le_of_ble_eq_true rfl) (fun M h0 => ?_)
    suffices HS : M 0 [.ref a, .int (nI s), .int (nI t), .null] [] (rset σ a (σ a)) from (by rw [rset_self] at HS; exact HS)
    refine h0 _ _ _ ?_
    have hr := hR.1
    have hm4 := n_most_lt hm
    have v1 : vp_in (nI (25 + 11 * s + m)) 304 := vp_in_nI (by omega) (by omega)
    have v2 : vp_in (nI (25 + 11 * t + m)) 304 := vp_in_nI (by omega) (by omega)
    have em : oI (n_most n.1 s) = nI m := by rw [hm]; rfl
    rw [em] at h
    simp (disch := omega) only [bX10_moveIn_0, sp_X10_stationAt, sp_X10_mostFlown, ka, la, hr, q_ci, q_cl, q_ild, q_lld, q_ald, q_ist, q_ast, q_lst, q_inc, q_b2, q_d2, q_u1, q_l2, q_ld2, q_lsh, q_lcmp, q_i2l, q_l2i, q_dupi, q_dupr, q_dup2, q_popi, q_popr, q_if1, q_if2, q_nn, q_sw, q_swn, q_swc, q_gf, q_gr, q_pf, q_pz, q_pc, q_ia, q_is, q_cs, q_zs, q_la, q_lw, q_aa, q_al, q_gs, q_acp, q_m2, q_m1, q_ir, q_zr, q_lr, q_ar, q_vr, q_cN0, q_cSX0, q_cV0, q_cVX0, q_cN1, q_cSX1, q_cV1, q_cVX1, q_cN2, q_cSX2, q_cV2, q_cVX2, q_cN3, q_cSX3, q_cV3, q_cVX3, q_cN4, q_cSX4, q_cV4, q_cVX4, q_cN5, q_cSX5, q_cV5, q_cVX5, q_cN6, q_cSX6, q_cV6, q_cVX6, q_th, q_sh0, q_sh1, q_sh2, q_sh3, q_sh4, q_toL0, q_toL1, q_gl0, q_gls, q_sl0, q_sls, q_k10, q_k1s, q_lgi, q_lgr, q_lgl, q_lgn, Bool.not_false, and_true, true_and, nz_2, nz_4, nz_5, nz_8, nz_10, nz_12, nz_14, nz_16, nz_40, nz_41, nz_64, nz_100, nz_1000, nz_1024, nz_4096, nz_10000, nz_100000, not_false_eq_true, bI_0, nI_add, pk_mul, nI_lt', nI_le', nI_eq', nI_z, nI_p, nI_e0, nI_l0, nI_le0, nI_clamp, up_eq, up_ne, not_true_eq_false, Classical.not_not, false_implies, true_implies, false_and, and_false, or_true, true_or, Nat.add_zero, pk_m1, m1_0, m1_n, m1_p, Nat.zero_le, forall_const, Nat.zero_add, Nat.reduceAdd, Nat.reduceEqDiff, or_false, false_or, Nat.one_ne_zero, l64_2, l64_3, l64_4, l64_5, l64_7, l64_9, l64_10, l64_11, l64_15, l64_20, l64_30, l64_40, l64_60, l64_99, l64_255, l64_999, le64l, le64r, le64b, le64n, rset_eq, rset_upd, rset_rset, upd_nep, upd_eqp, ix21_4k, ix21_1, ix21_2, ix21_3, ix21_4, ix21_5, ix21_6, ix21_7, ix21_8, ix21_9, ix21_10, ix76_1, ix76_2, ix76_3, ix100_1, ix100_2, ix100_3]
    refine ⟨⟨ka, la⟩, n, s, hR, rfl, hs, ?_⟩
    simp (disch := omega) only [em, sp_X10_stationAt, ka, la, hr, q_ci, q_cl, q_ild, q_lld, q_ald, q_ist, q_ast, q_lst, q_inc, q_b2, q_d2, q_u1, q_l2, q_ld2, q_lsh, q_lcmp, q_i2l, q_l2i, q_dupi, q_dupr, q_dup2, q_popi, q_popr, q_if1, q_if2, q_nn, q_sw, q_swn, q_swc, q_gf, q_gr, q_pf, q_pz, q_pc, q_ia, q_is, q_cs, q_zs, q_la, q_lw, q_aa, q_al, q_gs, q_acp, q_m2, q_m1, q_ir, q_zr, q_lr, q_ar, q_vr, q_cN0, q_cSX0, q_cV0, q_cVX0, q_cN1, q_cSX1, q_cV1, q_cVX1, q_cN2, q_cSX2, q_cV2, q_cVX2, q_cN3, q_cSX3, q_cV3, q_cVX3, q_cN4, q_cSX4, q_cV4, q_cVX4, q_cN5, q_cSX5, q_cV5, q_cVX5, q_cN6, q_cSX6, q_cV6, q_cVX6, q_th, q_sh0, q_sh1, q_sh2, q_sh3, q_sh4, q_toL0, q_toL1, q_gl0, q_gls, q_sl0, q_sls, q_k10, q_k1s, q_lgi, q_lgr, q_lgl, q_lgn, Bool.not_false, and_true, true_and, nz_2, nz_4, nz_5, nz_8, nz_10, nz_12, nz_14, nz_16, nz_40, nz_41, nz_64, nz_100, nz_1000, nz_1024, nz_4096, nz_10000, nz_100000, not_false_eq_true, bI_0, nI_add, pk_mul, nI_lt', nI_le', nI_eq', nI_z, nI_p, nI_e0, nI_l0, nI_le0, nI_clamp, up_eq, up_ne, not_true_eq_false, Classical.not_not, false_implies, true_implies, false_and, and_false, or_true, true_or, Nat.add_zero, pk_m1, m1_0, m1_n, m1_p, Nat.zero_le, forall_const, Nat.zero_add, Nat.reduceAdd, Nat.reduceEqDiff, or_false, false_or, Nat.one_ne_zero, l64_2, l64_3, l64_4, l64_5, l64_7, l64_9, l64_10, l64_11, l64_15, l64_20, l64_30, l64_40, l64_60, l64_99, l64_255, l64_999, le64l, le64r, le64b, le64n, rset_eq, rset_upd, rset_rset, upd_nep, upd_eqp, ix21_4k, ix21_1, ix21_2, ix21_3, ix21_4, ix21_5, ix21_6, ix21_7, ix21_8, ix21_9, ix21_10, ix76_1, ix76_2, ix76_3, ix100_1, ix100_2, ix100_3]
    refine ⟨v1, v1, v2, v2, h _ ?_⟩
    unfold n_mov
    rw [hm]
    have := (hR.up (i := 25 + 11 * s + m) (n.1 (25 + 11 * s + m) - 1) (by omega) (by omega) (by omega) (by omega)).up (i := 25 + 11 * t + m) (n.1 (25 + 11 * t + m) + 1) (by omega) (by omega) (by omega) (by omega)
    rw [nI_one]
    exact this
set_option maxRecDepth 20000 in
set_option maxHeartbeats 4000000 in
theorem ok_X10_addFinderIn {l : Launch} (hl : l.stackTraces = false) : ab_OkN l yX10_addFinderIn (Cond.code yX10_addFinderIn cX10_addFinderIn 5 (some .int)) 2 sp_X10_addFinderIn := by
  intro w σ As Kn hI h
  unfold sp_X10_addFinderIn at h
  split at h
  rotate_left 1
  · exact h.elim
  next a p q d =>
    obtain ⟨a, rfl⟩ : ∃ z : Nat, z = a := ⟨_, rfl⟩
    obtain ⟨⟨ka, la⟩, n, hR, hc, hc6, h⟩ := h
    refine vc_X10_addFinderIn hl hI (ok_X10_finderAt hl) (Nat.le_of_ble_eq_true rfl) (fun M h0 => ?_)
    suffices HS : M 0 [.ref a, .int p, .int q, .int d, .null] [] (rset σ a (σ a)) from (by rw [rset_self] at HS; exact HS)
    refine h0 _ _ _ ?_
    have hr := hR.1
    generalize hcc : cl (n.1 2) = c at hc hc6
    have e2 : σ a 2 = nI c := (hr 2 (by omega) (by omega) (by omega) (by omega)).trans hc
    have w2 : vp_in (nI 2) 304 := vp_in_nI (by omega) (by omega)
    have v0 : vp_in (nI (76 + 4 * c)) 304 := vp_in_nI (by omega) (by omega)
    have v1 : vp_in (nI (77 + 4 * c)) 304 := vp_in_nI (by omega) (by omega)
    have v2 : vp_in (nI (78 + 4 * c)) 304 := vp_in_nI (by omega) (by omega)
    have v3 : vp_in (nI (79 + 4 * c)) 304 := vp_in_nI (by omega) (by omega)
    simp (disch := omega) only [bX10_addFinderIn_0, sp_X10_finderAt, ka, la, e2, q_ci, q_cl, q_ild, q_lld, q_ald, q_ist, q_ast, q_lst, q_inc, q_b2, q_d2, q_u1, q_l2, q_ld2, q_lsh, q_lcmp, q_i2l, q_l2i, q_dupi, q_dupr, q_dup2, q_popi, q_popr, q_if1, q_if2, q_nn, q_sw, q_swn, q_swc, q_gf, q_gr, q_pf, q_pz, q_pc, q_ia, q_is, q_cs, q_zs, q_la, q_lw, q_aa, q_al, q_gs, q_acp, q_m2, q_m1, q_ir, q_zr, q_lr, q_ar, q_vr, q_cN0, q_cSX0, q_cV0, q_cVX0, q_cN1, q_cSX1, q_cV1, q_cVX1, q_cN2, q_cSX2, q_cV2, q_cVX2, q_cN3, q_cSX3, q_cV3, q_cVX3, q_cN4, q_cSX4, q_cV4, q_cVX4, q_cN5, q_cSX5, q_cV5, q_cVX5, q_cN6, q_cSX6, q_cV6, q_cVX6, q_th, q_sh0, q_sh1, q_sh2, q_sh3, q_sh4, q_toL0, q_toL1, q_gl0, q_gls, q_sl0, q_sls, q_k10, q_k1s, q_lgi, q_lgr, q_lgl, q_lgn, Bool.not_false, and_true, true_and, nz_2, nz_4, nz_5, nz_8, nz_10, nz_12, nz_14, nz_16, nz_40, nz_41, nz_64, nz_100, nz_1000, nz_1024, nz_4096, nz_10000, nz_100000, not_false_eq_true, bI_0, nI_add, pk_mul, nI_lt', nI_le', nI_eq', nI_z, nI_p, nI_e0, nI_l0, nI_le0, nI_clamp, up_eq, up_ne, not_true_eq_false, Classical.not_not, false_implies, true_implies, false_and, and_false, or_true, true_or, Nat.add_zero, pk_m1, m1_0, m1_n, m1_p, Nat.zero_le, forall_const, Nat.zero_add, Nat.reduceAdd, Nat.reduceEqDiff, or_false, false_or, Nat.one_ne_zero, l64_2, l64_3, l64_4, l64_5, l64_7, l64_9, l64_10, l64_11, l64_15, l64_20, l64_30, l64_40, l64_60, l64_99, l64_255, l64_999, le64l, le64r, le64b, le64n, rset_eq, rset_upd, rset_rset, upd_nep, upd_eqp, ix21_4k, ix21_1, ix21_2, ix21_3, ix21_4, ix21_5, ix21_6, ix21_7, ix21_8, ix21_9, ix21_10, ix76_1, ix76_2, ix76_3, ix100_1, ix100_2, ix100_3]
    rw [hc] at h
    refine ⟨w2, v0, v1, v2, v3, w2, w2, h _ ?_⟩
    have := ((((hR.up (i := 76 + 4 * c) p (by omega) (by omega) (by omega) (by omega)).up (i := 77 + 4 * c) q (by omega) (by omega) (by omega) (by omega)).up (i := 78 + 4 * c) d (by omega) (by omega) (by omega) (by omega)).up (i := 79 + 4 * c) (nI 0) (by omega) (by omega) (by omega) (by omega)).up (i := 2) (nI (c + 1)) (by omega) (by omega) (by omega) (by omega)
    refine (this.nf (f := (n_addF n p q d).1) (fun i h1 h2 h3 h4 => ?_))
    unfold n_addF
    dsimp only
    rw [hcc, hc, nI_1]
    by_cases i2 : i = 2
    · rw [upd_eqp i2, if_pos i2]
    rw [upd_nep i2, if_neg i2]
    by_cases i3 : i = 76 + 4 * c
    · simp (disch := omega) only [upd_nep, upd_eqp, if_pos, if_neg]
    by_cases i4 : i = 77 + 4 * c
    · simp (disch := omega) only [upd_nep, upd_eqp, if_pos, if_neg]
    by_cases i5 : i = 78 + 4 * c
    · simp (disch := omega) only [upd_nep, upd_eqp, if_pos, if_neg]
    by_cases i6 : i = 79 + 4 * c
    · simp (disch := omega) only [upd_nep, upd_eqp, if_pos, if_neg, nI_0]
    simp (disch := omega) only [upd_nep, if_neg]
def z11 (r : nF) (c k : Nat) : nF := fun i => if 21 + 11 * c ≤ i ∧ i < 21 + 11 * c + k then 0 else r i
theorem z11_z {r : nF} {c : Nat} : z11 r c 0 = r := by funext i; unfold z11; rw [if_neg (by omega)]
theorem z11_s {r : nF} {c k : Nat} : upd (z11 r c k) (21 + 11 * c + k) (nI 0) = z11 r c (k + 1) := by
  funext i
  by_cases h : i = 21 + 11 * c + k
  · rw [upd_eqp h]; unfold z11; rw [if_pos (by omega), nI_0]
  · rw [upd_nep h]; unfold z11
    by_cases h2 : 21 + 11 * c ≤ i ∧ i < 21 + 11 * c + k
    · rw [if_pos h2, if_pos (by omega)]
    · rw [if_neg h2, if_neg (by omega)]
set_option maxRecDepth 20000 in
set_option maxHeartbeats 4000000 in
theorem ok_X10_addStationIn {l : Launch} (hl : l.stackTraces = false) : ab_OkN l yX10_addStationIn (Cond.code yX10_addStationIn cX10_addStationIn 8 (some .int)) 2 sp_X10_addStationIn := by
  intro w σ As Kn hI h
  unfold sp_X10_addStationIn at h
  split at h
  rotate_left 1
  · exact h.elim
  next a p h' z g k =>
    obtain ⟨a, rfl⟩ : ∃ z : Nat, z = a := ⟨_, rfl⟩
    obtain ⟨⟨ka, la⟩, n, hR, hc, hc5, h⟩ := h
    refine vc_X10_addStationIn hl hI (ok_X10_stationAt hl) (Nat.le_of_ble_eq_true rfl) (fun M h0 h8 => ?_)
    suffices HS : M 0 [.ref a, .int p, .int h', .int z, .int g, .int k, .null, .null] [] (rset σ a (σ a)) from (by rw [rset_self] at HS; exact HS)
    refine h0 _ _ _ ?_
    have hr := hR.1
    generalize hcc : cl (n.1 1) = c at hc hc5
    have e1 : σ a 1 = nI c := (hr 1 (by omega) (by omega) (by omega) (by omega)).trans hc
    have w1 : vp_in (nI 1) 304 := vp_in_nI (by omega) (by omega)
    have H : ∀ d j, j + d = 11 → M 8 [.ref a, .int p, .int h', .int z, .int g, .int k, .int (nI c), .int (nI j)] [] (rset σ a (z11 (σ a) c j)) := by
      intro d
      induction d with
      | zero =>
        intro j hj
        have hj : j = 11 := by omega
        subst hj
        refine h8 _ _ _ ?_
        have v0 : vp_in (nI (21 + 11 * c)) 304 := vp_in_nI (by omega) (by omega)
        have v1 : vp_in (nI (22 + 11 * c)) 304 := vp_in_nI (by omega) (by omega)
        have v2 : vp_in (nI (23 + 11 * c)) 304 := vp_in_nI (by omega) (by omega)
        have v3 : vp_in (nI (24 + 11 * c)) 304 := vp_in_nI (by omega) (by omega)
        have v4 : vp_in (nI (25 + 11 * c)) 304 := vp_in_nI (by omega) (by omega)
        have z1 : z11 (σ a) c 11 1 = nI c := by unfold z11; rw [if_neg (by omega)]; exact e1
        simp (disch := omega) only [bX10_addStationIn_8, sp_X10_stationAt, ka, la, z1, q_ci, q_cl, q_ild, q_lld, q_ald, q_ist, q_ast, q_lst, q_inc, q_b2, q_d2, q_u1, q_l2, q_ld2, q_lsh, q_lcmp, q_i2l, q_l2i, q_dupi, q_dupr, q_dup2, q_popi, q_popr, q_if1, q_if2, q_nn, q_sw, q_swn, q_swc, q_gf, q_gr, q_pf, q_pz, q_pc, q_ia, q_is, q_cs, q_zs, q_la, q_lw, q_aa, q_al, q_gs, q_acp, q_m2, q_m1, q_ir, q_zr, q_lr, q_ar, q_vr, q_cN0, q_cSX0, q_cV0, q_cVX0, q_cN1, q_cSX1, q_cV1, q_cVX1, q_cN2, q_cSX2, q_cV2, q_cVX2, q_cN3, q_cSX3, q_cV3, q_cVX3, q_cN4, q_cSX4, q_cV4, q_cVX4, q_cN5, q_cSX5, q_cV5, q_cVX5, q_cN6, q_cSX6, q_cV6, q_cVX6, q_th, q_sh0, q_sh1, q_sh2, q_sh3, q_sh4, q_toL0, q_toL1, q_gl0, q_gls, q_sl0, q_sls, q_k10, q_k1s, q_lgi, q_lgr, q_lgl, q_lgn, Bool.not_false, and_true, true_and, nz_2, nz_4, nz_5, nz_8, nz_10, nz_12, nz_14, nz_16, nz_40, nz_41, nz_64, nz_100, nz_1000, nz_1024, nz_4096, nz_10000, nz_100000, not_false_eq_true, bI_0, nI_add, pk_mul, nI_lt', nI_le', nI_eq', nI_z, nI_p, nI_e0, nI_l0, nI_le0, nI_clamp, up_eq, up_ne, not_true_eq_false, Classical.not_not, false_implies, true_implies, false_and, and_false, or_true, true_or, Nat.add_zero, pk_m1, m1_0, m1_n, m1_p, Nat.zero_le, forall_const, Nat.zero_add, Nat.reduceAdd, Nat.reduceEqDiff, or_false, false_or, Nat.one_ne_zero, l64_2, l64_3, l64_4, l64_5, l64_7, l64_9, l64_10, l64_11, l64_15, l64_20, l64_30, l64_40, l64_60, l64_99, l64_255, l64_999, le64l, le64r, le64b, le64n, rset_eq, rset_upd, rset_rset, upd_nep, upd_eqp, ix21_4k, ix21_1, ix21_2, ix21_3, ix21_4, ix21_5, ix21_6, ix21_7, ix21_8, ix21_9, ix21_10, ix76_1, ix76_2, ix76_3, ix100_1, ix100_2, ix100_3]
        rw [hc] at h
        have hfin : RM (upd (upd (upd (upd (upd (upd (z11 (σ a) c 11) (21 + 11 * c) p) (22 + 11 * c) h') (23 + 11 * c) z) (24 + 11 * c) g) (25 + 11 * c) k) 1 (nI (c + 1))) (n_addS n p h' z g k) := by
          refine RM.mk (fun i h1 h2 h3 h4 => ?_) ?_ ?_ ?_ (fun j x q => (hR.o j x q).of (fun i _ _ => ?_)) (fun j x q => ?_) (fun j x q => ?_)
          · try unfold n_addS
            try dsimp only
            rw [hcc, hc, nI_1]
            by_cases i2 : i = 1
            · rw [upd_eqp i2, if_pos i2]
            rw [upd_nep i2, if_neg i2]
            by_cases i3 : i = 21 + 11 * c
            · simp (disch := omega) only [upd_nep, upd_eqp, if_pos, if_neg]
            by_cases i4 : i = 22 + 11 * c
            · simp (disch := omega) only [upd_nep, upd_eqp, if_pos, if_neg]
            by_cases i5 : i = 23 + 11 * c
            · simp (disch := omega) only [upd_nep, upd_eqp, if_pos, if_neg]
            by_cases i6 : i = 24 + 11 * c
            · simp (disch := omega) only [upd_nep, upd_eqp, if_pos, if_neg]
            by_cases i7 : i = 25 + 11 * c
            · simp (disch := omega) only [upd_nep, upd_eqp, if_pos, if_neg]
            simp (disch := omega) only [upd_nep, if_neg]
            unfold z11
            by_cases i8 : 26 + 11 * c ≤ i ∧ i < 32 + 11 * c
            · rw [if_pos i8, if_pos (by omega)]
            · rw [if_neg i8, if_neg (by omega)]; exact hr i h1 h2 h3 h4
          · simp (disch := omega) only [upd_nep]; unfold z11; rw [if_neg (by omega)]; exact hR.2.1
          · simp (disch := omega) only [upd_nep]; unfold z11; rw [if_neg (by omega)]; exact hR.2.2.1
          · simp (disch := omega) only [upd_nep]; unfold z11; rw [if_neg (by omega)]; exact hR.2.2.2.1
          · simp (disch := omega) only [upd_nep]; unfold z11; rw [if_neg (by omega)]
          · simp (disch := omega) only [upd_nep]; unfold z11; rw [if_neg (by omega)]; exact hR.b j x q
          · simp (disch := omega) only [upd_nep]; unfold z11; rw [if_neg (by omega)]; exact hR.g j x q
        first
          | exact ⟨v0, v1, v2, v3, v4, w1, w1, h _ hfin⟩
          | exact ⟨fun _ => ⟨v0, v1, v2, v3, v4, w1, w1, h _ hfin⟩, fun q => absurd (Nat.le_refl _) q⟩
      | succ d ih =>
        intro j hj
        refine h8 _ _ _ ?_
        have vj : vp_in (nI (21 + 11 * c + j)) 304 := vp_in_nI (by omega) (by omega)
        simp (disch := omega) only [bX10_addStationIn_8, sp_X10_stationAt, ka, la, q_ci, q_cl, q_ild, q_lld, q_ald, q_ist, q_ast, q_lst, q_inc, q_b2, q_d2, q_u1, q_l2, q_ld2, q_lsh, q_lcmp, q_i2l, q_l2i, q_dupi, q_dupr, q_dup2, q_popi, q_popr, q_if1, q_if2, q_nn, q_sw, q_swn, q_swc, q_gf, q_gr, q_pf, q_pz, q_pc, q_ia, q_is, q_cs, q_zs, q_la, q_lw, q_aa, q_al, q_gs, q_acp, q_m2, q_m1, q_ir, q_zr, q_lr, q_ar, q_vr, q_cN0, q_cSX0, q_cV0, q_cVX0, q_cN1, q_cSX1, q_cV1, q_cVX1, q_cN2, q_cSX2, q_cV2, q_cVX2, q_cN3, q_cSX3, q_cV3, q_cVX3, q_cN4, q_cSX4, q_cV4, q_cVX4, q_cN5, q_cSX5, q_cV5, q_cVX5, q_cN6, q_cSX6, q_cV6, q_cVX6, q_th, q_sh0, q_sh1, q_sh2, q_sh3, q_sh4, q_toL0, q_toL1, q_gl0, q_gls, q_sl0, q_sls, q_k10, q_k1s, q_lgi, q_lgr, q_lgl, q_lgn, Bool.not_false, and_true, true_and, nz_2, nz_4, nz_5, nz_8, nz_10, nz_12, nz_14, nz_16, nz_40, nz_41, nz_64, nz_100, nz_1000, nz_1024, nz_4096, nz_10000, nz_100000, not_false_eq_true, bI_0, nI_add, pk_mul, nI_lt', nI_le', nI_eq', nI_z, nI_p, nI_e0, nI_l0, nI_le0, nI_clamp, up_eq, up_ne, not_true_eq_false, Classical.not_not, false_implies, true_implies, false_and, and_false, or_true, true_or, Nat.add_zero, pk_m1, m1_0, m1_n, m1_p, Nat.zero_le, forall_const, Nat.zero_add, Nat.reduceAdd, Nat.reduceEqDiff, or_false, false_or, Nat.one_ne_zero, l64_2, l64_3, l64_4, l64_5, l64_7, l64_9, l64_10, l64_11, l64_15, l64_20, l64_30, l64_40, l64_60, l64_99, l64_255, l64_999, le64l, le64r, le64b, le64n, rset_eq, rset_upd, rset_rset, upd_nep, upd_eqp, ix21_4k, ix21_1, ix21_2, ix21_3, ix21_4, ix21_5, ix21_6, ix21_7, ix21_8, ix21_9, ix21_10, ix76_1, ix76_2, ix76_3, ix100_1, ix100_2, ix100_3]
        refine ⟨fun q => absurd q (by omega), fun _ => ⟨vj, ?_⟩⟩
        rw [z11_s]
        exact ih (j + 1) (by omega)
    simp (disch := omega) only [bX10_addStationIn_0, ka, la, e1, q_ci, q_cl, q_ild, q_lld, q_ald, q_ist, q_ast, q_lst, q_inc, q_b2, q_d2, q_u1, q_l2, q_ld2, q_lsh, q_lcmp, q_i2l, q_l2i, q_dupi, q_dupr, q_dup2, q_popi, q_popr, q_if1, q_if2, q_nn, q_sw, q_swn, q_swc, q_gf, q_gr, q_pf, q_pz, q_pc, q_ia, q_is, q_cs, q_zs, q_la, q_lw, q_aa, q_al, q_gs, q_acp, q_m2, q_m1, q_ir, q_zr, q_lr, q_ar, q_vr, q_cN0, q_cSX0, q_cV0, q_cVX0, q_cN1, q_cSX1, q_cV1, q_cVX1, q_cN2, q_cSX2, q_cV2, q_cVX2, q_cN3, q_cSX3, q_cV3, q_cVX3, q_cN4, q_cSX4, q_cV4, q_cVX4, q_cN5, q_cSX5, q_cV5, q_cVX5, q_cN6, q_cSX6, q_cV6, q_cVX6, q_th, q_sh0, q_sh1, q_sh2, q_sh3, q_sh4, q_toL0, q_toL1, q_gl0, q_gls, q_sl0, q_sls, q_k10, q_k1s, q_lgi, q_lgr, q_lgl, q_lgn, Bool.not_false, and_true, true_and, nz_2, nz_4, nz_5, nz_8, nz_10, nz_12, nz_14, nz_16, nz_40, nz_41, nz_64, nz_100, nz_1000, nz_1024, nz_4096, nz_10000, nz_100000, not_false_eq_true, bI_0, nI_add, pk_mul, nI_lt', nI_le', nI_eq', nI_z, nI_p, nI_e0, nI_l0, nI_le0, nI_clamp, up_eq, up_ne, not_true_eq_false, Classical.not_not, false_implies, true_implies, false_and, and_false, or_true, true_or, Nat.add_zero, pk_m1, m1_0, m1_n, m1_p, Nat.zero_le, forall_const, Nat.zero_add, Nat.reduceAdd, Nat.reduceEqDiff, or_false, false_or, Nat.one_ne_zero, l64_2, l64_3, l64_4, l64_5, l64_7, l64_9, l64_10, l64_11, l64_15, l64_20, l64_30, l64_40, l64_60, l64_99, l64_255, l64_999, le64l, le64r, le64b, le64n, rset_eq, rset_upd, rset_rset, upd_nep, upd_eqp, ix21_4k, ix21_1, ix21_2, ix21_3, ix21_4, ix21_5, ix21_6, ix21_7, ix21_8, ix21_9, ix21_10, ix76_1, ix76_2, ix76_3, ix100_1, ix100_2, ix100_3]
    have := H 11 0 (by omega)
    rw [z11_z] at this
    exact ⟨w1, this⟩
set_option maxRecDepth 20000 in
set_option maxHeartbeats 4000000 in
theorem ok_X10_deliverIn {l : Launch} (hl : l.stackTraces = false) : ab_OkN l yX10_deliverIn (Cond.code yX10_deliverIn cX10_deliverIn 6 (some .int)) 2 sp_X10_deliverIn := by
  intro w σ As Kn hI h
  unfold sp_X10_deliverIn at h
  split at h
  rotate_left 1
  · exact h.elim
  next a s g k =>
    obtain ⟨a, rfl⟩ : ∃ z : Nat, z = a := ⟨_, rfl⟩
    obtain ⟨⟨ka, la⟩, n, T, s, g, k, hR, hW, hT, hl8, rfl, rfl, rfl, hs, hg, hk, h⟩ := h
    refine vc_X10_deliverIn hl hI (ok_X10_sendAt hl) (Nat.le_of_ble_eq_true rfl) (fun M h0 => ?_)
    suffices HS : M 0 [.ref a, .int (nI s), .int (nI g), .int (nI k), .null, .null] [] (rset σ a (σ a)) from (by rw [rset_self] at HS; exact HS)
    refine h0 _ _ _ ?_
    have hr := hR.1
    obtain ⟨d, hd1, hd30, hd⟩ := hW.2.2.2.2.2.2.2.2.1
    have ecd : cl (n.1 12) = d := by rw [hd, cl_nI (by omega)]
    have hT0 := hW.2.1
    have e10 := hR.2.1
    generalize hc : n.2.1.length = c at hl8 e10
    have e0 : σ a 0 = nI (cl (n.1 0)) := (hr 0 (by omega) (by omega) (by omega) (by omega)).trans hW.1
    have e12 : σ a 12 = nI d := (hr 12 (by omega) (by omega) (by omega) (by omega)).trans hd
    have e3 : σ a 3 = n.1 3 := hr 3 (by omega) (by omega) (by omega) (by omega)
    have e14 : σ a 14 = n.1 14 := hr 14 (by omega) (by omega) (by omega) (by omega)
    have e15 : σ a 15 = n.1 15 := hr 15 (by omega) (by omega) (by omega) (by omega)
    have w10 : vp_in (nI 10) 304 := vp_in_nI (by omega) (by omega)
    have w14 : vp_in (nI 14) 304 := vp_in_nI (by omega) (by omega)
    have w15 : vp_in (nI 15) 304 := vp_in_nI (by omega) (by omega)
    have w12 : vp_in (nI 12) 304 := vp_in_nI (by omega) (by omega)
    have w0 : vp_in (nI 0) 304 := vp_in_nI (by omega) (by omega)
    have w3 : vp_in (nI 3) 304 := vp_in_nI (by omega) (by omega)
    have v0 : vp_in (nI (100 + 4 * c)) 304 := vp_in_nI (by omega) (by omega)
    have v1 : vp_in (nI (101 + 4 * c)) 304 := vp_in_nI (by omega) (by omega)
    have v2 : vp_in (nI (102 + 4 * c)) 304 := vp_in_nI (by omega) (by omega)
    have v3 : vp_in (nI (103 + 4 * c)) 304 := vp_in_nI (by omega) (by omega)
    have ep : nI g * n.1 14 + nI k * n.1 15 = n_price n.1 (nI g) (nI k) := rfl
    simp (disch := omega) only [bX10_deliverIn_0, sp_X10_sendAt, ka, la, e10, e0, e12, e3, e14, e15, ep, q_ci, q_cl, q_ild, q_lld, q_ald, q_ist, q_ast, q_lst, q_inc, q_b2, q_d2, q_u1, q_l2, q_ld2, q_lsh, q_lcmp, q_i2l, q_l2i, q_dupi, q_dupr, q_dup2, q_popi, q_popr, q_if1, q_if2, q_nn, q_sw, q_swn, q_swc, q_gf, q_gr, q_pf, q_pz, q_pc, q_ia, q_is, q_cs, q_zs, q_la, q_lw, q_aa, q_al, q_gs, q_acp, q_m2, q_m1, q_ir, q_zr, q_lr, q_ar, q_vr, q_cN0, q_cSX0, q_cV0, q_cVX0, q_cN1, q_cSX1, q_cV1, q_cVX1, q_cN2, q_cSX2, q_cV2, q_cVX2, q_cN3, q_cSX3, q_cV3, q_cVX3, q_cN4, q_cSX4, q_cV4, q_cVX4, q_cN5, q_cSX5, q_cV5, q_cVX5, q_cN6, q_cSX6, q_cV6, q_cVX6, q_th, q_sh0, q_sh1, q_sh2, q_sh3, q_sh4, q_toL0, q_toL1, q_gl0, q_gls, q_sl0, q_sls, q_k10, q_k1s, q_lgi, q_lgr, q_lgl, q_lgn, Bool.not_false, and_true, true_and, nz_2, nz_4, nz_5, nz_8, nz_10, nz_12, nz_14, nz_16, nz_40, nz_41, nz_64, nz_100, nz_1000, nz_1024, nz_4096, nz_10000, nz_100000, not_false_eq_true, bI_0, nI_add, pk_mul, nI_lt', nI_le', nI_eq', nI_z, nI_p, nI_e0, nI_l0, nI_le0, nI_clamp, up_eq, up_ne, not_true_eq_false, Classical.not_not, false_implies, true_implies, false_and, and_false, or_true, true_or, Nat.add_zero, pk_m1, m1_0, m1_n, m1_p, Nat.zero_le, forall_const, Nat.zero_add, Nat.reduceAdd, Nat.reduceEqDiff, or_false, false_or, Nat.one_ne_zero, l64_2, l64_3, l64_4, l64_5, l64_7, l64_9, l64_10, l64_11, l64_15, l64_20, l64_30, l64_40, l64_60, l64_99, l64_255, l64_999, le64l, le64r, le64b, le64n, rset_eq, rset_upd, rset_rset, upd_nep, upd_eqp, ix21_4k, ix21_1, ix21_2, ix21_3, ix21_4, ix21_5, ix21_6, ix21_7, ix21_8, ix21_9, ix21_10, ix76_1, ix76_2, ix76_3, ix100_1, ix100_2, ix100_3]
    refine ⟨w10, w14, w15, w0, w12, v0, v1, v2, v3, w10, w10, w3, w3, h _ ?_⟩
    unfold n_ord
    rw [ecd]
    refine RM.mk (fun i h1 h2 h3 h4 => ?_) ?_ ?_ ?_ (fun j x q => ?_) (fun j x q => ?_) (fun j x q => ?_)
    · by_cases i3 : i = 3
      · rw [upd_eqp i3, upd_eqp i3]
      · simp (disch := omega) only [upd_nep]; exact hr i h1 h2 h3 h4
    · simp (disch := omega) only [upd_nep, upd_eqp]; rw [List.length_append, List.length_singleton, hc]
    · simp (disch := omega) only [upd_nep]; exact hR.2.2.1
    · simp (disch := omega) only [upd_nep]; exact hR.2.2.2.1
    · rw [List.getElem?_append] at q
      split at q
      · next q2 => exact (hR.o j x q).of (fun i _ _ => by simp (disch := omega) only [upd_nep])
      · next q2 =>
        have hj : j = c := by
          have := (List.getElem?_eq_some_iff.mp q).1
          rw [List.length_singleton] at this
          omega
        subst hj
        rw [hc, Nat.sub_self] at q
        cases q
        unfold O4
        refine ⟨?_, ?_, ?_, ?_⟩ <;> simp (disch := omega) only [upd_nep, upd_eqp]
    · simp (disch := omega) only [upd_nep]; exact hR.b j x q
    · simp (disch := omega) only [upd_nep]; exact hR.g j x q
