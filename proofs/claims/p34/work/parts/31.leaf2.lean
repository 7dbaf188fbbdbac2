/-! deliveries, sondes on the way, gaps -/
def sp_X4_put : ab_S := fun w As σ K => match As with
  | [.ref a, .int i, .int p, .int q, .int r, .int t] => wO w a ∧ ∃ k, i = nI k ∧ k < 8 ∧ K none (wr4 σ a k p q r t)
  | _ => False
def sp_X5_put : ab_S := fun w As σ K => match As with
  | [.ref a, .int i, .int p, .int q, .int r] => wB w a ∧ ∃ k, i = nI k ∧ k < 150 ∧ K none (wr3 σ a k p q r)
  | _ => False
set_option maxRecDepth 20000 in
set_option maxHeartbeats 4000000 in
theorem ok_X4_put {l : Launch} (hl : l.stackTraces = false) : ab_OkN l yX4_put (Cond.code yX4_put cX4_put 6 none) 1 sp_X4_put := by
  intro w σ As Kn hI h
  unfold sp_X4_put at h
  split at h
  · next a i p q r t =>
    obtain ⟨hw, k, rfl, hk, h⟩ := h
    refine vc_X4_put hl hI (Nat.le_of_ble_eq_true rfl) (fun M h0 => h0 [.ref a, .int (nI k), .int p, .int q, .int r, .int t] [] σ ?_)
    unfold wO at hw
    unfold wr4 at h
    simp (disch := omega) only [bX4_put_0, hw, q_ci, q_cl, q_ild, q_lld, q_ald, q_ist, q_ast, q_lst, q_inc, q_b2, q_d2, q_u1, q_l2, q_ld2, q_lsh, q_lcmp, q_i2l, q_l2i, q_dupi, q_dupr, q_dup2, q_popi, q_popr, q_if1, q_if2, q_nn, q_sw, q_swn, q_swc, q_gf, q_gr, q_pf, q_pz, q_pc, q_ia, q_is, q_cs, q_zs, q_la, q_lw, q_aa, q_al, q_gs, q_acp, q_m2, q_m1, q_ir, q_zr, q_lr, q_ar, q_vr, q_cN0, q_cSX0, q_cV0, q_cVX0, q_cN1, q_cSX1, q_cV1, q_cVX1, q_cN2, q_cSX2, q_cV2, q_cVX2, q_cN3, q_cSX3, q_cV3, q_cVX3, q_cN4, q_cSX4, q_cV4, q_cVX4, q_cN5, q_cSX5, q_cV5, q_cVX5, q_cN6, q_cSX6, q_cV6, q_cVX6, q_th, q_sh0, q_sh1, q_sh2, q_sh3, q_sh4, q_toL0, q_toL1, q_gl0, q_gls, q_sl0, q_sls, q_k10, q_k1s, q_lgi, q_lgr, q_lgl, q_lgn, Bool.not_false, and_true, true_and, nz_2, nz_4, nz_5, nz_8, nz_10, nz_12, nz_14, nz_16, nz_40, nz_41, nz_64, nz_100, nz_1000, nz_1024, nz_4096, nz_10000, nz_100000, not_false_eq_true, bI_0, nI_add, pk_mul, nI_lt', nI_le', nI_eq', nI_z, nI_p, nI_e0, nI_l0, nI_le0, nI_clamp, up_eq, up_ne, not_true_eq_false, Classical.not_not, false_implies, true_implies, false_and, and_false, or_true, true_or, Nat.add_zero, pk_m1, m1_0, m1_n, m1_p, Nat.zero_le, forall_const]
    repeat' first
      | assumption
      | (refine vp_in_nI ?_ ?_ <;> omega)
      | refine And.intro ?_ ?_
      | (intro (_ : _); first | (exfalso; omega) | skip)
  · exact h.elim
set_option maxRecDepth 20000 in
set_option maxHeartbeats 4000000 in
theorem ok_X5_put {l : Launch} (hl : l.stackTraces = false) : ab_OkN l yX5_put (Cond.code yX5_put cX5_put 5 none) 1 sp_X5_put := by
  intro w σ As Kn hI h
  unfold sp_X5_put at h
  split at h
  · next a i p q r =>
    obtain ⟨hw, k, rfl, hk, h⟩ := h
    refine vc_X5_put hl hI (Nat.le_of_ble_eq_true rfl) (fun M h0 => h0 [.ref a, .int (nI k), .int p, .int q, .int r] [] σ ?_)
    unfold wB at hw
    unfold wr3 at h
    simp (disch := omega) only [bX5_put_0, hw, q_ci, q_cl, q_ild, q_lld, q_ald, q_ist, q_ast, q_lst, q_inc, q_b2, q_d2, q_u1, q_l2, q_ld2, q_lsh, q_lcmp, q_i2l, q_l2i, q_dupi, q_dupr, q_dup2, q_popi, q_popr, q_if1, q_if2, q_nn, q_sw, q_swn, q_swc, q_gf, q_gr, q_pf, q_pz, q_pc, q_ia, q_is, q_cs, q_zs, q_la, q_lw, q_aa, q_al, q_gs, q_acp, q_m2, q_m1, q_ir, q_zr, q_lr, q_ar, q_vr, q_cN0, q_cSX0, q_cV0, q_cVX0, q_cN1, q_cSX1, q_cV1, q_cVX1, q_cN2, q_cSX2, q_cV2, q_cVX2, q_cN3, q_cSX3, q_cV3, q_cVX3, q_cN4, q_cSX4, q_cV4, q_cVX4, q_cN5, q_cSX5, q_cV5, q_cVX5, q_cN6, q_cSX6, q_cV6, q_cVX6, q_th, q_sh0, q_sh1, q_sh2, q_sh3, q_sh4, q_toL0, q_toL1, q_gl0, q_gls, q_sl0, q_sls, q_k10, q_k1s, q_lgi, q_lgr, q_lgl, q_lgn, Bool.not_false, and_true, true_and, nz_2, nz_4, nz_5, nz_8, nz_10, nz_12, nz_14, nz_16, nz_40, nz_41, nz_64, nz_100, nz_1000, nz_1024, nz_4096, nz_10000, nz_100000, not_false_eq_true, bI_0, nI_add, pk_mul, nI_lt', nI_le', nI_eq', nI_z, nI_p, nI_e0, nI_l0, nI_le0, nI_clamp, up_eq, up_ne, not_true_eq_false, Classical.not_not, false_implies, true_implies, false_and, and_false, or_true, true_or, Nat.add_zero, pk_m1, m1_0, m1_n, m1_p, Nat.zero_le, forall_const]
    repeat' first
      | assumption
      | (refine vp_in_nI ?_ ?_ <;> omega)
      | refine And.intro ?_ ?_
      | (intro (_ : _); first | (exfalso; omega) | skip)
  · exact h.elim
def sp_X4_add : ab_S := fun w As σ K => match As with
  | [.ref a, .int p, .int q, .int r, .int t] => wO w a ∧ ∃ l x, RO σ a l ∧ l.length < 8 ∧ p = nI x.1 ∧ q = nI x.2.1 ∧ r = nI x.2.2.1 ∧ t = nI x.2.2.2 ∧ ∀ σ', RO σ' a (l ++ [x]) → Frk a 5 σ σ' → K none σ'
  | _ => False
set_option maxRecDepth 20000 in
set_option maxHeartbeats 4000000 in
theorem ok_X4_add {l : Launch} (hl : l.stackTraces = false) : ab_OkN l yX4_add (Cond.code yX4_add cX4_add 5 none) 2 sp_X4_add := by
  intro w σ As Kn hI h
  unfold sp_X4_add at h
  split at h
  · next a p q r t =>
    obtain ⟨hw, ls, x, hR, hlen, rfl, rfl, rfl, rfl, h⟩ := h
    refine vc_X4_add hl hI (ok_X4_put hl) (Nat.le_of_ble_eq_true rfl) (fun M h0 h1 => h0 [.ref a, .int (nI x.1), .int (nI x.2.1), .int (nI x.2.2.1), .int (nI x.2.2.2)] [] σ ?_)
    have hw0 := hw.1
    simp (disch := omega) only [bX4_add_0, sp_X4_put, hw0, hR.1, q_ci, q_cl, q_ild, q_lld, q_ald, q_ist, q_ast, q_lst, q_inc, q_b2, q_d2, q_u1, q_l2, q_ld2, q_lsh, q_lcmp, q_i2l, q_l2i, q_dupi, q_dupr, q_dup2, q_popi, q_popr, q_if1, q_if2, q_nn, q_sw, q_swn, q_swc, q_gf, q_gr, q_pf, q_pz, q_pc, q_ia, q_is, q_cs, q_zs, q_la, q_lw, q_aa, q_al, q_gs, q_acp, q_m2, q_m1, q_ir, q_zr, q_lr, q_ar, q_vr, q_cN0, q_cSX0, q_cV0, q_cVX0, q_cN1, q_cSX1, q_cV1, q_cVX1, q_cN2, q_cSX2, q_cV2, q_cVX2, q_cN3, q_cSX3, q_cV3, q_cVX3, q_cN4, q_cSX4, q_cV4, q_cVX4, q_cN5, q_cSX5, q_cV5, q_cVX5, q_cN6, q_cSX6, q_cV6, q_cVX6, q_th, q_sh0, q_sh1, q_sh2, q_sh3, q_sh4, q_toL0, q_toL1, q_gl0, q_gls, q_sl0, q_sls, q_k10, q_k1s, q_lgi, q_lgr, q_lgl, q_lgn, Bool.not_false, and_true, true_and, nz_2, nz_4, nz_5, nz_8, nz_10, nz_12, nz_14, nz_16, nz_40, nz_41, nz_64, nz_100, nz_1000, nz_1024, nz_4096, nz_10000, nz_100000, not_false_eq_true, bI_0, nI_add, pk_mul, nI_lt', nI_le', nI_eq', nI_z, nI_p, nI_e0, nI_l0, nI_le0, nI_clamp, up_eq, up_ne, not_true_eq_false, Classical.not_not, false_implies, true_implies, false_and, and_false, or_true, true_or, Nat.add_zero, pk_m1, m1_0, m1_n, m1_p, Nat.zero_le, forall_const]
    repeat' first
      | assumption
      | (refine vp_in_nI ?_ ?_ <;> omega)
      | refine And.intro ?_ ?_
      | (intro (_ : _); first | (exfalso; omega) | skip)
    refine ⟨ls.length, rfl, hlen, ?_⟩
    unfold wr4
    simp (disch := omega) only [up_ne, hR.1]
    repeat' first
      | assumption
      | (refine vp_in_nI ?_ ?_ <;> omega)
      | refine And.intro ?_ ?_
      | (intro (_ : _); first | (exfalso; omega) | skip)
      | (refine h1 _ _ _ ?_; simp (disch := omega) only [bX4_add_32, q_ci, q_cl, q_ild, q_lld, q_ald, q_ist, q_ast, q_lst, q_inc, q_b2, q_d2, q_u1, q_l2, q_ld2, q_lsh, q_lcmp, q_i2l, q_l2i, q_dupi, q_dupr, q_dup2, q_popi, q_popr, q_if1, q_if2, q_nn, q_sw, q_swn, q_swc, q_gf, q_gr, q_pf, q_pz, q_pc, q_ia, q_is, q_cs, q_zs, q_la, q_lw, q_aa, q_al, q_gs, q_acp, q_m2, q_m1, q_ir, q_zr, q_lr, q_ar, q_vr, q_cN0, q_cSX0, q_cV0, q_cVX0, q_cN1, q_cSX1, q_cV1, q_cVX1, q_cN2, q_cSX2, q_cV2, q_cVX2, q_cN3, q_cSX3, q_cV3, q_cVX3, q_cN4, q_cSX4, q_cV4, q_cVX4, q_cN5, q_cSX5, q_cV5, q_cVX5, q_cN6, q_cSX6, q_cV6, q_cVX6, q_th, q_sh0, q_sh1, q_sh2, q_sh3, q_sh4, q_toL0, q_toL1, q_gl0, q_gls, q_sl0, q_sls, q_k10, q_k1s, q_lgi, q_lgr, q_lgl, q_lgn, Bool.not_false, and_true, true_and, nz_2, nz_4, nz_5, nz_8, nz_10, nz_12, nz_14, nz_16, nz_40, nz_41, nz_64, nz_100, nz_1000, nz_1024, nz_4096, nz_10000, nz_100000, not_false_eq_true, bI_0, nI_add, pk_mul, nI_lt', nI_le', nI_eq', nI_z, nI_p, nI_e0, nI_l0, nI_le0, nI_clamp, up_eq, up_ne, not_true_eq_false, Classical.not_not, false_implies, true_implies, false_and, and_false, or_true, true_or, Nat.add_zero, pk_m1, m1_0, m1_n, m1_p, Nat.zero_le, forall_const, hR.1])
    refine h _ ⟨?_, fun k y hk => ?_⟩ (fun v hv => ?_)
    · simp (disch := omega) only [up_eqp]; simp
    · by_cases hkl : k = ls.length
      · subst hkl
        simp at hk
        subst hk
        simp (disch := omega) only [up_ne, up_eqp, true_and]
      · have hk2 := getq hk
        simp at hk2
        rw [List.getElem?_append_left (by omega)] at hk
        simp (disch := omega) only [up_ne, up_nep]
        exact hR.2 k y hk
    · simp (disch := omega) only [up_ne]
  · exact h.elim
def sp_X4_bringDue : ab_S := fun w As σ K => match As with
  | [.ref a, .int i, .ref st] => wO w a ∧ wS w st ∧ ap8 st a ∧ ∃ l f t, RO σ a l ∧ RS σ st f ∧ cOK f ∧ i = nI t ∧ t < 2 ^ 31 ∧ l.length ≤ 8 ∧ (∀ o ∈ l, o.2.1 < cl (f 1) ∧ o.1 < 2 ^ 31) ∧
      ∀ σ', RO σ' a (l.filter (fun o => !(o.1 == t))) → RS σ' st (l.foldl (n_come t) f) → Fr2 st 8 a 5 σ σ' → K none σ'
  | _ => False
theorem n_come_1 {t : Nat} {f : nF} {o : nO} : n_come t f o 1 = f 1 := by
  unfold n_come n_addO; split <;> simp (disch := omega) only [upd_nep]
theorem n_fold_1 {t : Nat} : ∀ (l : List nO) (f : nF), l.foldl (n_come t) f 1 = f 1
  | [], _ => rfl
  | o :: l, f => by rw [List.foldl_cons, n_fold_1 l, n_come_1]
set_option maxRecDepth 20000 in
set_option maxHeartbeats 4000000 in
theorem ok_X4_bringDue {l : Launch} (hl : l.stackTraces = false) : ab_OkN l yX4_bringDue (Cond.code yX4_bringDue cX4_bringDue 5 none) 3 sp_X4_bringDue := by
  intro w σ As Kn hI h
  unfold sp_X4_bringDue at h
  split at h
  · next a i st =>
    obtain ⟨hw, hwS, hap, ls, f, t, hR, hRS, hcO, rfl, ht, hlen, hall, h⟩ := h
    refine vc_X4_bringDue hl hI (ok_X4_put hl) (ok_X7_receive hl) (Nat.le_of_ble_eq_true rfl) (fun M h0 h1 h2 => h0 [.ref a, .int (nI t), .ref st, .null, .null] [] σ ?_)
    have hw' := hw
    have hwS0 := hwS.1
    unfold ap8 at hap
    unfold wO at hw'
    have loop : ∀ d k σk, k + d = ls.length → σk a 0 = nI ls.length → (∀ i x, ((ls.take k).filter (fun o => !(o.1 == t)))[i]? = some x → σk (a + 1) i = nI x.1 ∧ σk (a + 2) i = nI x.2.1 ∧ σk (a + 3) i = nI x.2.2.1 ∧ σk (a + 4) i = nI x.2.2.2) →
        (∀ i x, k ≤ i → ls[i]? = some x → σk (a + 1) i = nI x.1 ∧ σk (a + 2) i = nI x.2.1 ∧ σk (a + 3) i = nI x.2.2.1 ∧ σk (a + 4) i = nI x.2.2.2) →
        RS σk st ((ls.take k).foldl (n_come t) f) → Fr2 st 8 a 5 σ σk →
        M 5 [.ref a, .int (nI t), .ref st, .int (nI ((ls.take k).filter (fun o => !(o.1 == t))).length), .int (nI k)] [] σk := by
      intro d
      induction d with
      | zero =>
        intro k σk hk h0c hkept hrest hS hfr
        have hkl : k = ls.length := by omega
        subst hkl
        rw [List.take_length] at hkept hS ⊢
        refine h1 _ _ _ ?_
        simp (disch := omega) only [bX4_bringDue_5, hw', h0c, q_ci, q_cl, q_ild, q_lld, q_ald, q_ist, q_ast, q_lst, q_inc, q_b2, q_d2, q_u1, q_l2, q_ld2, q_lsh, q_lcmp, q_i2l, q_l2i, q_dupi, q_dupr, q_dup2, q_popi, q_popr, q_if1, q_if2, q_nn, q_sw, q_swn, q_swc, q_gf, q_gr, q_pf, q_pz, q_pc, q_ia, q_is, q_cs, q_zs, q_la, q_lw, q_aa, q_al, q_gs, q_acp, q_m2, q_m1, q_ir, q_zr, q_lr, q_ar, q_vr, q_cN0, q_cSX0, q_cV0, q_cVX0, q_cN1, q_cSX1, q_cV1, q_cVX1, q_cN2, q_cSX2, q_cV2, q_cVX2, q_cN3, q_cSX3, q_cV3, q_cVX3, q_cN4, q_cSX4, q_cV4, q_cVX4, q_cN5, q_cSX5, q_cV5, q_cVX5, q_cN6, q_cSX6, q_cV6, q_cVX6, q_th, q_sh0, q_sh1, q_sh2, q_sh3, q_sh4, q_toL0, q_toL1, q_gl0, q_gls, q_sl0, q_sls, q_k10, q_k1s, q_lgi, q_lgr, q_lgl, q_lgn, Bool.not_false, and_true, true_and, nz_2, nz_4, nz_5, nz_8, nz_10, nz_12, nz_14, nz_16, nz_40, nz_41, nz_64, nz_100, nz_1000, nz_1024, nz_4096, nz_10000, nz_100000, not_false_eq_true, bI_0, nI_add, pk_mul, nI_lt', nI_le', nI_eq', nI_z, nI_p, nI_e0, nI_l0, nI_le0, nI_clamp, up_eq, up_ne, not_true_eq_false, Classical.not_not, false_implies, true_implies, false_and, and_false, or_true, true_or, Nat.add_zero, pk_m1, m1_0, m1_n, m1_p, Nat.zero_le, forall_const]
        repeat' first
          | assumption
          | (refine vp_in_nI ?_ ?_ <;> omega)
          | refine And.intro ?_ ?_
          | (intro (_ : _); first | (exfalso; omega) | skip)
        refine h _ ⟨?_, fun i x hx => ?_⟩ (hS.of fun v q1 q2 => ?_) (fun v q1 q2 => ?_)
        · simp (disch := omega) only [up_eqp]
        · simp (disch := omega) only [up_ne]; exact hkept i x hx
        · simp (disch := omega) only [up_ne]
        · simp (disch := omega) only [up_ne]; exact hfr v q1 q2
      | succ d ih =>
        intro k σk hk h0c hkept hrest hS hfr
        have hkl : k < ls.length := by omega
        have hg : ls[k]? = some ls[k] := List.getElem?_eq_getElem hkl
        obtain ⟨e1, e2, e3, e4⟩ := hrest k _ (Nat.le_refl _) hg
        obtain ⟨hst, hlt⟩ := hall _ (List.getElem_mem hkl)
        have htk : ls.take (k + 1) = ls.take k ++ [ls[k]] := (List.take_append_getElem hkl).symm
        have hkn : ((ls.take k).filter (fun o => !(o.1 == t))).length ≤ k := Nat.le_trans (List.length_filter_le _ _) (by rw [List.length_take]; omega)
        have ih' := fun σ1 => ih (k + 1) σ1 (by omega)
        rw [htk, List.filter_append, List.foldl_append] at ih'
        generalize hx : ls[k] = x at e1 e2 e3 e4 hst hlt ih' hg
        obtain ⟨x1, x2, x3, x4⟩ := x
        dsimp only at e1 e2 e3 e4 hst hlt
        refine h1 _ _ _ ?_
        simp (disch := omega) only [bX4_bringDue_5, sp_X4_put, sp_X7_receive, hw', hwS0, h0c, e1, e2, e3, e4, q_ci, q_cl, q_ild, q_lld, q_ald, q_ist, q_ast, q_lst, q_inc, q_b2, q_d2, q_u1, q_l2, q_ld2, q_lsh, q_lcmp, q_i2l, q_l2i, q_dupi, q_dupr, q_dup2, q_popi, q_popr, q_if1, q_if2, q_nn, q_sw, q_swn, q_swc, q_gf, q_gr, q_pf, q_pz, q_pc, q_ia, q_is, q_cs, q_zs, q_la, q_lw, q_aa, q_al, q_gs, q_acp, q_m2, q_m1, q_ir, q_zr, q_lr, q_ar, q_vr, q_cN0, q_cSX0, q_cV0, q_cVX0, q_cN1, q_cSX1, q_cV1, q_cVX1, q_cN2, q_cSX2, q_cV2, q_cVX2, q_cN3, q_cSX3, q_cV3, q_cVX3, q_cN4, q_cSX4, q_cV4, q_cVX4, q_cN5, q_cSX5, q_cV5, q_cVX5, q_cN6, q_cSX6, q_cV6, q_cVX6, q_th, q_sh0, q_sh1, q_sh2, q_sh3, q_sh4, q_toL0, q_toL1, q_gl0, q_gls, q_sl0, q_sls, q_k10, q_k1s, q_lgi, q_lgr, q_lgl, q_lgn, Bool.not_false, and_true, true_and, nz_2, nz_4, nz_5, nz_8, nz_10, nz_12, nz_14, nz_16, nz_40, nz_41, nz_64, nz_100, nz_1000, nz_1024, nz_4096, nz_10000, nz_100000, not_false_eq_true, bI_0, nI_add, pk_mul, nI_lt', nI_le', nI_eq', nI_z, nI_p, nI_e0, nI_l0, nI_le0, nI_clamp, up_eq, up_ne, not_true_eq_false, Classical.not_not, false_implies, true_implies, false_and, and_false, or_true, true_or, Nat.add_zero, pk_m1, m1_0, m1_n, m1_p, Nat.zero_le, forall_const]
        have hc1 : (ls.take k).foldl (n_come t) f 1 = f 1 := n_fold_1 _ _
        have hs0 : σk st 0 = nI (cl (f 1)) := by rw [hS.1, hc1]; exact hcO.1
        by_cases hdue : x1 = t
        · subst hdue
          have ef : [((x1, x2, x3, x4) : nO)].filter (fun o => !(o.1 == x1)) = [] := by simp
          rw [ef, List.append_nil, List.foldl_cons, List.foldl_nil] at ih'
          repeat' first
            | assumption
            | (refine vp_in_nI ?_ ?_ <;> omega)
            | refine And.intro ?_ ?_
            | (intro (_ : _); first | (exfalso; omega) | skip)
          refine ⟨x2, cl (f 1), ⟨rfl, hs0, hst, hcO.2⟩, ?_⟩
          refine h2 _ _ _ ?_
          simp (disch := omega) only [bX4_bringDue_89, q_ci, q_cl, q_ild, q_lld, q_ald, q_ist, q_ast, q_lst, q_inc, q_b2, q_d2, q_u1, q_l2, q_ld2, q_lsh, q_lcmp, q_i2l, q_l2i, q_dupi, q_dupr, q_dup2, q_popi, q_popr, q_if1, q_if2, q_nn, q_sw, q_swn, q_swc, q_gf, q_gr, q_pf, q_pz, q_pc, q_ia, q_is, q_cs, q_zs, q_la, q_lw, q_aa, q_al, q_gs, q_acp, q_m2, q_m1, q_ir, q_zr, q_lr, q_ar, q_vr, q_cN0, q_cSX0, q_cV0, q_cVX0, q_cN1, q_cSX1, q_cV1, q_cVX1, q_cN2, q_cSX2, q_cV2, q_cVX2, q_cN3, q_cSX3, q_cV3, q_cVX3, q_cN4, q_cSX4, q_cV4, q_cVX4, q_cN5, q_cSX5, q_cV5, q_cVX5, q_cN6, q_cSX6, q_cV6, q_cVX6, q_th, q_sh0, q_sh1, q_sh2, q_sh3, q_sh4, q_toL0, q_toL1, q_gl0, q_gls, q_sl0, q_sls, q_k10, q_k1s, q_lgi, q_lgr, q_lgl, q_lgn, Bool.not_false, and_true, true_and, nz_2, nz_4, nz_5, nz_8, nz_10, nz_12, nz_14, nz_16, nz_40, nz_41, nz_64, nz_100, nz_1000, nz_1024, nz_4096, nz_10000, nz_100000, not_false_eq_true, bI_0, nI_add, pk_mul, nI_lt', nI_le', nI_eq', nI_z, nI_p, nI_e0, nI_l0, nI_le0, nI_clamp, up_eq, up_ne, not_true_eq_false, Classical.not_not, false_implies, true_implies, false_and, and_false, or_true, true_or, Nat.add_zero, pk_m1, m1_0, m1_n, m1_p, Nat.zero_le, forall_const]
          refine ih' _ ?_ ?_ ?_ ?_ ?_
          · simp (disch := omega) only [up_ne]; exact h0c
          · intro i x hx; simp (disch := omega) only [up_ne]; exact hkept i x hx
          · intro i x hi hx; simp (disch := omega) only [up_ne]; exact hrest i x (by omega) hx
          · have := hS.recv (k := x2) (by rw [hc1]; exact hst) (nI x3) (nI x4)
            unfold n_come n_addO
            rw [if_pos rfl]
            exact this
          · intro v q1 q2; simp (disch := omega) only [up_ne]; exact hfr v q1 q2
        · have ef : [((x1, x2, x3, x4) : nO)].filter (fun o => !(o.1 == t)) = [(x1, x2, x3, x4)] := by simp [hdue]
          rw [ef, List.foldl_cons, List.foldl_nil, List.length_append] at ih'
          repeat' first
            | assumption
            | (refine vp_in_nI ?_ ?_ <;> omega)
            | refine And.intro ?_ ?_
            | (intro (_ : _); first | (exfalso; omega) | skip)
          refine ⟨_, rfl, by omega, ?_⟩
          refine h2 _ _ _ ?_
          unfold wr4
          simp (disch := omega) only [bX4_bringDue_89, q_ci, q_cl, q_ild, q_lld, q_ald, q_ist, q_ast, q_lst, q_inc, q_b2, q_d2, q_u1, q_l2, q_ld2, q_lsh, q_lcmp, q_i2l, q_l2i, q_dupi, q_dupr, q_dup2, q_popi, q_popr, q_if1, q_if2, q_nn, q_sw, q_swn, q_swc, q_gf, q_gr, q_pf, q_pz, q_pc, q_ia, q_is, q_cs, q_zs, q_la, q_lw, q_aa, q_al, q_gs, q_acp, q_m2, q_m1, q_ir, q_zr, q_lr, q_ar, q_vr, q_cN0, q_cSX0, q_cV0, q_cVX0, q_cN1, q_cSX1, q_cV1, q_cVX1, q_cN2, q_cSX2, q_cV2, q_cVX2, q_cN3, q_cSX3, q_cV3, q_cVX3, q_cN4, q_cSX4, q_cV4, q_cVX4, q_cN5, q_cSX5, q_cV5, q_cVX5, q_cN6, q_cSX6, q_cV6, q_cVX6, q_th, q_sh0, q_sh1, q_sh2, q_sh3, q_sh4, q_toL0, q_toL1, q_gl0, q_gls, q_sl0, q_sls, q_k10, q_k1s, q_lgi, q_lgr, q_lgl, q_lgn, Bool.not_false, and_true, true_and, nz_2, nz_4, nz_5, nz_8, nz_10, nz_12, nz_14, nz_16, nz_40, nz_41, nz_64, nz_100, nz_1000, nz_1024, nz_4096, nz_10000, nz_100000, not_false_eq_true, bI_0, nI_add, pk_mul, nI_lt', nI_le', nI_eq', nI_z, nI_p, nI_e0, nI_l0, nI_le0, nI_clamp, up_eq, up_ne, not_true_eq_false, Classical.not_not, false_implies, true_implies, false_and, and_false, or_true, true_or, Nat.add_zero, pk_m1, m1_0, m1_n, m1_p, Nat.zero_le, forall_const]
          refine ih' _ ?_ ?_ ?_ ?_ ?_
          · simp (disch := omega) only [up_ne]; exact h0c
          · intro i x hx
            by_cases hil : i = ((ls.take k).filter (fun o => !(o.1 == t))).length
            · rw [hil, List.getElem?_append_right (Nat.le_refl _), Nat.sub_self] at hx
              cases hx
              simp (disch := omega) only [up_ne, up_eqp, true_and]
            · have h9 := getq hx
              rw [List.length_append, List.length_singleton] at h9
              rw [List.getElem?_append_left (by omega)] at hx
              simp (disch := omega) only [up_ne, up_nep]
              exact hkept i x hx
          · intro i x hi hx; simp (disch := omega) only [up_ne, up_nep]; exact hrest i x (by omega) hx
          · unfold n_come
            rw [if_neg hdue]
            exact hS.of fun v q1 q2 => by simp (disch := omega) only [up_ne]
          · intro v q1 q2; simp (disch := omega) only [up_ne]; exact hfr v q1 q2
    simp (disch := omega) only [bX4_bringDue_0, q_ci, q_cl, q_ild, q_lld, q_ald, q_ist, q_ast, q_lst, q_inc, q_b2, q_d2, q_u1, q_l2, q_ld2, q_lsh, q_lcmp, q_i2l, q_l2i, q_dupi, q_dupr, q_dup2, q_popi, q_popr, q_if1, q_if2, q_nn, q_sw, q_swn, q_swc, q_gf, q_gr, q_pf, q_pz, q_pc, q_ia, q_is, q_cs, q_zs, q_la, q_lw, q_aa, q_al, q_gs, q_acp, q_m2, q_m1, q_ir, q_zr, q_lr, q_ar, q_vr, q_cN0, q_cSX0, q_cV0, q_cVX0, q_cN1, q_cSX1, q_cV1, q_cVX1, q_cN2, q_cSX2, q_cV2, q_cVX2, q_cN3, q_cSX3, q_cV3, q_cVX3, q_cN4, q_cSX4, q_cV4, q_cVX4, q_cN5, q_cSX5, q_cV5, q_cVX5, q_cN6, q_cSX6, q_cV6, q_cVX6, q_th, q_sh0, q_sh1, q_sh2, q_sh3, q_sh4, q_toL0, q_toL1, q_gl0, q_gls, q_sl0, q_sls, q_k10, q_k1s, q_lgi, q_lgr, q_lgl, q_lgn, Bool.not_false, and_true, true_and, nz_2, nz_4, nz_5, nz_8, nz_10, nz_12, nz_14, nz_16, nz_40, nz_41, nz_64, nz_100, nz_1000, nz_1024, nz_4096, nz_10000, nz_100000, not_false_eq_true, bI_0, nI_add, pk_mul, nI_lt', nI_le', nI_eq', nI_z, nI_p, nI_e0, nI_l0, nI_le0, nI_clamp, up_eq, up_ne, not_true_eq_false, Classical.not_not, false_implies, true_implies, false_and, and_false, or_true, true_or, Nat.add_zero, pk_m1, m1_0, m1_n, m1_p, Nat.zero_le, forall_const]
    repeat' first
      | assumption
      | (refine vp_in_nI ?_ ?_ <;> omega)
      | refine And.intro ?_ ?_
      | (intro (_ : _); first | (exfalso; omega) | skip)
    have := loop ls.length 0 σ (by omega) hR.1 (fun i x hx => by simp at hx) (fun i x _ hx => hR.2 i x hx) hRS (fun v _ _ => rfl)
    exact this
  · exact h.elim
