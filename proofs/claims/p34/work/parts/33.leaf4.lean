/-- the gaps, when one more is told -/
def n_tell (l : List nB) (x : nB) : List nB := (if l.length = 12 then l.drop 1 else l) ++ [x]
def sp_X1_add : ab_S := fun w As σ K => match As with
  | [.ref a, .int p, .int q, .int r] => wG w a ∧ ∃ l x c, RG σ a (nI c) l ∧ c < 2 ^ 30 ∧ l.length = min c 12 ∧ p = nI x.1 ∧ q = nI x.2.1 ∧ r = nI x.2.2 ∧ ∀ σ', RG σ' a (nI (c + 1)) (n_tell l x) → Frk a 4 σ σ' → K none σ'
  | _ => False
set_option maxRecDepth 20000 in
set_option maxHeartbeats 4000000 in
theorem ok_X1_add {l : Launch} (hl : l.stackTraces = false) : ab_OkN l yX1_add (Cond.code yX1_add cX1_add 5 none) 1 sp_X1_add := by
  intro w σ As Kn hI h
  unfold sp_X1_add at h
  split at h
  · next a p q r =>
    obtain ⟨hw, ls, x, c, hR, hc, hlen, rfl, rfl, rfl, h⟩ := h
    refine vc_X1_add hl hI (Nat.le_of_ble_eq_true rfl) (fun M h0 h1 => h0 [.ref a, .int (nI x.1), .int (nI x.2.1), .int (nI x.2.2), .null] [] σ ?_)
    have hw' := hw
    unfold wG at hw'
    have en : σ a 1 = nI (n_nx c) := by have := hR.2.2; rw [cl_nI (by omega)] at this; exact this
    have hm12 : c % 12 < 12 := Nat.mod_lt _ (by decide)
    have hnl := n_nx_le c
    have hnm := n_nx_mod c
    have H17 : ∀ z, z = nI (c % 12) → M 17 [.ref a, .int (nI x.1), .int (nI x.2.1), .int (nI x.2.2), .null] [.int z] σ := by
      intro z hz
      subst hz
      refine h1 _ _ _ ?_
      simp (disch := omega) only [bX1_add_17, hw', hR.1, q_ci, q_cl, q_ild, q_lld, q_ald, q_ist, q_ast, q_lst, q_inc, q_b2, q_d2, q_u1, q_l2, q_ld2, q_lsh, q_lcmp, q_i2l, q_l2i, q_dupi, q_dupr, q_dup2, q_popi, q_popr, q_if1, q_if2, q_nn, q_sw, q_swn, q_swc, q_gf, q_gr, q_pf, q_pz, q_pc, q_ia, q_is, q_cs, q_zs, q_la, q_lw, q_aa, q_al, q_gs, q_acp, q_m2, q_m1, q_ir, q_zr, q_lr, q_ar, q_vr, q_cN0, q_cSX0, q_cV0, q_cVX0, q_cN1, q_cSX1, q_cV1, q_cVX1, q_cN2, q_cSX2, q_cV2, q_cVX2, q_cN3, q_cSX3, q_cV3, q_cVX3, q_cN4, q_cSX4, q_cV4, q_cVX4, q_cN5, q_cSX5, q_cV5, q_cVX5, q_cN6, q_cSX6, q_cV6, q_cVX6, q_th, q_sh0, q_sh1, q_sh2, q_sh3, q_sh4, q_toL0, q_toL1, q_gl0, q_gls, q_sl0, q_sls, q_k10, q_k1s, q_lgi, q_lgr, q_lgl, q_lgn, Bool.not_false, and_true, true_and, nz_2, nz_4, nz_5, nz_8, nz_10, nz_12, nz_14, nz_16, nz_40, nz_41, nz_64, nz_100, nz_1000, nz_1024, nz_4096, nz_10000, nz_100000, not_false_eq_true, bI_0, nI_add, pk_mul, nI_lt', nI_le', nI_eq', nI_z, nI_p, nI_e0, nI_l0, nI_le0, nI_clamp, up_eq, up_ne, not_true_eq_false, Classical.not_not, false_implies, true_implies, false_and, and_false, or_true, true_or, Nat.add_zero, pk_m1, m1_0, m1_n, m1_p, Nat.zero_le, forall_const, Nat.zero_add, Nat.reduceAdd, Nat.reduceEqDiff, or_false, false_or, Nat.one_ne_zero]
      have v12 : vp_in (nI (c % 12)) 12 := by refine vp_in_nI ?_ ?_ <;> omega
      refine ⟨v12, v12, v12, ?_⟩
      simp only [if_false]
      refine h _ ⟨?_, fun k y hk => ?_, ?_⟩ (fun v hv => ?_)
      · simp (disch := omega) only [up_eqp, if_false]
        exact nI_add _ _
      · rw [cl_nI (by omega)]
        unfold n_tell at hk ⊢
        have h2 := hR.2.1
        rw [cl_nI (by omega)] at h2
        by_cases h12 : ls.length = 12
        · rw [if_pos h12] at hk ⊢
          have hl1 : (ls.drop 1).length = 11 := by rw [List.length_drop]; omega
          rw [List.length_append, hl1, List.length_singleton]
          have hk9 := getq hk
          rw [List.length_append, hl1, List.length_singleton] at hk9
          by_cases hk11 : k = 11
          · subst hk11
            rw [List.getElem?_append_right (by omega), hl1, Nat.sub_self] at hk
            cases hk
            have e1 : (c + 1 - (11 + 1) + 11) % 12 = c % 12 := by omega
            rw [e1]
            simp (disch := omega) only [up_ne, up_eqp, true_and]
          · rw [List.getElem?_append_left (by omega), List.getElem?_drop] at hk
            have := h2 (1 + k) y hk
            have e1 : (c - ls.length + (1 + k)) % 12 = (c + 1 - (11 + 1) + k) % 12 := by omega
            rw [e1] at this
            have hne : (c + 1 - (11 + 1) + k) % 12 ≠ c % 12 := by omega
            simp (disch := omega) only [up_ne, up_nep]
            exact this
        · rw [if_neg h12] at hk ⊢
          have hlc : ls.length = c := by omega
          rw [List.length_append, List.length_singleton]
          have hk9 := getq hk
          rw [List.length_append, List.length_singleton] at hk9
          by_cases hkc : k = c
          · subst hkc
            rw [List.getElem?_append_right (by omega), hlc, Nat.sub_self] at hk
            cases hk
            have e1 : (k + 1 - (ls.length + 1) + k) % 12 = k % 12 := by omega
            rw [e1]
            simp (disch := omega) only [up_ne, up_eqp, true_and]
          · rw [List.getElem?_append_left (by omega)] at hk
            have := h2 k y hk
            have e1 : (c - ls.length + k) % 12 = (c + 1 - (ls.length + 1) + k) % 12 := by omega
            rw [e1] at this
            have hne : (c + 1 - (ls.length + 1) + k) % 12 ≠ c % 12 := by omega
            simp (disch := omega) only [up_ne, up_nep]
            exact this
      · rw [cl_nI (by omega), n_nx_s]
        simp (disch := omega) only [up_eqp, up_nep]
      · simp (disch := omega) only [up_ne]
    simp (disch := omega) only [bX1_add_0, hw', en, q_ci, q_cl, q_ild, q_lld, q_ald, q_ist, q_ast, q_lst, q_inc, q_b2, q_d2, q_u1, q_l2, q_ld2, q_lsh, q_lcmp, q_i2l, q_l2i, q_dupi, q_dupr, q_dup2, q_popi, q_popr, q_if1, q_if2, q_nn, q_sw, q_swn, q_swc, q_gf, q_gr, q_pf, q_pz, q_pc, q_ia, q_is, q_cs, q_zs, q_la, q_lw, q_aa, q_al, q_gs, q_acp, q_m2, q_m1, q_ir, q_zr, q_lr, q_ar, q_vr, q_cN0, q_cSX0, q_cV0, q_cVX0, q_cN1, q_cSX1, q_cV1, q_cVX1, q_cN2, q_cSX2, q_cV2, q_cVX2, q_cN3, q_cSX3, q_cV3, q_cVX3, q_cN4, q_cSX4, q_cV4, q_cVX4, q_cN5, q_cSX5, q_cV5, q_cVX5, q_cN6, q_cSX6, q_cV6, q_cVX6, q_th, q_sh0, q_sh1, q_sh2, q_sh3, q_sh4, q_toL0, q_toL1, q_gl0, q_gls, q_sl0, q_sls, q_k10, q_k1s, q_lgi, q_lgr, q_lgl, q_lgn, Bool.not_false, and_true, true_and, nz_2, nz_4, nz_5, nz_8, nz_10, nz_12, nz_14, nz_16, nz_40, nz_41, nz_64, nz_100, nz_1000, nz_1024, nz_4096, nz_10000, nz_100000, not_false_eq_true, bI_0, nI_add, pk_mul, nI_lt', nI_le', nI_eq', nI_z, nI_p, nI_e0, nI_l0, nI_le0, nI_clamp, up_eq, up_ne, not_true_eq_false, Classical.not_not, false_implies, true_implies, false_and, and_false, or_true, true_or, Nat.add_zero, pk_m1, m1_0, m1_n, m1_p, Nat.zero_le, forall_const, Nat.zero_add, Nat.reduceAdd, Nat.reduceEqDiff, or_false, false_or, Nat.one_ne_zero]
    by_cases h11 : n_nx c < 12
    · rw [if_pos h11] at hnm
      have z1 := H17 (nI (n_nx c)) (by rw [hnm])
      repeat' first
        | assumption
        | (refine vp_in_nI ?_ ?_ <;> omega)
        | refine And.intro ?_ ?_
        | (intro (_ : _); first | (exfalso; omega) | skip)
    · rw [if_neg h11] at hnm
      have z1 := H17 (nI 0) (by rw [hnm])
      repeat' first
        | assumption
        | (refine vp_in_nI ?_ ?_ <;> omega)
        | refine And.intro ?_ ?_
        | (intro (_ : _); first | (exfalso; omega) | skip)
  · exact h.elim
/-- the k-th gap, the latest first -/
def n_gnum (l : List nB) (k : Int32) (j : Nat) : Int32 := if k < nI l.length then (if j = 0 then nI (l.getD (l.length - 1 - cl k) (0, 0, 0)).1 else if j = 1 then nI (l.getD (l.length - 1 - cl k) (0, 0, 0)).2.1 else nI (l.getD (l.length - 1 - cl k) (0, 0, 0)).2.2) else -1
def sp_X1_numberOf : ab_S := fun w As σ K => match As with
  | [.ref a, .int k, .int j] => wG w a ∧ 0 ≤ k ∧ ∃ l m c, RG σ a (nI c) l ∧ c < 2 ^ 30 ∧ l.length = min c 12 ∧ j = nI m ∧ m ≤ 2 ∧ K (some (.int (n_gnum l k m))) σ
  | _ => False
/-- floorMod of what lies at most a round below nought -/
def sp_J9_fm12 (t r : Nat) : ab_S := fun _ As σ K => match As with
  | [.int x, .int y] => t < 24 ∧ r = t % 12 ∧ x = nI t - nI 12 ∧ y = nI 12 ∧ K (some (.int (nI r))) σ
  | _ => False
set_option maxRecDepth 20000 in
set_option maxHeartbeats 4000000 in
theorem ok_J9_fm12 {l : Launch} (hl : l.stackTraces = false) (t r : Nat) : ab_OkN l yJ9_floorMod_7cf53 (Cond.code yJ9_floorMod_7cf53 cJ9_floorMod_7cf53 3 (some .int)) 1 (sp_J9_fm12 t r) := by
  intro w σ As Kn hI h
  unfold sp_J9_fm12 at h
  split at h
  · next x y =>
    obtain ⟨ht, rfl, rfl, rfl, h⟩ := h
    refine vc_J9_floorMod_7cf53 hl hI (Nat.le_of_ble_eq_true rfl) (fun M h0 h1 => h0 [.int (nI t - nI 12), .int (nI 12), .null] [] σ ?_)
    have F := (by decide +kernel : ∀ t, t < 24 → ((0 ≤ (nI t - nI 12) ^^^ nI 12) ∧ (nI t - nI 12) - (nI t - nI 12) / nI 12 * nI 12 = nI (t % 12)) ∨ (¬ (0 ≤ (nI t - nI 12) ^^^ nI 12) ∧ (nI t - nI 12) - (nI t - nI 12) / nI 12 * nI 12 = 0 ∧ nI (t % 12) = 0) ∨ (¬ (0 ≤ (nI t - nI 12) ^^^ nI 12) ∧ ¬ (nI t - nI 12) - (nI t - nI 12) / nI 12 * nI 12 = 0 ∧ (nI t - nI 12) - (nI t - nI 12) / nI 12 * nI 12 + nI 12 = nI (t % 12))) t ht
    generalize hm : (nI t - nI 12) - (nI t - nI 12) / nI 12 * nI 12 = m at F
    have hb : ¬ (nI 12 = 0) := by decide
    have H18 : m = nI (t % 12) → M 18 [.int (nI t - nI 12), .int (nI 12), .int m] [] σ := by
      intro q
      refine h1 _ _ _ ?_
      simp (disch := omega) only [bJ9_floorMod_7cf53_18, q, q_ci, q_cl, q_ild, q_lld, q_ald, q_ist, q_ast, q_lst, q_inc, q_b2, q_d2, q_u1, q_l2, q_ld2, q_lsh, q_lcmp, q_i2l, q_l2i, q_dupi, q_dupr, q_dup2, q_popi, q_popr, q_if1, q_if2, q_nn, q_sw, q_swn, q_swc, q_gf, q_gr, q_pf, q_pz, q_pc, q_ia, q_is, q_cs, q_zs, q_la, q_lw, q_aa, q_al, q_gs, q_acp, q_m2, q_m1, q_ir, q_zr, q_lr, q_ar, q_vr, q_cN0, q_cSX0, q_cV0, q_cVX0, q_cN1, q_cSX1, q_cV1, q_cVX1, q_cN2, q_cSX2, q_cV2, q_cVX2, q_cN3, q_cSX3, q_cV3, q_cVX3, q_cN4, q_cSX4, q_cV4, q_cVX4, q_cN5, q_cSX5, q_cV5, q_cVX5, q_cN6, q_cSX6, q_cV6, q_cVX6, q_th, q_sh0, q_sh1, q_sh2, q_sh3, q_sh4, q_toL0, q_toL1, q_gl0, q_gls, q_sl0, q_sls, q_k10, q_k1s, q_lgi, q_lgr, q_lgl, q_lgn, Bool.not_false, and_true, true_and, nz_2, nz_4, nz_5, nz_8, nz_10, nz_12, nz_14, nz_16, nz_40, nz_41, nz_64, nz_100, nz_1000, nz_1024, nz_4096, nz_10000, nz_100000, not_false_eq_true, bI_0, nI_add, pk_mul, nI_lt', nI_le', nI_eq', nI_z, nI_p, nI_e0, nI_l0, nI_le0, nI_clamp, up_eq, up_ne, not_true_eq_false, Classical.not_not, false_implies, true_implies, false_and, and_false, or_true, true_or, Nat.add_zero, pk_m1, m1_0, m1_n, m1_p, Nat.zero_le, forall_const]
      exact h
    simp (disch := omega) only [bJ9_floorMod_7cf53_0, hb, hm, q_ci, q_cl, q_ild, q_lld, q_ald, q_ist, q_ast, q_lst, q_inc, q_b2, q_d2, q_u1, q_l2, q_ld2, q_lsh, q_lcmp, q_i2l, q_l2i, q_dupi, q_dupr, q_dup2, q_popi, q_popr, q_if1, q_if2, q_nn, q_sw, q_swn, q_swc, q_gf, q_gr, q_pf, q_pz, q_pc, q_ia, q_is, q_cs, q_zs, q_la, q_lw, q_aa, q_al, q_gs, q_acp, q_m2, q_m1, q_ir, q_zr, q_lr, q_ar, q_vr, q_cN0, q_cSX0, q_cV0, q_cVX0, q_cN1, q_cSX1, q_cV1, q_cVX1, q_cN2, q_cSX2, q_cV2, q_cVX2, q_cN3, q_cSX3, q_cV3, q_cVX3, q_cN4, q_cSX4, q_cV4, q_cVX4, q_cN5, q_cSX5, q_cV5, q_cVX5, q_cN6, q_cSX6, q_cV6, q_cVX6, q_th, q_sh0, q_sh1, q_sh2, q_sh3, q_sh4, q_toL0, q_toL1, q_gl0, q_gls, q_sl0, q_sls, q_k10, q_k1s, q_lgi, q_lgr, q_lgl, q_lgn, Bool.not_false, and_true, true_and, nz_2, nz_4, nz_5, nz_8, nz_10, nz_12, nz_14, nz_16, nz_40, nz_41, nz_64, nz_100, nz_1000, nz_1024, nz_4096, nz_10000, nz_100000, not_false_eq_true, bI_0, nI_add, pk_mul, nI_lt', nI_le', nI_eq', nI_z, nI_p, nI_e0, nI_l0, nI_le0, nI_clamp, up_eq, up_ne, not_true_eq_false, Classical.not_not, false_implies, true_implies, false_and, and_false, or_true, true_or, Nat.add_zero, pk_m1, m1_0, m1_n, m1_p, Nat.zero_le, forall_const]
    rcases F with ⟨q1, q2⟩ | ⟨q1, q2, q3⟩ | ⟨q1, q2, q3⟩
    · have z1 := H18 q2
      simp (disch := omega) only [q1, q_ci, q_cl, q_ild, q_lld, q_ald, q_ist, q_ast, q_lst, q_inc, q_b2, q_d2, q_u1, q_l2, q_ld2, q_lsh, q_lcmp, q_i2l, q_l2i, q_dupi, q_dupr, q_dup2, q_popi, q_popr, q_if1, q_if2, q_nn, q_sw, q_swn, q_swc, q_gf, q_gr, q_pf, q_pz, q_pc, q_ia, q_is, q_cs, q_zs, q_la, q_lw, q_aa, q_al, q_gs, q_acp, q_m2, q_m1, q_ir, q_zr, q_lr, q_ar, q_vr, q_cN0, q_cSX0, q_cV0, q_cVX0, q_cN1, q_cSX1, q_cV1, q_cVX1, q_cN2, q_cSX2, q_cV2, q_cVX2, q_cN3, q_cSX3, q_cV3, q_cVX3, q_cN4, q_cSX4, q_cV4, q_cVX4, q_cN5, q_cSX5, q_cV5, q_cVX5, q_cN6, q_cSX6, q_cV6, q_cVX6, q_th, q_sh0, q_sh1, q_sh2, q_sh3, q_sh4, q_toL0, q_toL1, q_gl0, q_gls, q_sl0, q_sls, q_k10, q_k1s, q_lgi, q_lgr, q_lgl, q_lgn, Bool.not_false, and_true, true_and, nz_2, nz_4, nz_5, nz_8, nz_10, nz_12, nz_14, nz_16, nz_40, nz_41, nz_64, nz_100, nz_1000, nz_1024, nz_4096, nz_10000, nz_100000, not_false_eq_true, bI_0, nI_add, pk_mul, nI_lt', nI_le', nI_eq', nI_z, nI_p, nI_e0, nI_l0, nI_le0, nI_clamp, up_eq, up_ne, not_true_eq_false, Classical.not_not, false_implies, true_implies, false_and, and_false, or_true, true_or, Nat.add_zero, pk_m1, m1_0, m1_n, m1_p, Nat.zero_le, forall_const]
      exact z1
    · have z1 := H18 (q2.trans q3.symm)
      simp (disch := omega) only [q1, q2, q_ci, q_cl, q_ild, q_lld, q_ald, q_ist, q_ast, q_lst, q_inc, q_b2, q_d2, q_u1, q_l2, q_ld2, q_lsh, q_lcmp, q_i2l, q_l2i, q_dupi, q_dupr, q_dup2, q_popi, q_popr, q_if1, q_if2, q_nn, q_sw, q_swn, q_swc, q_gf, q_gr, q_pf, q_pz, q_pc, q_ia, q_is, q_cs, q_zs, q_la, q_lw, q_aa, q_al, q_gs, q_acp, q_m2, q_m1, q_ir, q_zr, q_lr, q_ar, q_vr, q_cN0, q_cSX0, q_cV0, q_cVX0, q_cN1, q_cSX1, q_cV1, q_cVX1, q_cN2, q_cSX2, q_cV2, q_cVX2, q_cN3, q_cSX3, q_cV3, q_cVX3, q_cN4, q_cSX4, q_cV4, q_cVX4, q_cN5, q_cSX5, q_cV5, q_cVX5, q_cN6, q_cSX6, q_cV6, q_cVX6, q_th, q_sh0, q_sh1, q_sh2, q_sh3, q_sh4, q_toL0, q_toL1, q_gl0, q_gls, q_sl0, q_sls, q_k10, q_k1s, q_lgi, q_lgr, q_lgl, q_lgn, Bool.not_false, and_true, true_and, nz_2, nz_4, nz_5, nz_8, nz_10, nz_12, nz_14, nz_16, nz_40, nz_41, nz_64, nz_100, nz_1000, nz_1024, nz_4096, nz_10000, nz_100000, not_false_eq_true, bI_0, nI_add, pk_mul, nI_lt', nI_le', nI_eq', nI_z, nI_p, nI_e0, nI_l0, nI_le0, nI_clamp, up_eq, up_ne, not_true_eq_false, Classical.not_not, false_implies, true_implies, false_and, and_false, or_true, true_or, Nat.add_zero, pk_m1, m1_0, m1_n, m1_p, Nat.zero_le, forall_const]
      rw [q2] at z1
      exact z1
    · simp (disch := omega) only [q1, q2, q3, q_ci, q_cl, q_ild, q_lld, q_ald, q_ist, q_ast, q_lst, q_inc, q_b2, q_d2, q_u1, q_l2, q_ld2, q_lsh, q_lcmp, q_i2l, q_l2i, q_dupi, q_dupr, q_dup2, q_popi, q_popr, q_if1, q_if2, q_nn, q_sw, q_swn, q_swc, q_gf, q_gr, q_pf, q_pz, q_pc, q_ia, q_is, q_cs, q_zs, q_la, q_lw, q_aa, q_al, q_gs, q_acp, q_m2, q_m1, q_ir, q_zr, q_lr, q_ar, q_vr, q_cN0, q_cSX0, q_cV0, q_cVX0, q_cN1, q_cSX1, q_cV1, q_cVX1, q_cN2, q_cSX2, q_cV2, q_cVX2, q_cN3, q_cSX3, q_cV3, q_cVX3, q_cN4, q_cSX4, q_cV4, q_cVX4, q_cN5, q_cSX5, q_cV5, q_cVX5, q_cN6, q_cSX6, q_cV6, q_cVX6, q_th, q_sh0, q_sh1, q_sh2, q_sh3, q_sh4, q_toL0, q_toL1, q_gl0, q_gls, q_sl0, q_sls, q_k10, q_k1s, q_lgi, q_lgr, q_lgl, q_lgn, Bool.not_false, and_true, true_and, nz_2, nz_4, nz_5, nz_8, nz_10, nz_12, nz_14, nz_16, nz_40, nz_41, nz_64, nz_100, nz_1000, nz_1024, nz_4096, nz_10000, nz_100000, not_false_eq_true, bI_0, nI_add, pk_mul, nI_lt', nI_le', nI_eq', nI_z, nI_p, nI_e0, nI_l0, nI_le0, nI_clamp, up_eq, up_ne, not_true_eq_false, Classical.not_not, false_implies, true_implies, false_and, and_false, or_true, true_or, Nat.add_zero, pk_m1, m1_0, m1_n, m1_p, Nat.zero_le, forall_const]
      exact h
  · exact h.elim
set_option maxRecDepth 20000 in
set_option maxHeartbeats 4000000 in
theorem ok_X1_numberOf {l : Launch} (hl : l.stackTraces = false) : ab_OkN l yX1_numberOf (Cond.code yX1_numberOf cX1_numberOf 4 (some .int)) 2 sp_X1_numberOf := by
  intro w σ As Kn hI h
  unfold sp_X1_numberOf at h
  split at h
  · next a k j =>
    obtain ⟨hw, hk0, ls, m, c, hR, hc, hlen, rfl, hm, h⟩ := h
    have hw' := hw
    unfold wG at hw'
    rw [n_gnum] at h
    by_cases hin : k < nI ls.length
    · rw [if_pos hin] at h
      obtain ⟨i, hi, rfl⟩ := ab_ix (by omega) (Int32.not_lt.mpr hk0) hin
      have hg : ls[ls.length - 1 - i]? = some ls[ls.length - 1 - i] := List.getElem?_eq_getElem (by omega)
      have h4 := hR.2.1 _ _ hg
      rw [cl_nI (by omega), show (c - ls.length + (ls.length - 1 - i)) % 12 = (c - 1 - i) % 12 by congr 1; omega] at h4
      obtain ⟨e1, e2, e3⟩ := h4
      rw [cl_nI (by omega), List.getD_eq_getElem?_getD, hg, Option.getD_some] at h
      have en : σ a 1 = nI (n_nx c) := by have := hR.2.2; rw [cl_nI (by omega)] at this; exact this
      have hnx := n_nx_p (c := c) (by omega)
      have hm12 : (c - 1 - i) % 12 < 12 := Nat.mod_lt _ (by decide)
      refine vc_X1_numberOf hl hI (ok_X9_within hl) (ok_J9_fm12 hl (n_nx c + 11 - i) ((c - 1 - i) % 12)) (Nat.le_of_ble_eq_true rfl) (fun M h0 h1 => h0 [.ref a, .int (nI i), .int (nI m), .null] [] σ ?_)
      have eg : nI (n_nx c) - nI 1 - nI i = nI (n_nx c + 11 - i) - nI 12 := by
        rw [show n_nx c + 11 - i = n_nx c + (11 - i) by omega, ← nI_add, ← pk_sub (by omega : i ≤ 11), show (nI 11 : Int32) = nI 12 - nI 1 by decide]
        simp only [Int32.sub_eq_add_neg]
        rw [show nI (n_nx c) + (nI 12 + -nI 1 + -nI i) + -nI 12 = nI (n_nx c) + -nI 1 + -nI i + (nI 12 + -nI 12) by ac_rfl, Int32.add_right_neg, Int32.add_zero]
      have z24 : n_nx c + 11 - i < 24 := by omega
      have zr : (c - 1 - i) % 12 = (n_nx c + 11 - i) % 12 := by omega
      simp (disch := omega) only [bX1_numberOf_0, sp_X9_within, sp_J9_fm12, hw', hR.1, en, eg, e1, e2, e3, q_ci, q_cl, q_ild, q_lld, q_ald, q_ist, q_ast, q_lst, q_inc, q_b2, q_d2, q_u1, q_l2, q_ld2, q_lsh, q_lcmp, q_i2l, q_l2i, q_dupi, q_dupr, q_dup2, q_popi, q_popr, q_if1, q_if2, q_nn, q_sw, q_swn, q_swc, q_gf, q_gr, q_pf, q_pz, q_pc, q_ia, q_is, q_cs, q_zs, q_la, q_lw, q_aa, q_al, q_gs, q_acp, q_m2, q_m1, q_ir, q_zr, q_lr, q_ar, q_vr, q_cN0, q_cSX0, q_cV0, q_cVX0, q_cN1, q_cSX1, q_cV1, q_cVX1, q_cN2, q_cSX2, q_cV2, q_cVX2, q_cN3, q_cSX3, q_cV3, q_cVX3, q_cN4, q_cSX4, q_cV4, q_cVX4, q_cN5, q_cSX5, q_cV5, q_cVX5, q_cN6, q_cSX6, q_cV6, q_cVX6, q_th, q_sh0, q_sh1, q_sh2, q_sh3, q_sh4, q_toL0, q_toL1, q_gl0, q_gls, q_sl0, q_sls, q_k10, q_k1s, q_lgi, q_lgr, q_lgl, q_lgn, Bool.not_false, and_true, true_and, nz_2, nz_4, nz_5, nz_8, nz_10, nz_12, nz_14, nz_16, nz_40, nz_41, nz_64, nz_100, nz_1000, nz_1024, nz_4096, nz_10000, nz_100000, not_false_eq_true, bI_0, nI_add, pk_mul, nI_lt', nI_le', nI_eq', nI_z, nI_p, nI_e0, nI_l0, nI_le0, nI_clamp, up_eq, up_ne, not_true_eq_false, Classical.not_not, false_implies, true_implies, false_and, and_false, or_true, true_or, Nat.add_zero, pk_m1, m1_0, m1_n, m1_p, Nat.zero_le, forall_const]
      repeat' first
        | assumption
        | (refine vp_in_nI ?_ ?_ <;> omega)
        | refine And.intro ?_ ?_
        | (intro (_ : _); first | (exfalso; omega) | skip)
      all_goals (first | (subst_vars; exact h) | (rw [if_neg (by omega), if_neg (by omega)] at h; exact h) | (rw [if_neg (by omega), if_pos (by omega)] at h; exact h) | (rw [if_pos (by omega)] at h; exact h))
    · rw [if_neg hin] at h
      refine vc_X1_numberOf hl hI (ok_X9_within hl) (ok_J9_fm12 hl 0 0) (Nat.le_of_ble_eq_true rfl) (fun M h0 h1 => h0 [.ref a, .int k, .int (nI m), .null] [] σ ?_)
      have h18 : M 18 [.ref a, .int k, .int (nI m), .null] [] σ := by
        refine h1 _ _ _ ?_
        simp (disch := omega) only [bX1_numberOf_18, q_ci, q_cl, q_ild, q_lld, q_ald, q_ist, q_ast, q_lst, q_inc, q_b2, q_d2, q_u1, q_l2, q_ld2, q_lsh, q_lcmp, q_i2l, q_l2i, q_dupi, q_dupr, q_dup2, q_popi, q_popr, q_if1, q_if2, q_nn, q_sw, q_swn, q_swc, q_gf, q_gr, q_pf, q_pz, q_pc, q_ia, q_is, q_cs, q_zs, q_la, q_lw, q_aa, q_al, q_gs, q_acp, q_m2, q_m1, q_ir, q_zr, q_lr, q_ar, q_vr, q_cN0, q_cSX0, q_cV0, q_cVX0, q_cN1, q_cSX1, q_cV1, q_cVX1, q_cN2, q_cSX2, q_cV2, q_cVX2, q_cN3, q_cSX3, q_cV3, q_cVX3, q_cN4, q_cSX4, q_cV4, q_cVX4, q_cN5, q_cSX5, q_cV5, q_cVX5, q_cN6, q_cSX6, q_cV6, q_cVX6, q_th, q_sh0, q_sh1, q_sh2, q_sh3, q_sh4, q_toL0, q_toL1, q_gl0, q_gls, q_sl0, q_sls, q_k10, q_k1s, q_lgi, q_lgr, q_lgl, q_lgn, Bool.not_false, and_true, true_and, nz_2, nz_4, nz_5, nz_8, nz_10, nz_12, nz_14, nz_16, nz_40, nz_41, nz_64, nz_100, nz_1000, nz_1024, nz_4096, nz_10000, nz_100000, not_false_eq_true, bI_0, nI_add, pk_mul, nI_lt', nI_le', nI_eq', nI_z, nI_p, nI_e0, nI_l0, nI_le0, nI_clamp, up_eq, up_ne, not_true_eq_false, Classical.not_not, false_implies, true_implies, false_and, and_false, or_true, true_or, Nat.add_zero, pk_m1, m1_0, m1_n, m1_p, Nat.zero_le, forall_const]
        exact h
      have hn : ¬ ((0 ≤ k ∧ k ≤ nI 11) ∧ k < nI c) := by
        intro q
        apply hin
        rcases Nat.lt_or_ge c 12 with q1 | q1
        · rw [hlen, Nat.min_eq_left (by omega)]; exact q.2
        · rw [hlen, Nat.min_eq_right q1]
          have q2 := q.1.2
          rw [Int32.le_iff_toInt_le, nI_toInt (by decide)] at q2
          rw [Int32.lt_iff_toInt_lt, nI_toInt (by decide)]
          omega
      simp (disch := omega) only [bX1_numberOf_0, sp_X9_within, hw', hR.1, q_ci, q_cl, q_ild, q_lld, q_ald, q_ist, q_ast, q_lst, q_inc, q_b2, q_d2, q_u1, q_l2, q_ld2, q_lsh, q_lcmp, q_i2l, q_l2i, q_dupi, q_dupr, q_dup2, q_popi, q_popr, q_if1, q_if2, q_nn, q_sw, q_swn, q_swc, q_gf, q_gr, q_pf, q_pz, q_pc, q_ia, q_is, q_cs, q_zs, q_la, q_lw, q_aa, q_al, q_gs, q_acp, q_m2, q_m1, q_ir, q_zr, q_lr, q_ar, q_vr, q_cN0, q_cSX0, q_cV0, q_cVX0, q_cN1, q_cSX1, q_cV1, q_cVX1, q_cN2, q_cSX2, q_cV2, q_cVX2, q_cN3, q_cSX3, q_cV3, q_cVX3, q_cN4, q_cSX4, q_cV4, q_cVX4, q_cN5, q_cSX5, q_cV5, q_cVX5, q_cN6, q_cSX6, q_cV6, q_cVX6, q_th, q_sh0, q_sh1, q_sh2, q_sh3, q_sh4, q_toL0, q_toL1, q_gl0, q_gls, q_sl0, q_sls, q_k10, q_k1s, q_lgi, q_lgr, q_lgl, q_lgn, Bool.not_false, and_true, true_and, nz_2, nz_4, nz_5, nz_8, nz_10, nz_12, nz_14, nz_16, nz_40, nz_41, nz_64, nz_100, nz_1000, nz_1024, nz_4096, nz_10000, nz_100000, not_false_eq_true, bI_0, nI_add, pk_mul, nI_lt', nI_le', nI_eq', nI_z, nI_p, nI_e0, nI_l0, nI_le0, nI_clamp, up_eq, up_ne, not_true_eq_false, Classical.not_not, false_implies, true_implies, false_and, and_false, or_true, true_or, Nat.add_zero, pk_m1, m1_0, m1_n, m1_p, Nat.zero_le, forall_const]
      refine ⟨fun _ => h18, fun q1 => ⟨fun q2 => absurd ⟨q1, q2⟩ hn, fun _ => h18⟩⟩
  · exact h.elim
/-! copies -/
def sp_X9_copyRow : ab_S := fun w As σ K => match As with
  | [.ref a, .ref b] => ab_kd w a = 11 ∧ ab_kd w b = 11 ∧ ∃ n, ab_ln w a = n ∧ ab_ln w b = n ∧ n < 2 ^ 31 ∧ K none (ab_cp σ a b n)
  | _ => False
set_option maxRecDepth 20000 in
set_option maxHeartbeats 4000000 in
theorem ok_X9_copyRow {l : Launch} (hl : l.stackTraces = false) : ab_OkN l yX9_copyRow (Cond.code yX9_copyRow cX9_copyRow 2 none) 2 sp_X9_copyRow := by
  intro w σ As Kn hI h
  unfold sp_X9_copyRow at h
  split at h
  · next a b =>
    obtain ⟨ha, hb, n, hna, hnb, hn, h⟩ := h
    refine vc_X9_copyRow hl hI (Nat.le_of_ble_eq_true rfl) (fun M h0 => h0 [.ref a, .ref b] [] σ ?_)
    simp (disch := omega) only [bX9_copyRow_0, ha, hb, hna, hnb, Nat.lt_irrefl, if_false, nI_0, Nat.le_refl, q_ci, q_cl, q_ild, q_lld, q_ald, q_ist, q_ast, q_lst, q_inc, q_b2, q_d2, q_u1, q_l2, q_ld2, q_lsh, q_lcmp, q_i2l, q_l2i, q_dupi, q_dupr, q_dup2, q_popi, q_popr, q_if1, q_if2, q_nn, q_sw, q_swn, q_swc, q_gf, q_gr, q_pf, q_pz, q_pc, q_ia, q_is, q_cs, q_zs, q_la, q_lw, q_aa, q_al, q_gs, q_acp, q_m2, q_m1, q_ir, q_zr, q_lr, q_ar, q_vr, q_cN0, q_cSX0, q_cV0, q_cVX0, q_cN1, q_cSX1, q_cV1, q_cVX1, q_cN2, q_cSX2, q_cV2, q_cVX2, q_cN3, q_cSX3, q_cV3, q_cVX3, q_cN4, q_cSX4, q_cV4, q_cVX4, q_cN5, q_cSX5, q_cV5, q_cVX5, q_cN6, q_cSX6, q_cV6, q_cVX6, q_th, q_sh0, q_sh1, q_sh2, q_sh3, q_sh4, q_toL0, q_toL1, q_gl0, q_gls, q_sl0, q_sls, q_k10, q_k1s, q_lgi, q_lgr, q_lgl, q_lgn, Bool.not_false, and_true, true_and, nz_2, nz_4, nz_5, nz_8, nz_10, nz_12, nz_14, nz_16, nz_40, nz_41, nz_64, nz_100, nz_1000, nz_1024, nz_4096, nz_10000, nz_100000, not_false_eq_true, bI_0, nI_add, pk_mul, nI_lt', nI_le', nI_eq', nI_z, nI_p, nI_e0, nI_l0, nI_le0, nI_clamp, up_eq, up_ne, not_true_eq_false, Classical.not_not, false_implies, true_implies, false_and, and_false, or_true, true_or, Nat.add_zero, pk_m1, m1_0, m1_n, m1_p, Nat.zero_le, forall_const]
    repeat' first
      | assumption
      | (refine vp_in_nI ?_ ?_ <;> omega)
      | refine And.intro ?_ ?_
      | (intro (_ : _); first | (exfalso; omega) | skip)
  · exact h.elim
theorem RS.cp {σ σ' : ab_H} {a o : Nat} {f : nF} (h : RS σ o f) (hc : cOK f) (e0 : σ' a 0 = σ o 0) (e : ∀ i, 1 ≤ i → i ≤ 6 → ∀ j, j < 5 → σ' (a + i) j = σ (o + i) j) (e7 : ∀ j, j < 25 → σ' (a + 7) j = σ (o + 7) j) : RS σ' a f := by
  refine ⟨e0.trans h.1, fun s hs => ?_, fun s hs h5 => ?_⟩
  · have hs5 : s < 5 := Nat.lt_of_lt_of_le hs hc.2
    rw [e 1 (by decide) (by decide) s hs5, e 2 (by decide) (by decide) s hs5, e 3 (by decide) (by decide) s hs5, e 4 (by decide) (by decide) s hs5, e 5 (by decide) (by decide) s hs5, e 6 (by decide) (by decide) s hs5]
    obtain ⟨q1, q2, q3, q4, q5, q6, q7⟩ := h.2.1 s hs
    exact ⟨q1, q2, q3, q4, q5, q6, fun k hk => by rw [e7 _ (by omega)]; exact q7 k hk⟩
  · rw [e 4 (by decide) (by decide) s h5, e 5 (by decide) (by decide) s h5, e 6 (by decide) (by decide) s h5]
    obtain ⟨q4, q5, q6, q7⟩ := h.2.2 s hs h5
    exact ⟨q4, q5, q6, fun k hk => by rw [e7 _ (by omega)]; exact q7 k hk⟩
/-- the parts are apart -/
def apt (x n y : Nat) : Prop := x + n ≤ y ∨ y + n ≤ x
def sp_X7_copyFrom : ab_S := fun w As σ K => match As with
  | [.ref a, .ref o] => wS w a ∧ wS w o ∧ apt a 8 o ∧ ∀ σ', (∀ f, cOK f → RS σ o f → RS σ' a f) → Frk a 8 σ σ' → K none σ'
  | _ => False
set_option maxRecDepth 20000 in
set_option maxHeartbeats 4000000 in
theorem ok_X7_copyFrom {l : Launch} (hl : l.stackTraces = false) : ab_OkN l yX7_copyFrom (Cond.code yX7_copyFrom cX7_copyFrom 2 none) 3 sp_X7_copyFrom := by
  intro w σ As Kn hI h
  unfold sp_X7_copyFrom at h
  split at h
  · next a o =>
    obtain ⟨hw, hwo, hap, h⟩ := h
    refine vc_X7_copyFrom hl hI (ok_X9_copyRow hl) (Nat.le_of_ble_eq_true rfl) (fun M h0 => h0 [.ref a, .ref o] [] σ ?_)
    unfold wS at hw hwo
    unfold apt at hap
    have q : ∀ {n : Nat} {P : Prop}, P → ∃ m, n = m ∧ n = m ∧ P := fun h => ⟨_, rfl, rfl, h⟩
    simp (disch := omega) only [bX7_copyFrom_0, sp_X9_copyRow, hw, hwo, exists_eq_left', q_ci, q_cl, q_ild, q_lld, q_ald, q_ist, q_ast, q_lst, q_inc, q_b2, q_d2, q_u1, q_l2, q_ld2, q_lsh, q_lcmp, q_i2l, q_l2i, q_dupi, q_dupr, q_dup2, q_popi, q_popr, q_if1, q_if2, q_nn, q_sw, q_swn, q_swc, q_gf, q_gr, q_pf, q_pz, q_pc, q_ia, q_is, q_cs, q_zs, q_la, q_lw, q_aa, q_al, q_gs, q_acp, q_m2, q_m1, q_ir, q_zr, q_lr, q_ar, q_vr, q_cN0, q_cSX0, q_cV0, q_cVX0, q_cN1, q_cSX1, q_cV1, q_cVX1, q_cN2, q_cSX2, q_cV2, q_cVX2, q_cN3, q_cSX3, q_cV3, q_cVX3, q_cN4, q_cSX4, q_cV4, q_cVX4, q_cN5, q_cSX5, q_cV5, q_cVX5, q_cN6, q_cSX6, q_cV6, q_cVX6, q_th, q_sh0, q_sh1, q_sh2, q_sh3, q_sh4, q_toL0, q_toL1, q_gl0, q_gls, q_sl0, q_sls, q_k10, q_k1s, q_lgi, q_lgr, q_lgl, q_lgn, Bool.not_false, and_true, true_and, nz_2, nz_4, nz_5, nz_8, nz_10, nz_12, nz_14, nz_16, nz_40, nz_41, nz_64, nz_100, nz_1000, nz_1024, nz_4096, nz_10000, nz_100000, not_false_eq_true, bI_0, nI_add, pk_mul, nI_lt', nI_le', nI_eq', nI_z, nI_p, nI_e0, nI_l0, nI_le0, nI_clamp, up_eq, up_ne, not_true_eq_false, Classical.not_not, false_implies, true_implies, false_and, and_false, or_true, true_or, Nat.add_zero, pk_m1, m1_0, m1_n, m1_p, Nat.zero_le, forall_const]
    repeat' first
      | assumption
      | (refine vp_in_nI ?_ ?_ <;> omega)
      | refine And.intro ?_ ?_
      | (intro (_ : _); first | (exfalso; omega) | skip)
    all_goals first | decide | skip
    refine h _ (fun f hc hf => hf.cp hc ?_ (fun i h1 h6 j hj => ?_) (fun j hj => ?_)) (fun v hv => ?_)
    · simp (disch := omega) only [cp_ne, up_eqp]
    · rcases (show i = 1 ∨ i = 2 ∨ i = 3 ∨ i = 4 ∨ i = 5 ∨ i = 6 by omega) with rfl | rfl | rfl | rfl | rfl | rfl <;> simp (disch := omega) only [cp_ne, cp_eqp, up_ne]
    · simp (disch := omega) only [cp_ne, cp_eqp, up_ne]
    · simp (disch := omega) only [cp_ne, up_ne]
  · exact h.elim
