def sp_X5_add : ab_S := fun w As σ K => match As with
  | [.ref a, .int p, .int q, .int r] => wB w a ∧ ∃ l x, RB σ a l ∧ l.length < 150 ∧ (∀ b ∈ l, b.1 < 2 ^ 31) ∧ x.1 < 2 ^ 31 ∧ p = nI x.1 ∧ q = nI x.2.1 ∧ r = nI x.2.2 ∧ ∀ σ', RB σ' a (n_ins x l) → Frk a 4 σ σ' → K none σ'
  | _ => False
set_option maxRecDepth 20000 in
set_option maxHeartbeats 4000000 in
theorem ok_X5_add {l : Launch} (hl : l.stackTraces = false) : ab_OkN l yX5_add (Cond.code yX5_add cX5_add 5 none) 2 sp_X5_add := by
  intro w σ As Kn hI h
  unfold sp_X5_add at h
  split at h
  · next a p q r =>
    obtain ⟨hw, ls, x, hR, hlen, hb, hx, rfl, rfl, rfl, h⟩ := h
    refine vc_X5_add hl hI (ok_X5_put hl) (Nat.le_of_ble_eq_true rfl) (fun M h0 h1 h2 => h0 [.ref a, .int (nI x.1), .int (nI x.2.1), .int (nI x.2.2), .null] [] σ ?_)
    have hw' := hw
    unfold wB at hw'
    have hfin : ∀ σk k, k = n_pos ls x.1 ls.length → σk a 0 = nI ls.length → (∀ i y, i < k → ls[i]? = some y → σk (a + 1) i = nI y.1 ∧ σk (a + 2) i = nI y.2.1 ∧ σk (a + 3) i = nI y.2.2) → (∀ i y, k ≤ i → ls[i]? = some y → σk (a + 1) (i + 1) = nI y.1 ∧ σk (a + 2) (i + 1) = nI y.2.1 ∧ σk (a + 3) (i + 1) = nI y.2.2) → Frk a 4 σ σk →
        M 74 [.ref a, .int (nI x.1), .int (nI x.2.1), .int (nI x.2.2), .int (nI k)] [] σk := by
      intro σk k hk h0c hlo hhi hfr
      have hkl : k ≤ ls.length := by rw [hk]; exact n_pos_le _ _ _
      refine h2 _ _ _ ?_
      simp (disch := omega) only [bX5_add_74, sp_X5_put, hw', h0c, q_ci, q_cl, q_ild, q_lld, q_ald, q_ist, q_ast, q_lst, q_inc, q_b2, q_d2, q_u1, q_l2, q_ld2, q_lsh, q_lcmp, q_i2l, q_l2i, q_dupi, q_dupr, q_dup2, q_popi, q_popr, q_if1, q_if2, q_nn, q_sw, q_swn, q_swc, q_gf, q_gr, q_pf, q_pz, q_pc, q_ia, q_is, q_cs, q_zs, q_la, q_lw, q_aa, q_al, q_gs, q_acp, q_m2, q_m1, q_ir, q_zr, q_lr, q_ar, q_vr, q_cN0, q_cSX0, q_cV0, q_cVX0, q_cN1, q_cSX1, q_cV1, q_cVX1, q_cN2, q_cSX2, q_cV2, q_cVX2, q_cN3, q_cSX3, q_cV3, q_cVX3, q_cN4, q_cSX4, q_cV4, q_cVX4, q_cN5, q_cSX5, q_cV5, q_cVX5, q_cN6, q_cSX6, q_cV6, q_cVX6, q_th, q_sh0, q_sh1, q_sh2, q_sh3, q_sh4, q_toL0, q_toL1, q_gl0, q_gls, q_sl0, q_sls, q_k10, q_k1s, q_lgi, q_lgr, q_lgl, q_lgn, Bool.not_false, and_true, true_and, nz_2, nz_4, nz_5, nz_8, nz_10, nz_12, nz_14, nz_16, nz_40, nz_41, nz_64, nz_100, nz_1000, nz_1024, nz_4096, nz_10000, nz_100000, not_false_eq_true, bI_0, nI_add, pk_mul, nI_lt', nI_le', nI_eq', nI_z, nI_p, nI_e0, nI_l0, nI_le0, nI_clamp, up_eq, up_ne, not_true_eq_false, Classical.not_not, false_implies, true_implies, false_and, and_false, or_true, true_or, Nat.add_zero, pk_m1, m1_0, m1_n, m1_p, Nat.zero_le, forall_const]
      repeat' first
        | assumption
        | (refine vp_in_nI ?_ ?_ <;> omega)
        | refine And.intro ?_ ?_
        | (intro (_ : _); first | (exfalso; omega) | skip)
      refine ⟨k, rfl, by omega, ?_⟩
      unfold wr3
      simp (disch := omega) only [up_ne, h0c]
      repeat' first
        | assumption
        | (refine vp_in_nI ?_ ?_ <;> omega)
        | refine And.intro ?_ ?_
        | (intro (_ : _); first | (exfalso; omega) | skip)
      refine h _ ⟨?_, fun i y hi => ?_⟩ (fun v hv => ?_)
      · simp (disch := omega) only [up_eqp]
        rw [n_ins, List.length_append, List.length_cons, List.length_take, List.length_drop, ← hk]
        simp (disch := omega) only [nI_add]
        congr 1; omega
      · rw [n_ins, ← hk] at hi
        have htl : (ls.take k).length = k := by rw [List.length_take]; omega
        by_cases h1i : i < k
        · rw [List.getElem?_append_left (by omega), List.getElem?_take_of_lt h1i] at hi
          simp (disch := omega) only [up_ne, up_nep]
          exact hlo i y h1i hi
        · by_cases h2i : i = k
          · subst h2i
            rw [List.getElem?_append_right (by omega), htl, Nat.sub_self] at hi
            cases hi
            simp (disch := omega) only [up_ne, up_eqp, true_and]
          · obtain ⟨j, rfl⟩ : ∃ j, i = j + 1 := ⟨i - 1, by omega⟩
            rw [List.getElem?_append_right (by omega), htl, show j + 1 - k = (j - k) + 1 by omega, List.getElem?_cons_succ, List.getElem?_drop, show k + (j - k) = j by omega] at hi
            simp (disch := omega) only [up_ne, up_nep]
            exact hhi j y (by omega) hi
      · simp (disch := omega) only [up_ne]; exact hfr v hv
    have loop : ∀ k σk, k ≤ ls.length → n_pos ls x.1 k = n_pos ls x.1 ls.length → σk a 0 = nI ls.length → (∀ i y, i < k → ls[i]? = some y → σk (a + 1) i = nI y.1 ∧ σk (a + 2) i = nI y.2.1 ∧ σk (a + 3) i = nI y.2.2) → (∀ i y, k ≤ i → ls[i]? = some y → σk (a + 1) (i + 1) = nI y.1 ∧ σk (a + 2) (i + 1) = nI y.2.1 ∧ σk (a + 3) (i + 1) = nI y.2.2) → Frk a 4 σ σk →
        M 17 [.ref a, .int (nI x.1), .int (nI x.2.1), .int (nI x.2.2), .int (nI k)] [] σk := by
      intro k
      induction k with
      | zero =>
        intro σk hk hp h0c hlo hhi hfr
        refine h1 _ _ _ ?_
        simp (disch := omega) only [bX5_add_17, hw', h0c, q_ci, q_cl, q_ild, q_lld, q_ald, q_ist, q_ast, q_lst, q_inc, q_b2, q_d2, q_u1, q_l2, q_ld2, q_lsh, q_lcmp, q_i2l, q_l2i, q_dupi, q_dupr, q_dup2, q_popi, q_popr, q_if1, q_if2, q_nn, q_sw, q_swn, q_swc, q_gf, q_gr, q_pf, q_pz, q_pc, q_ia, q_is, q_cs, q_zs, q_la, q_lw, q_aa, q_al, q_gs, q_acp, q_m2, q_m1, q_ir, q_zr, q_lr, q_ar, q_vr, q_cN0, q_cSX0, q_cV0, q_cVX0, q_cN1, q_cSX1, q_cV1, q_cVX1, q_cN2, q_cSX2, q_cV2, q_cVX2, q_cN3, q_cSX3, q_cV3, q_cVX3, q_cN4, q_cSX4, q_cV4, q_cVX4, q_cN5, q_cSX5, q_cV5, q_cVX5, q_cN6, q_cSX6, q_cV6, q_cVX6, q_th, q_sh0, q_sh1, q_sh2, q_sh3, q_sh4, q_toL0, q_toL1, q_gl0, q_gls, q_sl0, q_sls, q_k10, q_k1s, q_lgi, q_lgr, q_lgl, q_lgn, Bool.not_false, and_true, true_and, nz_2, nz_4, nz_5, nz_8, nz_10, nz_12, nz_14, nz_16, nz_40, nz_41, nz_64, nz_100, nz_1000, nz_1024, nz_4096, nz_10000, nz_100000, not_false_eq_true, bI_0, nI_add, pk_mul, nI_lt', nI_le', nI_eq', nI_z, nI_p, nI_e0, nI_l0, nI_le0, nI_clamp, up_eq, up_ne, not_true_eq_false, Classical.not_not, false_implies, true_implies, false_and, and_false, or_true, true_or, Nat.add_zero, pk_m1, m1_0, m1_n, m1_p, Nat.zero_le, forall_const]
        repeat' first
          | assumption
          | (refine vp_in_nI ?_ ?_ <;> omega)
          | refine And.intro ?_ ?_
          | (intro (_ : _); first | (exfalso; omega) | skip)
        · exact hfin σk 0 (by rw [← hp]; rfl) h0c hlo hhi hfr
      | succ k ih =>
        intro σk hk hp h0c hlo hhi hfr
        have hg : ls[k]? = some ls[k] := List.getElem?_eq_getElem (by omega)
        obtain ⟨e1, e2, e3⟩ := hlo k _ (by omega) hg
        have hbk := hb _ (List.getElem_mem (show k < ls.length by omega))
        have hgd : (ls.getD k (0, 0, 0)) = ls[k] := by rw [List.getD_eq_getElem?_getD, hg]; rfl
        have hp0 := hp
        rw [n_pos, hgd] at hp
        generalize hy : ls[k] = y at e1 e2 e3 hbk hp hg
        refine h1 _ _ _ ?_
        have es : nI (k + 1) - nI 1 = nI k := by rw [pk_sub (by omega)]; rfl
        simp (disch := omega) only [bX5_add_17, sp_X5_put, hw', h0c, es, e1, e2, e3, q_ci, q_cl, q_ild, q_lld, q_ald, q_ist, q_ast, q_lst, q_inc, q_b2, q_d2, q_u1, q_l2, q_ld2, q_lsh, q_lcmp, q_i2l, q_l2i, q_dupi, q_dupr, q_dup2, q_popi, q_popr, q_if1, q_if2, q_nn, q_sw, q_swn, q_swc, q_gf, q_gr, q_pf, q_pz, q_pc, q_ia, q_is, q_cs, q_zs, q_la, q_lw, q_aa, q_al, q_gs, q_acp, q_m2, q_m1, q_ir, q_zr, q_lr, q_ar, q_vr, q_cN0, q_cSX0, q_cV0, q_cVX0, q_cN1, q_cSX1, q_cV1, q_cVX1, q_cN2, q_cSX2, q_cV2, q_cVX2, q_cN3, q_cSX3, q_cV3, q_cVX3, q_cN4, q_cSX4, q_cV4, q_cVX4, q_cN5, q_cSX5, q_cV5, q_cVX5, q_cN6, q_cSX6, q_cV6, q_cVX6, q_th, q_sh0, q_sh1, q_sh2, q_sh3, q_sh4, q_toL0, q_toL1, q_gl0, q_gls, q_sl0, q_sls, q_k10, q_k1s, q_lgi, q_lgr, q_lgl, q_lgn, Bool.not_false, and_true, true_and, nz_2, nz_4, nz_5, nz_8, nz_10, nz_12, nz_14, nz_16, nz_40, nz_41, nz_64, nz_100, nz_1000, nz_1024, nz_4096, nz_10000, nz_100000, not_false_eq_true, bI_0, nI_add, pk_mul, nI_lt', nI_le', nI_eq', nI_z, nI_p, nI_e0, nI_l0, nI_le0, nI_clamp, up_eq, up_ne, not_true_eq_false, Classical.not_not, false_implies, true_implies, false_and, and_false, or_true, true_or, Nat.add_zero, pk_m1, m1_0, m1_n, m1_p, Nat.zero_le, forall_const]
        by_cases hlt : x.1 < y.1
        · rw [if_pos hlt] at hp
          repeat' first
            | assumption
            | (refine vp_in_nI ?_ ?_ <;> omega)
            | refine And.intro ?_ ?_
            | (intro (_ : _); first | (exfalso; omega) | skip)
          refine ⟨k + 1, rfl, by omega, ?_⟩
          unfold wr3
          refine ih _ (by omega) hp ?_ ?_ ?_ ?_
          · simp (disch := omega) only [up_ne]; exact h0c
          · intro i z hi hz; simp (disch := omega) only [up_ne, up_nep]; exact hlo i z (by omega) hz
          · intro i z hi hz
            by_cases hik : i = k
            · subst hik
              rw [hg] at hz; cases hz
              simp (disch := omega) only [up_ne, up_eqp, true_and]
            · simp (disch := omega) only [up_ne, up_nep]; exact hhi i z (by omega) hz
          · intro v hv; simp (disch := omega) only [up_ne]; exact hfr v hv
        · rw [if_neg hlt] at hp
          repeat' first
            | assumption
            | (refine vp_in_nI ?_ ?_ <;> omega)
            | refine And.intro ?_ ?_
            | (intro (_ : _); first | (exfalso; omega) | skip)
          exact hfin σk (k + 1) hp h0c hlo hhi hfr
    simp (disch := omega) only [bX5_add_0, hw', hR.1, q_ci, q_cl, q_ild, q_lld, q_ald, q_ist, q_ast, q_lst, q_inc, q_b2, q_d2, q_u1, q_l2, q_ld2, q_lsh, q_lcmp, q_i2l, q_l2i, q_dupi, q_dupr, q_dup2, q_popi, q_popr, q_if1, q_if2, q_nn, q_sw, q_swn, q_swc, q_gf, q_gr, q_pf, q_pz, q_pc, q_ia, q_is, q_cs, q_zs, q_la, q_lw, q_aa, q_al, q_gs, q_acp, q_m2, q_m1, q_ir, q_zr, q_lr, q_ar, q_vr, q_cN0, q_cSX0, q_cV0, q_cVX0, q_cN1, q_cSX1, q_cV1, q_cVX1, q_cN2, q_cSX2, q_cV2, q_cVX2, q_cN3, q_cSX3, q_cV3, q_cVX3, q_cN4, q_cSX4, q_cV4, q_cVX4, q_cN5, q_cSX5, q_cV5, q_cVX5, q_cN6, q_cSX6, q_cV6, q_cVX6, q_th, q_sh0, q_sh1, q_sh2, q_sh3, q_sh4, q_toL0, q_toL1, q_gl0, q_gls, q_sl0, q_sls, q_k10, q_k1s, q_lgi, q_lgr, q_lgl, q_lgn, Bool.not_false, and_true, true_and, nz_2, nz_4, nz_5, nz_8, nz_10, nz_12, nz_14, nz_16, nz_40, nz_41, nz_64, nz_100, nz_1000, nz_1024, nz_4096, nz_10000, nz_100000, not_false_eq_true, bI_0, nI_add, pk_mul, nI_lt', nI_le', nI_eq', nI_z, nI_p, nI_e0, nI_l0, nI_le0, nI_clamp, up_eq, up_ne, not_true_eq_false, Classical.not_not, false_implies, true_implies, false_and, and_false, or_true, true_or, Nat.add_zero, pk_m1, m1_0, m1_n, m1_p, Nat.zero_le, forall_const]
    repeat' first
      | assumption
      | (refine vp_in_nI ?_ ?_ <;> omega)
      | refine And.intro ?_ ?_
      | (intro (_ : _); first | (exfalso; omega) | skip)
    exact loop ls.length σ (Nat.le_refl _) rfl hR.1 (fun i y _ hy => hR.2 i y hy) (fun i y hi hy => absurd (getq hy) (by omega)) (fun _ _ => rfl)
  · exact h.elim
def n_num (l : List nB) (k : Int32) (j : Nat) : Int32 := if 0 ≤ k ∧ k < nI l.length then (if j = 0 then nI (l.getD (cl k) (0, 0, 0)).1 else if j = 1 then nI (l.getD (cl k) (0, 0, 0)).2.1 else nI (l.getD (cl k) (0, 0, 0)).2.2) else -1
def sp_X5_numberOf : ab_S := fun w As σ K => match As with
  | [.ref a, .int k, .int j] => wB w a ∧ ∃ l m, RB σ a l ∧ l.length ≤ 150 ∧ j = nI m ∧ m ≤ 2 ∧ K (some (.int (n_num l k m))) σ
  | _ => False
set_option maxRecDepth 20000 in
set_option maxHeartbeats 4000000 in
theorem ok_X5_numberOf {l : Launch} (hl : l.stackTraces = false) : ab_OkN l yX5_numberOf (Cond.code yX5_numberOf cX5_numberOf 3 (some .int)) 2 sp_X5_numberOf := by
  intro w σ As Kn hI h
  unfold sp_X5_numberOf at h
  split at h
  · next a k j =>
    obtain ⟨hw, ls, m, hR, hlen, rfl, hm, h⟩ := h
    refine vc_X5_numberOf hl hI (ok_X9_within hl) (Nat.le_of_ble_eq_true rfl) (fun M h0 => h0 [.ref a, .int k, .int (nI m)] [] σ ?_)
    have hw' := hw
    unfold wB at hw'
    rw [n_num] at h
    by_cases hin : 0 ≤ k ∧ k < nI ls.length
    · rw [if_pos hin] at h
      obtain ⟨i, hi, rfl⟩ := ab_ix (by omega) (Int32.not_lt.mpr hin.1) hin.2
      have hg : ls[i]? = some ls[i] := List.getElem?_eq_getElem hi
      obtain ⟨e1, e2, e3⟩ := hR.2 i _ hg
      rw [cl_nI (by omega), List.getD_eq_getElem?_getD, hg, Option.getD_some] at h
      have es : nI ls.length - nI 1 = nI (ls.length - 1) := pk_sub (by omega)
      simp (disch := omega) only [bX5_numberOf_0, sp_X9_within, hw', hR.1, es, e1, e2, e3, q_ci, q_cl, q_ild, q_lld, q_ald, q_ist, q_ast, q_lst, q_inc, q_b2, q_d2, q_u1, q_l2, q_ld2, q_lsh, q_lcmp, q_i2l, q_l2i, q_dupi, q_dupr, q_dup2, q_popi, q_popr, q_if1, q_if2, q_nn, q_sw, q_swn, q_swc, q_gf, q_gr, q_pf, q_pz, q_pc, q_ia, q_is, q_cs, q_zs, q_la, q_lw, q_aa, q_al, q_gs, q_acp, q_m2, q_m1, q_ir, q_zr, q_lr, q_ar, q_vr, q_cN0, q_cSX0, q_cV0, q_cVX0, q_cN1, q_cSX1, q_cV1, q_cVX1, q_cN2, q_cSX2, q_cV2, q_cVX2, q_cN3, q_cSX3, q_cV3, q_cVX3, q_cN4, q_cSX4, q_cV4, q_cVX4, q_cN5, q_cSX5, q_cV5, q_cVX5, q_cN6, q_cSX6, q_cV6, q_cVX6, q_th, q_sh0, q_sh1, q_sh2, q_sh3, q_sh4, q_toL0, q_toL1, q_gl0, q_gls, q_sl0, q_sls, q_k10, q_k1s, q_lgi, q_lgr, q_lgl, q_lgn, Bool.not_false, and_true, true_and, nz_2, nz_4, nz_5, nz_8, nz_10, nz_12, nz_14, nz_16, nz_40, nz_41, nz_64, nz_100, nz_1000, nz_1024, nz_4096, nz_10000, nz_100000, not_false_eq_true, bI_0, nI_add, pk_mul, nI_lt', nI_le', nI_eq', nI_z, nI_p, nI_e0, nI_l0, nI_le0, nI_clamp, up_eq, up_ne, not_true_eq_false, Classical.not_not, false_implies, true_implies, false_and, and_false, or_true, true_or, Nat.add_zero, pk_m1, m1_0, m1_n, m1_p, Nat.zero_le, forall_const]
      repeat' first
        | assumption
        | (refine vp_in_nI ?_ ?_ <;> omega)
        | refine And.intro ?_ ?_
        | (intro (_ : _); first | (exfalso; omega) | skip)
      all_goals (first | (subst_vars; exact h) | (rw [if_neg (by omega), if_neg (by omega)] at h; exact h) | (rw [if_neg (by omega), if_pos (by omega)] at h; exact h) | (rw [if_pos (by omega)] at h; exact h))
    · rw [if_neg hin] at h
      simp (disch := omega) only [bX5_numberOf_0, sp_X9_within, hw', hR.1, q_ci, q_cl, q_ild, q_lld, q_ald, q_ist, q_ast, q_lst, q_inc, q_b2, q_d2, q_u1, q_l2, q_ld2, q_lsh, q_lcmp, q_i2l, q_l2i, q_dupi, q_dupr, q_dup2, q_popi, q_popr, q_if1, q_if2, q_nn, q_sw, q_swn, q_swc, q_gf, q_gr, q_pf, q_pz, q_pc, q_ia, q_is, q_cs, q_zs, q_la, q_lw, q_aa, q_al, q_gs, q_acp, q_m2, q_m1, q_ir, q_zr, q_lr, q_ar, q_vr, q_cN0, q_cSX0, q_cV0, q_cVX0, q_cN1, q_cSX1, q_cV1, q_cVX1, q_cN2, q_cSX2, q_cV2, q_cVX2, q_cN3, q_cSX3, q_cV3, q_cVX3, q_cN4, q_cSX4, q_cV4, q_cVX4, q_cN5, q_cSX5, q_cV5, q_cVX5, q_cN6, q_cSX6, q_cV6, q_cVX6, q_th, q_sh0, q_sh1, q_sh2, q_sh3, q_sh4, q_toL0, q_toL1, q_gl0, q_gls, q_sl0, q_sls, q_k10, q_k1s, q_lgi, q_lgr, q_lgl, q_lgn, Bool.not_false, and_true, true_and, nz_2, nz_4, nz_5, nz_8, nz_10, nz_12, nz_14, nz_16, nz_40, nz_41, nz_64, nz_100, nz_1000, nz_1024, nz_4096, nz_10000, nz_100000, not_false_eq_true, bI_0, nI_add, pk_mul, nI_lt', nI_le', nI_eq', nI_z, nI_p, nI_e0, nI_l0, nI_le0, nI_clamp, up_eq, up_ne, not_true_eq_false, Classical.not_not, false_implies, true_implies, false_and, and_false, or_true, true_or, Nat.add_zero, pk_m1, m1_0, m1_n, m1_p, Nat.zero_le, forall_const]
      have hn : ¬ (0 ≤ k ∧ k ≤ nI ls.length - nI 1) := by
        intro q
        refine hin ⟨q.1, ?_⟩
        have q2 := q.2
        rw [Int32.le_iff_toInt_le] at q2
        rw [Int32.lt_iff_toInt_lt, nI_toInt (by omega)]
        have : (nI ls.length - nI 1).toInt = (ls.length : Int) - 1 := pk_sub_toInt (by omega) (by omega)
        omega
      refine ⟨fun c => absurd c hn, fun _ => h⟩
  · exact h.elim
def sp_X5_bringDue : ab_S := fun w As σ K => match As with
  | [.ref a, .int i, .ref st] => wB w a ∧ wS w st ∧ ap8 st a ∧ ∃ l f t, RB σ a l ∧ RS σ st f ∧ cOK f ∧ i = nI t ∧ t < 2 ^ 31 ∧ l.length ≤ 150 ∧ (∀ b ∈ l, b.2.1 < cl (f 1) ∧ b.2.2 < 5 ∧ b.1 < 2 ^ 31) ∧
      ∀ σ', RB σ' a (l.drop (n_due t l)) → RS σ' st (n_addBs f (l.take (n_due t l))) → Fr2 st 8 a 4 σ σ' → K (some (.int (nI (n_due t l)))) σ'
  | _ => False
set_option maxRecDepth 20000 in
set_option maxHeartbeats 4000000 in
theorem ok_X5_bringDue {l : Launch} (hl : l.stackTraces = false) : ab_OkN l yX5_bringDue (Cond.code yX5_bringDue cX5_bringDue 5 (some .int)) 3 sp_X5_bringDue := by
  intro w σ As Kn hI h
  unfold sp_X5_bringDue at h
  split at h
  · next a i st =>
    obtain ⟨hw, hwS, hap, ls, f, t, hR, hRS, hcO, rfl, ht, hlen, hall, h⟩ := h
    refine vc_X5_bringDue hl hI (ok_X7_addSondes hl) (ok_X5_put hl) (Nat.le_of_ble_eq_true rfl) (fun M h0 h1 h2 h3 h4 => h0 [.ref a, .int (nI t), .ref st, .null, .null] [] σ ?_)
    have hw' := hw
    have hwS0 := hwS.1
    unfold ap8 at hap
    unfold wB at hw'
    have hdl := n_due_le t ls
    generalize hD : n_due t ls = D at hdl h
    have hend : ∀ σk (z : Value), RB σk a (ls.drop D) → RS σk st (n_addBs f (ls.take D)) → Fr2 st 8 a 4 σ σk → M 104 [.ref a, .int (nI t), .ref st, .int (nI D), z] [] σk := by
      intro σk z q1 q2 q3
      refine h4 _ _ _ ?_
      simp (disch := omega) only [bX5_bringDue_104, q_ci, q_cl, q_ild, q_lld, q_ald, q_ist, q_ast, q_lst, q_inc, q_b2, q_d2, q_u1, q_l2, q_ld2, q_lsh, q_lcmp, q_i2l, q_l2i, q_dupi, q_dupr, q_dup2, q_popi, q_popr, q_if1, q_if2, q_nn, q_sw, q_swn, q_swc, q_gf, q_gr, q_pf, q_pz, q_pc, q_ia, q_is, q_cs, q_zs, q_la, q_lw, q_aa, q_al, q_gs, q_acp, q_m2, q_m1, q_ir, q_zr, q_lr, q_ar, q_vr, q_cN0, q_cSX0, q_cV0, q_cVX0, q_cN1, q_cSX1, q_cV1, q_cVX1, q_cN2, q_cSX2, q_cV2, q_cVX2, q_cN3, q_cSX3, q_cV3, q_cVX3, q_cN4, q_cSX4, q_cV4, q_cVX4, q_cN5, q_cSX5, q_cV5, q_cVX5, q_cN6, q_cSX6, q_cV6, q_cVX6, q_th, q_sh0, q_sh1, q_sh2, q_sh3, q_sh4, q_toL0, q_toL1, q_gl0, q_gls, q_sl0, q_sls, q_k10, q_k1s, q_lgi, q_lgr, q_lgl, q_lgn, Bool.not_false, and_true, true_and, nz_2, nz_4, nz_5, nz_8, nz_10, nz_12, nz_14, nz_16, nz_40, nz_41, nz_64, nz_100, nz_1000, nz_1024, nz_4096, nz_10000, nz_100000, not_false_eq_true, bI_0, nI_add, pk_mul, nI_lt', nI_le', nI_eq', nI_z, nI_p, nI_e0, nI_l0, nI_le0, nI_clamp, up_eq, up_ne, not_true_eq_false, Classical.not_not, false_implies, true_implies, false_and, and_false, or_true, true_or, Nat.add_zero, pk_m1, m1_0, m1_n, m1_p, Nat.zero_le, forall_const]
      exact h σk q1 q2 q3
    have loop2 : ∀ d k σk, k + d = ls.length → D ≤ k → σk a 0 = nI ls.length → (∀ i x, i + D < k → ls[i + D]? = some x → σk (a + 1) i = nI x.1 ∧ σk (a + 2) i = nI x.2.1 ∧ σk (a + 3) i = nI x.2.2) → (∀ i x, k ≤ i → ls[i]? = some x → σk (a + 1) i = nI x.1 ∧ σk (a + 2) i = nI x.2.1 ∧ σk (a + 3) i = nI x.2.2) → RS σk st (n_addBs f (ls.take D)) → Fr2 st 8 a 4 σ σk →
        M 50 [.ref a, .int (nI t), .ref st, .int (nI D), .int (nI k)] [] σk := by
      intro d
      induction d with
      | zero =>
        intro k σk hk hDk h0c hlo hhi hS hfr
        have hkl : k = ls.length := by omega
        subst hkl
        refine h3 _ _ _ ?_
        have es : nI ls.length - nI D = nI (ls.length - D) := pk_sub (by omega)
        simp (disch := omega) only [bX5_bringDue_50, hw', h0c, es, q_ci, q_cl, q_ild, q_lld, q_ald, q_ist, q_ast, q_lst, q_inc, q_b2, q_d2, q_u1, q_l2, q_ld2, q_lsh, q_lcmp, q_i2l, q_l2i, q_dupi, q_dupr, q_dup2, q_popi, q_popr, q_if1, q_if2, q_nn, q_sw, q_swn, q_swc, q_gf, q_gr, q_pf, q_pz, q_pc, q_ia, q_is, q_cs, q_zs, q_la, q_lw, q_aa, q_al, q_gs, q_acp, q_m2, q_m1, q_ir, q_zr, q_lr, q_ar, q_vr, q_cN0, q_cSX0, q_cV0, q_cVX0, q_cN1, q_cSX1, q_cV1, q_cVX1, q_cN2, q_cSX2, q_cV2, q_cVX2, q_cN3, q_cSX3, q_cV3, q_cVX3, q_cN4, q_cSX4, q_cV4, q_cVX4, q_cN5, q_cSX5, q_cV5, q_cVX5, q_cN6, q_cSX6, q_cV6, q_cVX6, q_th, q_sh0, q_sh1, q_sh2, q_sh3, q_sh4, q_toL0, q_toL1, q_gl0, q_gls, q_sl0, q_sls, q_k10, q_k1s, q_lgi, q_lgr, q_lgl, q_lgn, Bool.not_false, and_true, true_and, nz_2, nz_4, nz_5, nz_8, nz_10, nz_12, nz_14, nz_16, nz_40, nz_41, nz_64, nz_100, nz_1000, nz_1024, nz_4096, nz_10000, nz_100000, not_false_eq_true, bI_0, nI_add, pk_mul, nI_lt', nI_le', nI_eq', nI_z, nI_p, nI_e0, nI_l0, nI_le0, nI_clamp, up_eq, up_ne, not_true_eq_false, Classical.not_not, false_implies, true_implies, false_and, and_false, or_true, true_or, Nat.add_zero, pk_m1, m1_0, m1_n, m1_p, Nat.zero_le, forall_const]
        repeat' first
          | assumption
          | (refine vp_in_nI ?_ ?_ <;> omega)
          | refine And.intro ?_ ?_
          | (intro (_ : _); first | (exfalso; omega) | skip)
        refine hend _ _ ⟨?_, fun i x hx => ?_⟩ (hS.of fun v q1 q2 => ?_) (fun v q1 q2 => ?_)
        · simp (disch := omega) only [up_eqp, List.length_drop]
        · rw [List.getElem?_drop, Nat.add_comm] at hx
          simp (disch := omega) only [up_ne]; exact hlo i x (getq hx) hx
        · simp (disch := omega) only [up_ne]
        · simp (disch := omega) only [up_ne]; exact hfr v q1 q2
      | succ d ih =>
        intro k σk hk hDk h0c hlo hhi hS hfr
        have hg : ls[k]? = some ls[k] := List.getElem?_eq_getElem (by omega)
        obtain ⟨e1, e2, e3⟩ := hhi k _ (Nat.le_refl _) hg
        generalize hy : ls[k] = y at e1 e2 e3 hg
        refine h3 _ _ _ ?_
        have es : nI k - nI D = nI (k - D) := pk_sub (by omega)
        simp (disch := omega) only [bX5_bringDue_50, sp_X5_put, hw', h0c, es, e1, e2, e3, q_ci, q_cl, q_ild, q_lld, q_ald, q_ist, q_ast, q_lst, q_inc, q_b2, q_d2, q_u1, q_l2, q_ld2, q_lsh, q_lcmp, q_i2l, q_l2i, q_dupi, q_dupr, q_dup2, q_popi, q_popr, q_if1, q_if2, q_nn, q_sw, q_swn, q_swc, q_gf, q_gr, q_pf, q_pz, q_pc, q_ia, q_is, q_cs, q_zs, q_la, q_lw, q_aa, q_al, q_gs, q_acp, q_m2, q_m1, q_ir, q_zr, q_lr, q_ar, q_vr, q_cN0, q_cSX0, q_cV0, q_cVX0, q_cN1, q_cSX1, q_cV1, q_cVX1, q_cN2, q_cSX2, q_cV2, q_cVX2, q_cN3, q_cSX3, q_cV3, q_cVX3, q_cN4, q_cSX4, q_cV4, q_cVX4, q_cN5, q_cSX5, q_cV5, q_cVX5, q_cN6, q_cSX6, q_cV6, q_cVX6, q_th, q_sh0, q_sh1, q_sh2, q_sh3, q_sh4, q_toL0, q_toL1, q_gl0, q_gls, q_sl0, q_sls, q_k10, q_k1s, q_lgi, q_lgr, q_lgl, q_lgn, Bool.not_false, and_true, true_and, nz_2, nz_4, nz_5, nz_8, nz_10, nz_12, nz_14, nz_16, nz_40, nz_41, nz_64, nz_100, nz_1000, nz_1024, nz_4096, nz_10000, nz_100000, not_false_eq_true, bI_0, nI_add, pk_mul, nI_lt', nI_le', nI_eq', nI_z, nI_p, nI_e0, nI_l0, nI_le0, nI_clamp, up_eq, up_ne, not_true_eq_false, Classical.not_not, false_implies, true_implies, false_and, and_false, or_true, true_or, Nat.add_zero, pk_m1, m1_0, m1_n, m1_p, Nat.zero_le, forall_const]
        repeat' first
          | assumption
          | (refine vp_in_nI ?_ ?_ <;> omega)
          | refine And.intro ?_ ?_
          | (intro (_ : _); first | (exfalso; omega) | skip)
        refine ⟨k - D, rfl, by omega, ?_⟩
        unfold wr3
        refine ih (k + 1) _ (by omega) (by omega) ?_ ?_ ?_ ?_ ?_
        · simp (disch := omega) only [up_ne]; exact h0c
        · intro i x hi hx
          by_cases hik : i + D = k
          · rw [hik, hg] at hx; cases hx
            simp (disch := omega) only [up_ne, up_eqp, true_and]
          · simp (disch := omega) only [up_ne, up_nep]; exact hlo i x (by omega) hx
        · intro i x hi hx; simp (disch := omega) only [up_ne, up_nep]; exact hhi i x (by omega) hx
        · exact hS.of fun v q1 q2 => by simp (disch := omega) only [up_ne]
        · intro v q1 q2; simp (disch := omega) only [up_ne]; exact hfr v q1 q2
    have hmid : ∀ σk, σk a 0 = nI ls.length → (∀ i x, ls[i]? = some x → σk (a + 1) i = nI x.1 ∧ σk (a + 2) i = nI x.2.1 ∧ σk (a + 3) i = nI x.2.2) → RS σk st (n_addBs f (ls.take D)) → Fr2 st 8 a 4 σ σk → M 43 [.ref a, .int (nI t), .ref st, .int (nI D), .null] [] σk := by
      intro σk h0c hrd hS hfr
      refine h2 _ _ _ ?_
      simp (disch := omega) only [bX5_bringDue_43, q_ci, q_cl, q_ild, q_lld, q_ald, q_ist, q_ast, q_lst, q_inc, q_b2, q_d2, q_u1, q_l2, q_ld2, q_lsh, q_lcmp, q_i2l, q_l2i, q_dupi, q_dupr, q_dup2, q_popi, q_popr, q_if1, q_if2, q_nn, q_sw, q_swn, q_swc, q_gf, q_gr, q_pf, q_pz, q_pc, q_ia, q_is, q_cs, q_zs, q_la, q_lw, q_aa, q_al, q_gs, q_acp, q_m2, q_m1, q_ir, q_zr, q_lr, q_ar, q_vr, q_cN0, q_cSX0, q_cV0, q_cVX0, q_cN1, q_cSX1, q_cV1, q_cVX1, q_cN2, q_cSX2, q_cV2, q_cVX2, q_cN3, q_cSX3, q_cV3, q_cVX3, q_cN4, q_cSX4, q_cV4, q_cVX4, q_cN5, q_cSX5, q_cV5, q_cVX5, q_cN6, q_cSX6, q_cV6, q_cVX6, q_th, q_sh0, q_sh1, q_sh2, q_sh3, q_sh4, q_toL0, q_toL1, q_gl0, q_gls, q_sl0, q_sls, q_k10, q_k1s, q_lgi, q_lgr, q_lgl, q_lgn, Bool.not_false, and_true, true_and, nz_2, nz_4, nz_5, nz_8, nz_10, nz_12, nz_14, nz_16, nz_40, nz_41, nz_64, nz_100, nz_1000, nz_1024, nz_4096, nz_10000, nz_100000, not_false_eq_true, bI_0, nI_add, pk_mul, nI_lt', nI_le', nI_eq', nI_z, nI_p, nI_e0, nI_l0, nI_le0, nI_clamp, up_eq, up_ne, not_true_eq_false, Classical.not_not, false_implies, true_implies, false_and, and_false, or_true, true_or, Nat.add_zero, pk_m1, m1_0, m1_n, m1_p, Nat.zero_le, forall_const]
      by_cases hz : D = 0
      · skip
        repeat' first
          | assumption
          | (refine vp_in_nI ?_ ?_ <;> omega)
          | refine And.intro ?_ ?_
          | (intro (_ : _); first | (exfalso; omega) | skip)
        exact hend σk .null (by rw [hz]; exact ⟨h0c, hrd⟩) hS hfr
      · skip
        repeat' first
          | assumption
          | (refine vp_in_nI ?_ ?_ <;> omega)
          | refine And.intro ?_ ?_
          | (intro (_ : _); first | (exfalso; omega) | skip)
        exact loop2 (ls.length - D) D σk (by omega) (Nat.le_refl _) h0c (fun i x hi _ => absurd hi (by omega)) (fun i x _ hx => hrd i x hx) hS hfr
    have loop1 : ∀ d k σk, k + d = D → σk a 0 = nI ls.length → (∀ i x, ls[i]? = some x → σk (a + 1) i = nI x.1 ∧ σk (a + 2) i = nI x.2.1 ∧ σk (a + 3) i = nI x.2.2) → RS σk st (n_addBs f (ls.take k)) → Fr2 st 8 a 4 σ σk → M 2 [.ref a, .int (nI t), .ref st, .int (nI k), .null] [] σk := by
      intro d
      induction d with
      | zero =>
        intro k σk hk h0c hrd hS hfr
        have hkD : k = D := by omega
        subst hkD
        have hm := hmid σk h0c hrd hS hfr
        refine h1 _ _ _ ?_
        by_cases hlt : k < ls.length
        · have hg : ls[k]? = some ls[k] := List.getElem?_eq_getElem hlt
          obtain ⟨e1, e2, e3⟩ := hrd k _ hg
          have hne := n_due_end t ls _ (by rw [hD]; exact hg)
          have hb := (hall _ (List.getElem_mem hlt)).2.2
          simp (disch := omega) only [bX5_bringDue_2, hw', h0c, e1, q_ci, q_cl, q_ild, q_lld, q_ald, q_ist, q_ast, q_lst, q_inc, q_b2, q_d2, q_u1, q_l2, q_ld2, q_lsh, q_lcmp, q_i2l, q_l2i, q_dupi, q_dupr, q_dup2, q_popi, q_popr, q_if1, q_if2, q_nn, q_sw, q_swn, q_swc, q_gf, q_gr, q_pf, q_pz, q_pc, q_ia, q_is, q_cs, q_zs, q_la, q_lw, q_aa, q_al, q_gs, q_acp, q_m2, q_m1, q_ir, q_zr, q_lr, q_ar, q_vr, q_cN0, q_cSX0, q_cV0, q_cVX0, q_cN1, q_cSX1, q_cV1, q_cVX1, q_cN2, q_cSX2, q_cV2, q_cVX2, q_cN3, q_cSX3, q_cV3, q_cVX3, q_cN4, q_cSX4, q_cV4, q_cVX4, q_cN5, q_cSX5, q_cV5, q_cVX5, q_cN6, q_cSX6, q_cV6, q_cVX6, q_th, q_sh0, q_sh1, q_sh2, q_sh3, q_sh4, q_toL0, q_toL1, q_gl0, q_gls, q_sl0, q_sls, q_k10, q_k1s, q_lgi, q_lgr, q_lgl, q_lgn, Bool.not_false, and_true, true_and, nz_2, nz_4, nz_5, nz_8, nz_10, nz_12, nz_14, nz_16, nz_40, nz_41, nz_64, nz_100, nz_1000, nz_1024, nz_4096, nz_10000, nz_100000, not_false_eq_true, bI_0, nI_add, pk_mul, nI_lt', nI_le', nI_eq', nI_z, nI_p, nI_e0, nI_l0, nI_le0, nI_clamp, up_eq, up_ne, not_true_eq_false, Classical.not_not, false_implies, true_implies, false_and, and_false, or_true, true_or, Nat.add_zero, pk_m1, m1_0, m1_n, m1_p, Nat.zero_le, forall_const]
          repeat' first
            | assumption
            | (refine vp_in_nI ?_ ?_ <;> omega)
            | refine And.intro ?_ ?_
            | (intro (_ : _); first | (exfalso; omega) | skip)
        · simp (disch := omega) only [bX5_bringDue_2, hw', h0c, q_ci, q_cl, q_ild, q_lld, q_ald, q_ist, q_ast, q_lst, q_inc, q_b2, q_d2, q_u1, q_l2, q_ld2, q_lsh, q_lcmp, q_i2l, q_l2i, q_dupi, q_dupr, q_dup2, q_popi, q_popr, q_if1, q_if2, q_nn, q_sw, q_swn, q_swc, q_gf, q_gr, q_pf, q_pz, q_pc, q_ia, q_is, q_cs, q_zs, q_la, q_lw, q_aa, q_al, q_gs, q_acp, q_m2, q_m1, q_ir, q_zr, q_lr, q_ar, q_vr, q_cN0, q_cSX0, q_cV0, q_cVX0, q_cN1, q_cSX1, q_cV1, q_cVX1, q_cN2, q_cSX2, q_cV2, q_cVX2, q_cN3, q_cSX3, q_cV3, q_cVX3, q_cN4, q_cSX4, q_cV4, q_cVX4, q_cN5, q_cSX5, q_cV5, q_cVX5, q_cN6, q_cSX6, q_cV6, q_cVX6, q_th, q_sh0, q_sh1, q_sh2, q_sh3, q_sh4, q_toL0, q_toL1, q_gl0, q_gls, q_sl0, q_sls, q_k10, q_k1s, q_lgi, q_lgr, q_lgl, q_lgn, Bool.not_false, and_true, true_and, nz_2, nz_4, nz_5, nz_8, nz_10, nz_12, nz_14, nz_16, nz_40, nz_41, nz_64, nz_100, nz_1000, nz_1024, nz_4096, nz_10000, nz_100000, not_false_eq_true, bI_0, nI_add, pk_mul, nI_lt', nI_le', nI_eq', nI_z, nI_p, nI_e0, nI_l0, nI_le0, nI_clamp, up_eq, up_ne, not_true_eq_false, Classical.not_not, false_implies, true_implies, false_and, and_false, or_true, true_or, Nat.add_zero, pk_m1, m1_0, m1_n, m1_p, Nat.zero_le, forall_const]
          repeat' first
            | assumption
            | (refine vp_in_nI ?_ ?_ <;> omega)
            | refine And.intro ?_ ?_
            | (intro (_ : _); first | (exfalso; omega) | skip)
      | succ d ih =>
        intro k σk hk h0c hrd hS hfr
        have hlt : k < ls.length := by omega
        have hg : ls[k]? = some ls[k] := List.getElem?_eq_getElem hlt
        obtain ⟨e1, e2, e3⟩ := hrd k _ hg
        have heq := n_due_at t ls k _ (by omega) hg
        obtain ⟨hst, hfl, hb⟩ := hall _ (List.getElem_mem hlt)
        have htk : ls.take (k + 1) = ls.take k ++ [ls[k]] := (List.take_append_getElem hlt).symm
        have ih' := fun σ1 => ih (k + 1) σ1 (by omega)
        rw [htk, show n_addBs f (ls.take k ++ [ls[k]]) = n_addB (n_addBs f (ls.take k)) ls[k] from List.foldl_append ..] at ih'
        have hc1 : n_addBs f (ls.take k) 1 = f 1 := n_addBs_1 _ _
        have hs0 : σk st 0 = nI (cl (f 1)) := by rw [hS.1, hc1]; exact hcO.1
        generalize hy : ls[k] = y at e1 e2 e3 hg heq hst hfl hb ih'
        refine h1 _ _ _ ?_
        simp (disch := omega) only [bX5_bringDue_2, sp_X7_addSondes, hw', hwS0, h0c, e1, e2, e3, q_ci, q_cl, q_ild, q_lld, q_ald, q_ist, q_ast, q_lst, q_inc, q_b2, q_d2, q_u1, q_l2, q_ld2, q_lsh, q_lcmp, q_i2l, q_l2i, q_dupi, q_dupr, q_dup2, q_popi, q_popr, q_if1, q_if2, q_nn, q_sw, q_swn, q_swc, q_gf, q_gr, q_pf, q_pz, q_pc, q_ia, q_is, q_cs, q_zs, q_la, q_lw, q_aa, q_al, q_gs, q_acp, q_m2, q_m1, q_ir, q_zr, q_lr, q_ar, q_vr, q_cN0, q_cSX0, q_cV0, q_cVX0, q_cN1, q_cSX1, q_cV1, q_cVX1, q_cN2, q_cSX2, q_cV2, q_cVX2, q_cN3, q_cSX3, q_cV3, q_cVX3, q_cN4, q_cSX4, q_cV4, q_cVX4, q_cN5, q_cSX5, q_cV5, q_cVX5, q_cN6, q_cSX6, q_cV6, q_cVX6, q_th, q_sh0, q_sh1, q_sh2, q_sh3, q_sh4, q_toL0, q_toL1, q_gl0, q_gls, q_sl0, q_sls, q_k10, q_k1s, q_lgi, q_lgr, q_lgl, q_lgn, Bool.not_false, and_true, true_and, nz_2, nz_4, nz_5, nz_8, nz_10, nz_12, nz_14, nz_16, nz_40, nz_41, nz_64, nz_100, nz_1000, nz_1024, nz_4096, nz_10000, nz_100000, not_false_eq_true, bI_0, nI_add, pk_mul, nI_lt', nI_le', nI_eq', nI_z, nI_p, nI_e0, nI_l0, nI_le0, nI_clamp, up_eq, up_ne, not_true_eq_false, Classical.not_not, false_implies, true_implies, false_and, and_false, or_true, true_or, Nat.add_zero, pk_m1, m1_0, m1_n, m1_p, Nat.zero_le, forall_const]
        repeat' first
          | assumption
          | (refine vp_in_nI ?_ ?_ <;> omega)
          | refine And.intro ?_ ?_
          | (intro (_ : _); first | (exfalso; omega) | skip)
        refine ⟨y.2.1, cl (f 1), y.2.2, ⟨rfl, hs0, hst, hcO.2⟩, rfl, hfl, ?_⟩
        refine ih' _ ?_ ?_ ?_ ?_
        · simp (disch := omega) only [up_ne]; exact h0c
        · intro i x hx; simp (disch := omega) only [up_ne]; exact hrd i x hx
        · refine (hS.stk (by rw [hc1]; exact hst) hfl (nI 1)).f ?_ ?_
          · rw [n_addB_1, upd_nep (by omega)]
          · intro i hi
            unfold n_addB
            rw [upd_nep (by omega), upd_nep (by omega), nI_one]
        · intro v q1 q2; simp (disch := omega) only [up_ne]; exact hfr v q1 q2
    simp (disch := omega) only [bX5_bringDue_0, q_ci, q_cl, q_ild, q_lld, q_ald, q_ist, q_ast, q_lst, q_inc, q_b2, q_d2, q_u1, q_l2, q_ld2, q_lsh, q_lcmp, q_i2l, q_l2i, q_dupi, q_dupr, q_dup2, q_popi, q_popr, q_if1, q_if2, q_nn, q_sw, q_swn, q_swc, q_gf, q_gr, q_pf, q_pz, q_pc, q_ia, q_is, q_cs, q_zs, q_la, q_lw, q_aa, q_al, q_gs, q_acp, q_m2, q_m1, q_ir, q_zr, q_lr, q_ar, q_vr, q_cN0, q_cSX0, q_cV0, q_cVX0, q_cN1, q_cSX1, q_cV1, q_cVX1, q_cN2, q_cSX2, q_cV2, q_cVX2, q_cN3, q_cSX3, q_cV3, q_cVX3, q_cN4, q_cSX4, q_cV4, q_cVX4, q_cN5, q_cSX5, q_cV5, q_cVX5, q_cN6, q_cSX6, q_cV6, q_cVX6, q_th, q_sh0, q_sh1, q_sh2, q_sh3, q_sh4, q_toL0, q_toL1, q_gl0, q_gls, q_sl0, q_sls, q_k10, q_k1s, q_lgi, q_lgr, q_lgl, q_lgn, Bool.not_false, and_true, true_and, nz_2, nz_4, nz_5, nz_8, nz_10, nz_12, nz_14, nz_16, nz_40, nz_41, nz_64, nz_100, nz_1000, nz_1024, nz_4096, nz_10000, nz_100000, not_false_eq_true, bI_0, nI_add, pk_mul, nI_lt', nI_le', nI_eq', nI_z, nI_p, nI_e0, nI_l0, nI_le0, nI_clamp, up_eq, up_ne, not_true_eq_false, Classical.not_not, false_implies, true_implies, false_and, and_false, or_true, true_or, Nat.add_zero, pk_m1, m1_0, m1_n, m1_p, Nat.zero_le, forall_const]
    repeat' first
      | assumption
      | (refine vp_in_nI ?_ ?_ <;> omega)
      | refine And.intro ?_ ?_
      | (intro (_ : _); first | (exfalso; omega) | skip)
    exact loop1 D 0 σ (by omega) hR.1 (fun i x hx => hR.2 i x hx) hRS (fun _ _ _ => rfl)
  · exact h.elim
