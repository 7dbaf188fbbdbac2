theorem dSl.cp {σ σ' : ab_H} {i T : Nat} {o : Option nT} (h : dSl σ i o) (hT : T < 100000) (hW : ∀ n, o = some n → WF T n) (e15 : σ' 15 i = σ 15 i) (e14 : ∀ x, x < 304 → σ' 14 (304 * i + x) = σ 14 (304 * i + x)) : dSl σ' i o := by
  unfold dSl at h ⊢
  split
  · next => rw [e15]; exact h
  · next n => exact ⟨by rw [e15]; exact h.1, h.2.cq (hW n rfl) hT e14⟩
def sp_X10_remember : ab_S := fun w As σ K => match As with
  | [.ref a] => a = 8 ∧ wD w ∧ ∃ A T, RD σ A ∧ WA T A ∧ T < 90000 ∧ ∀ σ', RD σ' (A.1, n_keep A.2.1 A.1, A.2.2) → (∀ v, v ≠ 8 → v ≠ 13 → σ' v = σ v) → (∀ k, k ≠ 10 → σ' 8 k = σ 8 k) → K none σ'
  | _ => False
set_option maxRecDepth 20000 in
set_option maxHeartbeats 4000000 in
theorem ok_X10_remember {l : Launch} (hl : l.stackTraces = false) : ab_OkN l yX10_remember (Cond.code yX10_remember cX10_remember 1 none) 2 sp_X10_remember := by
  intro w σ As Kn hI h
  unfold sp_X10_remember at h
  split at h
  rotate_left 1
  · exact h.elim
  next a =>
    obtain ⟨rfl, hw, A, T, hA, hW, hT, h⟩ := h
    obtain ⟨k8, k9, l9, -, ⟨k11, l11⟩, -, k13, l13, -⟩ := id hw
    refine vc_X10_remember hl hI (ok_X10_copy hl) (Nat.le_of_ble_eq_true rfl) (fun M h0 h37 => h0 [.ref 8] [] σ ?_)
    obtain ⟨hR, ⟨hl14, hac, hms⟩, hs0, hs1, hT', hm⟩ := id hA
    have H37 : ∀ r ms, ms.length ≤ 13 → (∀ k x, ms[k]? = some x → RM (fun i => r (304 * k + i)) x ∧ WF T x) → n_keep A.2.1 A.1 = ms ++ [A.1] → M 37 [.ref 8] [] (ab_up (rset σ 13 r) 8 10 (nI ms.length)) := by
      intro r ms hl hr hk
      refine h37 _ _ _ ?_
      have e10 : ab_up (rset σ 13 r) 8 10 (nI ms.length) 8 10 = nI ms.length := up_eqp rfl rfl
      have e10' : ∀ q, rset (ab_up (rset σ 13 r) 8 10 (nI ms.length)) 13 q 8 10 = nI ms.length := fun q => by rw [rset_ne (by decide)]; exact e10
      simp (disch := omega) only [bX10_remember_37, sp_X10_copy, k8, e10, e10', q_ci, q_cl, q_ild, q_lld, q_ald, q_ist, q_ast, q_lst, q_inc, q_b2, q_d2, q_u1, q_l2, q_ld2, q_lsh, q_lcmp, q_i2l, q_l2i, q_dupi, q_dupr, q_dup2, q_popi, q_popr, q_if1, q_if2, q_nn, q_sw, q_swn, q_swc, q_gf, q_gr, q_pf, q_pz, q_pc, q_ia, q_is, q_cs, q_zs, q_la, q_lw, q_aa, q_al, q_gs, q_acp, q_m2, q_m1, q_ir, q_zr, q_lr, q_ar, q_vr, q_cN0, q_cSX0, q_cV0, q_cVX0, q_cN1, q_cSX1, q_cV1, q_cVX1, q_cN2, q_cSX2, q_cV2, q_cVX2, q_cN3, q_cSX3, q_cV3, q_cVX3, q_cN4, q_cSX4, q_cV4, q_cVX4, q_cN5, q_cSX5, q_cV5, q_cVX5, q_cN6, q_cSX6, q_cV6, q_cVX6, q_th, q_sh0, q_sh1, q_sh2, q_sh3, q_sh4, q_toL0, q_toL1, q_gl0, q_gls, q_sl0, q_sls, q_k10, q_k1s, q_lgi, q_lgr, q_lgl, q_lgn, Bool.not_false, and_true, true_and, nz_2, nz_4, nz_5, nz_8, nz_10, nz_12, nz_14, nz_16, nz_40, nz_41, nz_64, nz_100, nz_1000, nz_1024, nz_4096, nz_10000, nz_100000, not_false_eq_true, bI_0, nI_add, pk_mul, nI_lt', nI_le', nI_eq', nI_z, nI_p, nI_e0, nI_l0, nI_le0, nI_clamp, up_eq, up_ne, not_true_eq_false, Classical.not_not, false_implies, true_implies, false_and, and_false, or_true, true_or, Nat.add_zero, pk_m1, m1_0, m1_n, m1_p, Nat.zero_le, forall_const, Nat.zero_add, Nat.reduceAdd, Nat.reduceEqDiff, or_false, false_or, Nat.one_ne_zero, l64_2, l64_3, l64_4, l64_5, l64_7, l64_9, l64_10, l64_11, l64_15, l64_20, l64_30, l64_40, l64_60, l64_99, l64_255, l64_999, le64l, le64r, le64b, le64n, rset_eq, rset_upd, rset_rset, upd_nep, upd_eqp, ix21_4k, ix21_1, ix21_2, ix21_3, ix21_4, ix21_5, ix21_6, ix21_7, ix21_8, ix21_9, ix21_10, ix76_1, ix76_2, ix76_3, ix100_1, ix100_2, ix100_3, Nat.lt_irrefl, zl1, zl2, zl3, implies_true]
      refine ⟨0, 304 * ms.length, 304, rfl, by rw [Nat.mul_comm], rfl, k11, k13, by omega, by omega, by omega, by omega, by first | decide | exact Or.inl (by decide) | exact Or.inr (by omega), ?_⟩
      try simp only [e10', nI_add]
      have eF : ∀ v, v ≠ 8 → v ≠ 13 → ab_up (rset (ab_up (rset σ 13 r) 8 10 (nI ms.length)) 13 (cpy (σ 11) r 0 (304 * ms.length) 304)) 8 10 (nI (ms.length + 1)) v = σ v := fun v h1 h2 => by rw [up_ne h1, rset_ne h2, up_ne h1, rset_ne h2]
      have e8 : ∀ k, k ≠ 10 → ab_up (rset (ab_up (rset σ 13 r) 8 10 (nI ms.length)) 13 (cpy (σ 11) r 0 (304 * ms.length) 304)) 8 10 (nI (ms.length + 1)) 8 k = σ 8 k := fun k h1 => by rw [up_nep h1, rset_ne (by decide), up_nep h1, rset_ne (by decide)]
      have eu : ab_up (rset σ 13 r) 8 10 (nI ms.length) 13 = r := by rw [up_ne (by decide), rset_eq]
      have e11 : ab_up (rset σ 13 r) 8 10 (nI ms.length) 11 = σ 11 := by rw [up_ne (by decide), rset_ne (by decide)]
      have e11r : rset σ 13 r 11 = σ 11 := rset_ne (by decide)
      try simp only [eu, e11, e11r, rset_eq]
      refine h _ ⟨by rw [eF 11 (by decide) (by decide)]; exact hR, ⟨?_, ?_, fun k x q => ?_⟩, hs0.of (eF 14 (by decide) (by decide)) (by rw [eF 15 (by decide) (by decide)]), hs1.of (eF 14 (by decide) (by decide)) (by rw [eF 15 (by decide) (by decide)]), hT'.of (eF 9 (by decide) (by decide)), by rw [e8 2 (by decide)]; exact hm⟩ eF e8
      · dsimp only; rw [hk, List.length_append, List.length_singleton]; omega
      · dsimp only; rw [hk, List.length_append, List.length_singleton]; exact up_eqp rfl rfl
      · dsimp only at q ⊢
        rw [hk] at q
        have e13 : ab_up (rset (ab_up (rset σ 13 r) 8 10 (nI ms.length)) 13 (cpy (σ 11) r 0 (304 * ms.length) 304)) 8 10 (nI (ms.length + 1)) 13 = cpy (σ 11) r 0 (304 * ms.length) 304 := by rw [up_ne (by decide), rset_eq]
        rw [e13]
        rcases appx q with ⟨q2, q3⟩ | ⟨q2, q3⟩
        · obtain ⟨p1, p2⟩ := hr k x q3
          refine p1.cq p2 (by omega) (fun i hi => ?_)
          unfold cpy; rw [if_neg (by omega)]
        · subst q3; subst q2
          refine hR.cq hW.1 (by omega) (fun i hi => ?_)
          unfold cpy; rw [if_pos (by omega)]; congr 1; omega
    by_cases h14 : A.2.1.length = 14
    · rw [h14] at hac
      have e14 : nI 14 - nI 1 = nI 13 := by rw [pk_sub (by omega)]
      simp (disch := omega) only [bX10_remember_0, sp_X10_copy, k8, hac, q_ci, q_cl, q_ild, q_lld, q_ald, q_ist, q_ast, q_lst, q_inc, q_b2, q_d2, q_u1, q_l2, q_ld2, q_lsh, q_lcmp, q_i2l, q_l2i, q_dupi, q_dupr, q_dup2, q_popi, q_popr, q_if1, q_if2, q_nn, q_sw, q_swn, q_swc, q_gf, q_gr, q_pf, q_pz, q_pc, q_ia, q_is, q_cs, q_zs, q_la, q_lw, q_aa, q_al, q_gs, q_acp, q_m2, q_m1, q_ir, q_zr, q_lr, q_ar, q_vr, q_cN0, q_cSX0, q_cV0, q_cVX0, q_cN1, q_cSX1, q_cV1, q_cVX1, q_cN2, q_cSX2, q_cV2, q_cVX2, q_cN3, q_cSX3, q_cV3, q_cVX3, q_cN4, q_cSX4, q_cV4, q_cVX4, q_cN5, q_cSX5, q_cV5, q_cVX5, q_cN6, q_cSX6, q_cV6, q_cVX6, q_th, q_sh0, q_sh1, q_sh2, q_sh3, q_sh4, q_toL0, q_toL1, q_gl0, q_gls, q_sl0, q_sls, q_k10, q_k1s, q_lgi, q_lgr, q_lgl, q_lgn, Bool.not_false, and_true, true_and, nz_2, nz_4, nz_5, nz_8, nz_10, nz_12, nz_14, nz_16, nz_40, nz_41, nz_64, nz_100, nz_1000, nz_1024, nz_4096, nz_10000, nz_100000, not_false_eq_true, bI_0, nI_add, pk_mul, nI_lt', nI_le', nI_eq', nI_z, nI_p, nI_e0, nI_l0, nI_le0, nI_clamp, up_eq, up_ne, not_true_eq_false, Classical.not_not, false_implies, true_implies, false_and, and_false, or_true, true_or, Nat.add_zero, pk_m1, m1_0, m1_n, m1_p, Nat.zero_le, forall_const, Nat.zero_add, Nat.reduceAdd, Nat.reduceEqDiff, or_false, false_or, Nat.one_ne_zero, l64_2, l64_3, l64_4, l64_5, l64_7, l64_9, l64_10, l64_11, l64_15, l64_20, l64_30, l64_40, l64_60, l64_99, l64_255, l64_999, le64l, le64r, le64b, le64n, rset_eq, rset_upd, rset_rset, upd_nep, upd_eqp, ix21_4k, ix21_1, ix21_2, ix21_3, ix21_4, ix21_5, ix21_6, ix21_7, ix21_8, ix21_9, ix21_10, ix76_1, ix76_2, ix76_3, ix100_1, ix100_2, ix100_3, Nat.lt_irrefl, zl1, zl2, zl3, implies_true]
      refine ⟨304, 0, 3952, rfl, rfl, rfl, k13, k13, by omega, by omega, by omega, by omega, by first | decide | exact Or.inl (by decide) | exact Or.inr (by omega), ?_⟩
      have e8 : ∀ q, rset σ 13 q 8 10 = nI 14 := fun q => by rw [rset_ne (by decide)]; exact hac
      try simp only [e8, e14]
      have := H37 (cpy (σ 13) (σ 13) 304 0 3952) (A.2.1.drop 1) (by rw [List.length_drop]; omega) (fun k x q => ?_) (by unfold n_keep; rw [if_pos h14])
      · rw [List.length_drop, h14] at this
        exact this
      · rw [List.getElem?_drop] at q
        have hk := getq q
        have hWx := hW.2.1 x (List.mem_of_getElem? q)
        refine ⟨(hms _ x q).cq hWx (by omega) (fun i hi => ?_), hWx⟩
        unfold cpy; rw [if_pos (by omega)]; congr 1; omega
    · simp (disch := omega) only [bX10_remember_0, sp_X10_copy, k8, hac, q_ci, q_cl, q_ild, q_lld, q_ald, q_ist, q_ast, q_lst, q_inc, q_b2, q_d2, q_u1, q_l2, q_ld2, q_lsh, q_lcmp, q_i2l, q_l2i, q_dupi, q_dupr, q_dup2, q_popi, q_popr, q_if1, q_if2, q_nn, q_sw, q_swn, q_swc, q_gf, q_gr, q_pf, q_pz, q_pc, q_ia, q_is, q_cs, q_zs, q_la, q_lw, q_aa, q_al, q_gs, q_acp, q_m2, q_m1, q_ir, q_zr, q_lr, q_ar, q_vr, q_cN0, q_cSX0, q_cV0, q_cVX0, q_cN1, q_cSX1, q_cV1, q_cVX1, q_cN2, q_cSX2, q_cV2, q_cVX2, q_cN3, q_cSX3, q_cV3, q_cVX3, q_cN4, q_cSX4, q_cV4, q_cVX4, q_cN5, q_cSX5, q_cV5, q_cVX5, q_cN6, q_cSX6, q_cV6, q_cVX6, q_th, q_sh0, q_sh1, q_sh2, q_sh3, q_sh4, q_toL0, q_toL1, q_gl0, q_gls, q_sl0, q_sls, q_k10, q_k1s, q_lgi, q_lgr, q_lgl, q_lgn, Bool.not_false, and_true, true_and, nz_2, nz_4, nz_5, nz_8, nz_10, nz_12, nz_14, nz_16, nz_40, nz_41, nz_64, nz_100, nz_1000, nz_1024, nz_4096, nz_10000, nz_100000, not_false_eq_true, bI_0, nI_add, pk_mul, nI_lt', nI_le', nI_eq', nI_z, nI_p, nI_e0, nI_l0, nI_le0, nI_clamp, up_eq, up_ne, not_true_eq_false, Classical.not_not, false_implies, true_implies, false_and, and_false, or_true, true_or, Nat.add_zero, pk_m1, m1_0, m1_n, m1_p, Nat.zero_le, forall_const, Nat.zero_add, Nat.reduceAdd, Nat.reduceEqDiff, or_false, false_or, Nat.one_ne_zero, l64_2, l64_3, l64_4, l64_5, l64_7, l64_9, l64_10, l64_11, l64_15, l64_20, l64_30, l64_40, l64_60, l64_99, l64_255, l64_999, le64l, le64r, le64b, le64n, rset_eq, rset_upd, rset_rset, upd_nep, upd_eqp, ix21_4k, ix21_1, ix21_2, ix21_3, ix21_4, ix21_5, ix21_6, ix21_7, ix21_8, ix21_9, ix21_10, ix76_1, ix76_2, ix76_3, ix100_1, ix100_2, ix100_3, Nat.lt_irrefl, zl1, zl2, zl3, implies_true]
      refine ⟨fun _ => ?_, fun q => absurd q h14⟩
      have := H37 (σ 13) A.2.1 (by omega) (fun k x q => ⟨hms k x q, hW.2.1 x (List.mem_of_getElem? q)⟩) (by unfold n_keep; rw [if_neg h14])
      rw [rset_self, ← hac, up_self] at this
      exact this
set_option maxRecDepth 20000 in
set_option maxHeartbeats 4000000 in
theorem cd_X10_clearText {l : Launch} (hl : l.stackTraces = false) {w : ab_W} {σ : ab_H} {Kn : Option Value → ab_H → Prop} {Kx : String → ab_H → Prop} (hI : ab_Inj w) (h : sdA w σ c_clearText Kn) : ab_Met l yX10_clearText (Cond.code yX10_clearText cX10_clearText 2 (some .int)) 1 0 w σ [.ref 8] Kn Kx := by
  obtain ⟨hw, A, T, hA, hW, hT, hn⟩ := h
  obtain ⟨k8, k9, l9, ⟨k10, l10⟩, ⟨k11, l11⟩, ⟨k12, l12⟩, k13, l13, k14, l14, k15, l15⟩ := id hw
  have hcO := hW.1.cOK
  have hc51 := hcO.2
  have hR := hA.1
  have hr := hR.1
  have hwR : wR w 11 := ⟨k11, l11⟩
  have z0 : ∀ x, RD (ab_up σ 8 0 x) A := fun x => hA.z x
  have zF : ∀ x, FrB σ (ab_up σ 8 0 x) := fun x => FrB.z x
  have z8 : ∀ x, ab_up σ 8 0 x 8 0 = x := fun x => up_eqp rfl rfl
  refine vc_X10_clearText hl hI  (Nat.le_of_ble_eq_true rfl) (fun M h0 => h0 [.ref 8, .null] [] σ ?_)
  have e2 := hA.2.2.2.2.2
  have e2' : ∀ x, ab_up σ 8 0 x 8 2 = nI (aM A) := fun x => by rw [up_nep (by decide)]; exact e2
  simp (disch := omega) only [bX10_clearText_0, k8, e2', q_ci, q_cl, q_ild, q_lld, q_ald, q_ist, q_ast, q_lst, q_inc, q_b2, q_d2, q_u1, q_l2, q_ld2, q_lsh, q_lcmp, q_i2l, q_l2i, q_dupi, q_dupr, q_dup2, q_popi, q_popr, q_if1, q_if2, q_nn, q_sw, q_swn, q_swc, q_gf, q_gr, q_pf, q_pz, q_pc, q_ia, q_is, q_cs, q_zs, q_la, q_lw, q_aa, q_al, q_gs, q_acp, q_m2, q_m1, q_ir, q_zr, q_lr, q_ar, q_vr, q_cN0, q_cSX0, q_cV0, q_cVX0, q_cN1, q_cSX1, q_cV1, q_cVX1, q_cN2, q_cSX2, q_cV2, q_cVX2, q_cN3, q_cSX3, q_cV3, q_cVX3, q_cN4, q_cSX4, q_cV4, q_cVX4, q_cN5, q_cSX5, q_cV5, q_cVX5, q_cN6, q_cSX6, q_cV6, q_cVX6, q_th, q_sh0, q_sh1, q_sh2, q_sh3, q_sh4, q_toL0, q_toL1, q_gl0, q_gls, q_sl0, q_sls, q_k10, q_k1s, q_lgi, q_lgr, q_lgl, q_lgn, Bool.not_false, and_true, true_and, nz_2, nz_4, nz_5, nz_8, nz_10, nz_12, nz_14, nz_16, nz_40, nz_41, nz_64, nz_100, nz_1000, nz_1024, nz_4096, nz_10000, nz_100000, not_false_eq_true, bI_0, nI_add, pk_mul, nI_lt', nI_le', nI_eq', nI_z, nI_p, nI_e0, nI_l0, nI_le0, nI_clamp, up_eq, up_ne, not_true_eq_false, Classical.not_not, false_implies, true_implies, false_and, and_false, or_true, true_or, Nat.add_zero, pk_m1, m1_0, m1_n, m1_p, Nat.zero_le, forall_const, Nat.zero_add, Nat.reduceAdd, Nat.reduceEqDiff, or_false, false_or, Nat.one_ne_zero, l64_2, l64_3, l64_4, l64_5, l64_7, l64_9, l64_10, l64_11, l64_15, l64_20, l64_30, l64_40, l64_60, l64_99, l64_255, l64_999, le64l, le64r, le64b, le64n, rset_eq, rset_upd, rset_rset, upd_nep, upd_eqp, ix21_4k, ix21_1, ix21_2, ix21_3, ix21_4, ix21_5, ix21_6, ix21_7, ix21_8, ix21_9, ix21_10, ix76_1, ix76_2, ix76_3, ix100_1, ix100_2, ix100_3, Nat.lt_irrefl, zl1, zl2, zl3, implies_true]
  refine hn _ _ ?_ ((zF _).trans (fun v hv => up_ne (by omega))) (by rw [up_nep (by decide)]; exact z8 _) (fun _ => rfl)
  have zA := z0 (nI 0)
  obtain ⟨q1, q2, q3, q4, q5, q6⟩ := zA
  exact ⟨by rw [up_ne (by decide)]; exact q1, q2.of (up_ne (by decide)) (up_nep (by decide)), q3.of (up_ne (by decide)) (by rw [up_ne (by decide)]), q4.of (up_ne (by decide)) (by rw [up_ne (by decide)]), ⟨Nat.zero_le _, fun j hj => absurd hj (Nat.not_lt_zero j)⟩, up_eqp rfl rfl⟩
set_option maxRecDepth 20000 in
set_option maxHeartbeats 4000000 in
theorem cd_X10_append {l : Launch} (hl : l.stackTraces = false) {w : ab_W} {σ : ab_H} {Kn : Option Value → ab_H → Prop} {Kx : String → ab_H → Prop} (hI : ab_Inj w) (c : Int32) (h : sdA w σ (c_append c) Kn) : ab_Met l yX10_append (Cond.code yX10_append cX10_append 2 (some .int)) 2 0 w σ [.ref 8, .int c] Kn Kx := by
  obtain ⟨hw, A, T, hA, hW, hT, hn⟩ := h
  obtain ⟨k8, k9, l9, ⟨k10, l10⟩, ⟨k11, l11⟩, ⟨k12, l12⟩, k13, l13, k14, l14, k15, l15⟩ := id hw
  have hcO := hW.1.cOK
  have hc51 := hcO.2
  have hR := hA.1
  have hr := hR.1
  have hwR : wR w 11 := ⟨k11, l11⟩
  have z0 : ∀ x, RD (ab_up σ 8 0 x) A := fun x => hA.z x
  have zF : ∀ x, FrB σ (ab_up σ 8 0 x) := fun x => FrB.z x
  have z8 : ∀ x, ab_up σ 8 0 x 8 0 = x := fun x => up_eqp rfl rfl
  refine vc_X10_append hl hI (ok_X10_in hl) (ok_X10_refused hl) (Nat.le_of_ble_eq_true rfl) (fun M h0 h31 => h0 [.ref 8, .int c] [] σ ?_)
  have e2 := hA.2.2.2.2.2
  have hm := hA.2.2.2.2.1.1
  have hT9 := hA.2.2.2.2.1.2
  have fbad : ∀ e, c_append c A = (e, 0, A) → 0 < e → e ≤ 3 → M 31 [.ref 8, .int c] [.int (nI e), .ref 8] σ := by
    intro e hc h0' h3
    rw [hc] at hn
    have hn := hn _ (nI 0) (z0 (nI e)) (zF _) (z8 _) (fun q => absurd (show e = 0 from q) (by omega))
    refine h31 _ _ _ ?_
    simp (disch := omega) only [bX10_append_31, sp_X10_refused, k8, q_ci, q_cl, q_ild, q_lld, q_ald, q_ist, q_ast, q_lst, q_inc, q_b2, q_d2, q_u1, q_l2, q_ld2, q_lsh, q_lcmp, q_i2l, q_l2i, q_dupi, q_dupr, q_dup2, q_popi, q_popr, q_if1, q_if2, q_nn, q_sw, q_swn, q_swc, q_gf, q_gr, q_pf, q_pz, q_pc, q_ia, q_is, q_cs, q_zs, q_la, q_lw, q_aa, q_al, q_gs, q_acp, q_m2, q_m1, q_ir, q_zr, q_lr, q_ar, q_vr, q_cN0, q_cSX0, q_cV0, q_cVX0, q_cN1, q_cSX1, q_cV1, q_cVX1, q_cN2, q_cSX2, q_cV2, q_cVX2, q_cN3, q_cSX3, q_cV3, q_cVX3, q_cN4, q_cSX4, q_cV4, q_cVX4, q_cN5, q_cSX5, q_cV5, q_cVX5, q_cN6, q_cSX6, q_cV6, q_cVX6, q_th, q_sh0, q_sh1, q_sh2, q_sh3, q_sh4, q_toL0, q_toL1, q_gl0, q_gls, q_sl0, q_sls, q_k10, q_k1s, q_lgi, q_lgr, q_lgl, q_lgn, Bool.not_false, and_true, true_and, nz_2, nz_4, nz_5, nz_8, nz_10, nz_12, nz_14, nz_16, nz_40, nz_41, nz_64, nz_100, nz_1000, nz_1024, nz_4096, nz_10000, nz_100000, not_false_eq_true, bI_0, nI_add, pk_mul, nI_lt', nI_le', nI_eq', nI_z, nI_p, nI_e0, nI_l0, nI_le0, nI_clamp, up_eq, up_ne, not_true_eq_false, Classical.not_not, false_implies, true_implies, false_and, and_false, or_true, true_or, Nat.add_zero, pk_m1, m1_0, m1_n, m1_p, Nat.zero_le, forall_const, Nat.zero_add, Nat.reduceAdd, Nat.reduceEqDiff, or_false, false_or, Nat.one_ne_zero, l64_2, l64_3, l64_4, l64_5, l64_7, l64_9, l64_10, l64_11, l64_15, l64_20, l64_30, l64_40, l64_60, l64_99, l64_255, l64_999, le64l, le64r, le64b, le64n, rset_eq, rset_upd, rset_rset, upd_nep, upd_eqp, ix21_4k, ix21_1, ix21_2, ix21_3, ix21_4, ix21_5, ix21_6, ix21_7, ix21_8, ix21_9, ix21_10, ix76_1, ix76_2, ix76_3, ix100_1, ix100_2, ix100_3, Nat.lt_irrefl, zl1, zl2, zl3, implies_true]
    first | exact hn | exact ⟨fun q => absurd h0' q, fun _ => hn⟩
  by_cases hb : bt2 (nI 0) c (nI 255)
  · by_cases h120 : aM A = 120
    · have hc : c_append c A = (2, 0, A) := by unfold c_append; rw [if_pos hb, if_pos h120]
      have f2 := fbad 2 hc (by omega) (by omega)
      rw [h120] at e2
      simp (disch := omega) only [bX10_append_0, sp_X10_in, k8, e2, q_ci, q_cl, q_ild, q_lld, q_ald, q_ist, q_ast, q_lst, q_inc, q_b2, q_d2, q_u1, q_l2, q_ld2, q_lsh, q_lcmp, q_i2l, q_l2i, q_dupi, q_dupr, q_dup2, q_popi, q_popr, q_if1, q_if2, q_nn, q_sw, q_swn, q_swc, q_gf, q_gr, q_pf, q_pz, q_pc, q_ia, q_is, q_cs, q_zs, q_la, q_lw, q_aa, q_al, q_gs, q_acp, q_m2, q_m1, q_ir, q_zr, q_lr, q_ar, q_vr, q_cN0, q_cSX0, q_cV0, q_cVX0, q_cN1, q_cSX1, q_cV1, q_cVX1, q_cN2, q_cSX2, q_cV2, q_cVX2, q_cN3, q_cSX3, q_cV3, q_cVX3, q_cN4, q_cSX4, q_cV4, q_cVX4, q_cN5, q_cSX5, q_cV5, q_cVX5, q_cN6, q_cSX6, q_cV6, q_cVX6, q_th, q_sh0, q_sh1, q_sh2, q_sh3, q_sh4, q_toL0, q_toL1, q_gl0, q_gls, q_sl0, q_sls, q_k10, q_k1s, q_lgi, q_lgr, q_lgl, q_lgn, Bool.not_false, and_true, true_and, nz_2, nz_4, nz_5, nz_8, nz_10, nz_12, nz_14, nz_16, nz_40, nz_41, nz_64, nz_100, nz_1000, nz_1024, nz_4096, nz_10000, nz_100000, not_false_eq_true, bI_0, nI_add, pk_mul, nI_lt', nI_le', nI_eq', nI_z, nI_p, nI_e0, nI_l0, nI_le0, nI_clamp, up_eq, up_ne, not_true_eq_false, Classical.not_not, false_implies, true_implies, false_and, and_false, or_true, true_or, Nat.add_zero, pk_m1, m1_0, m1_n, m1_p, Nat.zero_le, forall_const, Nat.zero_add, Nat.reduceAdd, Nat.reduceEqDiff, or_false, false_or, Nat.one_ne_zero, l64_2, l64_3, l64_4, l64_5, l64_7, l64_9, l64_10, l64_11, l64_15, l64_20, l64_30, l64_40, l64_60, l64_99, l64_255, l64_999, le64l, le64r, le64b, le64n, rset_eq, rset_upd, rset_rset, upd_nep, upd_eqp, ix21_4k, ix21_1, ix21_2, ix21_3, ix21_4, ix21_5, ix21_6, ix21_7, ix21_8, ix21_9, ix21_10, ix76_1, ix76_2, ix76_3, ix100_1, ix100_2, ix100_3, Nat.lt_irrefl, zl1, zl2, zl3, implies_true]
      exact ⟨fun _ => f2, fun q => absurd hb q⟩
    · have hc : c_append c A = (0, nI (aM A + 1), aTxt A (fun i => if i = aM A then cl c else aT A i) (aM A + 1)) := by unfold c_append; rw [if_pos hb, if_neg h120]
      rw [hc] at hn
      obtain ⟨k, -, hk, rfl⟩ := ab_lo (a := 0) (b := 255) (by omega) (by omega) hb.1 hb.2
      rw [cl_nI (by omega)] at hn
      have vi : vp_in (nI (aM A)) 120 := vp_in_nI (by omega) (by omega)
      have f0 : M 31 [.ref 8, .int (nI k)] [.int (nI 0), .ref 8] σ := by
        refine h31 _ _ _ ?_
        have e20 : ab_up σ 8 0 (nI 0) 8 2 = nI (aM A) := by rw [up_nep (by decide)]; exact e2
        have e21 : ab_up (ab_up σ 8 0 (nI 0)) 9 (aM A) (nI k) 8 2 = nI (aM A) := by rw [up_ne (by decide)]; exact e20
        have e22 : ab_up (ab_up (ab_up σ 8 0 (nI 0)) 9 (aM A) (nI k)) 8 2 (nI (aM A + 1)) 8 2 = nI (aM A + 1) := up_eqp rfl rfl
        simp (disch := omega) only [bX10_append_31, sp_X10_refused, k8, k9, l9, e20, e21, e22, q_ci, q_cl, q_ild, q_lld, q_ald, q_ist, q_ast, q_lst, q_inc, q_b2, q_d2, q_u1, q_l2, q_ld2, q_lsh, q_lcmp, q_i2l, q_l2i, q_dupi, q_dupr, q_dup2, q_popi, q_popr, q_if1, q_if2, q_nn, q_sw, q_swn, q_swc, q_gf, q_gr, q_pf, q_pz, q_pc, q_ia, q_is, q_cs, q_zs, q_la, q_lw, q_aa, q_al, q_gs, q_acp, q_m2, q_m1, q_ir, q_zr, q_lr, q_ar, q_vr, q_cN0, q_cSX0, q_cV0, q_cVX0, q_cN1, q_cSX1, q_cV1, q_cVX1, q_cN2, q_cSX2, q_cV2, q_cVX2, q_cN3, q_cSX3, q_cV3, q_cVX3, q_cN4, q_cSX4, q_cV4, q_cVX4, q_cN5, q_cSX5, q_cV5, q_cVX5, q_cN6, q_cSX6, q_cV6, q_cVX6, q_th, q_sh0, q_sh1, q_sh2, q_sh3, q_sh4, q_toL0, q_toL1, q_gl0, q_gls, q_sl0, q_sls, q_k10, q_k1s, q_lgi, q_lgr, q_lgl, q_lgn, Bool.not_false, and_true, true_and, nz_2, nz_4, nz_5, nz_8, nz_10, nz_12, nz_14, nz_16, nz_40, nz_41, nz_64, nz_100, nz_1000, nz_1024, nz_4096, nz_10000, nz_100000, not_false_eq_true, bI_0, nI_add, pk_mul, nI_lt', nI_le', nI_eq', nI_z, nI_p, nI_e0, nI_l0, nI_le0, nI_clamp, up_eq, up_ne, not_true_eq_false, Classical.not_not, false_implies, true_implies, false_and, and_false, or_true, true_or, Nat.add_zero, pk_m1, m1_0, m1_n, m1_p, Nat.zero_le, forall_const, Nat.zero_add, Nat.reduceAdd, Nat.reduceEqDiff, or_false, false_or, Nat.one_ne_zero, l64_2, l64_3, l64_4, l64_5, l64_7, l64_9, l64_10, l64_11, l64_15, l64_20, l64_30, l64_40, l64_60, l64_99, l64_255, l64_999, le64l, le64r, le64b, le64n, rset_eq, rset_upd, rset_rset, upd_nep, upd_eqp, ix21_4k, ix21_1, ix21_2, ix21_3, ix21_4, ix21_5, ix21_6, ix21_7, ix21_8, ix21_9, ix21_10, ix76_1, ix76_2, ix76_3, ix100_1, ix100_2, ix100_3, Nat.lt_irrefl, zl1, zl2, zl3, implies_true]
        refine ⟨vi, ?_⟩
        have zA := z0 (nI 0)
        obtain ⟨q1, q2, q3, q4, q5, q6⟩ := zA
        have eF : ∀ v, v ≠ 8 → v ≠ 9 → ab_up (ab_up (ab_up σ 8 0 (nI 0)) 9 (aM A) (nI k)) 8 2 (nI (aM A + 1)) v = ab_up σ 8 0 (nI 0) v := fun v h1 h2 => by rw [up_ne h1, up_ne h2]
        first
          | refine hn _ _ ⟨by rw [eF 11 (by decide) (by decide)]; exact q1, q2.of (eF 13 (by decide) (by decide)) (by rw [up_nep (by decide), up_ne (by decide)]), q3.of (eF 14 (by decide) (by decide)) (by rw [eF 15 (by decide) (by decide)]), q4.of (eF 14 (by decide) (by decide)) (by rw [eF 15 (by decide) (by decide)]), ⟨by show aM A + 1 ≤ 120; omega, fun j hj => ?_⟩, e22⟩ ((zF _).trans (fun v hv => eF v (by omega) (by omega))) (by rw [up_nep (by decide), up_ne (by decide)]; exact z8 _) (fun _ => rfl)
        have hj : j < aM A + 1 := hj
        rw [up_ne (by decide)]
        show _ = nI (if j = aM A then k else aT A j) ∧ (if j = aM A then k else aT A j) ≤ 255
        by_cases hja : j = aM A
        · rw [if_pos hja, up_eqp rfl hja]; exact ⟨rfl, hk⟩
        · rw [if_neg hja, up_nep hja, up_ne (by decide)]; exact hT9 j (by omega)
      simp (disch := omega) only [bX10_append_0, sp_X10_in, k8, e2, q_ci, q_cl, q_ild, q_lld, q_ald, q_ist, q_ast, q_lst, q_inc, q_b2, q_d2, q_u1, q_l2, q_ld2, q_lsh, q_lcmp, q_i2l, q_l2i, q_dupi, q_dupr, q_dup2, q_popi, q_popr, q_if1, q_if2, q_nn, q_sw, q_swn, q_swc, q_gf, q_gr, q_pf, q_pz, q_pc, q_ia, q_is, q_cs, q_zs, q_la, q_lw, q_aa, q_al, q_gs, q_acp, q_m2, q_m1, q_ir, q_zr, q_lr, q_ar, q_vr, q_cN0, q_cSX0, q_cV0, q_cVX0, q_cN1, q_cSX1, q_cV1, q_cVX1, q_cN2, q_cSX2, q_cV2, q_cVX2, q_cN3, q_cSX3, q_cV3, q_cVX3, q_cN4, q_cSX4, q_cV4, q_cVX4, q_cN5, q_cSX5, q_cV5, q_cVX5, q_cN6, q_cSX6, q_cV6, q_cVX6, q_th, q_sh0, q_sh1, q_sh2, q_sh3, q_sh4, q_toL0, q_toL1, q_gl0, q_gls, q_sl0, q_sls, q_k10, q_k1s, q_lgi, q_lgr, q_lgl, q_lgn, Bool.not_false, and_true, true_and, nz_2, nz_4, nz_5, nz_8, nz_10, nz_12, nz_14, nz_16, nz_40, nz_41, nz_64, nz_100, nz_1000, nz_1024, nz_4096, nz_10000, nz_100000, not_false_eq_true, bI_0, nI_add, pk_mul, nI_lt', nI_le', nI_eq', nI_z, nI_p, nI_e0, nI_l0, nI_le0, nI_clamp, up_eq, up_ne, not_true_eq_false, Classical.not_not, false_implies, true_implies, false_and, and_false, or_true, true_or, Nat.add_zero, pk_m1, m1_0, m1_n, m1_p, Nat.zero_le, forall_const, Nat.zero_add, Nat.reduceAdd, Nat.reduceEqDiff, or_false, false_or, Nat.one_ne_zero, l64_2, l64_3, l64_4, l64_5, l64_7, l64_9, l64_10, l64_11, l64_15, l64_20, l64_30, l64_40, l64_60, l64_99, l64_255, l64_999, le64l, le64r, le64b, le64n, rset_eq, rset_upd, rset_rset, upd_nep, upd_eqp, ix21_4k, ix21_1, ix21_2, ix21_3, ix21_4, ix21_5, ix21_6, ix21_7, ix21_8, ix21_9, ix21_10, ix76_1, ix76_2, ix76_3, ix100_1, ix100_2, ix100_3, Nat.lt_irrefl, zl1, zl2, zl3, implies_true]
      exact ⟨fun _ => ⟨fun _ => f0, fun q => absurd q h120⟩, fun q => absurd hk q⟩
  · have hc : c_append c A = (1, 0, A) := by unfold c_append; rw [if_neg hb]
    have f1 := fbad 1 hc (by omega) (by omega)
    simp (disch := omega) only [bX10_append_0, sp_X10_in, k8, q_ci, q_cl, q_ild, q_lld, q_ald, q_ist, q_ast, q_lst, q_inc, q_b2, q_d2, q_u1, q_l2, q_ld2, q_lsh, q_lcmp, q_i2l, q_l2i, q_dupi, q_dupr, q_dup2, q_popi, q_popr, q_if1, q_if2, q_nn, q_sw, q_swn, q_swc, q_gf, q_gr, q_pf, q_pz, q_pc, q_ia, q_is, q_cs, q_zs, q_la, q_lw, q_aa, q_al, q_gs, q_acp, q_m2, q_m1, q_ir, q_zr, q_lr, q_ar, q_vr, q_cN0, q_cSX0, q_cV0, q_cVX0, q_cN1, q_cSX1, q_cV1, q_cVX1, q_cN2, q_cSX2, q_cV2, q_cVX2, q_cN3, q_cSX3, q_cV3, q_cVX3, q_cN4, q_cSX4, q_cV4, q_cVX4, q_cN5, q_cSX5, q_cV5, q_cVX5, q_cN6, q_cSX6, q_cV6, q_cVX6, q_th, q_sh0, q_sh1, q_sh2, q_sh3, q_sh4, q_toL0, q_toL1, q_gl0, q_gls, q_sl0, q_sls, q_k10, q_k1s, q_lgi, q_lgr, q_lgl, q_lgn, Bool.not_false, and_true, true_and, nz_2, nz_4, nz_5, nz_8, nz_10, nz_12, nz_14, nz_16, nz_40, nz_41, nz_64, nz_100, nz_1000, nz_1024, nz_4096, nz_10000, nz_100000, not_false_eq_true, bI_0, nI_add, pk_mul, nI_lt', nI_le', nI_eq', nI_z, nI_p, nI_e0, nI_l0, nI_le0, nI_clamp, up_eq, up_ne, not_true_eq_false, Classical.not_not, false_implies, true_implies, false_and, and_false, or_true, true_or, Nat.add_zero, pk_m1, m1_0, m1_n, m1_p, Nat.zero_le, forall_const, Nat.zero_add, Nat.reduceAdd, Nat.reduceEqDiff, or_false, false_or, Nat.one_ne_zero, l64_2, l64_3, l64_4, l64_5, l64_7, l64_9, l64_10, l64_11, l64_15, l64_20, l64_30, l64_40, l64_60, l64_99, l64_255, l64_999, le64l, le64r, le64b, le64n, rset_eq, rset_upd, rset_rset, upd_nep, upd_eqp, ix21_4k, ix21_1, ix21_2, ix21_3, ix21_4, ix21_5, ix21_6, ix21_7, ix21_8, ix21_9, ix21_10, ix76_1, ix76_2, ix76_3, ix100_1, ix100_2, ix100_3, Nat.lt_irrefl, zl1, zl2, zl3, implies_true]
    exact ⟨fun q => absurd q hb, fun _ => f1⟩
set_option maxRecDepth 20000 in
set_option maxHeartbeats 4000000 in
theorem cd_X10_errorPosition {l : Launch} (hl : l.stackTraces = false) {w : ab_W} {σ : ab_H} {Kn : Option Value → ab_H → Prop} {Kx : String → ab_H → Prop} (hI : ab_Inj w) (h : sdA w σ c_errorPosition Kn) : ab_Met l yX10_errorPosition (Cond.code yX10_errorPosition cX10_errorPosition 1 (some .int)) 9 0 w σ [.ref 8] Kn Kx := by
  obtain ⟨hw, A, T, hA, hW, hT, hn⟩ := h
  obtain ⟨k8, k9, l9, ⟨k10, l10⟩, ⟨k11, l11⟩, ⟨k12, l12⟩, k13, l13, k14, l14, k15, l15⟩ := id hw
  have hcO := hW.1.cOK
  have hc51 := hcO.2
  have hR := hA.1
  have hr := hR.1
  have hwR : wR w 11 := ⟨k11, l11⟩
  have z0 : ∀ x, RD (ab_up σ 8 0 x) A := fun x => hA.z x
  have zF : ∀ x, FrB σ (ab_up σ 8 0 x) := fun x => FrB.z x
  have z8 : ∀ x, ab_up σ 8 0 x 8 0 = x := fun x => up_eqp rfl rfl
  refine vc_X10_errorPosition hl hI (ok_X10_readText hl) (Nat.le_of_ble_eq_true rfl) (fun M h0 => h0 [.ref 8] [] σ ?_)
  have hTT := hA.2.2.2.2.1
  have e2 := hA.2.2.2.2.2
  have e2' : ∀ x, ab_up σ 8 0 x 8 2 = nI (aM A) := fun x => by rw [up_nep (by decide)]; exact e2
  simp (disch := omega) only [bX10_errorPosition_0, sp_X10_readText, k8, if_false, q_ci, q_cl, q_ild, q_lld, q_ald, q_ist, q_ast, q_lst, q_inc, q_b2, q_d2, q_u1, q_l2, q_ld2, q_lsh, q_lcmp, q_i2l, q_l2i, q_dupi, q_dupr, q_dup2, q_popi, q_popr, q_if1, q_if2, q_nn, q_sw, q_swn, q_swc, q_gf, q_gr, q_pf, q_pz, q_pc, q_ia, q_is, q_cs, q_zs, q_la, q_lw, q_aa, q_al, q_gs, q_acp, q_m2, q_m1, q_ir, q_zr, q_lr, q_ar, q_vr, q_cN0, q_cSX0, q_cV0, q_cVX0, q_cN1, q_cSX1, q_cV1, q_cVX1, q_cN2, q_cSX2, q_cV2, q_cVX2, q_cN3, q_cSX3, q_cV3, q_cVX3, q_cN4, q_cSX4, q_cV4, q_cVX4, q_cN5, q_cSX5, q_cV5, q_cVX5, q_cN6, q_cSX6, q_cV6, q_cVX6, q_th, q_sh0, q_sh1, q_sh2, q_sh3, q_sh4, q_toL0, q_toL1, q_gl0, q_gls, q_sl0, q_sls, q_k10, q_k1s, q_lgi, q_lgr, q_lgl, q_lgn, Bool.not_false, and_true, true_and, nz_2, nz_4, nz_5, nz_8, nz_10, nz_12, nz_14, nz_16, nz_40, nz_41, nz_64, nz_100, nz_1000, nz_1024, nz_4096, nz_10000, nz_100000, not_false_eq_true, bI_0, nI_add, pk_mul, nI_lt', nI_le', nI_eq', nI_z, nI_p, nI_e0, nI_l0, nI_le0, nI_clamp, up_eq, up_ne, not_true_eq_false, Classical.not_not, false_implies, true_implies, false_and, and_false, or_true, true_or, Nat.add_zero, pk_m1, m1_0, m1_n, m1_p, Nat.zero_le, forall_const, Nat.zero_add, Nat.reduceAdd, Nat.reduceEqDiff, or_false, false_or, Nat.one_ne_zero, l64_2, l64_3, l64_4, l64_5, l64_7, l64_9, l64_10, l64_11, l64_15, l64_20, l64_30, l64_40, l64_60, l64_99, l64_255, l64_999, le64l, le64r, le64b, le64n, rset_eq, rset_upd, rset_rset, upd_nep, upd_eqp, ix21_4k, ix21_1, ix21_2, ix21_3, ix21_4, ix21_5, ix21_6, ix21_7, ix21_8, ix21_9, ix21_10, ix76_1, ix76_2, ix76_3, ix100_1, ix100_2, ix100_3, Nat.lt_irrefl, zl1, zl2, zl3, implies_true]
  refine ⟨hw, aT A, aM A, hTT.of (up_ne (by decide)), e2, fun h' r' hh => ?_⟩
  have hF : FD (ab_up σ 8 0 (nI 0)) (rset (rset (ab_up σ 8 0 (nI 0)) 8 h') 10 r') := ⟨fun v h1 h2 h3 => by rw [rset_ne h2, rset_ne h1], fun k a b c d e => by rw [rset_ne (by decide), rset_eq]; exact (hh k a b c d e).trans up_eq.symm⟩
  have hK : ∀ v, v = oI (p_text (aT A) (aM A)) → Kn (some (.int v)) (rset (rset (ab_up σ 8 0 (nI 0)) 8 h') 10 r') := fun v hv => hn _ v (hF.rd (z0 _)) ((zF _).trans hF.frb) (by rw [hF.2 0 (by decide) (by decide) (by decide) (by decide) (by decide)]; exact z8 _) (fun _ => hv)
  exact ⟨fun i hi => hK _ (by rw [hi]; rfl), fun hi _ _ => hK _ (by rw [hi]; rfl)⟩
theorem WF_all {t : Nat → Nat} {m : Nat} : ∀ (k i : Nat) (n : nT) (q T : Nat), WF T n → T + 9 * k < 90000 → WF (T + 9 * k) (x_all t m k i n q).1
  | 0, _, _, _, _, h, _ => h
  | k + 1, i, n, q, T, h, hT => by
    rw [x_all]
    split
    · rcases hc : (p_cmd t m i).2 with _ | c
      · exact h.mono (by omega)
      · dsimp only
        have hok := p_cmd_ok hc
        have : WF (T + 9) ((x_cmd n c).getD n) := by
          rcases hx : x_cmd n c with _ | n'
          · exact h.mono (by omega)
          · exact WF_xcmd h hok (by omega) hx
        exact (WF_all k _ _ _ (T + 9) this (by omega)).mono (by omega)
    · exact h.mono (by omega)
set_option maxRecDepth 20000 in
set_option maxHeartbeats 4000000 in
theorem cd_X10_load {l : Launch} (hl : l.stackTraces = false) {w : ab_W} {σ : ab_H} {Kn : Option Value → ab_H → Prop} {Kx : String → ab_H → Prop} (hI : ab_Inj w) (h : sdA w σ c_load Kn) : ab_Met l yX10_load (Cond.code yX10_load cX10_load 1 (some .int)) 9 0 w σ [.ref 8] Kn Kx := by
  obtain ⟨hw, A, T, hA, hW, hT, hn⟩ := h
  obtain ⟨k8, k9, l9, ⟨k10, l10⟩, ⟨k11, l11⟩, ⟨k12, l12⟩, k13, l13, k14, l14, k15, l15⟩ := id hw
  have hcO := hW.1.cOK
  have hc51 := hcO.2
  have hR := hA.1
  have hr := hR.1
  have hwR : wR w 11 := ⟨k11, l11⟩
  have z0 : ∀ x, RD (ab_up σ 8 0 x) A := fun x => hA.z x
  have zF : ∀ x, FrB σ (ab_up σ 8 0 x) := fun x => FrB.z x
  have z8 : ∀ x, ab_up σ 8 0 x 8 0 = x := fun x => up_eqp rfl rfl
  refine vc_X10_load hl hI (ok_X10_readText hl) (ok_X10_refused hl) (ok_X10_copy hl) (Nat.le_of_ble_eq_true rfl) (fun M h0 h14 => h0 [.ref 8] [] σ ?_)
  have hTT := hA.2.2.2.2.1
  have hm := hTT.1
  have e2 := hA.2.2.2.2.2
  simp (disch := omega) only [bX10_load_0, sp_X10_readText, k8, q_ci, q_cl, q_ild, q_lld, q_ald, q_ist, q_ast, q_lst, q_inc, q_b2, q_d2, q_u1, q_l2, q_ld2, q_lsh, q_lcmp, q_i2l, q_l2i, q_dupi, q_dupr, q_dup2, q_popi, q_popr, q_if1, q_if2, q_nn, q_sw, q_swn, q_swc, q_gf, q_gr, q_pf, q_pz, q_pc, q_ia, q_is, q_cs, q_zs, q_la, q_lw, q_aa, q_al, q_gs, q_acp, q_m2, q_m1, q_ir, q_zr, q_lr, q_ar, q_vr, q_cN0, q_cSX0, q_cV0, q_cVX0, q_cN1, q_cSX1, q_cV1, q_cVX1, q_cN2, q_cSX2, q_cV2, q_cVX2, q_cN3, q_cSX3, q_cV3, q_cVX3, q_cN4, q_cSX4, q_cV4, q_cVX4, q_cN5, q_cSX5, q_cV5, q_cVX5, q_cN6, q_cSX6, q_cV6, q_cVX6, q_th, q_sh0, q_sh1, q_sh2, q_sh3, q_sh4, q_toL0, q_toL1, q_gl0, q_gls, q_sl0, q_sls, q_k10, q_k1s, q_lgi, q_lgr, q_lgl, q_lgn, Bool.not_false, and_true, true_and, nz_2, nz_4, nz_5, nz_8, nz_10, nz_12, nz_14, nz_16, nz_40, nz_41, nz_64, nz_100, nz_1000, nz_1024, nz_4096, nz_10000, nz_100000, not_false_eq_true, bI_0, nI_add, pk_mul, nI_lt', nI_le', nI_eq', nI_z, nI_p, nI_e0, nI_l0, nI_le0, nI_clamp, up_eq, up_ne, not_true_eq_false, Classical.not_not, false_implies, true_implies, false_and, and_false, or_true, true_or, Nat.add_zero, pk_m1, m1_0, m1_n, m1_p, Nat.zero_le, forall_const, Nat.zero_add, Nat.reduceAdd, Nat.reduceEqDiff, or_false, false_or, Nat.one_ne_zero, l64_2, l64_3, l64_4, l64_5, l64_7, l64_9, l64_10, l64_11, l64_15, l64_20, l64_30, l64_40, l64_60, l64_99, l64_255, l64_999, le64l, le64r, le64b, le64n, rset_eq, rset_upd, rset_rset, upd_nep, upd_eqp, ix21_4k, ix21_1, ix21_2, ix21_3, ix21_4, ix21_5, ix21_6, ix21_7, ix21_8, ix21_9, ix21_10, ix76_1, ix76_2, ix76_3, ix100_1, ix100_2, ix100_3, Nat.lt_irrefl, zl1, zl2, zl3, implies_true]
  refine ⟨hw, aT A, aM A, hTT, e2, fun h' r' hh => ?_⟩
  have hF : FD σ (rset (rset σ 8 h') 10 r') := ⟨fun v h1 h2 h3 => by rw [rset_ne h2, rset_ne h1], fun k a b c d e => by rw [rset_ne (by decide), rset_eq]; exact hh k a b c d e⟩
  generalize hτ : rset (rset σ 8 h') 10 r' = τ at hF
  have e10 : τ 10 = r' := by rw [← hτ, rset_eq]
  have e85 : τ 8 5 = h' 5 := by rw [← hτ, rset_ne (by decide), rset_eq]
  have hB := hF.rd hA
  refine ⟨fun i hi => ⟨fun _ => h14 _ _ _ ?_, fun q => absurd q ?_⟩, fun hi h5 hr' => h14 _ _ _ ?_⟩
  · have hc : c_load A = (1, 0, A) := by unfold c_load; rw [hi]
    rw [hc] at hn
    have hn := hn _ (nI 0) (hB.z (nI 1)) (hF.frb.trans (FrB.z _)) (up_eqp rfl rfl) (fun q => ne_c q)
    simp (disch := omega) only [bX10_load_14, sp_X10_refused, k8, q_ci, q_cl, q_ild, q_lld, q_ald, q_ist, q_ast, q_lst, q_inc, q_b2, q_d2, q_u1, q_l2, q_ld2, q_lsh, q_lcmp, q_i2l, q_l2i, q_dupi, q_dupr, q_dup2, q_popi, q_popr, q_if1, q_if2, q_nn, q_sw, q_swn, q_swc, q_gf, q_gr, q_pf, q_pz, q_pc, q_ia, q_is, q_cs, q_zs, q_la, q_lw, q_aa, q_al, q_gs, q_acp, q_m2, q_m1, q_ir, q_zr, q_lr, q_ar, q_vr, q_cN0, q_cSX0, q_cV0, q_cVX0, q_cN1, q_cSX1, q_cV1, q_cVX1, q_cN2, q_cSX2, q_cV2, q_cVX2, q_cN3, q_cSX3, q_cV3, q_cVX3, q_cN4, q_cSX4, q_cV4, q_cVX4, q_cN5, q_cSX5, q_cV5, q_cVX5, q_cN6, q_cSX6, q_cV6, q_cVX6, q_th, q_sh0, q_sh1, q_sh2, q_sh3, q_sh4, q_toL0, q_toL1, q_gl0, q_gls, q_sl0, q_sls, q_k10, q_k1s, q_lgi, q_lgr, q_lgl, q_lgn, Bool.not_false, and_true, true_and, nz_2, nz_4, nz_5, nz_8, nz_10, nz_12, nz_14, nz_16, nz_40, nz_41, nz_64, nz_100, nz_1000, nz_1024, nz_4096, nz_10000, nz_100000, not_false_eq_true, bI_0, nI_add, pk_mul, nI_lt', nI_le', nI_eq', nI_z, nI_p, nI_e0, nI_l0, nI_le0, nI_clamp, up_eq, up_ne, not_true_eq_false, Classical.not_not, false_implies, true_implies, false_and, and_false, or_true, true_or, Nat.add_zero, pk_m1, m1_0, m1_n, m1_p, Nat.zero_le, forall_const, Nat.zero_add, Nat.reduceAdd, Nat.reduceEqDiff, or_false, false_or, Nat.one_ne_zero, l64_2, l64_3, l64_4, l64_5, l64_7, l64_9, l64_10, l64_11, l64_15, l64_20, l64_30, l64_40, l64_60, l64_99, l64_255, l64_999, le64l, le64r, le64b, le64n, rset_eq, rset_upd, rset_rset, upd_nep, upd_eqp, ix21_4k, ix21_1, ix21_2, ix21_3, ix21_4, ix21_5, ix21_6, ix21_7, ix21_8, ix21_9, ix21_10, ix76_1, ix76_2, ix76_3, ix100_1, ix100_2, ix100_3, Nat.lt_irrefl, zl1, zl2, zl3, implies_true]
    exact hn
  · have := p_text_le hi
    rw [m1_ne (by omega)]; exact fun q => q
  · have hc : c_load A = (0, nI (x_all (aT A) (aM A) 120 1 n_new 0).2, ((x_all (aT A) (aM A) 120 1 n_new 0).1, [], none, none, A.2.2.2.2)) := by unfold c_load; rw [hi]
    rw [hc] at hn
    have v0 : vp_in (nI 0) 2 := vp_in_nI (by omega) (by omega)
    have v1 : vp_in (nI 1) 2 := vp_in_nI (by omega) (by omega)
    have hWX := WF_all (t := aT A) (m := aM A) 120 1 n_new 0 0 WF_new (by omega)
    generalize x_all (aT A) (aM A) 120 1 n_new 0 = X at *
    have e85' : rset (ab_up τ 8 0 (nI 0)) 11 (cpy (τ 10) (τ 11) 0 0 304) 8 5 = nI X.2 := by rw [rset_ne (by decide), up_nep (by decide), e85]; exact h5
    simp (disch := omega) only [bX10_load_14, sp_X10_refused, sp_X10_copy, k8, k15, l15, if_false, q_ci, q_cl, q_ild, q_lld, q_ald, q_ist, q_ast, q_lst, q_inc, q_b2, q_d2, q_u1, q_l2, q_ld2, q_lsh, q_lcmp, q_i2l, q_l2i, q_dupi, q_dupr, q_dup2, q_popi, q_popr, q_if1, q_if2, q_nn, q_sw, q_swn, q_swc, q_gf, q_gr, q_pf, q_pz, q_pc, q_ia, q_is, q_cs, q_zs, q_la, q_lw, q_aa, q_al, q_gs, q_acp, q_m2, q_m1, q_ir, q_zr, q_lr, q_ar, q_vr, q_cN0, q_cSX0, q_cV0, q_cVX0, q_cN1, q_cSX1, q_cV1, q_cVX1, q_cN2, q_cSX2, q_cV2, q_cVX2, q_cN3, q_cSX3, q_cV3, q_cVX3, q_cN4, q_cSX4, q_cV4, q_cVX4, q_cN5, q_cSX5, q_cV5, q_cVX5, q_cN6, q_cSX6, q_cV6, q_cVX6, q_th, q_sh0, q_sh1, q_sh2, q_sh3, q_sh4, q_toL0, q_toL1, q_gl0, q_gls, q_sl0, q_sls, q_k10, q_k1s, q_lgi, q_lgr, q_lgl, q_lgn, Bool.not_false, and_true, true_and, nz_2, nz_4, nz_5, nz_8, nz_10, nz_12, nz_14, nz_16, nz_40, nz_41, nz_64, nz_100, nz_1000, nz_1024, nz_4096, nz_10000, nz_100000, not_false_eq_true, bI_0, nI_add, pk_mul, nI_lt', nI_le', nI_eq', nI_z, nI_p, nI_e0, nI_l0, nI_le0, nI_clamp, up_eq, up_ne, not_true_eq_false, Classical.not_not, false_implies, true_implies, false_and, and_false, or_true, true_or, Nat.add_zero, pk_m1, m1_0, m1_n, m1_p, Nat.zero_le, forall_const, Nat.zero_add, Nat.reduceAdd, Nat.reduceEqDiff, or_false, false_or, Nat.one_ne_zero, l64_2, l64_3, l64_4, l64_5, l64_7, l64_9, l64_10, l64_11, l64_15, l64_20, l64_30, l64_40, l64_60, l64_99, l64_255, l64_999, le64l, le64r, le64b, le64n, rset_eq, rset_upd, rset_rset, upd_nep, upd_eqp, ix21_4k, ix21_1, ix21_2, ix21_3, ix21_4, ix21_5, ix21_6, ix21_7, ix21_8, ix21_9, ix21_10, ix76_1, ix76_2, ix76_3, ix100_1, ix100_2, ix100_3, Nat.lt_irrefl, zl1, zl2, zl3, implies_true]
    refine ⟨0, 0, 304, rfl, rfl, rfl, k10, k11, by omega, by omega, by omega, by omega, Or.inl (by decide), v0, v1, ?_⟩
    rw [e85']
    obtain ⟨b1, b2, b3, b4, b5, b6⟩ := hB
    have eF : ∀ v, v ≠ 8 → v ≠ 11 → v ≠ 15 → ab_up (ab_up (ab_up (rset (ab_up τ 8 0 (nI 0)) 11 (cpy (τ 10) (τ 11) 0 0 304)) 8 10 (nI 0)) 15 0 (nI 0)) 15 1 (nI 0) v = τ v := fun v h1 h2 h3 => by rw [up_ne h3, up_ne h3, up_ne h1, rset_ne h2, up_ne h1]
    have e80 : ∀ k, k ≠ 10 → ab_up (ab_up (ab_up (rset (ab_up τ 8 0 (nI 0)) 11 (cpy (τ 10) (τ 11) 0 0 304)) 8 10 (nI 0)) 15 0 (nI 0)) 15 1 (nI 0) 8 k = ab_up τ 8 0 (nI 0) 8 k := fun k hk => by rw [up_ne (by decide), up_ne (by decide), up_nep hk, rset_ne (by decide)]
    refine hn _ _ ⟨?_, ⟨Nat.zero_le _, ?_, fun k x q => by cases q⟩, ?_, ?_, b5.of (eF 9 (by decide) (by decide) (by decide)), by rw [e80 2 (by decide), up_nep (by decide)]; exact b6⟩ (hF.frb.trans (fun v hv => eF v (by omega) (by omega) (by omega))) (by rw [e80 0 (by decide)]; exact up_eqp rfl rfl) (fun _ => rfl)
    · dsimp only
      rw [up_ne (by decide), up_ne (by decide), up_ne (by decide), rset_eq, e10]
      refine hr'.cq hWX (by omega) (fun i hi => ?_)
      unfold cpy; rw [if_pos (by omega)]; congr 1; omega
    · rw [up_ne (by decide), up_ne (by decide)]; exact up_eqp rfl rfl
    · show _ = (0 : Int32)
      rw [up_nep (by decide), up_eqp rfl rfl, nI_0]
    · show _ = (0 : Int32)
      rw [up_eqp rfl rfl, nI_0]
set_option maxRecDepth 20000 in
set_option maxHeartbeats 4000000 in
theorem cd_X10_undo {l : Launch} (hl : l.stackTraces = false) {w : ab_W} {σ : ab_H} {Kn : Option Value → ab_H → Prop} {Kx : String → ab_H → Prop} (hI : ab_Inj w) (h : sdA w σ c_undo Kn) : ab_Met l yX10_undo (Cond.code yX10_undo cX10_undo 1 (some .int)) 2 0 w σ [.ref 8] Kn Kx := by
  obtain ⟨hw, A, T, hA, hW, hT, hn⟩ := h
  obtain ⟨k8, k9, l9, ⟨k10, l10⟩, ⟨k11, l11⟩, ⟨k12, l12⟩, k13, l13, k14, l14, k15, l15⟩ := id hw
  have hcO := hW.1.cOK
  have hc51 := hcO.2
  have hR := hA.1
  have hr := hR.1
  have hwR : wR w 11 := ⟨k11, l11⟩
  have z0 : ∀ x, RD (ab_up σ 8 0 x) A := fun x => hA.z x
  have zF : ∀ x, FrB σ (ab_up σ 8 0 x) := fun x => FrB.z x
  have z8 : ∀ x, ab_up σ 8 0 x 8 0 = x := fun x => up_eqp rfl rfl
  refine vc_X10_undo hl hI (ok_X10_refused hl) (ok_X10_copy hl) (Nat.le_of_ble_eq_true rfl) (fun M h0 h13 => h0 [.ref 8] [] σ ?_)
  obtain ⟨hl14, hac, hms⟩ := hA.2.1
  rcases hl0 : A.2.1.getLast? with _ | n
  · have hnil : A.2.1 = [] := List.getLast?_eq_none_iff.mp hl0
    have hc : c_undo A = (1, 0, A) := by unfold c_undo; rw [hl0]
    rw [hc] at hn
    have hn := hn _ (nI 0) (z0 (nI 1)) (zF _) (z8 _) (fun q => ne_c q)
    have f13 : M 13 [.ref 8] [.int (nI 1), .ref 8] σ := by
      refine h13 _ _ _ ?_
      simp (disch := omega) only [bX10_undo_13, sp_X10_refused, k8, q_ci, q_cl, q_ild, q_lld, q_ald, q_ist, q_ast, q_lst, q_inc, q_b2, q_d2, q_u1, q_l2, q_ld2, q_lsh, q_lcmp, q_i2l, q_l2i, q_dupi, q_dupr, q_dup2, q_popi, q_popr, q_if1, q_if2, q_nn, q_sw, q_swn, q_swc, q_gf, q_gr, q_pf, q_pz, q_pc, q_ia, q_is, q_cs, q_zs, q_la, q_lw, q_aa, q_al, q_gs, q_acp, q_m2, q_m1, q_ir, q_zr, q_lr, q_ar, q_vr, q_cN0, q_cSX0, q_cV0, q_cVX0, q_cN1, q_cSX1, q_cV1, q_cVX1, q_cN2, q_cSX2, q_cV2, q_cVX2, q_cN3, q_cSX3, q_cV3, q_cVX3, q_cN4, q_cSX4, q_cV4, q_cVX4, q_cN5, q_cSX5, q_cV5, q_cVX5, q_cN6, q_cSX6, q_cV6, q_cVX6, q_th, q_sh0, q_sh1, q_sh2, q_sh3, q_sh4, q_toL0, q_toL1, q_gl0, q_gls, q_sl0, q_sls, q_k10, q_k1s, q_lgi, q_lgr, q_lgl, q_lgn, Bool.not_false, and_true, true_and, nz_2, nz_4, nz_5, nz_8, nz_10, nz_12, nz_14, nz_16, nz_40, nz_41, nz_64, nz_100, nz_1000, nz_1024, nz_4096, nz_10000, nz_100000, not_false_eq_true, bI_0, nI_add, pk_mul, nI_lt', nI_le', nI_eq', nI_z, nI_p, nI_e0, nI_l0, nI_le0, nI_clamp, up_eq, up_ne, not_true_eq_false, Classical.not_not, false_implies, true_implies, false_and, and_false, or_true, true_or, Nat.add_zero, pk_m1, m1_0, m1_n, m1_p, Nat.zero_le, forall_const, Nat.zero_add, Nat.reduceAdd, Nat.reduceEqDiff, or_false, false_or, Nat.one_ne_zero, l64_2, l64_3, l64_4, l64_5, l64_7, l64_9, l64_10, l64_11, l64_15, l64_20, l64_30, l64_40, l64_60, l64_99, l64_255, l64_999, le64l, le64r, le64b, le64n, rset_eq, rset_upd, rset_rset, upd_nep, upd_eqp, ix21_4k, ix21_1, ix21_2, ix21_3, ix21_4, ix21_5, ix21_6, ix21_7, ix21_8, ix21_9, ix21_10, ix76_1, ix76_2, ix76_3, ix100_1, ix100_2, ix100_3, Nat.lt_irrefl, zl1, zl2, zl3, implies_true]
      exact hn
    rw [hnil] at hac
    have hac : σ 8 10 = nI 0 := hac
    simp (disch := omega) only [bX10_undo_0, k8, hac, q_ci, q_cl, q_ild, q_lld, q_ald, q_ist, q_ast, q_lst, q_inc, q_b2, q_d2, q_u1, q_l2, q_ld2, q_lsh, q_lcmp, q_i2l, q_l2i, q_dupi, q_dupr, q_dup2, q_popi, q_popr, q_if1, q_if2, q_nn, q_sw, q_swn, q_swc, q_gf, q_gr, q_pf, q_pz, q_pc, q_ia, q_is, q_cs, q_zs, q_la, q_lw, q_aa, q_al, q_gs, q_acp, q_m2, q_m1, q_ir, q_zr, q_lr, q_ar, q_vr, q_cN0, q_cSX0, q_cV0, q_cVX0, q_cN1, q_cSX1, q_cV1, q_cVX1, q_cN2, q_cSX2, q_cV2, q_cVX2, q_cN3, q_cSX3, q_cV3, q_cVX3, q_cN4, q_cSX4, q_cV4, q_cVX4, q_cN5, q_cSX5, q_cV5, q_cVX5, q_cN6, q_cSX6, q_cV6, q_cVX6, q_th, q_sh0, q_sh1, q_sh2, q_sh3, q_sh4, q_toL0, q_toL1, q_gl0, q_gls, q_sl0, q_sls, q_k10, q_k1s, q_lgi, q_lgr, q_lgl, q_lgn, Bool.not_false, and_true, true_and, nz_2, nz_4, nz_5, nz_8, nz_10, nz_12, nz_14, nz_16, nz_40, nz_41, nz_64, nz_100, nz_1000, nz_1024, nz_4096, nz_10000, nz_100000, not_false_eq_true, bI_0, nI_add, pk_mul, nI_lt', nI_le', nI_eq', nI_z, nI_p, nI_e0, nI_l0, nI_le0, nI_clamp, up_eq, up_ne, not_true_eq_false, Classical.not_not, false_implies, true_implies, false_and, and_false, or_true, true_or, Nat.add_zero, pk_m1, m1_0, m1_n, m1_p, Nat.zero_le, forall_const, Nat.zero_add, Nat.reduceAdd, Nat.reduceEqDiff, or_false, false_or, Nat.one_ne_zero, l64_2, l64_3, l64_4, l64_5, l64_7, l64_9, l64_10, l64_11, l64_15, l64_20, l64_30, l64_40, l64_60, l64_99, l64_255, l64_999, le64l, le64r, le64b, le64n, rset_eq, rset_upd, rset_rset, upd_nep, upd_eqp, ix21_4k, ix21_1, ix21_2, ix21_3, ix21_4, ix21_5, ix21_6, ix21_7, ix21_8, ix21_9, ix21_10, ix76_1, ix76_2, ix76_3, ix100_1, ix100_2, ix100_3, Nat.lt_irrefl, zl1, zl2, zl3, implies_true]
    exact f13
  · obtain ⟨ms, hms2⟩ := List.getLast?_eq_some_iff.mp hl0
    have hc : c_undo A = (0, nI (A.2.1.length - 1), (n, A.2.1.dropLast, A.2.2)) := by unfold c_undo; rw [hl0]
    rw [hc, hms2, List.dropLast_concat, List.length_append, List.length_singleton, Nat.add_sub_cancel] at hn
    rw [hms2, List.length_append, List.length_singleton] at hac hl14
    have hWn : WF T n := hW.2.1 n (by rw [hms2]; exact List.mem_append_right _ (List.mem_singleton.mpr rfl))
    have es : nI (ms.length + 1) - nI 1 = nI ms.length := by rw [pk_sub (by omega)]; rfl
    have f13 : M 13 [.ref 8] [.int (nI 0), .ref 8] σ := by
      refine h13 _ _ _ ?_
      have e10 : ab_up σ 8 0 (nI 0) 8 10 = nI (ms.length + 1) := by rw [up_nep (by decide)]; exact hac
      have e10' : ab_up (ab_up σ 8 0 (nI 0)) 8 10 (nI ms.length) 8 10 = nI ms.length := up_eqp rfl rfl
      have e10'' : ∀ q, rset (ab_up (ab_up σ 8 0 (nI 0)) 8 10 (nI ms.length)) 11 q 8 10 = nI ms.length := fun q => by rw [rset_ne (by decide)]; exact e10'
      simp (disch := omega) only [bX10_undo_13, sp_X10_refused, sp_X10_copy, k8, e10, e10', e10'', es, q_ci, q_cl, q_ild, q_lld, q_ald, q_ist, q_ast, q_lst, q_inc, q_b2, q_d2, q_u1, q_l2, q_ld2, q_lsh, q_lcmp, q_i2l, q_l2i, q_dupi, q_dupr, q_dup2, q_popi, q_popr, q_if1, q_if2, q_nn, q_sw, q_swn, q_swc, q_gf, q_gr, q_pf, q_pz, q_pc, q_ia, q_is, q_cs, q_zs, q_la, q_lw, q_aa, q_al, q_gs, q_acp, q_m2, q_m1, q_ir, q_zr, q_lr, q_ar, q_vr, q_cN0, q_cSX0, q_cV0, q_cVX0, q_cN1, q_cSX1, q_cV1, q_cVX1, q_cN2, q_cSX2, q_cV2, q_cVX2, q_cN3, q_cSX3, q_cV3, q_cVX3, q_cN4, q_cSX4, q_cV4, q_cVX4, q_cN5, q_cSX5, q_cV5, q_cVX5, q_cN6, q_cSX6, q_cV6, q_cVX6, q_th, q_sh0, q_sh1, q_sh2, q_sh3, q_sh4, q_toL0, q_toL1, q_gl0, q_gls, q_sl0, q_sls, q_k10, q_k1s, q_lgi, q_lgr, q_lgl, q_lgn, Bool.not_false, and_true, true_and, nz_2, nz_4, nz_5, nz_8, nz_10, nz_12, nz_14, nz_16, nz_40, nz_41, nz_64, nz_100, nz_1000, nz_1024, nz_4096, nz_10000, nz_100000, not_false_eq_true, bI_0, nI_add, pk_mul, nI_lt', nI_le', nI_eq', nI_z, nI_p, nI_e0, nI_l0, nI_le0, nI_clamp, up_eq, up_ne, not_true_eq_false, Classical.not_not, false_implies, true_implies, false_and, and_false, or_true, true_or, Nat.add_zero, pk_m1, m1_0, m1_n, m1_p, Nat.zero_le, forall_const, Nat.zero_add, Nat.reduceAdd, Nat.reduceEqDiff, or_false, false_or, Nat.one_ne_zero, l64_2, l64_3, l64_4, l64_5, l64_7, l64_9, l64_10, l64_11, l64_15, l64_20, l64_30, l64_40, l64_60, l64_99, l64_255, l64_999, le64l, le64r, le64b, le64n, rset_eq, rset_upd, rset_rset, upd_nep, upd_eqp, ix21_4k, ix21_1, ix21_2, ix21_3, ix21_4, ix21_5, ix21_6, ix21_7, ix21_8, ix21_9, ix21_10, ix76_1, ix76_2, ix76_3, ix100_1, ix100_2, ix100_3, Nat.lt_irrefl, zl1, zl2, zl3, implies_true]
      refine ⟨304 * ms.length, 0, 304, by rw [Nat.mul_comm], rfl, rfl, k13, k11, by omega, by omega, by omega, by omega, Or.inl (by decide), ?_⟩
      have eF : ∀ v, v ≠ 8 → v ≠ 11 → rset (ab_up (ab_up σ 8 0 (nI 0)) 8 10 (nI ms.length)) 11 (cpy (σ 13) (σ 11) (304 * ms.length) 0 304) v = σ v := fun v h1 h2 => by rw [rset_ne h2, up_ne h1, up_ne h1]
      have e80 : ∀ k, k ≠ 10 → rset (ab_up (ab_up σ 8 0 (nI 0)) 8 10 (nI ms.length)) 11 (cpy (σ 13) (σ 11) (304 * ms.length) 0 304) 8 k = ab_up σ 8 0 (nI 0) 8 k := fun k hk => by rw [rset_ne (by decide), up_nep hk]
      obtain ⟨b1, b2, b3, b4, b5, b6⟩ := id hA
      refine hn _ _ ⟨?_, ⟨by dsimp only; omega, ?_, fun k x q => ?_⟩, b3.of (eF 14 (by decide) (by decide)) (by rw [eF 15 (by decide) (by decide)]), b4.of (eF 14 (by decide) (by decide)) (by rw [eF 15 (by decide) (by decide)]), b5.of (eF 9 (by decide) (by decide)), by rw [e80 2 (by decide), up_nep (by decide)]; exact b6⟩ (fun v hv => eF v (by omega) (by omega)) (by rw [e80 0 (by decide)]; exact z8 _) (fun _ => rfl)
      · dsimp only
        rw [rset_eq]
        refine (hms ms.length n (by rw [hms2]; simp)).cq hWn (by omega) (fun i hi => ?_)
        unfold cpy; rw [if_pos (by omega)]; congr 1
      · rw [rset_ne (by decide)]; exact up_eqp rfl rfl
      · dsimp only at q ⊢
        rw [eF 13 (by decide) (by decide)]
        exact hms k x (by rw [hms2, List.getElem?_append_left (getq q)]; exact q)
    simp (disch := omega) only [bX10_undo_0, k8, hac, q_ci, q_cl, q_ild, q_lld, q_ald, q_ist, q_ast, q_lst, q_inc, q_b2, q_d2, q_u1, q_l2, q_ld2, q_lsh, q_lcmp, q_i2l, q_l2i, q_dupi, q_dupr, q_dup2, q_popi, q_popr, q_if1, q_if2, q_nn, q_sw, q_swn, q_swc, q_gf, q_gr, q_pf, q_pz, q_pc, q_ia, q_is, q_cs, q_zs, q_la, q_lw, q_aa, q_al, q_gs, q_acp, q_m2, q_m1, q_ir, q_zr, q_lr, q_ar, q_vr, q_cN0, q_cSX0, q_cV0, q_cVX0, q_cN1, q_cSX1, q_cV1, q_cVX1, q_cN2, q_cSX2, q_cV2, q_cVX2, q_cN3, q_cSX3, q_cV3, q_cVX3, q_cN4, q_cSX4, q_cV4, q_cVX4, q_cN5, q_cSX5, q_cV5, q_cVX5, q_cN6, q_cSX6, q_cV6, q_cVX6, q_th, q_sh0, q_sh1, q_sh2, q_sh3, q_sh4, q_toL0, q_toL1, q_gl0, q_gls, q_sl0, q_sls, q_k10, q_k1s, q_lgi, q_lgr, q_lgl, q_lgn, Bool.not_false, and_true, true_and, nz_2, nz_4, nz_5, nz_8, nz_10, nz_12, nz_14, nz_16, nz_40, nz_41, nz_64, nz_100, nz_1000, nz_1024, nz_4096, nz_10000, nz_100000, not_false_eq_true, bI_0, nI_add, pk_mul, nI_lt', nI_le', nI_eq', nI_z, nI_p, nI_e0, nI_l0, nI_le0, nI_clamp, up_eq, up_ne, not_true_eq_false, Classical.not_not, false_implies, true_implies, false_and, and_false, or_true, true_or, Nat.add_zero, pk_m1, m1_0, m1_n, m1_p, Nat.zero_le, forall_const, Nat.zero_add, Nat.reduceAdd, Nat.reduceEqDiff, or_false, false_or, Nat.one_ne_zero, l64_2, l64_3, l64_4, l64_5, l64_7, l64_9, l64_10, l64_11, l64_15, l64_20, l64_30, l64_40, l64_60, l64_99, l64_255, l64_999, le64l, le64r, le64b, le64n, rset_eq, rset_upd, rset_rset, upd_nep, upd_eqp, ix21_4k, ix21_1, ix21_2, ix21_3, ix21_4, ix21_5, ix21_6, ix21_7, ix21_8, ix21_9, ix21_10, ix76_1, ix76_2, ix76_3, ix100_1, ix100_2, ix100_3, Nat.lt_irrefl, zl1, zl2, zl3, implies_true]
    exact f13
