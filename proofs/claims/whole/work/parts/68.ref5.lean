/-! what arrives, the other way round -/
theorem n_addO_comm {f : nF} {x y : nO} (hx : x.2.1 < 5) (hy : y.2.1 < 5) : n_addO (n_addO f x) y = n_addO (n_addO f y) x := by
  funext i
  unfold n_addO
  by_cases hxy : x.2.1 = y.2.1
  · rw [hxy]
    by_cases h1 : i = 25 + 11 * y.2.1
    · subst h1
      simp (disch := omega) only [upd_eqp, upd_nep]
      rw [Int32.add_assoc, Int32.add_comm (nI x.2.2.2), ← Int32.add_assoc]
    · by_cases h2 : i = 24 + 11 * y.2.1
      · subst h2
        simp (disch := omega) only [upd_eqp, upd_nep]
        rw [Int32.add_assoc, Int32.add_comm (nI x.2.2.1), ← Int32.add_assoc]
      · simp (disch := omega) only [upd_nep]
  · by_cases h1 : i = 25 + 11 * y.2.1
    · subst h1; simp (disch := omega) only [upd_eqp, upd_nep]
    by_cases h2 : i = 24 + 11 * y.2.1
    · subst h2; simp (disch := omega) only [upd_eqp, upd_nep]
    by_cases h3 : i = 25 + 11 * x.2.1
    · subst h3; simp (disch := omega) only [upd_eqp, upd_nep]
    by_cases h4 : i = 24 + 11 * x.2.1
    · subst h4; simp (disch := omega) only [upd_eqp, upd_nep]
    simp (disch := omega) only [upd_nep]
theorem n_come_comm {t : Nat} {f : nF} {x y : nO} (hx : x.2.1 < 5) (hy : y.2.1 < 5) : n_come t (n_come t f x) y = n_come t (n_come t f y) x := by
  unfold n_come
  split <;> split <;> first | rfl | exact n_addO_comm hx hy
theorem n_fold_in {t : Nat} {x : nO} (hx : x.2.1 < 5) : ∀ (l : List nO) (f : nF), (∀ o ∈ l, o.2.1 < 5) → l.foldl (n_come t) (n_come t f x) = n_come t (l.foldl (n_come t) f) x
  | [], _, _ => rfl
  | y :: l, f, h => by
    rw [List.foldl_cons, List.foldl_cons, n_come_comm hx (h y List.mem_cons_self)]
    exact n_fold_in hx l _ (fun o q => h o (List.mem_cons_of_mem _ q))
/-- the numbers behind the deliveries from place k on, the last one first -/
def n_cr (t : Nat) (f : nF) (l : List nO) : nF := l.foldr (fun o g => n_come t g o) f
theorem n_cr_eq {t : Nat} {f : nF} : ∀ (l : List nO), (∀ o ∈ l, o.2.1 < 5) → n_cr t f l = l.foldl (n_come t) f
  | [], _ => rfl
  | x :: l, h => by
    show n_come t (n_cr t f l) x = _
    rw [n_cr_eq l (fun o q => h o (List.mem_cons_of_mem _ q)), List.foldl_cons, n_fold_in (h x List.mem_cons_self) l f (fun o q => h o (List.mem_cons_of_mem _ q))]
theorem n_cr_i {t i : Nat} {f : nF} (h : i < 21) : ∀ (l : List nO), n_cr t f l i = f i
  | [] => rfl
  | x :: l => by
    show n_come t (n_cr t f l) x i = _
    unfold n_come n_addO
    split
    · rw [upd_nep (by omega), upd_nep (by omega)]; exact n_cr_i h l
    · exact n_cr_i h l
theorem n_addO_i {f : nF} {x : nO} {i : Nat} (h : i < 21) : n_addO f x i = f i := by
  unfold n_addO; rw [upd_nep (by omega), upd_nep (by omega)]
theorem RM.O {r q : nF} {n : nT} {l : List nO} (h : RM r n) (e : ∀ i, (i < 100 ∨ 132 ≤ i) → i ≠ 10 → q i = r i) (e10 : q 10 = nI l.length) (ho : ∀ k x, l[k]? = some x → O4 q k x) : RM q (n.1, l, n.2.2) :=
  RM.mk (fun i h1 h2 h3 h4 => (e i (by omega) h3).trans (h.1 i h1 h2 h3 h4)) e10 ((e 9 (by omega) (by omega)).trans h.2.2.1) ((e 11 (by omega) (by omega)).trans h.2.2.2.1) ho (fun j x q => (e _ (by omega) (by omega)).trans (h.b j x q)) (fun j x q => (e _ (by omega) (by omega)).trans (h.g j x q))
def sp_X10_arrive : ab_S := fun w As σ K => match As with
  | [.ref a] => wR w a ∧ ∃ n, RM (σ a) n ∧ WQ n ∧ ∀ r', RM r' (n_arr n) → K none (rset σ a r')
  | _ => False
set_option maxRecDepth 20000 in
set_option maxHeartbeats 4000000 in
theorem ok_X10_arrive {l : Launch} (hl : l.stackTraces = false) : ab_OkN l yX10_arrive (Cond.code yX10_arrive cX10_arrive 3 none) 3 sp_X10_arrive := by
  intro w σ As Kn hI h
  unfold sp_X10_arrive at h
  split at h
  rotate_left 1
  · exact h.elim
  next a =>
    obtain ⟨a, rfl⟩ : ∃ z : Nat, z = a := ⟨_, rfl⟩
    obtain ⟨⟨ka, la⟩, n, hR, hW, h⟩ := h
    refine vc_X10_arrive hl hI (ok_X10_sendAt hl) (ok_X10_stationAt hl) (ok_X10_dropSend hl) (ok_X10_dropFirstBack hl) (Nat.le_of_ble_eq_true rfl) (fun M h0 h7 h71 h77 h153 => ?_)
    suffices HS : M 0 [.ref a, .null, .null] [] (rset σ a (σ a)) from (by rw [rset_self] at HS; exact HS)
    refine h0 _ _ _ ?_
    obtain ⟨z0, z1, z2, z3, z4, z5, z6, z7, z8, z9, z10⟩ := id hW
    have z25 := z2.2
    have w0 : vp_in (nI 0) 304 := vp_in_nI (by omega) (by omega)
    have w3 : vp_in (nI 3) 304 := vp_in_nI (by omega) (by omega)
    have w7 : vp_in (nI 7) 304 := vp_in_nI (by omega) (by omega)
    have w9 : vp_in (nI 9) 304 := vp_in_nI (by omega) (by omega)
    have w10 : vp_in (nI 10) 304 := vp_in_nI (by omega) (by omega)
    have w16 : vp_in (nI 16) 304 := vp_in_nI (by omega) (by omega)
    have w144 : vp_in (nI 144) 304 := vp_in_nI (by omega) (by omega)
    unfold n_arr at h
    dsimp only at h
    generalize ht : cl (n.1 0) = t at *
    have H77 : ∀ (l : List nB) (f : nF) (O : List nO) (r : nF) (x y : Value), RM r (f, O, l, n.2.2.2) → f 0 = nI t → O.length ≤ 8 → l.length ≤ 150 → (∀ b ∈ l, b.1 ≤ 300000 ∧ b.2.1 < 5 ∧ b.2.2 ≤ 4) → (∀ r', RM r' ((n_back t l f).1, O, (n_back t l f).2, n.2.2.2) → Kn none (rset σ a r')) → M 77 [.ref a, x, y] [] (rset σ a r) := by
      intro l
      induction l with
      | nil =>
        intro f O r x y hr0 h0' hO hl2 hb hk
        refine h77 _ _ _ ?_
        have r9 : r 9 = nI 0 := hr0.2.2.1
        simp (disch := omega) only [bX10_arrive_77, ka, la, r9, q_ci, q_cl, q_ild, q_lld, q_ald, q_ist, q_ast, q_lst, q_inc, q_b2, q_d2, q_u1, q_l2, q_ld2, q_lsh, q_lcmp, q_i2l, q_l2i, q_dupi, q_dupr, q_dup2, q_popi, q_popr, q_if1, q_if2, q_nn, q_sw, q_swn, q_swc, q_gf, q_gr, q_pf, q_pz, q_pc, q_ia, q_is, q_cs, q_zs, q_la, q_lw, q_aa, q_al, q_gs, q_acp, q_m2, q_m1, q_ir, q_zr, q_lr, q_ar, q_vr, q_cN0, q_cSX0, q_cV0, q_cVX0, q_cN1, q_cSX1, q_cV1, q_cVX1, q_cN2, q_cSX2, q_cV2, q_cVX2, q_cN3, q_cSX3, q_cV3, q_cVX3, q_cN4, q_cSX4, q_cV4, q_cVX4, q_cN5, q_cSX5, q_cV5, q_cVX5, q_cN6, q_cSX6, q_cV6, q_cVX6, q_th, q_sh0, q_sh1, q_sh2, q_sh3, q_sh4, q_toL0, q_toL1, q_gl0, q_gls, q_sl0, q_sls, q_k10, q_k1s, q_lgi, q_lgr, q_lgl, q_lgn, Bool.not_false, and_true, true_and, nz_2, nz_4, nz_5, nz_8, nz_10, nz_12, nz_14, nz_16, nz_40, nz_41, nz_64, nz_100, nz_1000, nz_1024, nz_4096, nz_10000, nz_100000, not_false_eq_true, bI_0, nI_add, pk_mul, nI_lt', nI_le', nI_eq', nI_z, nI_p, nI_e0, nI_l0, nI_le0, nI_clamp, up_eq, up_ne, not_true_eq_false, Classical.not_not, false_implies, true_implies, false_and, and_false, or_true, true_or, Nat.add_zero, pk_m1, m1_0, m1_n, m1_p, Nat.zero_le, forall_const, Nat.zero_add, Nat.reduceAdd, Nat.reduceEqDiff, or_false, false_or, Nat.one_ne_zero, l64_2, l64_3, l64_4, l64_5, l64_7, l64_9, l64_10, l64_11, l64_15, l64_20, l64_30, l64_40, l64_60, l64_99, l64_255, l64_999, le64l, le64r, le64b, le64n, rset_eq, rset_upd, rset_rset, upd_nep, upd_eqp, ix21_4k, ix21_1, ix21_2, ix21_3, ix21_4, ix21_5, ix21_6, ix21_7, ix21_8, ix21_9, ix21_10, ix76_1, ix76_2, ix76_3, ix100_1, ix100_2, ix100_3]
        refine ⟨w9, h153 _ _ _ ?_⟩
        simp (disch := omega) only [bX10_arrive_153, q_ci, q_cl, q_ild, q_lld, q_ald, q_ist, q_ast, q_lst, q_inc, q_b2, q_d2, q_u1, q_l2, q_ld2, q_lsh, q_lcmp, q_i2l, q_l2i, q_dupi, q_dupr, q_dup2, q_popi, q_popr, q_if1, q_if2, q_nn, q_sw, q_swn, q_swc, q_gf, q_gr, q_pf, q_pz, q_pc, q_ia, q_is, q_cs, q_zs, q_la, q_lw, q_aa, q_al, q_gs, q_acp, q_m2, q_m1, q_ir, q_zr, q_lr, q_ar, q_vr, q_cN0, q_cSX0, q_cV0, q_cVX0, q_cN1, q_cSX1, q_cV1, q_cVX1, q_cN2, q_cSX2, q_cV2, q_cVX2, q_cN3, q_cSX3, q_cV3, q_cVX3, q_cN4, q_cSX4, q_cV4, q_cVX4, q_cN5, q_cSX5, q_cV5, q_cVX5, q_cN6, q_cSX6, q_cV6, q_cVX6, q_th, q_sh0, q_sh1, q_sh2, q_sh3, q_sh4, q_toL0, q_toL1, q_gl0, q_gls, q_sl0, q_sls, q_k10, q_k1s, q_lgi, q_lgr, q_lgl, q_lgn, Bool.not_false, and_true, true_and, nz_2, nz_4, nz_5, nz_8, nz_10, nz_12, nz_14, nz_16, nz_40, nz_41, nz_64, nz_100, nz_1000, nz_1024, nz_4096, nz_10000, nz_100000, not_false_eq_true, bI_0, nI_add, pk_mul, nI_lt', nI_le', nI_eq', nI_z, nI_p, nI_e0, nI_l0, nI_le0, nI_clamp, up_eq, up_ne, not_true_eq_false, Classical.not_not, false_implies, true_implies, false_and, and_false, or_true, true_or, Nat.add_zero, pk_m1, m1_0, m1_n, m1_p, Nat.zero_le, forall_const, Nat.zero_add, Nat.reduceAdd, Nat.reduceEqDiff, or_false, false_or, Nat.one_ne_zero, l64_2, l64_3, l64_4, l64_5, l64_7, l64_9, l64_10, l64_11, l64_15, l64_20, l64_30, l64_40, l64_60, l64_99, l64_255, l64_999, le64l, le64r, le64b, le64n, rset_eq, rset_upd, rset_rset, upd_nep, upd_eqp, ix21_4k, ix21_1, ix21_2, ix21_3, ix21_4, ix21_5, ix21_6, ix21_7, ix21_8, ix21_9, ix21_10, ix76_1, ix76_2, ix76_3, ix100_1, ix100_2, ix100_3]
        exact hk r hr0
      | cons b l ih =>
        intro f O r x y hr0 h0' hO hl2 hb hk
        obtain ⟨b1, b2, b3⟩ := hb b List.mem_cons_self
        rw [List.length_cons] at hl2
        refine h77 _ _ _ ?_
        have r9 : r 9 = nI (l.length + 1) := hr0.2.2.1
        have r144 : r 144 = nI (cd3 b) := hr0.b 0 b rfl
        have r0 : r 0 = nI t := (hr0.1 0 (by omega) (by omega) (by omega) (by omega)).trans h0'
        have edv := cd_div (y := b) (by omega) (by omega)
        have emd := cd_mid (y := b) (by omega) (by omega)
        have elw := cd_low (y := b) (by omega) (by omega)
        have hcl := cd_lt (y := b) b1 (by omega) (by omega)
        have em : nI (cd3 b / 10) - nI (cd3 b / 10 / 10 * 10) = nI b.2.1 := by rw [rem2, emd]
        have el : nI (cd3 b) - nI (cd3 b / 10 * 10) = nI b.2.2 := by rw [rem2, elw]
        have hst : ∀ i, i < 100 → i ≠ 9 → i ≠ 10 → i ≠ 11 → r i = f i := hr0.1
        have vs : vp_in (nI (25 + 11 * b.2.1 + b.2.2)) 304 := vp_in_nI (by omega) (by omega)
        by_cases hd : b.1 = t
        · rw [n_back, if_pos hd] at hk
          have eix : 21 + 11 * b.2.1 + (4 + b.2.2) = 25 + 11 * b.2.1 + b.2.2 := by omega
          simp (disch := omega) only [bX10_arrive_77, sp_X10_stationAt, sp_X10_dropFirstBack, ka, la, r9, r144, r0, pk_div, edv, em, el, hd, eix, hst, q_ci, q_cl, q_ild, q_lld, q_ald, q_ist, q_ast, q_lst, q_inc, q_b2, q_d2, q_u1, q_l2, q_ld2, q_lsh, q_lcmp, q_i2l, q_l2i, q_dupi, q_dupr, q_dup2, q_popi, q_popr, q_if1, q_if2, q_nn, q_sw, q_swn, q_swc, q_gf, q_gr, q_pf, q_pz, q_pc, q_ia, q_is, q_cs, q_zs, q_la, q_lw, q_aa, q_al, q_gs, q_acp, q_m2, q_m1, q_ir, q_zr, q_lr, q_ar, q_vr, q_cN0, q_cSX0, q_cV0, q_cVX0, q_cN1, q_cSX1, q_cV1, q_cVX1, q_cN2, q_cSX2, q_cV2, q_cVX2, q_cN3, q_cSX3, q_cV3, q_cVX3, q_cN4, q_cSX4, q_cV4, q_cVX4, q_cN5, q_cSX5, q_cV5, q_cVX5, q_cN6, q_cSX6, q_cV6, q_cVX6, q_th, q_sh0, q_sh1, q_sh2, q_sh3, q_sh4, q_toL0, q_toL1, q_gl0, q_gls, q_sl0, q_sls, q_k10, q_k1s, q_lgi, q_lgr, q_lgl, q_lgn, Bool.not_false, and_true, true_and, nz_2, nz_4, nz_5, nz_8, nz_10, nz_12, nz_14, nz_16, nz_40, nz_41, nz_64, nz_100, nz_1000, nz_1024, nz_4096, nz_10000, nz_100000, not_false_eq_true, bI_0, nI_add, pk_mul, nI_lt', nI_le', nI_eq', nI_z, nI_p, nI_e0, nI_l0, nI_le0, nI_clamp, up_eq, up_ne, not_true_eq_false, Classical.not_not, false_implies, true_implies, false_and, and_false, or_true, true_or, Nat.add_zero, pk_m1, m1_0, m1_n, m1_p, Nat.zero_le, forall_const, Nat.zero_add, Nat.reduceAdd, Nat.reduceEqDiff, or_false, false_or, Nat.one_ne_zero, l64_2, l64_3, l64_4, l64_5, l64_7, l64_9, l64_10, l64_11, l64_15, l64_20, l64_30, l64_40, l64_60, l64_99, l64_255, l64_999, le64l, le64r, le64b, le64n, rset_eq, rset_upd, rset_rset, upd_nep, upd_eqp, ix21_4k, ix21_1, ix21_2, ix21_3, ix21_4, ix21_5, ix21_6, ix21_7, ix21_8, ix21_9, ix21_10, ix76_1, ix76_2, ix76_3, ix100_1, ix100_2, ix100_3]
          have hRM : RM (upd (upd (upd r (25 + 11 * b.2.1 + b.2.2) (f (25 + 11 * b.2.1 + b.2.2) + nI 1)) 7 (f 7 + nI 1)) 3 (f 3 + f 16)) (n_addB f b, O, b :: l, n.2.2.2) := by
            unfold n_addB
            rw [← nI_one]
            exact ((hr0.up _ (by omega) (by omega) (by omega) (by omega)).up _ (by omega) (by omega) (by omega) (by omega)).up _ (by omega) (by omega) (by omega) (by omega)
          refine ⟨w9, w144, w0, w144, w144, vs, vs, w7, w7, w3, w16, w3, ⟨ka, la⟩, (n_addB f b, O, b :: l, n.2.2.2), b, l, hRM, rfl, by omega, hO, z9, fun r' hr' => ?_⟩
          refine ih (n_addB f b) O r' x y hr' ?_ hO (by omega) (fun c q => hb c (List.mem_cons_of_mem _ q)) hk
          unfold n_addB
          rw [upd_nep (by omega), upd_nep (by omega), upd_nep (by omega)]; exact h0'
        · rw [n_back, if_neg hd] at hk
          simp (disch := omega) only [bX10_arrive_77, ka, la, r9, r144, r0, pk_div, edv, em, el, q_ci, q_cl, q_ild, q_lld, q_ald, q_ist, q_ast, q_lst, q_inc, q_b2, q_d2, q_u1, q_l2, q_ld2, q_lsh, q_lcmp, q_i2l, q_l2i, q_dupi, q_dupr, q_dup2, q_popi, q_popr, q_if1, q_if2, q_nn, q_sw, q_swn, q_swc, q_gf, q_gr, q_pf, q_pz, q_pc, q_ia, q_is, q_cs, q_zs, q_la, q_lw, q_aa, q_al, q_gs, q_acp, q_m2, q_m1, q_ir, q_zr, q_lr, q_ar, q_vr, q_cN0, q_cSX0, q_cV0, q_cVX0, q_cN1, q_cSX1, q_cV1, q_cVX1, q_cN2, q_cSX2, q_cV2, q_cVX2, q_cN3, q_cSX3, q_cV3, q_cVX3, q_cN4, q_cSX4, q_cV4, q_cVX4, q_cN5, q_cSX5, q_cV5, q_cVX5, q_cN6, q_cSX6, q_cV6, q_cVX6, q_th, q_sh0, q_sh1, q_sh2, q_sh3, q_sh4, q_toL0, q_toL1, q_gl0, q_gls, q_sl0, q_sls, q_k10, q_k1s, q_lgi, q_lgr, q_lgl, q_lgn, Bool.not_false, and_true, true_and, nz_2, nz_4, nz_5, nz_8, nz_10, nz_12, nz_14, nz_16, nz_40, nz_41, nz_64, nz_100, nz_1000, nz_1024, nz_4096, nz_10000, nz_100000, not_false_eq_true, bI_0, nI_add, pk_mul, nI_lt', nI_le', nI_eq', nI_z, nI_p, nI_e0, nI_l0, nI_le0, nI_clamp, up_eq, up_ne, not_true_eq_false, Classical.not_not, false_implies, true_implies, false_and, and_false, or_true, true_or, Nat.add_zero, pk_m1, m1_0, m1_n, m1_p, Nat.zero_le, forall_const, Nat.zero_add, Nat.reduceAdd, Nat.reduceEqDiff, or_false, false_or, Nat.one_ne_zero, l64_2, l64_3, l64_4, l64_5, l64_7, l64_9, l64_10, l64_11, l64_15, l64_20, l64_30, l64_40, l64_60, l64_99, l64_255, l64_999, le64l, le64r, le64b, le64n, rset_eq, rset_upd, rset_rset, upd_nep, upd_eqp, ix21_4k, ix21_1, ix21_2, ix21_3, ix21_4, ix21_5, ix21_6, ix21_7, ix21_8, ix21_9, ix21_10, ix76_1, ix76_2, ix76_3, ix100_1, ix100_2, ix100_3]
          refine ⟨w9, w144, w0, fun _ => h153 _ _ _ ?_, fun q => absurd q hd⟩
          simp (disch := omega) only [bX10_arrive_153, q_ci, q_cl, q_ild, q_lld, q_ald, q_ist, q_ast, q_lst, q_inc, q_b2, q_d2, q_u1, q_l2, q_ld2, q_lsh, q_lcmp, q_i2l, q_l2i, q_dupi, q_dupr, q_dup2, q_popi, q_popr, q_if1, q_if2, q_nn, q_sw, q_swn, q_swc, q_gf, q_gr, q_pf, q_pz, q_pc, q_ia, q_is, q_cs, q_zs, q_la, q_lw, q_aa, q_al, q_gs, q_acp, q_m2, q_m1, q_ir, q_zr, q_lr, q_ar, q_vr, q_cN0, q_cSX0, q_cV0, q_cVX0, q_cN1, q_cSX1, q_cV1, q_cVX1, q_cN2, q_cSX2, q_cV2, q_cVX2, q_cN3, q_cSX3, q_cV3, q_cVX3, q_cN4, q_cSX4, q_cV4, q_cVX4, q_cN5, q_cSX5, q_cV5, q_cVX5, q_cN6, q_cSX6, q_cV6, q_cVX6, q_th, q_sh0, q_sh1, q_sh2, q_sh3, q_sh4, q_toL0, q_toL1, q_gl0, q_gls, q_sl0, q_sls, q_k10, q_k1s, q_lgi, q_lgr, q_lgl, q_lgn, Bool.not_false, and_true, true_and, nz_2, nz_4, nz_5, nz_8, nz_10, nz_12, nz_14, nz_16, nz_40, nz_41, nz_64, nz_100, nz_1000, nz_1024, nz_4096, nz_10000, nz_100000, not_false_eq_true, bI_0, nI_add, pk_mul, nI_lt', nI_le', nI_eq', nI_z, nI_p, nI_e0, nI_l0, nI_le0, nI_clamp, up_eq, up_ne, not_true_eq_false, Classical.not_not, false_implies, true_implies, false_and, and_false, or_true, true_or, Nat.add_zero, pk_m1, m1_0, m1_n, m1_p, Nat.zero_le, forall_const, Nat.zero_add, Nat.reduceAdd, Nat.reduceEqDiff, or_false, false_or, Nat.one_ne_zero, l64_2, l64_3, l64_4, l64_5, l64_7, l64_9, l64_10, l64_11, l64_15, l64_20, l64_30, l64_40, l64_60, l64_99, l64_255, l64_999, le64l, le64r, le64b, le64n, rset_eq, rset_upd, rset_rset, upd_nep, upd_eqp, ix21_4k, ix21_1, ix21_2, ix21_3, ix21_4, ix21_5, ix21_6, ix21_7, ix21_8, ix21_9, ix21_10, ix76_1, ix76_2, ix76_3, ix100_1, ix100_2, ix100_3]
          exact hk r hr0
    have hall : ∀ o ∈ n.2.1, o.2.1 < 5 := fun o q => by have := (z6 o q).1; omega
    have hm1 : nI 0 - nI 1 < 0 := by decide +kernel
    have hsub : ∀ k, nI k + (-1) = nI k - nI 1 := fun k => by rw [Int32.sub_eq_add_neg]; rfl
    have H7 : ∀ k r x, k ≤ n.2.1.length → RM r (n_cr t n.1 (n.2.1.drop k), n.2.1.take k ++ (n.2.1.drop k).filter (fun o => !(o.1 == t)), n.2.2) → M 7 [.ref a, .int (nI k - nI 1), x] [] (rset σ a r) := by
      intro k
      induction k with
      | zero =>
        intro r x hk hr0
        rw [List.drop_zero, List.take_zero, List.nil_append, n_cr_eq _ hall] at hr0
        refine h7 _ _ _ ?_
        have f77 := H77 n.2.2.1 _ _ r (.int (nI 0 - nI 1)) x hr0 (by rw [← n_cr_eq _ hall, n_cr_i (by omega)]; exact z0) (Nat.le_trans (List.length_filter_le _ _) z5) z7 (fun b q => by have := z8 b q; omega) h
        simp (disch := omega) only [bX10_arrive_7, q_ci, q_cl, q_ild, q_lld, q_ald, q_ist, q_ast, q_lst, q_inc, q_b2, q_d2, q_u1, q_l2, q_ld2, q_lsh, q_lcmp, q_i2l, q_l2i, q_dupi, q_dupr, q_dup2, q_popi, q_popr, q_if1, q_if2, q_nn, q_sw, q_swn, q_swc, q_gf, q_gr, q_pf, q_pz, q_pc, q_ia, q_is, q_cs, q_zs, q_la, q_lw, q_aa, q_al, q_gs, q_acp, q_m2, q_m1, q_ir, q_zr, q_lr, q_ar, q_vr, q_cN0, q_cSX0, q_cV0, q_cVX0, q_cN1, q_cSX1, q_cV1, q_cVX1, q_cN2, q_cSX2, q_cV2, q_cVX2, q_cN3, q_cSX3, q_cV3, q_cVX3, q_cN4, q_cSX4, q_cV4, q_cVX4, q_cN5, q_cSX5, q_cV5, q_cVX5, q_cN6, q_cSX6, q_cV6, q_cVX6, q_th, q_sh0, q_sh1, q_sh2, q_sh3, q_sh4, q_toL0, q_toL1, q_gl0, q_gls, q_sl0, q_sls, q_k10, q_k1s, q_lgi, q_lgr, q_lgl, q_lgn, Bool.not_false, and_true, true_and, nz_2, nz_4, nz_5, nz_8, nz_10, nz_12, nz_14, nz_16, nz_40, nz_41, nz_64, nz_100, nz_1000, nz_1024, nz_4096, nz_10000, nz_100000, not_false_eq_true, bI_0, nI_add, pk_mul, nI_lt', nI_le', nI_eq', nI_z, nI_p, nI_e0, nI_l0, nI_le0, nI_clamp, up_eq, up_ne, not_true_eq_false, Classical.not_not, false_implies, true_implies, false_and, and_false, or_true, true_or, Nat.add_zero, pk_m1, m1_0, m1_n, m1_p, Nat.zero_le, forall_const, Nat.zero_add, Nat.reduceAdd, Nat.reduceEqDiff, or_false, false_or, Nat.one_ne_zero, l64_2, l64_3, l64_4, l64_5, l64_7, l64_9, l64_10, l64_11, l64_15, l64_20, l64_30, l64_40, l64_60, l64_99, l64_255, l64_999, le64l, le64r, le64b, le64n, rset_eq, rset_upd, rset_rset, upd_nep, upd_eqp, ix21_4k, ix21_1, ix21_2, ix21_3, ix21_4, ix21_5, ix21_6, ix21_7, ix21_8, ix21_9, ix21_10, ix76_1, ix76_2, ix76_3, ix100_1, ix100_2, ix100_3]
        exact ⟨fun _ => f77, fun q => absurd hm1 q⟩
      | succ k ih =>
        intro r x hk hr0
        have hg : n.2.1[k]? = some n.2.1[k] := List.getElem?_eq_getElem (by omega)
        have hdr : n.2.1.drop k = n.2.1[k] :: n.2.1.drop (k + 1) := List.drop_eq_getElem_cons (by omega)
        have htk : n.2.1.take (k + 1) = n.2.1.take k ++ [n.2.1[k]] := (List.take_append_getElem (by omega)).symm
        have htl : (n.2.1.take k).length = k := by rw [List.length_take]; omega
        obtain ⟨o1, o2, o3, o4⟩ := z6 _ (List.getElem_mem (show k < n.2.1.length by omega))
        have ih := ih
        rw [hdr] at ih
        rw [htk, List.append_assoc, List.singleton_append] at hr0
        generalize n.2.1[k] = o at hg o1 o2 o3 o4 ih hr0
        generalize hF : (n.2.1.drop (k + 1)).filter (fun o => !(o.1 == t)) = F at hr0
        generalize hf : n_cr t n.1 (n.2.1.drop (k + 1)) = f at hr0
        have hf0 : f 0 = nI t := by rw [← hf, n_cr_i (by omega)]; exact z0
        have hcr : n_cr t n.1 (o :: n.2.1.drop (k + 1)) = n_come t f o := by rw [← hf]; rfl
        rw [hcr] at ih
        have hFl : (n.2.1.take k ++ o :: F).length ≤ 8 := by
          rw [List.length_append, htl, List.length_cons, ← hF]
          have := List.length_filter_le (fun o : nO => !(o.1 == t)) (n.2.1.drop (k + 1))
          rw [List.length_drop] at this
          omega
        have hO : O4 r k o := hr0.o k o (by rw [List.getElem?_append_right (by omega), htl, Nat.sub_self]; rfl)
        obtain ⟨q1, q2, q3, q4⟩ := hO
        have r0 : r 0 = nI t := (hr0.1 0 (by omega) (by omega) (by omega) (by omega)).trans hf0
        have hst : ∀ i, i < 100 → i ≠ 9 → i ≠ 10 → i ≠ 11 → r i = f i := hr0.1
        have es : nI (k + 1) - nI 1 = nI k := by rw [pk_sub (by omega)]; rfl
        have v0 : vp_in (nI (100 + 4 * k)) 304 := vp_in_nI (by omega) (by omega)
        have v1 : vp_in (nI (101 + 4 * k)) 304 := vp_in_nI (by omega) (by omega)
        have v2 : vp_in (nI (102 + 4 * k)) 304 := vp_in_nI (by omega) (by omega)
        have v3 : vp_in (nI (103 + 4 * k)) 304 := vp_in_nI (by omega) (by omega)
        have g4 : vp_in (nI (24 + 11 * o.2.1)) 304 := vp_in_nI (by omega) (by omega)
        have g5 : vp_in (nI (25 + 11 * o.2.1)) 304 := vp_in_nI (by omega) (by omega)
        refine h7 _ _ _ ?_
        by_cases hd : o.1 = t
        · have efl : (o :: n.2.1.drop (k + 1)).filter (fun o => !(o.1 == t)) = F := by rw [← hF]; simp [hd]
          have ecm : n_come t f o = n_addO f o := by unfold n_come; rw [if_pos hd]
          rw [efl, ecm] at ih
          simp (disch := omega) only [bX10_arrive_7, sp_X10_sendAt, sp_X10_stationAt, sp_X10_dropSend, es, ka, la, q1, q2, q3, q4, r0, hd, hst, q_ci, q_cl, q_ild, q_lld, q_ald, q_ist, q_ast, q_lst, q_inc, q_b2, q_d2, q_u1, q_l2, q_ld2, q_lsh, q_lcmp, q_i2l, q_l2i, q_dupi, q_dupr, q_dup2, q_popi, q_popr, q_if1, q_if2, q_nn, q_sw, q_swn, q_swc, q_gf, q_gr, q_pf, q_pz, q_pc, q_ia, q_is, q_cs, q_zs, q_la, q_lw, q_aa, q_al, q_gs, q_acp, q_m2, q_m1, q_ir, q_zr, q_lr, q_ar, q_vr, q_cN0, q_cSX0, q_cV0, q_cVX0, q_cN1, q_cSX1, q_cV1, q_cVX1, q_cN2, q_cSX2, q_cV2, q_cVX2, q_cN3, q_cSX3, q_cV3, q_cVX3, q_cN4, q_cSX4, q_cV4, q_cVX4, q_cN5, q_cSX5, q_cV5, q_cVX5, q_cN6, q_cSX6, q_cV6, q_cVX6, q_th, q_sh0, q_sh1, q_sh2, q_sh3, q_sh4, q_toL0, q_toL1, q_gl0, q_gls, q_sl0, q_sls, q_k10, q_k1s, q_lgi, q_lgr, q_lgl, q_lgn, Bool.not_false, and_true, true_and, nz_2, nz_4, nz_5, nz_8, nz_10, nz_12, nz_14, nz_16, nz_40, nz_41, nz_64, nz_100, nz_1000, nz_1024, nz_4096, nz_10000, nz_100000, not_false_eq_true, bI_0, nI_add, pk_mul, nI_lt', nI_le', nI_eq', nI_z, nI_p, nI_e0, nI_l0, nI_le0, nI_clamp, up_eq, up_ne, not_true_eq_false, Classical.not_not, false_implies, true_implies, false_and, and_false, or_true, true_or, Nat.add_zero, pk_m1, m1_0, m1_n, m1_p, Nat.zero_le, forall_const, Nat.zero_add, Nat.reduceAdd, Nat.reduceEqDiff, or_false, false_or, Nat.one_ne_zero, l64_2, l64_3, l64_4, l64_5, l64_7, l64_9, l64_10, l64_11, l64_15, l64_20, l64_30, l64_40, l64_60, l64_99, l64_255, l64_999, le64l, le64r, le64b, le64n, rset_eq, rset_upd, rset_rset, upd_nep, upd_eqp, ix21_4k, ix21_1, ix21_2, ix21_3, ix21_4, ix21_5, ix21_6, ix21_7, ix21_8, ix21_9, ix21_10, ix76_1, ix76_2, ix76_3, ix100_1, ix100_2, ix100_3]
          have hRM : RM (upd (upd r (24 + 11 * o.2.1) (f (24 + 11 * o.2.1) + nI o.2.2.1)) (25 + 11 * o.2.1) (f (25 + 11 * o.2.1) + nI o.2.2.2)) (n_addO f o, n.2.1.take k ++ o :: F, n.2.2) := (hr0.up _ (by omega) (by omega) (by omega) (by omega)).up _ (by omega) (by omega) (by omega) (by omega)
          refine ⟨v0, w0, v1, g4, v2, g4, g5, v3, g5, ⟨ka, la⟩, _, k, hRM, rfl, ?_, hFl, fun r' hr' => h71 _ _ _ ?_⟩
          · rw [List.length_append, htl, List.length_cons]; omega
          · simp (disch := omega) only [bX10_arrive_71, hsub, q_ci, q_cl, q_ild, q_lld, q_ald, q_ist, q_ast, q_lst, q_inc, q_b2, q_d2, q_u1, q_l2, q_ld2, q_lsh, q_lcmp, q_i2l, q_l2i, q_dupi, q_dupr, q_dup2, q_popi, q_popr, q_if1, q_if2, q_nn, q_sw, q_swn, q_swc, q_gf, q_gr, q_pf, q_pz, q_pc, q_ia, q_is, q_cs, q_zs, q_la, q_lw, q_aa, q_al, q_gs, q_acp, q_m2, q_m1, q_ir, q_zr, q_lr, q_ar, q_vr, q_cN0, q_cSX0, q_cV0, q_cVX0, q_cN1, q_cSX1, q_cV1, q_cVX1, q_cN2, q_cSX2, q_cV2, q_cVX2, q_cN3, q_cSX3, q_cV3, q_cVX3, q_cN4, q_cSX4, q_cV4, q_cVX4, q_cN5, q_cSX5, q_cV5, q_cVX5, q_cN6, q_cSX6, q_cV6, q_cVX6, q_th, q_sh0, q_sh1, q_sh2, q_sh3, q_sh4, q_toL0, q_toL1, q_gl0, q_gls, q_sl0, q_sls, q_k10, q_k1s, q_lgi, q_lgr, q_lgl, q_lgn, Bool.not_false, and_true, true_and, nz_2, nz_4, nz_5, nz_8, nz_10, nz_12, nz_14, nz_16, nz_40, nz_41, nz_64, nz_100, nz_1000, nz_1024, nz_4096, nz_10000, nz_100000, not_false_eq_true, bI_0, nI_add, pk_mul, nI_lt', nI_le', nI_eq', nI_z, nI_p, nI_e0, nI_l0, nI_le0, nI_clamp, up_eq, up_ne, not_true_eq_false, Classical.not_not, false_implies, true_implies, false_and, and_false, or_true, true_or, Nat.add_zero, pk_m1, m1_0, m1_n, m1_p, Nat.zero_le, forall_const, Nat.zero_add, Nat.reduceAdd, Nat.reduceEqDiff, or_false, false_or, Nat.one_ne_zero, l64_2, l64_3, l64_4, l64_5, l64_7, l64_9, l64_10, l64_11, l64_15, l64_20, l64_30, l64_40, l64_60, l64_99, l64_255, l64_999, le64l, le64r, le64b, le64n, rset_eq, rset_upd, rset_rset, upd_nep, upd_eqp, ix21_4k, ix21_1, ix21_2, ix21_3, ix21_4, ix21_5, ix21_6, ix21_7, ix21_8, ix21_9, ix21_10, ix76_1, ix76_2, ix76_3, ix100_1, ix100_2, ix100_3]
            refine ih r' _ (by omega) ?_
            have : (n.2.1.take k ++ o :: F).eraseIdx k = n.2.1.take k ++ F := by
              rw [List.eraseIdx_append_of_length_le (by omega), htl, Nat.sub_self]; rfl
            dsimp only at hr'
            rw [this] at hr'
            exact hr'
        · have efl : (o :: n.2.1.drop (k + 1)).filter (fun o => !(o.1 == t)) = o :: F := by rw [← hF]; simp [hd]
          have ecm : n_come t f o = f := by unfold n_come; rw [if_neg hd]
          rw [efl, ecm] at ih
          simp (disch := omega) only [bX10_arrive_7, sp_X10_sendAt, es, ka, la, q1, r0, q_ci, q_cl, q_ild, q_lld, q_ald, q_ist, q_ast, q_lst, q_inc, q_b2, q_d2, q_u1, q_l2, q_ld2, q_lsh, q_lcmp, q_i2l, q_l2i, q_dupi, q_dupr, q_dup2, q_popi, q_popr, q_if1, q_if2, q_nn, q_sw, q_swn, q_swc, q_gf, q_gr, q_pf, q_pz, q_pc, q_ia, q_is, q_cs, q_zs, q_la, q_lw, q_aa, q_al, q_gs, q_acp, q_m2, q_m1, q_ir, q_zr, q_lr, q_ar, q_vr, q_cN0, q_cSX0, q_cV0, q_cVX0, q_cN1, q_cSX1, q_cV1, q_cVX1, q_cN2, q_cSX2, q_cV2, q_cVX2, q_cN3, q_cSX3, q_cV3, q_cVX3, q_cN4, q_cSX4, q_cV4, q_cVX4, q_cN5, q_cSX5, q_cV5, q_cVX5, q_cN6, q_cSX6, q_cV6, q_cVX6, q_th, q_sh0, q_sh1, q_sh2, q_sh3, q_sh4, q_toL0, q_toL1, q_gl0, q_gls, q_sl0, q_sls, q_k10, q_k1s, q_lgi, q_lgr, q_lgl, q_lgn, Bool.not_false, and_true, true_and, nz_2, nz_4, nz_5, nz_8, nz_10, nz_12, nz_14, nz_16, nz_40, nz_41, nz_64, nz_100, nz_1000, nz_1024, nz_4096, nz_10000, nz_100000, not_false_eq_true, bI_0, nI_add, pk_mul, nI_lt', nI_le', nI_eq', nI_z, nI_p, nI_e0, nI_l0, nI_le0, nI_clamp, up_eq, up_ne, not_true_eq_false, Classical.not_not, false_implies, true_implies, false_and, and_false, or_true, true_or, Nat.add_zero, pk_m1, m1_0, m1_n, m1_p, Nat.zero_le, forall_const, Nat.zero_add, Nat.reduceAdd, Nat.reduceEqDiff, or_false, false_or, Nat.one_ne_zero, l64_2, l64_3, l64_4, l64_5, l64_7, l64_9, l64_10, l64_11, l64_15, l64_20, l64_30, l64_40, l64_60, l64_99, l64_255, l64_999, le64l, le64r, le64b, le64n, rset_eq, rset_upd, rset_rset, upd_nep, upd_eqp, ix21_4k, ix21_1, ix21_2, ix21_3, ix21_4, ix21_5, ix21_6, ix21_7, ix21_8, ix21_9, ix21_10, ix76_1, ix76_2, ix76_3, ix100_1, ix100_2, ix100_3]
          refine ⟨v0, w0, fun _ => h71 _ _ _ ?_, fun q => absurd q hd⟩
          simp (disch := omega) only [bX10_arrive_71, hsub, q_ci, q_cl, q_ild, q_lld, q_ald, q_ist, q_ast, q_lst, q_inc, q_b2, q_d2, q_u1, q_l2, q_ld2, q_lsh, q_lcmp, q_i2l, q_l2i, q_dupi, q_dupr, q_dup2, q_popi, q_popr, q_if1, q_if2, q_nn, q_sw, q_swn, q_swc, q_gf, q_gr, q_pf, q_pz, q_pc, q_ia, q_is, q_cs, q_zs, q_la, q_lw, q_aa, q_al, q_gs, q_acp, q_m2, q_m1, q_ir, q_zr, q_lr, q_ar, q_vr, q_cN0, q_cSX0, q_cV0, q_cVX0, q_cN1, q_cSX1, q_cV1, q_cVX1, q_cN2, q_cSX2, q_cV2, q_cVX2, q_cN3, q_cSX3, q_cV3, q_cVX3, q_cN4, q_cSX4, q_cV4, q_cVX4, q_cN5, q_cSX5, q_cV5, q_cVX5, q_cN6, q_cSX6, q_cV6, q_cVX6, q_th, q_sh0, q_sh1, q_sh2, q_sh3, q_sh4, q_toL0, q_toL1, q_gl0, q_gls, q_sl0, q_sls, q_k10, q_k1s, q_lgi, q_lgr, q_lgl, q_lgn, Bool.not_false, and_true, true_and, nz_2, nz_4, nz_5, nz_8, nz_10, nz_12, nz_14, nz_16, nz_40, nz_41, nz_64, nz_100, nz_1000, nz_1024, nz_4096, nz_10000, nz_100000, not_false_eq_true, bI_0, nI_add, pk_mul, nI_lt', nI_le', nI_eq', nI_z, nI_p, nI_e0, nI_l0, nI_le0, nI_clamp, up_eq, up_ne, not_true_eq_false, Classical.not_not, false_implies, true_implies, false_and, and_false, or_true, true_or, Nat.add_zero, pk_m1, m1_0, m1_n, m1_p, Nat.zero_le, forall_const, Nat.zero_add, Nat.reduceAdd, Nat.reduceEqDiff, or_false, false_or, Nat.one_ne_zero, l64_2, l64_3, l64_4, l64_5, l64_7, l64_9, l64_10, l64_11, l64_15, l64_20, l64_30, l64_40, l64_60, l64_99, l64_255, l64_999, le64l, le64r, le64b, le64n, rset_eq, rset_upd, rset_rset, upd_nep, upd_eqp, ix21_4k, ix21_1, ix21_2, ix21_3, ix21_4, ix21_5, ix21_6, ix21_7, ix21_8, ix21_9, ix21_10, ix76_1, ix76_2, ix76_3, ix100_1, ix100_2, ix100_3]
          exact ih r _ (by omega) hr0
    have e10 := hR.2.1
    simp (disch := omega) only [bX10_arrive_0, ka, la, e10, q_ci, q_cl, q_ild, q_lld, q_ald, q_ist, q_ast, q_lst, q_inc, q_b2, q_d2, q_u1, q_l2, q_ld2, q_lsh, q_lcmp, q_i2l, q_l2i, q_dupi, q_dupr, q_dup2, q_popi, q_popr, q_if1, q_if2, q_nn, q_sw, q_swn, q_swc, q_gf, q_gr, q_pf, q_pz, q_pc, q_ia, q_is, q_cs, q_zs, q_la, q_lw, q_aa, q_al, q_gs, q_acp, q_m2, q_m1, q_ir, q_zr, q_lr, q_ar, q_vr, q_cN0, q_cSX0, q_cV0, q_cVX0, q_cN1, q_cSX1, q_cV1, q_cVX1, q_cN2, q_cSX2, q_cV2, q_cVX2, q_cN3, q_cSX3, q_cV3, q_cVX3, q_cN4, q_cSX4, q_cV4, q_cVX4, q_cN5, q_cSX5, q_cV5, q_cVX5, q_cN6, q_cSX6, q_cV6, q_cVX6, q_th, q_sh0, q_sh1, q_sh2, q_sh3, q_sh4, q_toL0, q_toL1, q_gl0, q_gls, q_sl0, q_sls, q_k10, q_k1s, q_lgi, q_lgr, q_lgl, q_lgn, Bool.not_false, and_true, true_and, nz_2, nz_4, nz_5, nz_8, nz_10, nz_12, nz_14, nz_16, nz_40, nz_41, nz_64, nz_100, nz_1000, nz_1024, nz_4096, nz_10000, nz_100000, not_false_eq_true, bI_0, nI_add, pk_mul, nI_lt', nI_le', nI_eq', nI_z, nI_p, nI_e0, nI_l0, nI_le0, nI_clamp, up_eq, up_ne, not_true_eq_false, Classical.not_not, false_implies, true_implies, false_and, and_false, or_true, true_or, Nat.add_zero, pk_m1, m1_0, m1_n, m1_p, Nat.zero_le, forall_const, Nat.zero_add, Nat.reduceAdd, Nat.reduceEqDiff, or_false, false_or, Nat.one_ne_zero, l64_2, l64_3, l64_4, l64_5, l64_7, l64_9, l64_10, l64_11, l64_15, l64_20, l64_30, l64_40, l64_60, l64_99, l64_255, l64_999, le64l, le64r, le64b, le64n, rset_eq, rset_upd, rset_rset, upd_nep, upd_eqp, ix21_4k, ix21_1, ix21_2, ix21_3, ix21_4, ix21_5, ix21_6, ix21_7, ix21_8, ix21_9, ix21_10, ix76_1, ix76_2, ix76_3, ix100_1, ix100_2, ix100_3]
    refine ⟨w10, H7 n.2.1.length (σ a) _ (Nat.le_refl _) ?_⟩
    rw [List.drop_length, List.take_length, List.filter_nil, List.append_nil]
    exact hR
