/-! leaves of the class: what each answers and writes -/
def sp_X9_within : ab_S := fun _ As σ K => match As with
  | [.int v, .int lo, .int hi] => K (some (.int (bI (lo ≤ v ∧ v ≤ hi)))) σ
  | _ => False
def sp_X7_has : ab_S := fun w As σ K => match As with
  | [.ref a, .int i] => ab_kd w a = 7 ∧ K (some (.int (bI (0 ≤ i ∧ i < σ a 0)))) σ
  | _ => False
def sp_X0_has : ab_S := fun w As σ K => match As with
  | [.ref a, .int i] => ab_kd w a = 0 ∧ K (some (.int (bI (0 ≤ i ∧ i < σ a 0)))) σ
  | _ => False
/-- a valid station, or flights: small numbers -/
def ixv (x c : Int32) (k m n : Nat) : Prop := x = nI k ∧ c = nI m ∧ k < m ∧ m ≤ n
def sp_X7_receive : ab_S := fun w As σ K => match As with
  | [.ref a, .int i, .int g, .int n] => wS w a ∧ ∃ k c, ixv i (σ a 0) k c 5 ∧ K none (ab_up (ab_up σ (a + 4) k (σ (a + 4) k + g)) (a + 7) (k * 5) (σ (a + 7) (k * 5) + n))
  | _ => False
def sp_X7_addSondes : ab_S := fun w As σ K => match As with
  | [.ref a, .int i, .int j, .int n] => wS w a ∧ ∃ k c m, ixv i (σ a 0) k c 5 ∧ j = nI m ∧ m < 5 ∧ K none (ab_up σ (a + 7) (k * 5 + m) (σ (a + 7) (k * 5 + m) + n))
  | _ => False
def sp_X7_add : ab_S := fun w As σ K => match As with
  | [.ref a, .int p, .int h, .int z] => wS w a ∧ ∃ c, σ a 0 = nI c ∧ c < 5 ∧ K none (ab_up (ab_up (ab_up (ab_up σ (a + 1) c p) (a + 2) c h) (a + 3) c z) a 0 (nI (c + 1)))
  | _ => False
set_option maxRecDepth 20000 in
set_option maxHeartbeats 4000000 in
theorem ok_X9_within {l : Launch} (hl : l.stackTraces = false) : ab_OkN l yX9_within (Cond.code yX9_within cX9_within 3 (some .boolean)) 1 sp_X9_within := by
  intro w σ As Kn hI h
  unfold sp_X9_within at h
  split at h
  · next v lo hi =>
    refine vc_X9_within hl hI (Nat.le_of_ble_eq_true rfl) (fun M h0 h1 h2 => h0 [.int v, .int lo, .int hi] [] σ ?_)
    simp (disch := omega) only [bX9_within_0, q_ci, q_cl, q_ild, q_lld, q_ald, q_ist, q_ast, q_lst, q_inc, q_b2, q_d2, q_u1, q_l2, q_ld2, q_lsh, q_lcmp, q_i2l, q_l2i, q_dupi, q_dupr, q_dup2, q_popi, q_popr, q_if1, q_if2, q_nn, q_sw, q_swn, q_swc, q_gf, q_gr, q_pf, q_pz, q_pc, q_ia, q_is, q_cs, q_zs, q_la, q_lw, q_aa, q_al, q_gs, q_acp, q_m2, q_m1, q_ir, q_zr, q_lr, q_ar, q_vr, q_cN0, q_cSX0, q_cV0, q_cVX0, q_cN1, q_cSX1, q_cV1, q_cVX1, q_cN2, q_cSX2, q_cV2, q_cVX2, q_cN3, q_cSX3, q_cV3, q_cVX3, q_cN4, q_cSX4, q_cV4, q_cVX4, q_cN5, q_cSX5, q_cV5, q_cVX5, q_cN6, q_cSX6, q_cV6, q_cVX6, q_th, q_sh0, q_sh1, q_sh2, q_sh3, q_sh4, q_toL0, q_toL1, q_gl0, q_gls, q_sl0, q_sls, q_k10, q_k1s, q_lgi, q_lgr, q_lgl, q_lgn, Bool.not_false, and_true, true_and, nz_2, nz_4, nz_5, nz_8, nz_10, nz_12, nz_14, nz_16, nz_40, nz_41, nz_64, nz_100, nz_1000, nz_1024, nz_4096, nz_10000, nz_100000, not_false_eq_true, bI_0, nI_add, pk_mul, nI_lt', nI_le', nI_eq', nI_z, nI_p, nI_e0, nI_l0, nI_le0, nI_clamp, up_eq, up_ne, not_true_eq_false, Classical.not_not, false_implies, true_implies, false_and, and_false, or_true, true_or, Nat.add_zero, pk_m1, m1_0, m1_n, m1_p, Nat.zero_le, forall_const]
    repeat' first
      | assumption
      | (refine vp_in_nI ?_ ?_ <;> omega)
      | refine And.intro ?_ ?_
      | (intro (_ : _); first | (exfalso; omega) | skip)
      | (refine h1 _ _ _ ?_; simp (disch := omega) only [bX9_within_14, q_ci, q_cl, q_ild, q_lld, q_ald, q_ist, q_ast, q_lst, q_inc, q_b2, q_d2, q_u1, q_l2, q_ld2, q_lsh, q_lcmp, q_i2l, q_l2i, q_dupi, q_dupr, q_dup2, q_popi, q_popr, q_if1, q_if2, q_nn, q_sw, q_swn, q_swc, q_gf, q_gr, q_pf, q_pz, q_pc, q_ia, q_is, q_cs, q_zs, q_la, q_lw, q_aa, q_al, q_gs, q_acp, q_m2, q_m1, q_ir, q_zr, q_lr, q_ar, q_vr, q_cN0, q_cSX0, q_cV0, q_cVX0, q_cN1, q_cSX1, q_cV1, q_cVX1, q_cN2, q_cSX2, q_cV2, q_cVX2, q_cN3, q_cSX3, q_cV3, q_cVX3, q_cN4, q_cSX4, q_cV4, q_cVX4, q_cN5, q_cSX5, q_cV5, q_cVX5, q_cN6, q_cSX6, q_cV6, q_cVX6, q_th, q_sh0, q_sh1, q_sh2, q_sh3, q_sh4, q_toL0, q_toL1, q_gl0, q_gls, q_sl0, q_sls, q_k10, q_k1s, q_lgi, q_lgr, q_lgl, q_lgn, Bool.not_false, and_true, true_and, nz_2, nz_4, nz_5, nz_8, nz_10, nz_12, nz_14, nz_16, nz_40, nz_41, nz_64, nz_100, nz_1000, nz_1024, nz_4096, nz_10000, nz_100000, not_false_eq_true, bI_0, nI_add, pk_mul, nI_lt', nI_le', nI_eq', nI_z, nI_p, nI_e0, nI_l0, nI_le0, nI_clamp, up_eq, up_ne, not_true_eq_false, Classical.not_not, false_implies, true_implies, false_and, and_false, or_true, true_or, Nat.add_zero, pk_m1, m1_0, m1_n, m1_p, Nat.zero_le, forall_const])
      | (refine h2 _ _ _ ?_; simp (disch := omega) only [bX9_within_15, q_ci, q_cl, q_ild, q_lld, q_ald, q_ist, q_ast, q_lst, q_inc, q_b2, q_d2, q_u1, q_l2, q_ld2, q_lsh, q_lcmp, q_i2l, q_l2i, q_dupi, q_dupr, q_dup2, q_popi, q_popr, q_if1, q_if2, q_nn, q_sw, q_swn, q_swc, q_gf, q_gr, q_pf, q_pz, q_pc, q_ia, q_is, q_cs, q_zs, q_la, q_lw, q_aa, q_al, q_gs, q_acp, q_m2, q_m1, q_ir, q_zr, q_lr, q_ar, q_vr, q_cN0, q_cSX0, q_cV0, q_cVX0, q_cN1, q_cSX1, q_cV1, q_cVX1, q_cN2, q_cSX2, q_cV2, q_cVX2, q_cN3, q_cSX3, q_cV3, q_cVX3, q_cN4, q_cSX4, q_cV4, q_cVX4, q_cN5, q_cSX5, q_cV5, q_cVX5, q_cN6, q_cSX6, q_cV6, q_cVX6, q_th, q_sh0, q_sh1, q_sh2, q_sh3, q_sh4, q_toL0, q_toL1, q_gl0, q_gls, q_sl0, q_sls, q_k10, q_k1s, q_lgi, q_lgr, q_lgl, q_lgn, Bool.not_false, and_true, true_and, nz_2, nz_4, nz_5, nz_8, nz_10, nz_12, nz_14, nz_16, nz_40, nz_41, nz_64, nz_100, nz_1000, nz_1024, nz_4096, nz_10000, nz_100000, not_false_eq_true, bI_0, nI_add, pk_mul, nI_lt', nI_le', nI_eq', nI_z, nI_p, nI_e0, nI_l0, nI_le0, nI_clamp, up_eq, up_ne, not_true_eq_false, Classical.not_not, false_implies, true_implies, false_and, and_false, or_true, true_or, Nat.add_zero, pk_m1, m1_0, m1_n, m1_p, Nat.zero_le, forall_const, nI_0, nI_one])
    · rw [bI_f (fun q => absurd ‹v < lo› (Int32.not_lt.mpr q.1))] at h; exact h
    · rw [bI_f (fun q => absurd ‹hi < v› (Int32.not_lt.mpr q.2))] at h; exact h
    · rw [bI_t ⟨Int32.not_lt.mp ‹_›, Int32.not_lt.mp ‹_›⟩] at h; exact h
  · exact h.elim
set_option maxRecDepth 20000 in
set_option maxHeartbeats 4000000 in
theorem ok_X7_has {l : Launch} (hl : l.stackTraces = false) : ab_OkN l yX7_has (Cond.code yX7_has cX7_has 2 (some .boolean)) 1 sp_X7_has := by
  intro w σ As Kn hI h
  unfold sp_X7_has at h
  split at h
  · next a i =>
    refine vc_X7_has hl hI (Nat.le_of_ble_eq_true rfl) (fun M h0 h1 h2 => h0 [.ref a, .int i] [] σ ?_)
    simp (disch := omega) only [bX7_has_0, q_ci, q_cl, q_ild, q_lld, q_ald, q_ist, q_ast, q_lst, q_inc, q_b2, q_d2, q_u1, q_l2, q_ld2, q_lsh, q_lcmp, q_i2l, q_l2i, q_dupi, q_dupr, q_dup2, q_popi, q_popr, q_if1, q_if2, q_nn, q_sw, q_swn, q_swc, q_gf, q_gr, q_pf, q_pz, q_pc, q_ia, q_is, q_cs, q_zs, q_la, q_lw, q_aa, q_al, q_gs, q_acp, q_m2, q_m1, q_ir, q_zr, q_lr, q_ar, q_vr, q_cN0, q_cSX0, q_cV0, q_cVX0, q_cN1, q_cSX1, q_cV1, q_cVX1, q_cN2, q_cSX2, q_cV2, q_cVX2, q_cN3, q_cSX3, q_cV3, q_cVX3, q_cN4, q_cSX4, q_cV4, q_cVX4, q_cN5, q_cSX5, q_cV5, q_cVX5, q_cN6, q_cSX6, q_cV6, q_cVX6, q_th, q_sh0, q_sh1, q_sh2, q_sh3, q_sh4, q_toL0, q_toL1, q_gl0, q_gls, q_sl0, q_sls, q_k10, q_k1s, q_lgi, q_lgr, q_lgl, q_lgn, Bool.not_false, and_true, true_and, nz_2, nz_4, nz_5, nz_8, nz_10, nz_12, nz_14, nz_16, nz_40, nz_41, nz_64, nz_100, nz_1000, nz_1024, nz_4096, nz_10000, nz_100000, not_false_eq_true, bI_0, nI_add, pk_mul, nI_lt', nI_le', nI_eq', nI_z, nI_p, nI_e0, nI_l0, nI_le0, nI_clamp, up_eq, up_ne, not_true_eq_false, Classical.not_not, false_implies, true_implies, false_and, and_false, or_true, true_or, Nat.add_zero, pk_m1, m1_0, m1_n, m1_p, Nat.zero_le, forall_const]
    repeat' first
      | assumption
      | (refine vp_in_nI ?_ ?_ <;> omega)
      | refine And.intro ?_ ?_
      | (intro (_ : _); first | (exfalso; omega) | skip)
      | (refine h1 _ _ _ ?_; simp (disch := omega) only [bX7_has_16, q_ci, q_cl, q_ild, q_lld, q_ald, q_ist, q_ast, q_lst, q_inc, q_b2, q_d2, q_u1, q_l2, q_ld2, q_lsh, q_lcmp, q_i2l, q_l2i, q_dupi, q_dupr, q_dup2, q_popi, q_popr, q_if1, q_if2, q_nn, q_sw, q_swn, q_swc, q_gf, q_gr, q_pf, q_pz, q_pc, q_ia, q_is, q_cs, q_zs, q_la, q_lw, q_aa, q_al, q_gs, q_acp, q_m2, q_m1, q_ir, q_zr, q_lr, q_ar, q_vr, q_cN0, q_cSX0, q_cV0, q_cVX0, q_cN1, q_cSX1, q_cV1, q_cVX1, q_cN2, q_cSX2, q_cV2, q_cVX2, q_cN3, q_cSX3, q_cV3, q_cVX3, q_cN4, q_cSX4, q_cV4, q_cVX4, q_cN5, q_cSX5, q_cV5, q_cVX5, q_cN6, q_cSX6, q_cV6, q_cVX6, q_th, q_sh0, q_sh1, q_sh2, q_sh3, q_sh4, q_toL0, q_toL1, q_gl0, q_gls, q_sl0, q_sls, q_k10, q_k1s, q_lgi, q_lgr, q_lgl, q_lgn, Bool.not_false, and_true, true_and, nz_2, nz_4, nz_5, nz_8, nz_10, nz_12, nz_14, nz_16, nz_40, nz_41, nz_64, nz_100, nz_1000, nz_1024, nz_4096, nz_10000, nz_100000, not_false_eq_true, bI_0, nI_add, pk_mul, nI_lt', nI_le', nI_eq', nI_z, nI_p, nI_e0, nI_l0, nI_le0, nI_clamp, up_eq, up_ne, not_true_eq_false, Classical.not_not, false_implies, true_implies, false_and, and_false, or_true, true_or, Nat.add_zero, pk_m1, m1_0, m1_n, m1_p, Nat.zero_le, forall_const])
      | (refine h2 _ _ _ ?_; simp (disch := omega) only [bX7_has_17, q_ci, q_cl, q_ild, q_lld, q_ald, q_ist, q_ast, q_lst, q_inc, q_b2, q_d2, q_u1, q_l2, q_ld2, q_lsh, q_lcmp, q_i2l, q_l2i, q_dupi, q_dupr, q_dup2, q_popi, q_popr, q_if1, q_if2, q_nn, q_sw, q_swn, q_swc, q_gf, q_gr, q_pf, q_pz, q_pc, q_ia, q_is, q_cs, q_zs, q_la, q_lw, q_aa, q_al, q_gs, q_acp, q_m2, q_m1, q_ir, q_zr, q_lr, q_ar, q_vr, q_cN0, q_cSX0, q_cV0, q_cVX0, q_cN1, q_cSX1, q_cV1, q_cVX1, q_cN2, q_cSX2, q_cV2, q_cVX2, q_cN3, q_cSX3, q_cV3, q_cVX3, q_cN4, q_cSX4, q_cV4, q_cVX4, q_cN5, q_cSX5, q_cV5, q_cVX5, q_cN6, q_cSX6, q_cV6, q_cVX6, q_th, q_sh0, q_sh1, q_sh2, q_sh3, q_sh4, q_toL0, q_toL1, q_gl0, q_gls, q_sl0, q_sls, q_k10, q_k1s, q_lgi, q_lgr, q_lgl, q_lgn, Bool.not_false, and_true, true_and, nz_2, nz_4, nz_5, nz_8, nz_10, nz_12, nz_14, nz_16, nz_40, nz_41, nz_64, nz_100, nz_1000, nz_1024, nz_4096, nz_10000, nz_100000, not_false_eq_true, bI_0, nI_add, pk_mul, nI_lt', nI_le', nI_eq', nI_z, nI_p, nI_e0, nI_l0, nI_le0, nI_clamp, up_eq, up_ne, not_true_eq_false, Classical.not_not, false_implies, true_implies, false_and, and_false, or_true, true_or, Nat.add_zero, pk_m1, m1_0, m1_n, m1_p, Nat.zero_le, forall_const, nI_0, nI_one])
    · rw [bI_f (fun q => absurd ‹i < 0› (Int32.not_lt.mpr q.1))] at h; exact h.2
    · exact h.1
    · rw [bI_f (fun q => absurd q.2 (Int32.not_lt.mpr ‹_›))] at h; exact h.2
    · rw [bI_t ⟨Int32.not_lt.mp ‹_›, Int32.not_le.mp ‹_›⟩] at h; exact h.2
  · exact h.elim
set_option maxRecDepth 20000 in
set_option maxHeartbeats 4000000 in
theorem ok_X0_has {l : Launch} (hl : l.stackTraces = false) : ab_OkN l yX0_has (Cond.code yX0_has cX0_has 2 (some .boolean)) 1 sp_X0_has := by
  intro w σ As Kn hI h
  unfold sp_X0_has at h
  split at h
  · next a i =>
    refine vc_X0_has hl hI (Nat.le_of_ble_eq_true rfl) (fun M h0 h1 h2 => h0 [.ref a, .int i] [] σ ?_)
    simp (disch := omega) only [bX0_has_0, q_ci, q_cl, q_ild, q_lld, q_ald, q_ist, q_ast, q_lst, q_inc, q_b2, q_d2, q_u1, q_l2, q_ld2, q_lsh, q_lcmp, q_i2l, q_l2i, q_dupi, q_dupr, q_dup2, q_popi, q_popr, q_if1, q_if2, q_nn, q_sw, q_swn, q_swc, q_gf, q_gr, q_pf, q_pz, q_pc, q_ia, q_is, q_cs, q_zs, q_la, q_lw, q_aa, q_al, q_gs, q_acp, q_m2, q_m1, q_ir, q_zr, q_lr, q_ar, q_vr, q_cN0, q_cSX0, q_cV0, q_cVX0, q_cN1, q_cSX1, q_cV1, q_cVX1, q_cN2, q_cSX2, q_cV2, q_cVX2, q_cN3, q_cSX3, q_cV3, q_cVX3, q_cN4, q_cSX4, q_cV4, q_cVX4, q_cN5, q_cSX5, q_cV5, q_cVX5, q_cN6, q_cSX6, q_cV6, q_cVX6, q_th, q_sh0, q_sh1, q_sh2, q_sh3, q_sh4, q_toL0, q_toL1, q_gl0, q_gls, q_sl0, q_sls, q_k10, q_k1s, q_lgi, q_lgr, q_lgl, q_lgn, Bool.not_false, and_true, true_and, nz_2, nz_4, nz_5, nz_8, nz_10, nz_12, nz_14, nz_16, nz_40, nz_41, nz_64, nz_100, nz_1000, nz_1024, nz_4096, nz_10000, nz_100000, not_false_eq_true, bI_0, nI_add, pk_mul, nI_lt', nI_le', nI_eq', nI_z, nI_p, nI_e0, nI_l0, nI_le0, nI_clamp, up_eq, up_ne, not_true_eq_false, Classical.not_not, false_implies, true_implies, false_and, and_false, or_true, true_or, Nat.add_zero, pk_m1, m1_0, m1_n, m1_p, Nat.zero_le, forall_const]
    repeat' first
      | assumption
      | (refine vp_in_nI ?_ ?_ <;> omega)
      | refine And.intro ?_ ?_
      | (intro (_ : _); first | (exfalso; omega) | skip)
      | (refine h1 _ _ _ ?_; simp (disch := omega) only [bX0_has_16, q_ci, q_cl, q_ild, q_lld, q_ald, q_ist, q_ast, q_lst, q_inc, q_b2, q_d2, q_u1, q_l2, q_ld2, q_lsh, q_lcmp, q_i2l, q_l2i, q_dupi, q_dupr, q_dup2, q_popi, q_popr, q_if1, q_if2, q_nn, q_sw, q_swn, q_swc, q_gf, q_gr, q_pf, q_pz, q_pc, q_ia, q_is, q_cs, q_zs, q_la, q_lw, q_aa, q_al, q_gs, q_acp, q_m2, q_m1, q_ir, q_zr, q_lr, q_ar, q_vr, q_cN0, q_cSX0, q_cV0, q_cVX0, q_cN1, q_cSX1, q_cV1, q_cVX1, q_cN2, q_cSX2, q_cV2, q_cVX2, q_cN3, q_cSX3, q_cV3, q_cVX3, q_cN4, q_cSX4, q_cV4, q_cVX4, q_cN5, q_cSX5, q_cV5, q_cVX5, q_cN6, q_cSX6, q_cV6, q_cVX6, q_th, q_sh0, q_sh1, q_sh2, q_sh3, q_sh4, q_toL0, q_toL1, q_gl0, q_gls, q_sl0, q_sls, q_k10, q_k1s, q_lgi, q_lgr, q_lgl, q_lgn, Bool.not_false, and_true, true_and, nz_2, nz_4, nz_5, nz_8, nz_10, nz_12, nz_14, nz_16, nz_40, nz_41, nz_64, nz_100, nz_1000, nz_1024, nz_4096, nz_10000, nz_100000, not_false_eq_true, bI_0, nI_add, pk_mul, nI_lt', nI_le', nI_eq', nI_z, nI_p, nI_e0, nI_l0, nI_le0, nI_clamp, up_eq, up_ne, not_true_eq_false, Classical.not_not, false_implies, true_implies, false_and, and_false, or_true, true_or, Nat.add_zero, pk_m1, m1_0, m1_n, m1_p, Nat.zero_le, forall_const])
      | (refine h2 _ _ _ ?_; simp (disch := omega) only [bX0_has_17, q_ci, q_cl, q_ild, q_lld, q_ald, q_ist, q_ast, q_lst, q_inc, q_b2, q_d2, q_u1, q_l2, q_ld2, q_lsh, q_lcmp, q_i2l, q_l2i, q_dupi, q_dupr, q_dup2, q_popi, q_popr, q_if1, q_if2, q_nn, q_sw, q_swn, q_swc, q_gf, q_gr, q_pf, q_pz, q_pc, q_ia, q_is, q_cs, q_zs, q_la, q_lw, q_aa, q_al, q_gs, q_acp, q_m2, q_m1, q_ir, q_zr, q_lr, q_ar, q_vr, q_cN0, q_cSX0, q_cV0, q_cVX0, q_cN1, q_cSX1, q_cV1, q_cVX1, q_cN2, q_cSX2, q_cV2, q_cVX2, q_cN3, q_cSX3, q_cV3, q_cVX3, q_cN4, q_cSX4, q_cV4, q_cVX4, q_cN5, q_cSX5, q_cV5, q_cVX5, q_cN6, q_cSX6, q_cV6, q_cVX6, q_th, q_sh0, q_sh1, q_sh2, q_sh3, q_sh4, q_toL0, q_toL1, q_gl0, q_gls, q_sl0, q_sls, q_k10, q_k1s, q_lgi, q_lgr, q_lgl, q_lgn, Bool.not_false, and_true, true_and, nz_2, nz_4, nz_5, nz_8, nz_10, nz_12, nz_14, nz_16, nz_40, nz_41, nz_64, nz_100, nz_1000, nz_1024, nz_4096, nz_10000, nz_100000, not_false_eq_true, bI_0, nI_add, pk_mul, nI_lt', nI_le', nI_eq', nI_z, nI_p, nI_e0, nI_l0, nI_le0, nI_clamp, up_eq, up_ne, not_true_eq_false, Classical.not_not, false_implies, true_implies, false_and, and_false, or_true, true_or, Nat.add_zero, pk_m1, m1_0, m1_n, m1_p, Nat.zero_le, forall_const, nI_0, nI_one])
    · rw [bI_f (fun q => absurd ‹i < 0› (Int32.not_lt.mpr q.1))] at h; exact h.2
    · exact h.1
    · rw [bI_f (fun q => absurd q.2 (Int32.not_lt.mpr ‹_›))] at h; exact h.2
    · rw [bI_t ⟨Int32.not_lt.mp ‹_›, Int32.not_le.mp ‹_›⟩] at h; exact h.2
  · exact h.elim
set_option maxRecDepth 20000 in
set_option maxHeartbeats 4000000 in
theorem ok_X7_receive {l : Launch} (hl : l.stackTraces = false) : ab_OkN l yX7_receive (Cond.code yX7_receive cX7_receive 4 none) 2 sp_X7_receive := by
  intro w σ As Kn hI h
  unfold sp_X7_receive at h
  split at h
  · next a i g n =>
    obtain ⟨hw, k, c, ⟨rfl, hc, hk, hc5⟩, h⟩ := h
    refine vc_X7_receive hl hI (ok_X7_has hl) (Nat.le_of_ble_eq_true rfl) (fun M h0 h1 => h0 [.ref a, .int (nI k), .int g, .int n] [] σ ?_)
    have hw' := hw
    unfold wS at hw'
    simp (disch := omega) only [bX7_receive_0, sp_X7_has, hw', hc, q_ci, q_cl, q_ild, q_lld, q_ald, q_ist, q_ast, q_lst, q_inc, q_b2, q_d2, q_u1, q_l2, q_ld2, q_lsh, q_lcmp, q_i2l, q_l2i, q_dupi, q_dupr, q_dup2, q_popi, q_popr, q_if1, q_if2, q_nn, q_sw, q_swn, q_swc, q_gf, q_gr, q_pf, q_pz, q_pc, q_ia, q_is, q_cs, q_zs, q_la, q_lw, q_aa, q_al, q_gs, q_acp, q_m2, q_m1, q_ir, q_zr, q_lr, q_ar, q_vr, q_cN0, q_cSX0, q_cV0, q_cVX0, q_cN1, q_cSX1, q_cV1, q_cVX1, q_cN2, q_cSX2, q_cV2, q_cVX2, q_cN3, q_cSX3, q_cV3, q_cVX3, q_cN4, q_cSX4, q_cV4, q_cVX4, q_cN5, q_cSX5, q_cV5, q_cVX5, q_cN6, q_cSX6, q_cV6, q_cVX6, q_th, q_sh0, q_sh1, q_sh2, q_sh3, q_sh4, q_toL0, q_toL1, q_gl0, q_gls, q_sl0, q_sls, q_k10, q_k1s, q_lgi, q_lgr, q_lgl, q_lgn, Bool.not_false, and_true, true_and, nz_2, nz_4, nz_5, nz_8, nz_10, nz_12, nz_14, nz_16, nz_40, nz_41, nz_64, nz_100, nz_1000, nz_1024, nz_4096, nz_10000, nz_100000, not_false_eq_true, bI_0, nI_add, pk_mul, nI_lt', nI_le', nI_eq', nI_z, nI_p, nI_e0, nI_l0, nI_le0, nI_clamp, up_eq, up_ne, not_true_eq_false, Classical.not_not, false_implies, true_implies, false_and, and_false, or_true, true_or, Nat.add_zero, pk_m1, m1_0, m1_n, m1_p, Nat.zero_le, forall_const]
    repeat' first
      | assumption
      | (refine vp_in_nI ?_ ?_ <;> omega)
      | refine And.intro ?_ ?_
      | (intro (_ : _); first | (exfalso; omega) | skip)
      | (refine h1 _ _ _ ?_; simp (disch := omega) only [bX7_receive_30, q_ci, q_cl, q_ild, q_lld, q_ald, q_ist, q_ast, q_lst, q_inc, q_b2, q_d2, q_u1, q_l2, q_ld2, q_lsh, q_lcmp, q_i2l, q_l2i, q_dupi, q_dupr, q_dup2, q_popi, q_popr, q_if1, q_if2, q_nn, q_sw, q_swn, q_swc, q_gf, q_gr, q_pf, q_pz, q_pc, q_ia, q_is, q_cs, q_zs, q_la, q_lw, q_aa, q_al, q_gs, q_acp, q_m2, q_m1, q_ir, q_zr, q_lr, q_ar, q_vr, q_cN0, q_cSX0, q_cV0, q_cVX0, q_cN1, q_cSX1, q_cV1, q_cVX1, q_cN2, q_cSX2, q_cV2, q_cVX2, q_cN3, q_cSX3, q_cV3, q_cVX3, q_cN4, q_cSX4, q_cV4, q_cVX4, q_cN5, q_cSX5, q_cV5, q_cVX5, q_cN6, q_cSX6, q_cV6, q_cVX6, q_th, q_sh0, q_sh1, q_sh2, q_sh3, q_sh4, q_toL0, q_toL1, q_gl0, q_gls, q_sl0, q_sls, q_k10, q_k1s, q_lgi, q_lgr, q_lgl, q_lgn, Bool.not_false, and_true, true_and, nz_2, nz_4, nz_5, nz_8, nz_10, nz_12, nz_14, nz_16, nz_40, nz_41, nz_64, nz_100, nz_1000, nz_1024, nz_4096, nz_10000, nz_100000, not_false_eq_true, bI_0, nI_add, pk_mul, nI_lt', nI_le', nI_eq', nI_z, nI_p, nI_e0, nI_l0, nI_le0, nI_clamp, up_eq, up_ne, not_true_eq_false, Classical.not_not, false_implies, true_implies, false_and, and_false, or_true, true_or, Nat.add_zero, pk_m1, m1_0, m1_n, m1_p, Nat.zero_le, forall_const, hw'])
  · exact h.elim
set_option maxRecDepth 20000 in
set_option maxHeartbeats 4000000 in
theorem ok_X7_addSondes {l : Launch} (hl : l.stackTraces = false) : ab_OkN l yX7_addSondes (Cond.code yX7_addSondes cX7_addSondes 4 none) 2 sp_X7_addSondes := by
  intro w σ As Kn hI h
  unfold sp_X7_addSondes at h
  split at h
  · next a i j n =>
    obtain ⟨hw, k, c, m, ⟨rfl, hc, hk, hc5⟩, rfl, hm, h⟩ := h
    refine vc_X7_addSondes hl hI (ok_X7_has hl) (ok_X9_within hl) (Nat.le_of_ble_eq_true rfl) (fun M h0 h1 => h0 [.ref a, .int (nI k), .int (nI m), .int n] [] σ ?_)
    unfold wS at hw
    simp (disch := omega) only [bX7_addSondes_0, sp_X7_has, sp_X9_within, hw, hc, q_ci, q_cl, q_ild, q_lld, q_ald, q_ist, q_ast, q_lst, q_inc, q_b2, q_d2, q_u1, q_l2, q_ld2, q_lsh, q_lcmp, q_i2l, q_l2i, q_dupi, q_dupr, q_dup2, q_popi, q_popr, q_if1, q_if2, q_nn, q_sw, q_swn, q_swc, q_gf, q_gr, q_pf, q_pz, q_pc, q_ia, q_is, q_cs, q_zs, q_la, q_lw, q_aa, q_al, q_gs, q_acp, q_m2, q_m1, q_ir, q_zr, q_lr, q_ar, q_vr, q_cN0, q_cSX0, q_cV0, q_cVX0, q_cN1, q_cSX1, q_cV1, q_cVX1, q_cN2, q_cSX2, q_cV2, q_cVX2, q_cN3, q_cSX3, q_cV3, q_cVX3, q_cN4, q_cSX4, q_cV4, q_cVX4, q_cN5, q_cSX5, q_cV5, q_cVX5, q_cN6, q_cSX6, q_cV6, q_cVX6, q_th, q_sh0, q_sh1, q_sh2, q_sh3, q_sh4, q_toL0, q_toL1, q_gl0, q_gls, q_sl0, q_sls, q_k10, q_k1s, q_lgi, q_lgr, q_lgl, q_lgn, Bool.not_false, and_true, true_and, nz_2, nz_4, nz_5, nz_8, nz_10, nz_12, nz_14, nz_16, nz_40, nz_41, nz_64, nz_100, nz_1000, nz_1024, nz_4096, nz_10000, nz_100000, not_false_eq_true, bI_0, nI_add, pk_mul, nI_lt', nI_le', nI_eq', nI_z, nI_p, nI_e0, nI_l0, nI_le0, nI_clamp, up_eq, up_ne, not_true_eq_false, Classical.not_not, false_implies, true_implies, false_and, and_false, or_true, true_or, Nat.add_zero, pk_m1, m1_0, m1_n, m1_p, Nat.zero_le, forall_const]
    repeat' first
      | assumption
      | (refine vp_in_nI ?_ ?_ <;> omega)
      | refine And.intro ?_ ?_
      | (intro (_ : _); first | (exfalso; omega) | skip)
      | (refine h1 _ _ _ ?_; simp (disch := omega) only [bX7_addSondes_31, q_ci, q_cl, q_ild, q_lld, q_ald, q_ist, q_ast, q_lst, q_inc, q_b2, q_d2, q_u1, q_l2, q_ld2, q_lsh, q_lcmp, q_i2l, q_l2i, q_dupi, q_dupr, q_dup2, q_popi, q_popr, q_if1, q_if2, q_nn, q_sw, q_swn, q_swc, q_gf, q_gr, q_pf, q_pz, q_pc, q_ia, q_is, q_cs, q_zs, q_la, q_lw, q_aa, q_al, q_gs, q_acp, q_m2, q_m1, q_ir, q_zr, q_lr, q_ar, q_vr, q_cN0, q_cSX0, q_cV0, q_cVX0, q_cN1, q_cSX1, q_cV1, q_cVX1, q_cN2, q_cSX2, q_cV2, q_cVX2, q_cN3, q_cSX3, q_cV3, q_cVX3, q_cN4, q_cSX4, q_cV4, q_cVX4, q_cN5, q_cSX5, q_cV5, q_cVX5, q_cN6, q_cSX6, q_cV6, q_cVX6, q_th, q_sh0, q_sh1, q_sh2, q_sh3, q_sh4, q_toL0, q_toL1, q_gl0, q_gls, q_sl0, q_sls, q_k10, q_k1s, q_lgi, q_lgr, q_lgl, q_lgn, Bool.not_false, and_true, true_and, nz_2, nz_4, nz_5, nz_8, nz_10, nz_12, nz_14, nz_16, nz_40, nz_41, nz_64, nz_100, nz_1000, nz_1024, nz_4096, nz_10000, nz_100000, not_false_eq_true, bI_0, nI_add, pk_mul, nI_lt', nI_le', nI_eq', nI_z, nI_p, nI_e0, nI_l0, nI_le0, nI_clamp, up_eq, up_ne, not_true_eq_false, Classical.not_not, false_implies, true_implies, false_and, and_false, or_true, true_or, Nat.add_zero, pk_m1, m1_0, m1_n, m1_p, Nat.zero_le, forall_const, hw])
  · exact h.elim
set_option maxRecDepth 20000 in
set_option maxHeartbeats 4000000 in
theorem ok_X7_add {l : Launch} (hl : l.stackTraces = false) : ab_OkN l yX7_add (Cond.code yX7_add cX7_add 4 none) 1 sp_X7_add := by
  intro w σ As Kn hI h
  unfold sp_X7_add at h
  split at h
  · next a p q z =>
    obtain ⟨hw, c, hc, hc5, h⟩ := h
    refine vc_X7_add hl hI (Nat.le_of_ble_eq_true rfl) (fun M h0 h1 => h0 [.ref a, .int p, .int q, .int z] [] σ ?_)
    unfold wS at hw
    simp (disch := omega) only [bX7_add_0, hw, hc, q_ci, q_cl, q_ild, q_lld, q_ald, q_ist, q_ast, q_lst, q_inc, q_b2, q_d2, q_u1, q_l2, q_ld2, q_lsh, q_lcmp, q_i2l, q_l2i, q_dupi, q_dupr, q_dup2, q_popi, q_popr, q_if1, q_if2, q_nn, q_sw, q_swn, q_swc, q_gf, q_gr, q_pf, q_pz, q_pc, q_ia, q_is, q_cs, q_zs, q_la, q_lw, q_aa, q_al, q_gs, q_acp, q_m2, q_m1, q_ir, q_zr, q_lr, q_ar, q_vr, q_cN0, q_cSX0, q_cV0, q_cVX0, q_cN1, q_cSX1, q_cV1, q_cVX1, q_cN2, q_cSX2, q_cV2, q_cVX2, q_cN3, q_cSX3, q_cV3, q_cVX3, q_cN4, q_cSX4, q_cV4, q_cVX4, q_cN5, q_cSX5, q_cV5, q_cVX5, q_cN6, q_cSX6, q_cV6, q_cVX6, q_th, q_sh0, q_sh1, q_sh2, q_sh3, q_sh4, q_toL0, q_toL1, q_gl0, q_gls, q_sl0, q_sls, q_k10, q_k1s, q_lgi, q_lgr, q_lgl, q_lgn, Bool.not_false, and_true, true_and, nz_2, nz_4, nz_5, nz_8, nz_10, nz_12, nz_14, nz_16, nz_40, nz_41, nz_64, nz_100, nz_1000, nz_1024, nz_4096, nz_10000, nz_100000, not_false_eq_true, bI_0, nI_add, pk_mul, nI_lt', nI_le', nI_eq', nI_z, nI_p, nI_e0, nI_l0, nI_le0, nI_clamp, up_eq, up_ne, not_true_eq_false, Classical.not_not, false_implies, true_implies, false_and, and_false, or_true, true_or, Nat.add_zero, pk_m1, m1_0, m1_n, m1_p, Nat.zero_le, forall_const]
    repeat' first
      | assumption
      | (refine vp_in_nI ?_ ?_ <;> omega)
      | refine And.intro ?_ ?_
      | (intro (_ : _); first | (exfalso; omega) | skip)
      | (refine h1 _ _ _ ?_; simp (disch := omega) only [bX7_add_48, q_ci, q_cl, q_ild, q_lld, q_ald, q_ist, q_ast, q_lst, q_inc, q_b2, q_d2, q_u1, q_l2, q_ld2, q_lsh, q_lcmp, q_i2l, q_l2i, q_dupi, q_dupr, q_dup2, q_popi, q_popr, q_if1, q_if2, q_nn, q_sw, q_swn, q_swc, q_gf, q_gr, q_pf, q_pz, q_pc, q_ia, q_is, q_cs, q_zs, q_la, q_lw, q_aa, q_al, q_gs, q_acp, q_m2, q_m1, q_ir, q_zr, q_lr, q_ar, q_vr, q_cN0, q_cSX0, q_cV0, q_cVX0, q_cN1, q_cSX1, q_cV1, q_cVX1, q_cN2, q_cSX2, q_cV2, q_cVX2, q_cN3, q_cSX3, q_cV3, q_cVX3, q_cN4, q_cSX4, q_cV4, q_cVX4, q_cN5, q_cSX5, q_cV5, q_cVX5, q_cN6, q_cSX6, q_cV6, q_cVX6, q_th, q_sh0, q_sh1, q_sh2, q_sh3, q_sh4, q_toL0, q_toL1, q_gl0, q_gls, q_sl0, q_sls, q_k10, q_k1s, q_lgi, q_lgr, q_lgl, q_lgn, Bool.not_false, and_true, true_and, nz_2, nz_4, nz_5, nz_8, nz_10, nz_12, nz_14, nz_16, nz_40, nz_41, nz_64, nz_100, nz_1000, nz_1024, nz_4096, nz_10000, nz_100000, not_false_eq_true, bI_0, nI_add, pk_mul, nI_lt', nI_le', nI_eq', nI_z, nI_p, nI_e0, nI_l0, nI_le0, nI_clamp, up_eq, up_ne, not_true_eq_false, Classical.not_not, false_implies, true_implies, false_and, and_false, or_true, true_or, Nat.add_zero, pk_m1, m1_0, m1_n, m1_p, Nat.zero_le, forall_const, hw])
  · exact h.elim
/-- the number of stations is small -/
def cOK (f : nF) : Prop := f 1 = nI (cl (f 1)) ∧ cl (f 1) ≤ 5
def sp_X7_mostFlownOf : ab_S := fun w As σ K => match As with
  | [.ref a, .int i] => wS w a ∧ ∃ k f, RS σ a f ∧ cOK f ∧ i = nI k ∧ k < cl (f 1) ∧ K (some (.int (oI (n_most f k)))) σ
  | _ => False
def sp_X7_sondesOf : ab_S := fun w As σ K => match As with
  | [.ref a, .int i] => wS w a ∧ ∃ k f, RS σ a f ∧ cOK f ∧ i = nI k ∧ k < cl (f 1) ∧ K (some (.int (n_sondes f k))) σ
  | _ => False
def sp_X7_sondesOfAll : ab_S := fun w As σ K => match As with
  | [.ref a] => wS w a ∧ ∃ f, RS σ a f ∧ cOK f ∧ K (some (.int (n_all f (cl (f 1))))) σ
  | _ => False
def sp_X7_sondesWith : ab_S := fun w As σ K => match As with
  | [.ref a, .int i, .int j] => wS w a ∧ ∃ k m f, RS σ a f ∧ cOK f ∧ i = nI k ∧ k < cl (f 1) ∧ j = nI m ∧ m < 5 ∧ K (some (.int (f (25 + 11 * k + m)))) σ
  | _ => False
theorem RS.st {σ : ab_H} {a : Nat} {f : nF} (h : RS σ a f) {k : Nat} (hk : k < cl (f 1)) : σ (a + 7) (k * 5) = f (25 + 11 * k) ∧ σ (a + 7) (k * 5 + 1) = f (26 + 11 * k) ∧ σ (a + 7) (k * 5 + 2) = f (27 + 11 * k) ∧ σ (a + 7) (k * 5 + 3) = f (28 + 11 * k) ∧ σ (a + 7) (k * 5 + 4) = f (29 + 11 * k) := by
  have h7 := (h.2.1 k hk).2.2.2.2.2.2
  refine ⟨h7 0 (by decide), ?_, ?_, ?_, ?_⟩
  · rw [h7 1 (by decide), show 25 + 11 * k + 1 = 26 + 11 * k by omega]
  · rw [h7 2 (by decide), show 25 + 11 * k + 2 = 27 + 11 * k by omega]
  · rw [h7 3 (by decide), show 25 + 11 * k + 3 = 28 + 11 * k by omega]
  · rw [h7 4 (by decide), show 25 + 11 * k + 4 = 29 + 11 * k by omega]
set_option maxRecDepth 20000 in
set_option maxHeartbeats 4000000 in
theorem ok_X7_mostFlownOf {l : Launch} (hl : l.stackTraces = false) : ab_OkN l yX7_mostFlownOf (Cond.code yX7_mostFlownOf cX7_mostFlownOf 3 (some .int)) 2 sp_X7_mostFlownOf := by
  intro w σ As Kn hI h
  unfold sp_X7_mostFlownOf at h
  split at h
  · next a i =>
    obtain ⟨hw, k, f, hR, ⟨hc, hc5⟩, rfl, hk, h⟩ := h
    have hst := hR.st hk
    have h0c := hR.1.trans hc
    generalize cl (f 1) = c at hk hc5 h0c
    refine vc_X7_mostFlownOf hl hI (ok_X7_has hl) (Nat.le_of_ble_eq_true rfl) (fun M h0 h1 h2 => h0 [.ref a, .int (nI k), .null] [] σ ?_)
    unfold wS at hw
    simp (disch := omega) only [bX7_mostFlownOf_0, q_ci, q_cl, q_ild, q_lld, q_ald, q_ist, q_ast, q_lst, q_inc, q_b2, q_d2, q_u1, q_l2, q_ld2, q_lsh, q_lcmp, q_i2l, q_l2i, q_dupi, q_dupr, q_dup2, q_popi, q_popr, q_if1, q_if2, q_nn, q_sw, q_swn, q_swc, q_gf, q_gr, q_pf, q_pz, q_pc, q_ia, q_is, q_cs, q_zs, q_la, q_lw, q_aa, q_al, q_gs, q_acp, q_m2, q_m1, q_ir, q_zr, q_lr, q_ar, q_vr, q_cN0, q_cSX0, q_cV0, q_cVX0, q_cN1, q_cSX1, q_cV1, q_cVX1, q_cN2, q_cSX2, q_cV2, q_cVX2, q_cN3, q_cSX3, q_cV3, q_cVX3, q_cN4, q_cSX4, q_cV4, q_cVX4, q_cN5, q_cSX5, q_cV5, q_cVX5, q_cN6, q_cSX6, q_cV6, q_cVX6, q_th, q_sh0, q_sh1, q_sh2, q_sh3, q_sh4, q_toL0, q_toL1, q_gl0, q_gls, q_sl0, q_sls, q_k10, q_k1s, q_lgi, q_lgr, q_lgl, q_lgn, Bool.not_false, and_true, true_and, nz_2, nz_4, nz_5, nz_8, nz_10, nz_12, nz_14, nz_16, nz_40, nz_41, nz_64, nz_100, nz_1000, nz_1024, nz_4096, nz_10000, nz_100000, not_false_eq_true, bI_0, nI_add, pk_mul, nI_lt', nI_le', nI_eq', nI_z, nI_p, nI_e0, nI_l0, nI_le0, nI_clamp, up_eq, up_ne, not_true_eq_false, Classical.not_not, false_implies, true_implies, false_and, and_false, or_true, true_or, Nat.add_zero, pk_m1, m1_0, m1_n, m1_p, Nat.zero_le, forall_const]
    repeat' first
      | assumption
      | (refine vp_in_nI ?_ ?_ <;> omega)
      | refine And.intro ?_ ?_
      | (intro (_ : _); first | (exfalso; omega) | skip)
      | (refine h1 _ _ _ ?_; simp (disch := omega) only [bX7_mostFlownOf_2, q_ci, q_cl, q_ild, q_lld, q_ald, q_ist, q_ast, q_lst, q_inc, q_b2, q_d2, q_u1, q_l2, q_ld2, q_lsh, q_lcmp, q_i2l, q_l2i, q_dupi, q_dupr, q_dup2, q_popi, q_popr, q_if1, q_if2, q_nn, q_sw, q_swn, q_swc, q_gf, q_gr, q_pf, q_pz, q_pc, q_ia, q_is, q_cs, q_zs, q_la, q_lw, q_aa, q_al, q_gs, q_acp, q_m2, q_m1, q_ir, q_zr, q_lr, q_ar, q_vr, q_cN0, q_cSX0, q_cV0, q_cVX0, q_cN1, q_cSX1, q_cV1, q_cVX1, q_cN2, q_cSX2, q_cV2, q_cVX2, q_cN3, q_cSX3, q_cV3, q_cVX3, q_cN4, q_cSX4, q_cV4, q_cVX4, q_cN5, q_cSX5, q_cV5, q_cVX5, q_cN6, q_cSX6, q_cV6, q_cVX6, q_th, q_sh0, q_sh1, q_sh2, q_sh3, q_sh4, q_toL0, q_toL1, q_gl0, q_gls, q_sl0, q_sls, q_k10, q_k1s, q_lgi, q_lgr, q_lgl, q_lgn, Bool.not_false, and_true, true_and, nz_2, nz_4, nz_5, nz_8, nz_10, nz_12, nz_14, nz_16, nz_40, nz_41, nz_64, nz_100, nz_1000, nz_1024, nz_4096, nz_10000, nz_100000, not_false_eq_true, bI_0, nI_add, pk_mul, nI_lt', nI_le', nI_eq', nI_z, nI_p, nI_e0, nI_l0, nI_le0, nI_clamp, up_eq, up_ne, not_true_eq_false, Classical.not_not, false_implies, true_implies, false_and, and_false, or_true, true_or, Nat.add_zero, pk_m1, m1_0, m1_n, m1_p, Nat.zero_le, forall_const, sp_X7_has, hw, h0c, hst])
      | (refine h2 _ _ _ ?_; simp (disch := omega) only [bX7_mostFlownOf_35, q_ci, q_cl, q_ild, q_lld, q_ald, q_ist, q_ast, q_lst, q_inc, q_b2, q_d2, q_u1, q_l2, q_ld2, q_lsh, q_lcmp, q_i2l, q_l2i, q_dupi, q_dupr, q_dup2, q_popi, q_popr, q_if1, q_if2, q_nn, q_sw, q_swn, q_swc, q_gf, q_gr, q_pf, q_pz, q_pc, q_ia, q_is, q_cs, q_zs, q_la, q_lw, q_aa, q_al, q_gs, q_acp, q_m2, q_m1, q_ir, q_zr, q_lr, q_ar, q_vr, q_cN0, q_cSX0, q_cV0, q_cVX0, q_cN1, q_cSX1, q_cV1, q_cVX1, q_cN2, q_cSX2, q_cV2, q_cVX2, q_cN3, q_cSX3, q_cV3, q_cVX3, q_cN4, q_cSX4, q_cV4, q_cVX4, q_cN5, q_cSX5, q_cV5, q_cVX5, q_cN6, q_cSX6, q_cV6, q_cVX6, q_th, q_sh0, q_sh1, q_sh2, q_sh3, q_sh4, q_toL0, q_toL1, q_gl0, q_gls, q_sl0, q_sls, q_k10, q_k1s, q_lgi, q_lgr, q_lgl, q_lgn, Bool.not_false, and_true, true_and, nz_2, nz_4, nz_5, nz_8, nz_10, nz_12, nz_14, nz_16, nz_40, nz_41, nz_64, nz_100, nz_1000, nz_1024, nz_4096, nz_10000, nz_100000, not_false_eq_true, bI_0, nI_add, pk_mul, nI_lt', nI_le', nI_eq', nI_z, nI_p, nI_e0, nI_l0, nI_le0, nI_clamp, up_eq, up_ne, not_true_eq_false, Classical.not_not, false_implies, true_implies, false_and, and_false, or_true, true_or, Nat.add_zero, pk_m1, m1_0, m1_n, m1_p, Nat.zero_le, forall_const])
    all_goals (simp only [n_most, ← i32_nle] at h; simp_all [oI])
  · exact h.elim
set_option maxRecDepth 20000 in
set_option maxHeartbeats 4000000 in
theorem ok_X7_sondesOf {l : Launch} (hl : l.stackTraces = false) : ab_OkN l yX7_sondesOf (Cond.code yX7_sondesOf cX7_sondesOf 4 (some .int)) 2 sp_X7_sondesOf := by
  intro w σ As Kn hI h
  unfold sp_X7_sondesOf at h
  split at h
  · next a i =>
    obtain ⟨hw, k, f, hR, ⟨hc, hc5⟩, rfl, hk, h⟩ := h
    have hst := hR.st hk
    have h0c := hR.1.trans hc
    generalize cl (f 1) = c at hk hc5 h0c
    refine vc_X7_sondesOf hl hI (ok_X7_has hl) (Nat.le_of_ble_eq_true rfl) (fun M h0 h1 h2 => h0 [.ref a, .int (nI k), .null, .null] [] σ ?_)
    unfold wS at hw
    simp (disch := omega) only [bX7_sondesOf_0, q_ci, q_cl, q_ild, q_lld, q_ald, q_ist, q_ast, q_lst, q_inc, q_b2, q_d2, q_u1, q_l2, q_ld2, q_lsh, q_lcmp, q_i2l, q_l2i, q_dupi, q_dupr, q_dup2, q_popi, q_popr, q_if1, q_if2, q_nn, q_sw, q_swn, q_swc, q_gf, q_gr, q_pf, q_pz, q_pc, q_ia, q_is, q_cs, q_zs, q_la, q_lw, q_aa, q_al, q_gs, q_acp, q_m2, q_m1, q_ir, q_zr, q_lr, q_ar, q_vr, q_cN0, q_cSX0, q_cV0, q_cVX0, q_cN1, q_cSX1, q_cV1, q_cVX1, q_cN2, q_cSX2, q_cV2, q_cVX2, q_cN3, q_cSX3, q_cV3, q_cVX3, q_cN4, q_cSX4, q_cV4, q_cVX4, q_cN5, q_cSX5, q_cV5, q_cVX5, q_cN6, q_cSX6, q_cV6, q_cVX6, q_th, q_sh0, q_sh1, q_sh2, q_sh3, q_sh4, q_toL0, q_toL1, q_gl0, q_gls, q_sl0, q_sls, q_k10, q_k1s, q_lgi, q_lgr, q_lgl, q_lgn, Bool.not_false, and_true, true_and, nz_2, nz_4, nz_5, nz_8, nz_10, nz_12, nz_14, nz_16, nz_40, nz_41, nz_64, nz_100, nz_1000, nz_1024, nz_4096, nz_10000, nz_100000, not_false_eq_true, bI_0, nI_add, pk_mul, nI_lt', nI_le', nI_eq', nI_z, nI_p, nI_e0, nI_l0, nI_le0, nI_clamp, up_eq, up_ne, not_true_eq_false, Classical.not_not, false_implies, true_implies, false_and, and_false, or_true, true_or, Nat.add_zero, pk_m1, m1_0, m1_n, m1_p, Nat.zero_le, forall_const]
    repeat' first
      | assumption
      | (refine vp_in_nI ?_ ?_ <;> omega)
      | refine And.intro ?_ ?_
      | (intro (_ : _); first | (exfalso; omega) | skip)
      | (refine h1 _ _ _ ?_; simp (disch := omega) only [bX7_sondesOf_4, q_ci, q_cl, q_ild, q_lld, q_ald, q_ist, q_ast, q_lst, q_inc, q_b2, q_d2, q_u1, q_l2, q_ld2, q_lsh, q_lcmp, q_i2l, q_l2i, q_dupi, q_dupr, q_dup2, q_popi, q_popr, q_if1, q_if2, q_nn, q_sw, q_swn, q_swc, q_gf, q_gr, q_pf, q_pz, q_pc, q_ia, q_is, q_cs, q_zs, q_la, q_lw, q_aa, q_al, q_gs, q_acp, q_m2, q_m1, q_ir, q_zr, q_lr, q_ar, q_vr, q_cN0, q_cSX0, q_cV0, q_cVX0, q_cN1, q_cSX1, q_cV1, q_cVX1, q_cN2, q_cSX2, q_cV2, q_cVX2, q_cN3, q_cSX3, q_cV3, q_cVX3, q_cN4, q_cSX4, q_cV4, q_cVX4, q_cN5, q_cSX5, q_cV5, q_cVX5, q_cN6, q_cSX6, q_cV6, q_cVX6, q_th, q_sh0, q_sh1, q_sh2, q_sh3, q_sh4, q_toL0, q_toL1, q_gl0, q_gls, q_sl0, q_sls, q_k10, q_k1s, q_lgi, q_lgr, q_lgl, q_lgn, Bool.not_false, and_true, true_and, nz_2, nz_4, nz_5, nz_8, nz_10, nz_12, nz_14, nz_16, nz_40, nz_41, nz_64, nz_100, nz_1000, nz_1024, nz_4096, nz_10000, nz_100000, not_false_eq_true, bI_0, nI_add, pk_mul, nI_lt', nI_le', nI_eq', nI_z, nI_p, nI_e0, nI_l0, nI_le0, nI_clamp, up_eq, up_ne, not_true_eq_false, Classical.not_not, false_implies, true_implies, false_and, and_false, or_true, true_or, Nat.add_zero, pk_m1, m1_0, m1_n, m1_p, Nat.zero_le, forall_const, sp_X7_has, hw, h0c, hst])
      | (refine h2 _ _ _ ?_; simp (disch := omega) only [bX7_sondesOf_36, q_ci, q_cl, q_ild, q_lld, q_ald, q_ist, q_ast, q_lst, q_inc, q_b2, q_d2, q_u1, q_l2, q_ld2, q_lsh, q_lcmp, q_i2l, q_l2i, q_dupi, q_dupr, q_dup2, q_popi, q_popr, q_if1, q_if2, q_nn, q_sw, q_swn, q_swc, q_gf, q_gr, q_pf, q_pz, q_pc, q_ia, q_is, q_cs, q_zs, q_la, q_lw, q_aa, q_al, q_gs, q_acp, q_m2, q_m1, q_ir, q_zr, q_lr, q_ar, q_vr, q_cN0, q_cSX0, q_cV0, q_cVX0, q_cN1, q_cSX1, q_cV1, q_cVX1, q_cN2, q_cSX2, q_cV2, q_cVX2, q_cN3, q_cSX3, q_cV3, q_cVX3, q_cN4, q_cSX4, q_cV4, q_cVX4, q_cN5, q_cSX5, q_cV5, q_cVX5, q_cN6, q_cSX6, q_cV6, q_cVX6, q_th, q_sh0, q_sh1, q_sh2, q_sh3, q_sh4, q_toL0, q_toL1, q_gl0, q_gls, q_sl0, q_sls, q_k10, q_k1s, q_lgi, q_lgr, q_lgl, q_lgn, Bool.not_false, and_true, true_and, nz_2, nz_4, nz_5, nz_8, nz_10, nz_12, nz_14, nz_16, nz_40, nz_41, nz_64, nz_100, nz_1000, nz_1024, nz_4096, nz_10000, nz_100000, not_false_eq_true, bI_0, nI_add, pk_mul, nI_lt', nI_le', nI_eq', nI_z, nI_p, nI_e0, nI_l0, nI_le0, nI_clamp, up_eq, up_ne, not_true_eq_false, Classical.not_not, false_implies, true_implies, false_and, and_false, or_true, true_or, Nat.add_zero, pk_m1, m1_0, m1_n, m1_p, Nat.zero_le, forall_const])
  · exact h.elim
set_option maxRecDepth 20000 in
set_option maxHeartbeats 4000000 in
theorem ok_X7_sondesOfAll {l : Launch} (hl : l.stackTraces = false) : ab_OkN l yX7_sondesOfAll (Cond.code yX7_sondesOfAll cX7_sondesOfAll 3 (some .int)) 3 sp_X7_sondesOfAll := by
  intro w σ As Kn hI h
  unfold sp_X7_sondesOfAll at h
  split at h
  · next a =>
    obtain ⟨hw, f, hR, hcO, h⟩ := h
    have hc5 := hcO.2
    have h0c := hR.1.trans hcO.1
    have hw0 := hw.1
    refine vc_X7_sondesOfAll hl hI (ok_X7_sondesOf hl) (Nat.le_of_ble_eq_true rfl) (fun M h0 h1 => h0 [.ref a, .null, .null] [] σ ?_)
    have loop : ∀ d j, j + d = cl (f 1) → M 4 [.ref a, .int (n_all f j), .int (nI j)] [] σ := by
      intro d
      induction d with
      | zero =>
        intro j hj
        refine h1 _ _ _ ?_
        simp (disch := omega) only [bX7_sondesOfAll_4, sp_X7_sondesOf, hw0, h0c, q_ci, q_cl, q_ild, q_lld, q_ald, q_ist, q_ast, q_lst, q_inc, q_b2, q_d2, q_u1, q_l2, q_ld2, q_lsh, q_lcmp, q_i2l, q_l2i, q_dupi, q_dupr, q_dup2, q_popi, q_popr, q_if1, q_if2, q_nn, q_sw, q_swn, q_swc, q_gf, q_gr, q_pf, q_pz, q_pc, q_ia, q_is, q_cs, q_zs, q_la, q_lw, q_aa, q_al, q_gs, q_acp, q_m2, q_m1, q_ir, q_zr, q_lr, q_ar, q_vr, q_cN0, q_cSX0, q_cV0, q_cVX0, q_cN1, q_cSX1, q_cV1, q_cVX1, q_cN2, q_cSX2, q_cV2, q_cVX2, q_cN3, q_cSX3, q_cV3, q_cVX3, q_cN4, q_cSX4, q_cV4, q_cVX4, q_cN5, q_cSX5, q_cV5, q_cVX5, q_cN6, q_cSX6, q_cV6, q_cVX6, q_th, q_sh0, q_sh1, q_sh2, q_sh3, q_sh4, q_toL0, q_toL1, q_gl0, q_gls, q_sl0, q_sls, q_k10, q_k1s, q_lgi, q_lgr, q_lgl, q_lgn, Bool.not_false, and_true, true_and, nz_2, nz_4, nz_5, nz_8, nz_10, nz_12, nz_14, nz_16, nz_40, nz_41, nz_64, nz_100, nz_1000, nz_1024, nz_4096, nz_10000, nz_100000, not_false_eq_true, bI_0, nI_add, pk_mul, nI_lt', nI_le', nI_eq', nI_z, nI_p, nI_e0, nI_l0, nI_le0, nI_clamp, up_eq, up_ne, not_true_eq_false, Classical.not_not, false_implies, true_implies, false_and, and_false, or_true, true_or, Nat.add_zero, pk_m1, m1_0, m1_n, m1_p, Nat.zero_le, forall_const]
        repeat' first
          | assumption
          | (refine vp_in_nI ?_ ?_ <;> omega)
          | refine And.intro ?_ ?_
          | (intro (_ : _); first | (exfalso; omega) | skip)
        rw [show j = cl (f 1) by omega]; exact h
      | succ d ih =>
        intro j hj
        refine h1 _ _ _ ?_
        simp (disch := omega) only [bX7_sondesOfAll_4, sp_X7_sondesOf, hw0, h0c, q_ci, q_cl, q_ild, q_lld, q_ald, q_ist, q_ast, q_lst, q_inc, q_b2, q_d2, q_u1, q_l2, q_ld2, q_lsh, q_lcmp, q_i2l, q_l2i, q_dupi, q_dupr, q_dup2, q_popi, q_popr, q_if1, q_if2, q_nn, q_sw, q_swn, q_swc, q_gf, q_gr, q_pf, q_pz, q_pc, q_ia, q_is, q_cs, q_zs, q_la, q_lw, q_aa, q_al, q_gs, q_acp, q_m2, q_m1, q_ir, q_zr, q_lr, q_ar, q_vr, q_cN0, q_cSX0, q_cV0, q_cVX0, q_cN1, q_cSX1, q_cV1, q_cVX1, q_cN2, q_cSX2, q_cV2, q_cVX2, q_cN3, q_cSX3, q_cV3, q_cVX3, q_cN4, q_cSX4, q_cV4, q_cVX4, q_cN5, q_cSX5, q_cV5, q_cVX5, q_cN6, q_cSX6, q_cV6, q_cVX6, q_th, q_sh0, q_sh1, q_sh2, q_sh3, q_sh4, q_toL0, q_toL1, q_gl0, q_gls, q_sl0, q_sls, q_k10, q_k1s, q_lgi, q_lgr, q_lgl, q_lgn, Bool.not_false, and_true, true_and, nz_2, nz_4, nz_5, nz_8, nz_10, nz_12, nz_14, nz_16, nz_40, nz_41, nz_64, nz_100, nz_1000, nz_1024, nz_4096, nz_10000, nz_100000, not_false_eq_true, bI_0, nI_add, pk_mul, nI_lt', nI_le', nI_eq', nI_z, nI_p, nI_e0, nI_l0, nI_le0, nI_clamp, up_eq, up_ne, not_true_eq_false, Classical.not_not, false_implies, true_implies, false_and, and_false, or_true, true_or, Nat.add_zero, pk_m1, m1_0, m1_n, m1_p, Nat.zero_le, forall_const]
        repeat' first
          | assumption
          | (refine vp_in_nI ?_ ?_ <;> omega)
          | refine And.intro ?_ ?_
          | (intro (_ : _); first | (exfalso; omega) | skip)
        · exact ⟨j, f, hR, hcO, rfl, by omega, ih (j + 1) (by omega)⟩
    simp (disch := omega) only [bX7_sondesOfAll_0, q_ci, q_cl, q_ild, q_lld, q_ald, q_ist, q_ast, q_lst, q_inc, q_b2, q_d2, q_u1, q_l2, q_ld2, q_lsh, q_lcmp, q_i2l, q_l2i, q_dupi, q_dupr, q_dup2, q_popi, q_popr, q_if1, q_if2, q_nn, q_sw, q_swn, q_swc, q_gf, q_gr, q_pf, q_pz, q_pc, q_ia, q_is, q_cs, q_zs, q_la, q_lw, q_aa, q_al, q_gs, q_acp, q_m2, q_m1, q_ir, q_zr, q_lr, q_ar, q_vr, q_cN0, q_cSX0, q_cV0, q_cVX0, q_cN1, q_cSX1, q_cV1, q_cVX1, q_cN2, q_cSX2, q_cV2, q_cVX2, q_cN3, q_cSX3, q_cV3, q_cVX3, q_cN4, q_cSX4, q_cV4, q_cVX4, q_cN5, q_cSX5, q_cV5, q_cVX5, q_cN6, q_cSX6, q_cV6, q_cVX6, q_th, q_sh0, q_sh1, q_sh2, q_sh3, q_sh4, q_toL0, q_toL1, q_gl0, q_gls, q_sl0, q_sls, q_k10, q_k1s, q_lgi, q_lgr, q_lgl, q_lgn, Bool.not_false, and_true, true_and, nz_2, nz_4, nz_5, nz_8, nz_10, nz_12, nz_14, nz_16, nz_40, nz_41, nz_64, nz_100, nz_1000, nz_1024, nz_4096, nz_10000, nz_100000, not_false_eq_true, bI_0, nI_add, pk_mul, nI_lt', nI_le', nI_eq', nI_z, nI_p, nI_e0, nI_l0, nI_le0, nI_clamp, up_eq, up_ne, not_true_eq_false, Classical.not_not, false_implies, true_implies, false_and, and_false, or_true, true_or, Nat.add_zero, pk_m1, m1_0, m1_n, m1_p, Nat.zero_le, forall_const]
    repeat' first
      | assumption
      | (refine vp_in_nI ?_ ?_ <;> omega)
      | refine And.intro ?_ ?_
      | (intro (_ : _); first | (exfalso; omega) | skip)
    exact loop (cl (f 1)) 0 (by omega)
  · exact h.elim
set_option maxRecDepth 20000 in
set_option maxHeartbeats 4000000 in
theorem ok_X7_sondesWith {l : Launch} (hl : l.stackTraces = false) : ab_OkN l yX7_sondesWith (Cond.code yX7_sondesWith cX7_sondesWith 4 (some .int)) 2 sp_X7_sondesWith := by
  intro w σ As Kn hI h
  unfold sp_X7_sondesWith at h
  split at h
  · next a i j =>
    obtain ⟨hw, k, m, f, hR, ⟨hc, hc5⟩, rfl, hk, rfl, hm, h⟩ := h
    have hst := (hR.2.1 k hk).2.2.2.2.2.2 m hm
    have h0c := hR.1.trans hc
    generalize cl (f 1) = c at hk hc5 h0c
    refine vc_X7_sondesWith hl hI (ok_X7_has hl) (ok_X9_within hl) (Nat.le_of_ble_eq_true rfl) (fun M h0 h1 h2 h3 => h0 [.ref a, .int (nI k), .int (nI m), .null] [] σ ?_)
    unfold wS at hw
    simp (disch := omega) only [bX7_sondesWith_0, sp_X7_has, sp_X9_within, hw, h0c, q_ci, q_cl, q_ild, q_lld, q_ald, q_ist, q_ast, q_lst, q_inc, q_b2, q_d2, q_u1, q_l2, q_ld2, q_lsh, q_lcmp, q_i2l, q_l2i, q_dupi, q_dupr, q_dup2, q_popi, q_popr, q_if1, q_if2, q_nn, q_sw, q_swn, q_swc, q_gf, q_gr, q_pf, q_pz, q_pc, q_ia, q_is, q_cs, q_zs, q_la, q_lw, q_aa, q_al, q_gs, q_acp, q_m2, q_m1, q_ir, q_zr, q_lr, q_ar, q_vr, q_cN0, q_cSX0, q_cV0, q_cVX0, q_cN1, q_cSX1, q_cV1, q_cVX1, q_cN2, q_cSX2, q_cV2, q_cVX2, q_cN3, q_cSX3, q_cV3, q_cVX3, q_cN4, q_cSX4, q_cV4, q_cVX4, q_cN5, q_cSX5, q_cV5, q_cVX5, q_cN6, q_cSX6, q_cV6, q_cVX6, q_th, q_sh0, q_sh1, q_sh2, q_sh3, q_sh4, q_toL0, q_toL1, q_gl0, q_gls, q_sl0, q_sls, q_k10, q_k1s, q_lgi, q_lgr, q_lgl, q_lgn, Bool.not_false, and_true, true_and, nz_2, nz_4, nz_5, nz_8, nz_10, nz_12, nz_14, nz_16, nz_40, nz_41, nz_64, nz_100, nz_1000, nz_1024, nz_4096, nz_10000, nz_100000, not_false_eq_true, bI_0, nI_add, pk_mul, nI_lt', nI_le', nI_eq', nI_z, nI_p, nI_e0, nI_l0, nI_le0, nI_clamp, up_eq, up_ne, not_true_eq_false, Classical.not_not, false_implies, true_implies, false_and, and_false, or_true, true_or, Nat.add_zero, pk_m1, m1_0, m1_n, m1_p, Nat.zero_le, forall_const]
    repeat' first
      | assumption
      | (refine vp_in_nI ?_ ?_ <;> omega)
      | refine And.intro ?_ ?_
      | (intro (_ : _); first | (exfalso; omega) | skip)
      | (refine h1 _ _ _ ?_; simp (disch := omega) only [bX7_sondesWith_21, q_ci, q_cl, q_ild, q_lld, q_ald, q_ist, q_ast, q_lst, q_inc, q_b2, q_d2, q_u1, q_l2, q_ld2, q_lsh, q_lcmp, q_i2l, q_l2i, q_dupi, q_dupr, q_dup2, q_popi, q_popr, q_if1, q_if2, q_nn, q_sw, q_swn, q_swc, q_gf, q_gr, q_pf, q_pz, q_pc, q_ia, q_is, q_cs, q_zs, q_la, q_lw, q_aa, q_al, q_gs, q_acp, q_m2, q_m1, q_ir, q_zr, q_lr, q_ar, q_vr, q_cN0, q_cSX0, q_cV0, q_cVX0, q_cN1, q_cSX1, q_cV1, q_cVX1, q_cN2, q_cSX2, q_cV2, q_cVX2, q_cN3, q_cSX3, q_cV3, q_cVX3, q_cN4, q_cSX4, q_cV4, q_cVX4, q_cN5, q_cSX5, q_cV5, q_cVX5, q_cN6, q_cSX6, q_cV6, q_cVX6, q_th, q_sh0, q_sh1, q_sh2, q_sh3, q_sh4, q_toL0, q_toL1, q_gl0, q_gls, q_sl0, q_sls, q_k10, q_k1s, q_lgi, q_lgr, q_lgl, q_lgn, Bool.not_false, and_true, true_and, nz_2, nz_4, nz_5, nz_8, nz_10, nz_12, nz_14, nz_16, nz_40, nz_41, nz_64, nz_100, nz_1000, nz_1024, nz_4096, nz_10000, nz_100000, not_false_eq_true, bI_0, nI_add, pk_mul, nI_lt', nI_le', nI_eq', nI_z, nI_p, nI_e0, nI_l0, nI_le0, nI_clamp, up_eq, up_ne, not_true_eq_false, Classical.not_not, false_implies, true_implies, false_and, and_false, or_true, true_or, Nat.add_zero, pk_m1, m1_0, m1_n, m1_p, Nat.zero_le, forall_const])
      | (refine h2 _ _ _ ?_; simp (disch := omega) only [bX7_sondesWith_22, q_ci, q_cl, q_ild, q_lld, q_ald, q_ist, q_ast, q_lst, q_inc, q_b2, q_d2, q_u1, q_l2, q_ld2, q_lsh, q_lcmp, q_i2l, q_l2i, q_dupi, q_dupr, q_dup2, q_popi, q_popr, q_if1, q_if2, q_nn, q_sw, q_swn, q_swc, q_gf, q_gr, q_pf, q_pz, q_pc, q_ia, q_is, q_cs, q_zs, q_la, q_lw, q_aa, q_al, q_gs, q_acp, q_m2, q_m1, q_ir, q_zr, q_lr, q_ar, q_vr, q_cN0, q_cSX0, q_cV0, q_cVX0, q_cN1, q_cSX1, q_cV1, q_cVX1, q_cN2, q_cSX2, q_cV2, q_cVX2, q_cN3, q_cSX3, q_cV3, q_cVX3, q_cN4, q_cSX4, q_cV4, q_cVX4, q_cN5, q_cSX5, q_cV5, q_cVX5, q_cN6, q_cSX6, q_cV6, q_cVX6, q_th, q_sh0, q_sh1, q_sh2, q_sh3, q_sh4, q_toL0, q_toL1, q_gl0, q_gls, q_sl0, q_sls, q_k10, q_k1s, q_lgi, q_lgr, q_lgl, q_lgn, Bool.not_false, and_true, true_and, nz_2, nz_4, nz_5, nz_8, nz_10, nz_12, nz_14, nz_16, nz_40, nz_41, nz_64, nz_100, nz_1000, nz_1024, nz_4096, nz_10000, nz_100000, not_false_eq_true, bI_0, nI_add, pk_mul, nI_lt', nI_le', nI_eq', nI_z, nI_p, nI_e0, nI_l0, nI_le0, nI_clamp, up_eq, up_ne, not_true_eq_false, Classical.not_not, false_implies, true_implies, false_and, and_false, or_true, true_or, Nat.add_zero, pk_m1, m1_0, m1_n, m1_p, Nat.zero_le, forall_const, hw, h0c, hst])
      | (refine h3 _ _ _ ?_; simp (disch := omega) only [bX7_sondesWith_41, q_ci, q_cl, q_ild, q_lld, q_ald, q_ist, q_ast, q_lst, q_inc, q_b2, q_d2, q_u1, q_l2, q_ld2, q_lsh, q_lcmp, q_i2l, q_l2i, q_dupi, q_dupr, q_dup2, q_popi, q_popr, q_if1, q_if2, q_nn, q_sw, q_swn, q_swc, q_gf, q_gr, q_pf, q_pz, q_pc, q_ia, q_is, q_cs, q_zs, q_la, q_lw, q_aa, q_al, q_gs, q_acp, q_m2, q_m1, q_ir, q_zr, q_lr, q_ar, q_vr, q_cN0, q_cSX0, q_cV0, q_cVX0, q_cN1, q_cSX1, q_cV1, q_cVX1, q_cN2, q_cSX2, q_cV2, q_cVX2, q_cN3, q_cSX3, q_cV3, q_cVX3, q_cN4, q_cSX4, q_cV4, q_cVX4, q_cN5, q_cSX5, q_cV5, q_cVX5, q_cN6, q_cSX6, q_cV6, q_cVX6, q_th, q_sh0, q_sh1, q_sh2, q_sh3, q_sh4, q_toL0, q_toL1, q_gl0, q_gls, q_sl0, q_sls, q_k10, q_k1s, q_lgi, q_lgr, q_lgl, q_lgn, Bool.not_false, and_true, true_and, nz_2, nz_4, nz_5, nz_8, nz_10, nz_12, nz_14, nz_16, nz_40, nz_41, nz_64, nz_100, nz_1000, nz_1024, nz_4096, nz_10000, nz_100000, not_false_eq_true, bI_0, nI_add, pk_mul, nI_lt', nI_le', nI_eq', nI_z, nI_p, nI_e0, nI_l0, nI_le0, nI_clamp, up_eq, up_ne, not_true_eq_false, Classical.not_not, false_implies, true_implies, false_and, and_false, or_true, true_or, Nat.add_zero, pk_m1, m1_0, m1_n, m1_p, Nat.zero_le, forall_const])
  · exact h.elim
def sp_X7_nearestTo : ab_S := fun w As σ K => match As with
  | [.ref a, .int i] => wS w a ∧ ∃ v T f, RS σ a f ∧ WFf T f ∧ i = nI v ∧ v ≤ 99 ∧ K (some (.int (oI (n_near f i (cl (f 1)))))) σ
  | _ => False
/-- how far the best one is, so far -/
def lst (f : nF) (i : Int32) (b0 : Nat) (m : Nat) : Option Nat → Int32
  | none => nI 100
  | some b => n_apart (f (b0 + m * b)) i
theorem dst_le {u v : Nat} (hu : u ≤ 99) (hv : v ≤ 99) : dst u v ≤ 99 := by unfold dst; split <;> omega
set_option maxRecDepth 20000 in
set_option maxHeartbeats 4000000 in
theorem ok_X7_nearestTo {l : Launch} (hl : l.stackTraces = false) : ab_OkN l yX7_nearestTo (Cond.code yX7_nearestTo cX7_nearestTo 6 (some .int)) 2 sp_X7_nearestTo := by
  intro w σ As Kn hI h
  unfold sp_X7_nearestTo at h
  split at h
  · next a i =>
    obtain ⟨hw, v, T, f, hR, hW, rfl, hv, h⟩ := h
    obtain ⟨-, -, hc, hc5, -, -, hpl, -⟩ := hW
    have h0c := hR.1.trans hc
    have hrd : ∀ s, s < cl (f 1) → σ (a + 1) s = f (21 + 11 * s) := fun s hs => (hR.2.1 s hs).1
    refine vc_X7_nearestTo hl hI (Nat.le_of_ble_eq_true rfl) (fun M h0 h1 h2 => h0 [.ref a, .int (nI v), .null, .null, .null, .null] [] σ ?_)
    unfold wS at hw
    have loop : ∀ d j (z : Value), j + d = cl (f 1) → M 8 [.ref a, .int (nI v), .int (oI (n_near f (nI v) j)), .int (lst f (nI v) 21 11 (n_near f (nI v) j)), .int (nI j), z] [] σ := by
      intro d
      induction d with
      | zero =>
        intro j z hj
        refine h1 _ _ _ ?_
        simp (disch := omega) only [bX7_nearestTo_8, hw, h0c, q_ci, q_cl, q_ild, q_lld, q_ald, q_ist, q_ast, q_lst, q_inc, q_b2, q_d2, q_u1, q_l2, q_ld2, q_lsh, q_lcmp, q_i2l, q_l2i, q_dupi, q_dupr, q_dup2, q_popi, q_popr, q_if1, q_if2, q_nn, q_sw, q_swn, q_swc, q_gf, q_gr, q_pf, q_pz, q_pc, q_ia, q_is, q_cs, q_zs, q_la, q_lw, q_aa, q_al, q_gs, q_acp, q_m2, q_m1, q_ir, q_zr, q_lr, q_ar, q_vr, q_cN0, q_cSX0, q_cV0, q_cVX0, q_cN1, q_cSX1, q_cV1, q_cVX1, q_cN2, q_cSX2, q_cV2, q_cVX2, q_cN3, q_cSX3, q_cV3, q_cVX3, q_cN4, q_cSX4, q_cV4, q_cVX4, q_cN5, q_cSX5, q_cV5, q_cVX5, q_cN6, q_cSX6, q_cV6, q_cVX6, q_th, q_sh0, q_sh1, q_sh2, q_sh3, q_sh4, q_toL0, q_toL1, q_gl0, q_gls, q_sl0, q_sls, q_k10, q_k1s, q_lgi, q_lgr, q_lgl, q_lgn, Bool.not_false, and_true, true_and, nz_2, nz_4, nz_5, nz_8, nz_10, nz_12, nz_14, nz_16, nz_40, nz_41, nz_64, nz_100, nz_1000, nz_1024, nz_4096, nz_10000, nz_100000, not_false_eq_true, bI_0, nI_add, pk_mul, nI_lt', nI_le', nI_eq', nI_z, nI_p, nI_e0, nI_l0, nI_le0, nI_clamp, up_eq, up_ne, not_true_eq_false, Classical.not_not, false_implies, true_implies, false_and, and_false, or_true, true_or, Nat.add_zero, pk_m1, m1_0, m1_n, m1_p, Nat.zero_le, forall_const]
        repeat' first
          | assumption
          | (refine vp_in_nI ?_ ?_ <;> omega)
          | refine And.intro ?_ ?_
          | (intro (_ : _); first | (exfalso; omega) | skip)
        rw [show j = cl (f 1) by omega]; exact h
      | succ d ih =>
        intro j z hj
        obtain ⟨⟨u, hu, eu⟩, -⟩ := hpl j (by omega)
        refine h1 _ _ _ ?_
        have e1 := hrd j (by omega)
        rw [eu] at e1
        have ih' := fun z => ih (j + 1) z (by omega)
        have hd := dst_le hu hv
        simp (disch := omega) only [bX7_nearestTo_8, hw, h0c, e1, n_dst, q_ci, q_cl, q_ild, q_lld, q_ald, q_ist, q_ast, q_lst, q_inc, q_b2, q_d2, q_u1, q_l2, q_ld2, q_lsh, q_lcmp, q_i2l, q_l2i, q_dupi, q_dupr, q_dup2, q_popi, q_popr, q_if1, q_if2, q_nn, q_sw, q_swn, q_swc, q_gf, q_gr, q_pf, q_pz, q_pc, q_ia, q_is, q_cs, q_zs, q_la, q_lw, q_aa, q_al, q_gs, q_acp, q_m2, q_m1, q_ir, q_zr, q_lr, q_ar, q_vr, q_cN0, q_cSX0, q_cV0, q_cVX0, q_cN1, q_cSX1, q_cV1, q_cVX1, q_cN2, q_cSX2, q_cV2, q_cVX2, q_cN3, q_cSX3, q_cV3, q_cVX3, q_cN4, q_cSX4, q_cV4, q_cVX4, q_cN5, q_cSX5, q_cV5, q_cVX5, q_cN6, q_cSX6, q_cV6, q_cVX6, q_th, q_sh0, q_sh1, q_sh2, q_sh3, q_sh4, q_toL0, q_toL1, q_gl0, q_gls, q_sl0, q_sls, q_k10, q_k1s, q_lgi, q_lgr, q_lgl, q_lgn, Bool.not_false, and_true, true_and, nz_2, nz_4, nz_5, nz_8, nz_10, nz_12, nz_14, nz_16, nz_40, nz_41, nz_64, nz_100, nz_1000, nz_1024, nz_4096, nz_10000, nz_100000, not_false_eq_true, bI_0, nI_add, pk_mul, nI_lt', nI_le', nI_eq', nI_z, nI_p, nI_e0, nI_l0, nI_le0, nI_clamp, up_eq, up_ne, not_true_eq_false, Classical.not_not, false_implies, true_implies, false_and, and_false, or_true, true_or, Nat.add_zero, pk_m1, m1_0, m1_n, m1_p, Nat.zero_le, forall_const]
        cases hn : n_near f (nI v) j with
        | none =>
          rw [n_near, hn] at ih'
          simp only [lst, eu, n_apart_dst (show u < 2 ^ 30 by omega) (show v < 2 ^ 30 by omega)] at ih' ⊢
          simp (disch := omega) only [nI_le']
          repeat' first
            | assumption
            | (refine vp_in_nI ?_ ?_ <;> omega)
            | refine And.intro ?_ ?_
            | (intro (_ : _); first | (exfalso; omega) | skip)
            | (refine h2 _ _ _ ?_; simp (disch := omega) only [bX7_nearestTo_43, q_ci, q_cl, q_ild, q_lld, q_ald, q_ist, q_ast, q_lst, q_inc, q_b2, q_d2, q_u1, q_l2, q_ld2, q_lsh, q_lcmp, q_i2l, q_l2i, q_dupi, q_dupr, q_dup2, q_popi, q_popr, q_if1, q_if2, q_nn, q_sw, q_swn, q_swc, q_gf, q_gr, q_pf, q_pz, q_pc, q_ia, q_is, q_cs, q_zs, q_la, q_lw, q_aa, q_al, q_gs, q_acp, q_m2, q_m1, q_ir, q_zr, q_lr, q_ar, q_vr, q_cN0, q_cSX0, q_cV0, q_cVX0, q_cN1, q_cSX1, q_cV1, q_cVX1, q_cN2, q_cSX2, q_cV2, q_cVX2, q_cN3, q_cSX3, q_cV3, q_cVX3, q_cN4, q_cSX4, q_cV4, q_cVX4, q_cN5, q_cSX5, q_cV5, q_cVX5, q_cN6, q_cSX6, q_cV6, q_cVX6, q_th, q_sh0, q_sh1, q_sh2, q_sh3, q_sh4, q_toL0, q_toL1, q_gl0, q_gls, q_sl0, q_sls, q_k10, q_k1s, q_lgi, q_lgr, q_lgl, q_lgn, Bool.not_false, and_true, true_and, nz_2, nz_4, nz_5, nz_8, nz_10, nz_12, nz_14, nz_16, nz_40, nz_41, nz_64, nz_100, nz_1000, nz_1024, nz_4096, nz_10000, nz_100000, not_false_eq_true, bI_0, nI_add, pk_mul, nI_lt', nI_le', nI_eq', nI_z, nI_p, nI_e0, nI_l0, nI_le0, nI_clamp, up_eq, up_ne, not_true_eq_false, Classical.not_not, false_implies, true_implies, false_and, and_false, or_true, true_or, Nat.add_zero, pk_m1, m1_0, m1_n, m1_p, Nat.zero_le, forall_const])
          all_goals first | exact ih' _ | (exfalso; omega)
        | some b =>
          have hb := n_near_lt j b hn
          obtain ⟨⟨ub, hub, eub⟩, -⟩ := hpl b (by omega)
          have hdb := dst_le hub hv
          rw [n_near, hn] at ih'
          simp only [lst, eu, eub, n_apart_dst (show u < 2 ^ 30 by omega) (show v < 2 ^ 30 by omega), n_apart_dst (show ub < 2 ^ 30 by omega) (show v < 2 ^ 30 by omega)] at ih' ⊢
          simp (disch := omega) only [nI_lt', nI_le'] at ih' ⊢
          by_cases hlt : dst u v < dst ub v
          · rw [if_pos hlt] at ih'
            simp only [eu, n_apart_dst (show u < 2 ^ 30 by omega) (show v < 2 ^ 30 by omega)] at ih'
            repeat' first
              | assumption
              | (refine vp_in_nI ?_ ?_ <;> omega)
              | refine And.intro ?_ ?_
              | (intro (_ : _); first | (exfalso; omega) | skip)
              | (refine h2 _ _ _ ?_; simp (disch := omega) only [bX7_nearestTo_43, q_ci, q_cl, q_ild, q_lld, q_ald, q_ist, q_ast, q_lst, q_inc, q_b2, q_d2, q_u1, q_l2, q_ld2, q_lsh, q_lcmp, q_i2l, q_l2i, q_dupi, q_dupr, q_dup2, q_popi, q_popr, q_if1, q_if2, q_nn, q_sw, q_swn, q_swc, q_gf, q_gr, q_pf, q_pz, q_pc, q_ia, q_is, q_cs, q_zs, q_la, q_lw, q_aa, q_al, q_gs, q_acp, q_m2, q_m1, q_ir, q_zr, q_lr, q_ar, q_vr, q_cN0, q_cSX0, q_cV0, q_cVX0, q_cN1, q_cSX1, q_cV1, q_cVX1, q_cN2, q_cSX2, q_cV2, q_cVX2, q_cN3, q_cSX3, q_cV3, q_cVX3, q_cN4, q_cSX4, q_cV4, q_cVX4, q_cN5, q_cSX5, q_cV5, q_cVX5, q_cN6, q_cSX6, q_cV6, q_cVX6, q_th, q_sh0, q_sh1, q_sh2, q_sh3, q_sh4, q_toL0, q_toL1, q_gl0, q_gls, q_sl0, q_sls, q_k10, q_k1s, q_lgi, q_lgr, q_lgl, q_lgn, Bool.not_false, and_true, true_and, nz_2, nz_4, nz_5, nz_8, nz_10, nz_12, nz_14, nz_16, nz_40, nz_41, nz_64, nz_100, nz_1000, nz_1024, nz_4096, nz_10000, nz_100000, not_false_eq_true, bI_0, nI_add, pk_mul, nI_lt', nI_le', nI_eq', nI_z, nI_p, nI_e0, nI_l0, nI_le0, nI_clamp, up_eq, up_ne, not_true_eq_false, Classical.not_not, false_implies, true_implies, false_and, and_false, or_true, true_or, Nat.add_zero, pk_m1, m1_0, m1_n, m1_p, Nat.zero_le, forall_const])
            all_goals first | exact ih' _ | (exfalso; omega)
          · rw [if_neg hlt] at ih'
            simp only [eub, n_apart_dst (show ub < 2 ^ 30 by omega) (show v < 2 ^ 30 by omega)] at ih'
            repeat' first
              | assumption
              | (refine vp_in_nI ?_ ?_ <;> omega)
              | refine And.intro ?_ ?_
              | (intro (_ : _); first | (exfalso; omega) | skip)
              | (refine h2 _ _ _ ?_; simp (disch := omega) only [bX7_nearestTo_43, q_ci, q_cl, q_ild, q_lld, q_ald, q_ist, q_ast, q_lst, q_inc, q_b2, q_d2, q_u1, q_l2, q_ld2, q_lsh, q_lcmp, q_i2l, q_l2i, q_dupi, q_dupr, q_dup2, q_popi, q_popr, q_if1, q_if2, q_nn, q_sw, q_swn, q_swc, q_gf, q_gr, q_pf, q_pz, q_pc, q_ia, q_is, q_cs, q_zs, q_la, q_lw, q_aa, q_al, q_gs, q_acp, q_m2, q_m1, q_ir, q_zr, q_lr, q_ar, q_vr, q_cN0, q_cSX0, q_cV0, q_cVX0, q_cN1, q_cSX1, q_cV1, q_cVX1, q_cN2, q_cSX2, q_cV2, q_cVX2, q_cN3, q_cSX3, q_cV3, q_cVX3, q_cN4, q_cSX4, q_cV4, q_cVX4, q_cN5, q_cSX5, q_cV5, q_cVX5, q_cN6, q_cSX6, q_cV6, q_cVX6, q_th, q_sh0, q_sh1, q_sh2, q_sh3, q_sh4, q_toL0, q_toL1, q_gl0, q_gls, q_sl0, q_sls, q_k10, q_k1s, q_lgi, q_lgr, q_lgl, q_lgn, Bool.not_false, and_true, true_and, nz_2, nz_4, nz_5, nz_8, nz_10, nz_12, nz_14, nz_16, nz_40, nz_41, nz_64, nz_100, nz_1000, nz_1024, nz_4096, nz_10000, nz_100000, not_false_eq_true, bI_0, nI_add, pk_mul, nI_lt', nI_le', nI_eq', nI_z, nI_p, nI_e0, nI_l0, nI_le0, nI_clamp, up_eq, up_ne, not_true_eq_false, Classical.not_not, false_implies, true_implies, false_and, and_false, or_true, true_or, Nat.add_zero, pk_m1, m1_0, m1_n, m1_p, Nat.zero_le, forall_const])
            all_goals first | exact ih' _ | (exfalso; omega)
    simp (disch := omega) only [bX7_nearestTo_0, q_ci, q_cl, q_ild, q_lld, q_ald, q_ist, q_ast, q_lst, q_inc, q_b2, q_d2, q_u1, q_l2, q_ld2, q_lsh, q_lcmp, q_i2l, q_l2i, q_dupi, q_dupr, q_dup2, q_popi, q_popr, q_if1, q_if2, q_nn, q_sw, q_swn, q_swc, q_gf, q_gr, q_pf, q_pz, q_pc, q_ia, q_is, q_cs, q_zs, q_la, q_lw, q_aa, q_al, q_gs, q_acp, q_m2, q_m1, q_ir, q_zr, q_lr, q_ar, q_vr, q_cN0, q_cSX0, q_cV0, q_cVX0, q_cN1, q_cSX1, q_cV1, q_cVX1, q_cN2, q_cSX2, q_cV2, q_cVX2, q_cN3, q_cSX3, q_cV3, q_cVX3, q_cN4, q_cSX4, q_cV4, q_cVX4, q_cN5, q_cSX5, q_cV5, q_cVX5, q_cN6, q_cSX6, q_cV6, q_cVX6, q_th, q_sh0, q_sh1, q_sh2, q_sh3, q_sh4, q_toL0, q_toL1, q_gl0, q_gls, q_sl0, q_sls, q_k10, q_k1s, q_lgi, q_lgr, q_lgl, q_lgn, Bool.not_false, and_true, true_and, nz_2, nz_4, nz_5, nz_8, nz_10, nz_12, nz_14, nz_16, nz_40, nz_41, nz_64, nz_100, nz_1000, nz_1024, nz_4096, nz_10000, nz_100000, not_false_eq_true, bI_0, nI_add, pk_mul, nI_lt', nI_le', nI_eq', nI_z, nI_p, nI_e0, nI_l0, nI_le0, nI_clamp, up_eq, up_ne, not_true_eq_false, Classical.not_not, false_implies, true_implies, false_and, and_false, or_true, true_or, Nat.add_zero, pk_m1, m1_0, m1_n, m1_p, Nat.zero_le, forall_const]
    repeat' first
      | assumption
      | (refine vp_in_nI ?_ ?_ <;> omega)
      | refine And.intro ?_ ?_
      | (intro (_ : _); first | (exfalso; omega) | skip)
    exact loop (cl (f 1)) 0 _ (by omega)
  · exact h.elim
def sp_X0_add : ab_S := fun w As σ K => match As with
  | [.ref a, .int p, .int h, .int z] => wF w a ∧ ∃ c, σ a 0 = nI c ∧ c < 6 ∧ K none (ab_up (ab_up (ab_up (ab_up σ (a + 1) c p) (a + 2) c h) (a + 3) c z) a 0 (nI (c + 1)))
  | _ => False
def sp_X0_whoFindsAt : ab_S := fun w As σ K => match As with
  | [.ref a, .int i] => wF w a ∧ ∃ v T f, RF σ a f ∧ WFf T f ∧ i = nI v ∧ v ≤ 99 ∧ K (some (.int (oI (n_who f i (cl (f 2)))))) σ
  | _ => False
set_option maxRecDepth 20000 in
set_option maxHeartbeats 4000000 in
theorem ok_X0_add {l : Launch} (hl : l.stackTraces = false) : ab_OkN l yX0_add (Cond.code yX0_add cX0_add 4 none) 1 sp_X0_add := by
  intro w σ As Kn hI h
  unfold sp_X0_add at h
  split at h
  · next a p q z =>
    obtain ⟨hw, c, hc, hc5, h⟩ := h
    refine vc_X0_add hl hI (Nat.le_of_ble_eq_true rfl) (fun M h0 h1 => h0 [.ref a, .int p, .int q, .int z] [] σ ?_)
    unfold wF at hw
    simp (disch := omega) only [bX0_add_0, hw, hc, q_ci, q_cl, q_ild, q_lld, q_ald, q_ist, q_ast, q_lst, q_inc, q_b2, q_d2, q_u1, q_l2, q_ld2, q_lsh, q_lcmp, q_i2l, q_l2i, q_dupi, q_dupr, q_dup2, q_popi, q_popr, q_if1, q_if2, q_nn, q_sw, q_swn, q_swc, q_gf, q_gr, q_pf, q_pz, q_pc, q_ia, q_is, q_cs, q_zs, q_la, q_lw, q_aa, q_al, q_gs, q_acp, q_m2, q_m1, q_ir, q_zr, q_lr, q_ar, q_vr, q_cN0, q_cSX0, q_cV0, q_cVX0, q_cN1, q_cSX1, q_cV1, q_cVX1, q_cN2, q_cSX2, q_cV2, q_cVX2, q_cN3, q_cSX3, q_cV3, q_cVX3, q_cN4, q_cSX4, q_cV4, q_cVX4, q_cN5, q_cSX5, q_cV5, q_cVX5, q_cN6, q_cSX6, q_cV6, q_cVX6, q_th, q_sh0, q_sh1, q_sh2, q_sh3, q_sh4, q_toL0, q_toL1, q_gl0, q_gls, q_sl0, q_sls, q_k10, q_k1s, q_lgi, q_lgr, q_lgl, q_lgn, Bool.not_false, and_true, true_and, nz_2, nz_4, nz_5, nz_8, nz_10, nz_12, nz_14, nz_16, nz_40, nz_41, nz_64, nz_100, nz_1000, nz_1024, nz_4096, nz_10000, nz_100000, not_false_eq_true, bI_0, nI_add, pk_mul, nI_lt', nI_le', nI_eq', nI_z, nI_p, nI_e0, nI_l0, nI_le0, nI_clamp, up_eq, up_ne, not_true_eq_false, Classical.not_not, false_implies, true_implies, false_and, and_false, or_true, true_or, Nat.add_zero, pk_m1, m1_0, m1_n, m1_p, Nat.zero_le, forall_const]
    repeat' first
      | assumption
      | (refine vp_in_nI ?_ ?_ <;> omega)
      | refine And.intro ?_ ?_
      | (intro (_ : _); first | (exfalso; omega) | skip)
      | (refine h1 _ _ _ ?_; simp (disch := omega) only [bX0_add_49, q_ci, q_cl, q_ild, q_lld, q_ald, q_ist, q_ast, q_lst, q_inc, q_b2, q_d2, q_u1, q_l2, q_ld2, q_lsh, q_lcmp, q_i2l, q_l2i, q_dupi, q_dupr, q_dup2, q_popi, q_popr, q_if1, q_if2, q_nn, q_sw, q_swn, q_swc, q_gf, q_gr, q_pf, q_pz, q_pc, q_ia, q_is, q_cs, q_zs, q_la, q_lw, q_aa, q_al, q_gs, q_acp, q_m2, q_m1, q_ir, q_zr, q_lr, q_ar, q_vr, q_cN0, q_cSX0, q_cV0, q_cVX0, q_cN1, q_cSX1, q_cV1, q_cVX1, q_cN2, q_cSX2, q_cV2, q_cVX2, q_cN3, q_cSX3, q_cV3, q_cVX3, q_cN4, q_cSX4, q_cV4, q_cVX4, q_cN5, q_cSX5, q_cV5, q_cVX5, q_cN6, q_cSX6, q_cV6, q_cVX6, q_th, q_sh0, q_sh1, q_sh2, q_sh3, q_sh4, q_toL0, q_toL1, q_gl0, q_gls, q_sl0, q_sls, q_k10, q_k1s, q_lgi, q_lgr, q_lgl, q_lgn, Bool.not_false, and_true, true_and, nz_2, nz_4, nz_5, nz_8, nz_10, nz_12, nz_14, nz_16, nz_40, nz_41, nz_64, nz_100, nz_1000, nz_1024, nz_4096, nz_10000, nz_100000, not_false_eq_true, bI_0, nI_add, pk_mul, nI_lt', nI_le', nI_eq', nI_z, nI_p, nI_e0, nI_l0, nI_le0, nI_clamp, up_eq, up_ne, not_true_eq_false, Classical.not_not, false_implies, true_implies, false_and, and_false, or_true, true_or, Nat.add_zero, pk_m1, m1_0, m1_n, m1_p, Nat.zero_le, forall_const, hw])
  · exact h.elim
set_option maxRecDepth 20000 in
set_option maxHeartbeats 4000000 in
theorem ok_X0_whoFindsAt {l : Launch} (hl : l.stackTraces = false) : ab_OkN l yX0_whoFindsAt (Cond.code yX0_whoFindsAt cX0_whoFindsAt 6 (some .int)) 2 sp_X0_whoFindsAt := by
  intro w σ As Kn hI h
  unfold sp_X0_whoFindsAt at h
  split at h
  · next a i =>
    obtain ⟨hw, v, T, f, hR, hW, rfl, hv, h⟩ := h
    obtain ⟨-, -, -, -, hc, hc5, -, hpl, -⟩ := hW
    have h0c := hR.1.trans hc
    have hrd : ∀ s, s < cl (f 2) → σ (a + 1) s = f (76 + 4 * s) ∧ σ (a + 2) s = f (77 + 4 * s) := fun s hs => ⟨(hR.2.1 s hs).1, (hR.2.1 s hs).2.1⟩
    refine vc_X0_whoFindsAt hl hI (Nat.le_of_ble_eq_true rfl) (fun M h0 h1 h2 => h0 [.ref a, .int (nI v), .null, .null, .null, .null] [] σ ?_)
    unfold wF at hw
    have loop : ∀ d j (z : Value), j + d = cl (f 2) → M 8 [.ref a, .int (nI v), .int (oI (n_who f (nI v) j)), .int (lst f (nI v) 76 4 (n_who f (nI v) j)), .int (nI j), z] [] σ := by
      intro d
      induction d with
      | zero =>
        intro j z hj
        refine h1 _ _ _ ?_
        simp (disch := omega) only [bX0_whoFindsAt_8, hw, h0c, q_ci, q_cl, q_ild, q_lld, q_ald, q_ist, q_ast, q_lst, q_inc, q_b2, q_d2, q_u1, q_l2, q_ld2, q_lsh, q_lcmp, q_i2l, q_l2i, q_dupi, q_dupr, q_dup2, q_popi, q_popr, q_if1, q_if2, q_nn, q_sw, q_swn, q_swc, q_gf, q_gr, q_pf, q_pz, q_pc, q_ia, q_is, q_cs, q_zs, q_la, q_lw, q_aa, q_al, q_gs, q_acp, q_m2, q_m1, q_ir, q_zr, q_lr, q_ar, q_vr, q_cN0, q_cSX0, q_cV0, q_cVX0, q_cN1, q_cSX1, q_cV1, q_cVX1, q_cN2, q_cSX2, q_cV2, q_cVX2, q_cN3, q_cSX3, q_cV3, q_cVX3, q_cN4, q_cSX4, q_cV4, q_cVX4, q_cN5, q_cSX5, q_cV5, q_cVX5, q_cN6, q_cSX6, q_cV6, q_cVX6, q_th, q_sh0, q_sh1, q_sh2, q_sh3, q_sh4, q_toL0, q_toL1, q_gl0, q_gls, q_sl0, q_sls, q_k10, q_k1s, q_lgi, q_lgr, q_lgl, q_lgn, Bool.not_false, and_true, true_and, nz_2, nz_4, nz_5, nz_8, nz_10, nz_12, nz_14, nz_16, nz_40, nz_41, nz_64, nz_100, nz_1000, nz_1024, nz_4096, nz_10000, nz_100000, not_false_eq_true, bI_0, nI_add, pk_mul, nI_lt', nI_le', nI_eq', nI_z, nI_p, nI_e0, nI_l0, nI_le0, nI_clamp, up_eq, up_ne, not_true_eq_false, Classical.not_not, false_implies, true_implies, false_and, and_false, or_true, true_or, Nat.add_zero, pk_m1, m1_0, m1_n, m1_p, Nat.zero_le, forall_const]
        repeat' first
          | assumption
          | (refine vp_in_nI ?_ ?_ <;> omega)
          | refine And.intro ?_ ?_
          | (intro (_ : _); first | (exfalso; omega) | skip)
        rw [show j = cl (f 2) by omega]; exact h
      | succ d ih =>
        intro j z hj
        obtain ⟨⟨u, hu, eu⟩, ⟨rc, hrc, erc⟩, -⟩ := hpl j (by omega)
        refine h1 _ _ _ ?_
        obtain ⟨e1, e2⟩ := hrd j (by omega)
        rw [eu] at e1
        rw [erc] at e2
        have ih' := fun z => ih (j + 1) z (by omega)
        have hd := dst_le hu hv
        simp (disch := omega) only [bX0_whoFindsAt_8, hw, h0c, e1, e2, n_dst, q_ci, q_cl, q_ild, q_lld, q_ald, q_ist, q_ast, q_lst, q_inc, q_b2, q_d2, q_u1, q_l2, q_ld2, q_lsh, q_lcmp, q_i2l, q_l2i, q_dupi, q_dupr, q_dup2, q_popi, q_popr, q_if1, q_if2, q_nn, q_sw, q_swn, q_swc, q_gf, q_gr, q_pf, q_pz, q_pc, q_ia, q_is, q_cs, q_zs, q_la, q_lw, q_aa, q_al, q_gs, q_acp, q_m2, q_m1, q_ir, q_zr, q_lr, q_ar, q_vr, q_cN0, q_cSX0, q_cV0, q_cVX0, q_cN1, q_cSX1, q_cV1, q_cVX1, q_cN2, q_cSX2, q_cV2, q_cVX2, q_cN3, q_cSX3, q_cV3, q_cVX3, q_cN4, q_cSX4, q_cV4, q_cVX4, q_cN5, q_cSX5, q_cV5, q_cVX5, q_cN6, q_cSX6, q_cV6, q_cVX6, q_th, q_sh0, q_sh1, q_sh2, q_sh3, q_sh4, q_toL0, q_toL1, q_gl0, q_gls, q_sl0, q_sls, q_k10, q_k1s, q_lgi, q_lgr, q_lgl, q_lgn, Bool.not_false, and_true, true_and, nz_2, nz_4, nz_5, nz_8, nz_10, nz_12, nz_14, nz_16, nz_40, nz_41, nz_64, nz_100, nz_1000, nz_1024, nz_4096, nz_10000, nz_100000, not_false_eq_true, bI_0, nI_add, pk_mul, nI_lt', nI_le', nI_eq', nI_z, nI_p, nI_e0, nI_l0, nI_le0, nI_clamp, up_eq, up_ne, not_true_eq_false, Classical.not_not, false_implies, true_implies, false_and, and_false, or_true, true_or, Nat.add_zero, pk_m1, m1_0, m1_n, m1_p, Nat.zero_le, forall_const]
        cases hn : n_who f (nI v) j with
        | none =>
          rw [n_who, hn] at ih'
          simp only [eu, erc, n_apart_dst (show u < 2 ^ 30 by omega) (show v < 2 ^ 30 by omega)] at ih'
          simp (disch := omega) only [nI_le'] at ih'
          simp (disch := omega) only [lst, nI_le']
          by_cases hlt : dst u v ≤ rc
          · rw [if_pos hlt] at ih'
            simp only [lst, eu, n_apart_dst (show u < 2 ^ 30 by omega) (show v < 2 ^ 30 by omega)] at ih'
            repeat' first
              | assumption
              | (refine vp_in_nI ?_ ?_ <;> omega)
              | refine And.intro ?_ ?_
              | (intro (_ : _); first | (exfalso; omega) | skip)
              | (refine h2 _ _ _ ?_; simp (disch := omega) only [bX0_whoFindsAt_55, q_ci, q_cl, q_ild, q_lld, q_ald, q_ist, q_ast, q_lst, q_inc, q_b2, q_d2, q_u1, q_l2, q_ld2, q_lsh, q_lcmp, q_i2l, q_l2i, q_dupi, q_dupr, q_dup2, q_popi, q_popr, q_if1, q_if2, q_nn, q_sw, q_swn, q_swc, q_gf, q_gr, q_pf, q_pz, q_pc, q_ia, q_is, q_cs, q_zs, q_la, q_lw, q_aa, q_al, q_gs, q_acp, q_m2, q_m1, q_ir, q_zr, q_lr, q_ar, q_vr, q_cN0, q_cSX0, q_cV0, q_cVX0, q_cN1, q_cSX1, q_cV1, q_cVX1, q_cN2, q_cSX2, q_cV2, q_cVX2, q_cN3, q_cSX3, q_cV3, q_cVX3, q_cN4, q_cSX4, q_cV4, q_cVX4, q_cN5, q_cSX5, q_cV5, q_cVX5, q_cN6, q_cSX6, q_cV6, q_cVX6, q_th, q_sh0, q_sh1, q_sh2, q_sh3, q_sh4, q_toL0, q_toL1, q_gl0, q_gls, q_sl0, q_sls, q_k10, q_k1s, q_lgi, q_lgr, q_lgl, q_lgn, Bool.not_false, and_true, true_and, nz_2, nz_4, nz_5, nz_8, nz_10, nz_12, nz_14, nz_16, nz_40, nz_41, nz_64, nz_100, nz_1000, nz_1024, nz_4096, nz_10000, nz_100000, not_false_eq_true, bI_0, nI_add, pk_mul, nI_lt', nI_le', nI_eq', nI_z, nI_p, nI_e0, nI_l0, nI_le0, nI_clamp, up_eq, up_ne, not_true_eq_false, Classical.not_not, false_implies, true_implies, false_and, and_false, or_true, true_or, Nat.add_zero, pk_m1, m1_0, m1_n, m1_p, Nat.zero_le, forall_const])
            all_goals first | exact ih' _ | (exfalso; omega)
          · rw [if_neg hlt] at ih'
            simp only [lst] at ih'
            repeat' first
              | assumption
              | (refine vp_in_nI ?_ ?_ <;> omega)
              | refine And.intro ?_ ?_
              | (intro (_ : _); first | (exfalso; omega) | skip)
              | (refine h2 _ _ _ ?_; simp (disch := omega) only [bX0_whoFindsAt_55, q_ci, q_cl, q_ild, q_lld, q_ald, q_ist, q_ast, q_lst, q_inc, q_b2, q_d2, q_u1, q_l2, q_ld2, q_lsh, q_lcmp, q_i2l, q_l2i, q_dupi, q_dupr, q_dup2, q_popi, q_popr, q_if1, q_if2, q_nn, q_sw, q_swn, q_swc, q_gf, q_gr, q_pf, q_pz, q_pc, q_ia, q_is, q_cs, q_zs, q_la, q_lw, q_aa, q_al, q_gs, q_acp, q_m2, q_m1, q_ir, q_zr, q_lr, q_ar, q_vr, q_cN0, q_cSX0, q_cV0, q_cVX0, q_cN1, q_cSX1, q_cV1, q_cVX1, q_cN2, q_cSX2, q_cV2, q_cVX2, q_cN3, q_cSX3, q_cV3, q_cVX3, q_cN4, q_cSX4, q_cV4, q_cVX4, q_cN5, q_cSX5, q_cV5, q_cVX5, q_cN6, q_cSX6, q_cV6, q_cVX6, q_th, q_sh0, q_sh1, q_sh2, q_sh3, q_sh4, q_toL0, q_toL1, q_gl0, q_gls, q_sl0, q_sls, q_k10, q_k1s, q_lgi, q_lgr, q_lgl, q_lgn, Bool.not_false, and_true, true_and, nz_2, nz_4, nz_5, nz_8, nz_10, nz_12, nz_14, nz_16, nz_40, nz_41, nz_64, nz_100, nz_1000, nz_1024, nz_4096, nz_10000, nz_100000, not_false_eq_true, bI_0, nI_add, pk_mul, nI_lt', nI_le', nI_eq', nI_z, nI_p, nI_e0, nI_l0, nI_le0, nI_clamp, up_eq, up_ne, not_true_eq_false, Classical.not_not, false_implies, true_implies, false_and, and_false, or_true, true_or, Nat.add_zero, pk_m1, m1_0, m1_n, m1_p, Nat.zero_le, forall_const])
            all_goals first | exact ih' _ | (exfalso; omega)
        | some b =>
          have hb := n_who_lt j b hn
          obtain ⟨⟨ub, hub, eub⟩, -⟩ := hpl b (by omega)
          have hdb := dst_le hub hv
          rw [n_who, hn] at ih'
          simp only [eu, eub, erc, n_apart_dst (show u < 2 ^ 30 by omega) (show v < 2 ^ 30 by omega), n_apart_dst (show ub < 2 ^ 30 by omega) (show v < 2 ^ 30 by omega)] at ih'
          simp (disch := omega) only [nI_lt', nI_le'] at ih'
          simp only [lst, eub, n_apart_dst (show ub < 2 ^ 30 by omega) (show v < 2 ^ 30 by omega)]
          simp (disch := omega) only [nI_lt', nI_le']
          by_cases hlt : dst u v ≤ rc ∧ dst u v < dst ub v
          · rw [if_pos hlt] at ih'
            simp only [lst, eu, n_apart_dst (show u < 2 ^ 30 by omega) (show v < 2 ^ 30 by omega)] at ih'
            repeat' first
              | assumption
              | (refine vp_in_nI ?_ ?_ <;> omega)
              | refine And.intro ?_ ?_
              | (intro (_ : _); first | (exfalso; omega) | skip)
              | (refine h2 _ _ _ ?_; simp (disch := omega) only [bX0_whoFindsAt_55, q_ci, q_cl, q_ild, q_lld, q_ald, q_ist, q_ast, q_lst, q_inc, q_b2, q_d2, q_u1, q_l2, q_ld2, q_lsh, q_lcmp, q_i2l, q_l2i, q_dupi, q_dupr, q_dup2, q_popi, q_popr, q_if1, q_if2, q_nn, q_sw, q_swn, q_swc, q_gf, q_gr, q_pf, q_pz, q_pc, q_ia, q_is, q_cs, q_zs, q_la, q_lw, q_aa, q_al, q_gs, q_acp, q_m2, q_m1, q_ir, q_zr, q_lr, q_ar, q_vr, q_cN0, q_cSX0, q_cV0, q_cVX0, q_cN1, q_cSX1, q_cV1, q_cVX1, q_cN2, q_cSX2, q_cV2, q_cVX2, q_cN3, q_cSX3, q_cV3, q_cVX3, q_cN4, q_cSX4, q_cV4, q_cVX4, q_cN5, q_cSX5, q_cV5, q_cVX5, q_cN6, q_cSX6, q_cV6, q_cVX6, q_th, q_sh0, q_sh1, q_sh2, q_sh3, q_sh4, q_toL0, q_toL1, q_gl0, q_gls, q_sl0, q_sls, q_k10, q_k1s, q_lgi, q_lgr, q_lgl, q_lgn, Bool.not_false, and_true, true_and, nz_2, nz_4, nz_5, nz_8, nz_10, nz_12, nz_14, nz_16, nz_40, nz_41, nz_64, nz_100, nz_1000, nz_1024, nz_4096, nz_10000, nz_100000, not_false_eq_true, bI_0, nI_add, pk_mul, nI_lt', nI_le', nI_eq', nI_z, nI_p, nI_e0, nI_l0, nI_le0, nI_clamp, up_eq, up_ne, not_true_eq_false, Classical.not_not, false_implies, true_implies, false_and, and_false, or_true, true_or, Nat.add_zero, pk_m1, m1_0, m1_n, m1_p, Nat.zero_le, forall_const])
            all_goals first | exact ih' _ | (exfalso; omega)
          · rw [if_neg hlt] at ih'
            simp only [lst, eub, n_apart_dst (show ub < 2 ^ 30 by omega) (show v < 2 ^ 30 by omega)] at ih'
            repeat' first
              | assumption
              | (refine vp_in_nI ?_ ?_ <;> omega)
              | refine And.intro ?_ ?_
              | (intro (_ : _); first | (exfalso; omega) | skip)
              | (refine h2 _ _ _ ?_; simp (disch := omega) only [bX0_whoFindsAt_55, q_ci, q_cl, q_ild, q_lld, q_ald, q_ist, q_ast, q_lst, q_inc, q_b2, q_d2, q_u1, q_l2, q_ld2, q_lsh, q_lcmp, q_i2l, q_l2i, q_dupi, q_dupr, q_dup2, q_popi, q_popr, q_if1, q_if2, q_nn, q_sw, q_swn, q_swc, q_gf, q_gr, q_pf, q_pz, q_pc, q_ia, q_is, q_cs, q_zs, q_la, q_lw, q_aa, q_al, q_gs, q_acp, q_m2, q_m1, q_ir, q_zr, q_lr, q_ar, q_vr, q_cN0, q_cSX0, q_cV0, q_cVX0, q_cN1, q_cSX1, q_cV1, q_cVX1, q_cN2, q_cSX2, q_cV2, q_cVX2, q_cN3, q_cSX3, q_cV3, q_cVX3, q_cN4, q_cSX4, q_cV4, q_cVX4, q_cN5, q_cSX5, q_cV5, q_cVX5, q_cN6, q_cSX6, q_cV6, q_cVX6, q_th, q_sh0, q_sh1, q_sh2, q_sh3, q_sh4, q_toL0, q_toL1, q_gl0, q_gls, q_sl0, q_sls, q_k10, q_k1s, q_lgi, q_lgr, q_lgl, q_lgn, Bool.not_false, and_true, true_and, nz_2, nz_4, nz_5, nz_8, nz_10, nz_12, nz_14, nz_16, nz_40, nz_41, nz_64, nz_100, nz_1000, nz_1024, nz_4096, nz_10000, nz_100000, not_false_eq_true, bI_0, nI_add, pk_mul, nI_lt', nI_le', nI_eq', nI_z, nI_p, nI_e0, nI_l0, nI_le0, nI_clamp, up_eq, up_ne, not_true_eq_false, Classical.not_not, false_implies, true_implies, false_and, and_false, or_true, true_or, Nat.add_zero, pk_m1, m1_0, m1_n, m1_p, Nat.zero_le, forall_const])
            all_goals first | exact ih' _ | (exfalso; omega)
    simp (disch := omega) only [bX0_whoFindsAt_0, q_ci, q_cl, q_ild, q_lld, q_ald, q_ist, q_ast, q_lst, q_inc, q_b2, q_d2, q_u1, q_l2, q_ld2, q_lsh, q_lcmp, q_i2l, q_l2i, q_dupi, q_dupr, q_dup2, q_popi, q_popr, q_if1, q_if2, q_nn, q_sw, q_swn, q_swc, q_gf, q_gr, q_pf, q_pz, q_pc, q_ia, q_is, q_cs, q_zs, q_la, q_lw, q_aa, q_al, q_gs, q_acp, q_m2, q_m1, q_ir, q_zr, q_lr, q_ar, q_vr, q_cN0, q_cSX0, q_cV0, q_cVX0, q_cN1, q_cSX1, q_cV1, q_cVX1, q_cN2, q_cSX2, q_cV2, q_cVX2, q_cN3, q_cSX3, q_cV3, q_cVX3, q_cN4, q_cSX4, q_cV4, q_cVX4, q_cN5, q_cSX5, q_cV5, q_cVX5, q_cN6, q_cSX6, q_cV6, q_cVX6, q_th, q_sh0, q_sh1, q_sh2, q_sh3, q_sh4, q_toL0, q_toL1, q_gl0, q_gls, q_sl0, q_sls, q_k10, q_k1s, q_lgi, q_lgr, q_lgl, q_lgn, Bool.not_false, and_true, true_and, nz_2, nz_4, nz_5, nz_8, nz_10, nz_12, nz_14, nz_16, nz_40, nz_41, nz_64, nz_100, nz_1000, nz_1024, nz_4096, nz_10000, nz_100000, not_false_eq_true, bI_0, nI_add, pk_mul, nI_lt', nI_le', nI_eq', nI_z, nI_p, nI_e0, nI_l0, nI_le0, nI_clamp, up_eq, up_ne, not_true_eq_false, Classical.not_not, false_implies, true_implies, false_and, and_false, or_true, true_or, Nat.add_zero, pk_m1, m1_0, m1_n, m1_p, Nat.zero_le, forall_const]
    repeat' first
      | assumption
      | (refine vp_in_nI ?_ ?_ <;> omega)
      | refine And.intro ?_ ?_
      | (intro (_ : _); first | (exfalso; omega) | skip)
    exact loop (cl (f 2)) 0 _ (by omega)
  · exact h.elim
