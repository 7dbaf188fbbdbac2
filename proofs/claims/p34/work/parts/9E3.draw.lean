/-! a draw of the script: some number of 31 bits -/
theorem and_nn (x : Int32) : ∃ u, u < 2 ^ 31 ∧ x &&& nI 2147483647 = nI u := by
  have hm : (x &&& nI 2147483647).toBitVec.msb = false := by
    rw [Int32.toBitVec_and, BitVec.msb_and, show (nI 2147483647).toBitVec.msb = false by decide +kernel, Bool.and_false]
  have hl : (x &&& nI 2147483647).toBitVec.toNat < 2 ^ 31 := BitVec.toNat_lt_of_msb_false hm
  refine ⟨_, hl, Int32.toInt_inj.mp ?_⟩
  rw [nI_toInt hl]
  exact BitVec.toInt_eq_toNat_of_msb hm
def sp_L_draw : la_S := fun As A K => match As with
  | [.ref a, .int x] => a = 2 ∧ (∃ j, x = nI j ∧ j < 2 ^ 31) ∧ ∀ u, u < 2 ^ 31 → K (some (.int (nI u))) A
  | _ => False
set_option maxRecDepth 20000 in
set_option maxHeartbeats 4000000 in
theorem ok_L_draw {l : Launch} (hl : l.stackTraces = false) : la_Ok l yL_draw (Cond.code yL_draw cL_draw 2 (some .int)) 1 (30 * 1) 0 sp_L_draw := by
  intro Y A As K hw h
  unfold sp_L_draw at h
  split at h
  rotate_left 1
  · exact h.elim
  next a x =>
  refine vc_L_draw hl hw  (Nat.le_of_ble_eq_true rfl) (fun M h0 h20 => ?_)
  show M 0 [.ref a, .int x] [] (A, 0)
  obtain ⟨rfl, ⟨j, rfl, hj⟩, h⟩ := h
  have H20 : ∀ x, M 20 [.ref 2, .int (nI j)] [.int x] (A, 0) := fun x => by
    obtain ⟨u, hu, e⟩ := and_nn x
    refine h20 _ _ _ ?_
    simp (disch := omega) only [bL_draw_20, e, ql_ci, ql_cl, ql_ild, ql_lld, ql_ald, ql_ist, ql_lst, ql_inc, ql_b2, ql_d2, ql_u1, ql_l2, ql_ld2, ql_lsh, ql_lcmp, ql_i2l, ql_l2i, ql_popi, ql_if1, ql_if2, ql_sw, ql_swn, ql_swc, ql_cN0, ql_cN1, ql_cN2, ql_cN3, ql_cN4, ql_cN5, ql_cN6, ql_cV, ql_ir, ql_zr, ql_lr, q_sh0, q_sh1, q_sh2, q_sh3, q_sh4, q_toL0, q_toL1, q_gl0, q_gls, q_sl0, q_sls, q_k10, q_k1s, q_lgi, q_lgr, q_lgl, q_lgn, pk_div, pk_rem, pk_rm, Bool.not_false, and_true, true_and, nz_2, nz_4, nz_5, nz_8, nz_10, nz_12, nz_14, nz_16, nz_40, nz_41, nz_64, nz_100, nz_1000, nz_1024, nz_4096, nz_10000, nz_100000, not_false_eq_true, lup_eq, lup_up, lup_self, lgc_lt, lgc_gt, lgc_le, lgc_ge, lgc_eq, lr_a1, lr_i1, lr_s1, lr_a2, lr_s2, lr_s3, lr_0, t32, v_about_st, v_about_fi, bI_0, nI_add, pk_mul, nI_lt', nI_le', nI_eq', nI_z, nI_p, nI_e0, nI_l0, nI_le0, nI_clamp, up_eq, up_ne, not_true_eq_false, Classical.not_not, false_implies, true_implies, false_and, and_false, or_true, true_or, Nat.add_zero, pk_m1, m1_0, m1_n, m1_p, Nat.zero_le, forall_const, Nat.zero_add, Nat.reduceAdd, Nat.reduceEqDiff, or_false, false_or, Nat.one_ne_zero]
    exact h u hu
  refine h0 _ _ _ ?_
  simp (disch := omega) only [bL_draw_0, ql_aln, ql_ci, ql_cl, ql_ild, ql_lld, ql_ald, ql_ist, ql_lst, ql_inc, ql_b2, ql_d2, ql_u1, ql_l2, ql_ld2, ql_lsh, ql_lcmp, ql_i2l, ql_l2i, ql_popi, ql_if1, ql_if2, ql_sw, ql_swn, ql_swc, ql_cN0, ql_cN1, ql_cN2, ql_cN3, ql_cN4, ql_cN5, ql_cN6, ql_cV, ql_ir, ql_zr, ql_lr, q_sh0, q_sh1, q_sh2, q_sh3, q_sh4, q_toL0, q_toL1, q_gl0, q_gls, q_sl0, q_sls, q_k10, q_k1s, q_lgi, q_lgr, q_lgl, q_lgn, pk_div, pk_rem, pk_rm, Bool.not_false, and_true, true_and, nz_2, nz_4, nz_5, nz_8, nz_10, nz_12, nz_14, nz_16, nz_40, nz_41, nz_64, nz_100, nz_1000, nz_1024, nz_4096, nz_10000, nz_100000, not_false_eq_true, lup_eq, lup_up, lup_self, lgc_lt, lgc_gt, lgc_le, lgc_ge, lgc_eq, lr_a1, lr_i1, lr_s1, lr_a2, lr_s2, lr_s3, lr_0, t32, v_about_st, v_about_fi, bI_0, nI_add, pk_mul, nI_lt', nI_le', nI_eq', nI_z, nI_p, nI_e0, nI_l0, nI_le0, nI_clamp, up_eq, up_ne, not_true_eq_false, Classical.not_not, false_implies, true_implies, false_and, and_false, or_true, true_or, Nat.add_zero, pk_m1, m1_0, m1_n, m1_p, Nat.zero_le, forall_const, Nat.zero_add, Nat.reduceAdd, Nat.reduceEqDiff, or_false, false_or, Nat.one_ne_zero]
  intro n hn
  refine ⟨fun _ => H20 _, fun q => ?_⟩
  have q' : j < n := by
    rw [nI_le' (by omega) (by omega)] at q
    omega
  rw [ql_scr q' hn]
  exact fun x => H20 x
/-! the calls of the law's own body -/
section QA
variable {A : Nat → aS} {K : Option Value → (Nat → aS) → Prop} {i u v j k : Nat}
theorem nI_ix (hu : u < 2 ^ 31) (hv : v < 2 ^ 31) (h : nI u = nI v) : u = v := by
  have := congrArg cl h
  rwa [cl_nI hu, cl_nI hv] at this
theorem qa_draw (hj : j < 2 ^ 31) : sp_L_draw [.ref 2, .int (nI j)] A K = ∀ u, u < 2 ^ 31 → K (some (.int (nI u))) A :=
  propext ⟨fun h => h.2.2, fun h => ⟨rfl, ⟨j, rfl, hj⟩, h⟩⟩
theorem qa_alike (h0 : okA (A 0)) (h1 : A 1 = A 0) (hv : v < 2 ^ 31) : sp_L_alike [.ref 0, .ref 1, .int (nI v)] A K = K (some (.int (nI 1))) A :=
  propext ⟨fun h => by obtain ⟨-, -, -, -, u, -, -, h⟩ := h; exact h, fun h => ⟨by decide, by decide, h0, h1, v, rfl, hv, h⟩⟩
theorem qa_errors (hi : i < 2) (h0 : GB k (A i)) (hk : k < 1000) : sp_L_errors [.ref i] A K = K (some (.int (nI 1))) A :=
  propext ⟨fun h => h.2.2, fun h => ⟨hi, ⟨k, h0, hk⟩, h⟩⟩
theorem qa_kept (hi : i < 2) (h0 : GB k (A i)) (hk : k < 1000) : sp_L_kept [.ref i] A K = K (some (.int (nI 1))) A :=
  propext ⟨fun h => h.2.2, fun h => ⟨hi, ⟨k, h0, hk⟩, h⟩⟩
theorem qa_act (hi : i < 2) (h0 : okA (A i)) (hu : u < 2 ^ 31) (hv : v < 2 ^ 31) : sp_L_act [.ref i, .int (nI u), .int (nI v)] A K = K (some (.long (actR u v (A i)).1)) (lup A i (actR u v (A i)).2) :=
  propext ⟨fun h => by
    obtain ⟨-, -, u', v', e1, e2, q1, q2, h⟩ := h
    obtain rfl := nI_ix hu q1 e1
    obtain rfl := nI_ix hv q2 e2
    exact h, fun h => ⟨hi, h0, u, v, rfl, rfl, hu, hv, h⟩⟩
theorem qa_tells (hi : i < 2) (h0 : okA (A i)) (hm : aM (A i) ≤ 120) (hu : u < 2 ^ 31) (hv : v < 2 ^ 31) : sp_L_tells [.ref i, .int (nI u), .int (nI v)] A K = K (some (.int (nI 1))) (lup A i (tellA u v (A i))) :=
  propext ⟨fun h => by
    obtain ⟨-, -, -, u', v', e1, e2, q1, q2, h⟩ := h
    obtain rfl := nI_ix hu q1 e1
    obtain rfl := nI_ix hv q2 e2
    exact h, fun h => ⟨hi, h0, hm, u, v, rfl, rfl, hu, hv, h⟩⟩
theorem qa_follows (hi : i < 2) (h0 : GB k (A i)) (hk : k < 900) (hu : u < 2 ^ 31) : sp_L_follows [.ref i, .int (nI u)] A K = K (some (.int (nI 1))) (lup A i (sS (A i) [])) :=
  propext ⟨fun h => by
    obtain ⟨-, -, u', -, -, h⟩ := h
    exact h, fun h => ⟨hi, ⟨k, h0, hk⟩, u, rfl, hu, h⟩⟩
theorem qa_load (hi : i < 2) (h0 : okA (A i)) : sp_L_load [.ref i] A K = K (some (.long (lr [x_st] (c_load (A i))))) (lup A i (c_load (A i)).2.2) :=
  propext ⟨fun h => h.2.2, fun h => ⟨hi, h0, h⟩⟩
theorem qa_save (hi : i < 2) (h0 : okA (A i)) : sp_L_save [.ref i, .int (nI 1)] A K = K (some (.long ((A i).1.1 0).toInt64)) (lup A i (sS (A i) (A i).2.1)) := by
  refine propext ⟨fun h => ?_, fun h => ⟨hi, h0, ?_⟩⟩
  · have := h.2.2
    rw [sv_save] at this
    exact this
  · rw [sv_save]; exact h
theorem qa_restore {a : aS} {mem : List nT} (hi : i < 2) (h0 : okA (A i)) (e : A i = sS a mem) : sp_L_restore [.ref i, .int (nI 1)] A K = K (some (.long (a.1.1 0).toInt64)) (lup A i (sS a [])) := by
  refine propext ⟨fun h => ?_, fun h => ⟨hi, h0, ?_⟩⟩
  · have := h.2.2
    rw [e, rs_1] at this
    exact this
  · rw [e, rs_1]; exact h
end QA
