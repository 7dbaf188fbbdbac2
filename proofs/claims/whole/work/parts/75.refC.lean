theorem zl1 : (0 < (1 : Nat)) = True := by decide
theorem zl2 : (0 < (2 : Nat)) = True := by decide
theorem zl3 : (0 < (3 : Nat)) = True := by decide
/-! THE REFERENCE'S STATE AS A VALUE -/
def dSl (σ : ab_H) (i : Nat) (o : Option nT) : Prop := match o with
  | none => σ 15 i = 0
  | some n => σ 15 i = 1 ∧ RM (fun j => σ 14 (304 * i + j)) n
def dMem (σ : ab_H) (ms : List nT) : Prop := ms.length ≤ 14 ∧ σ 8 10 = nI ms.length ∧ ∀ k x, ms[k]? = some x → RM (fun i => σ 13 (304 * k + i)) x
def RD (σ : ab_H) (A : aS) : Prop := RM (σ 11) A.1 ∧ dMem σ A.2.1 ∧ dSl σ 0 A.2.2.1 ∧ dSl σ 1 A.2.2.2.1 ∧ dT σ (aT A) (aM A) ∧ σ 8 2 = nI (aM A)
/-- a call that changes what the state doesn't show -/
def FD (σ σ' : ab_H) : Prop := (∀ v, v ≠ 8 → v ≠ 10 → v ≠ 12 → σ' v = σ v) ∧ ∀ k, k ≠ 3 → k ≠ 4 → k ≠ 5 → k ≠ 13 → k ≠ 14 → σ' 8 k = σ 8 k
theorem FD.refl {σ : ab_H} : FD σ σ := ⟨fun _ _ _ _ => rfl, fun _ _ _ _ _ _ => rfl⟩
theorem FD.trans {σ σ' σ2 : ab_H} (h : FD σ σ') (g : FD σ' σ2) : FD σ σ2 := ⟨fun v h1 h2 h3 => by rw [g.1 v h1 h2 h3, h.1 v h1 h2 h3], fun k a b c d e => by rw [g.2 k a b c d e, h.2 k a b c d e]⟩
theorem FD.frb {σ σ' : ab_H} (h : FD σ σ') : FrB σ σ' := fun v hv => h.1 v (by omega) (by omega) (by omega)
theorem FrB.trans {σ σ' σ2 : ab_H} (h : FrB σ σ') (g : FrB σ' σ2) : FrB σ σ2 := fun v hv => by rw [g v hv, h v hv]
theorem dSl.of {σ σ' : ab_H} {i : Nat} {o : Option nT} (h : dSl σ i o) (e14 : σ' 14 = σ 14) (e15 : σ' 15 i = σ 15 i) : dSl σ' i o := by
  unfold dSl at h ⊢; rw [e14, e15]; exact h
theorem dMem.of {σ σ' : ab_H} {ms : List nT} (h : dMem σ ms) (e13 : σ' 13 = σ 13) (e8 : σ' 8 10 = σ 8 10) : dMem σ' ms := by
  unfold dMem at h ⊢; rw [e13, e8]; exact h
theorem dT.of {σ σ' : ab_H} {t : Nat → Nat} {m : Nat} (h : dT σ t m) (e : σ' 9 = σ 9) : dT σ' t m := by unfold dT at h ⊢; rw [e]; exact h
theorem RD.of {σ σ' : ab_H} {A : aS} (h : RD σ A) (e : ∀ v, v = 9 ∨ v = 11 ∨ v = 13 ∨ v = 14 ∨ v = 15 → σ' v = σ v) (e8 : ∀ k, k = 2 ∨ k = 10 → σ' 8 k = σ 8 k) : RD σ' A := by
  obtain ⟨q1, q2, q3, q4, q5, q6⟩ := h
  exact ⟨by rw [e 11 (by omega)]; exact q1, q2.of (e 13 (by omega)) (e8 10 (by omega)), q3.of (e 14 (by omega)) (by rw [e 15 (by omega)]), q4.of (e 14 (by omega)) (by rw [e 15 (by omega)]), q5.of (e 9 (by omega)), by rw [e8 2 (by omega)]; exact q6⟩
theorem FD.rd {σ σ' : ab_H} {A : aS} (h : FD σ σ') (hA : RD σ A) : RD σ' A := hA.of (fun v hv => h.1 v (by omega) (by omega) (by omega)) (fun k hk => h.2 k (by omega) (by omega) (by omega) (by omega) (by omega))
theorem RD.z {σ : ab_H} {A : aS} (h : RD σ A) (x : Int32) : RD (ab_up σ 8 0 x) A := h.of (fun v hv => up_ne (by omega)) (fun k hk => up_nep (by omega))
theorem FrB.z {σ : ab_H} (x : Int32) : FrB σ (ab_up σ 8 0 x) := fun v hv => up_ne (by omega)
def sdA (w : ab_W) (σ : ab_H) (c : aS → cR) (K : Option Value → ab_H → Prop) : Prop := wD w ∧ ∃ A T, RD σ A ∧ WA T A ∧ T < 60000 ∧ ∀ σ' v, RD σ' (c A).2.2 → FrB σ σ' → σ' 8 0 = nI (c A).1 → ((c A).1 = 0 → v = (c A).2.1) → K (some (.int v)) σ'
/-- a row is seen below 304 -/
theorem RM.cg {r q : nF} {f : nF} {O : List nO} {B G : List nB} (h : RM r (f, O, B, G)) (hO : O.length ≤ 8) (hB : B.length ≤ 150) (hG : G.length ≤ 12) (e : ∀ i, i < 304 → q i = r i) : RM q (f, O, B, G) :=
  RM.mk (fun i h1 h2 h3 h4 => (e i (by omega)).trans (h.1 i h1 h2 h3 h4)) ((e 10 (by omega)).trans h.2.1) ((e 9 (by omega)).trans h.2.2.1) ((e 11 (by omega)).trans h.2.2.2.1) (fun k x q => (h.o k x q).of (fun j j1 j2 => e j (by have := getq q; omega))) (fun k x q => (e _ (by have := getq q; omega)).trans (h.b k x q)) (fun k x q => (e _ (by have := getq q; omega)).trans (h.g k x q))
theorem ne_c {e : Nat} {P : Prop} (q : e + 1 = 0) : P := absurd q (Nat.succ_ne_zero e)
theorem RM.cq {r q : nF} {n : nT} {T : Nat} (h : RM r n) (hW : WF T n) (hT : T < 100000) (e : ∀ i, i < 304 → q i = r i) : RM q n := by
  have hq := hW.q hT
  exact RM.cg h hq.2.2.2.2.2.1 hq.2.2.2.2.2.2.2.1 hq.2.2.2.2.2.2.2.2.2.1 e
def sp_X10_tryIt : ab_S := fun w As σ K => match As with
  | [.ref a] => a = 8 ∧ wD w ∧ ∀ σ', (∀ n T, WF T n → T < 100000 → RM (σ 11) n → RM (σ' 12) n) → FD σ σ' → σ' 8 13 = -1 → K none σ'
  | _ => False
set_option maxRecDepth 20000 in
set_option maxHeartbeats 4000000 in
theorem ok_X10_tryIt {l : Launch} (hl : l.stackTraces = false) : ab_OkN l yX10_tryIt (Cond.code yX10_tryIt cX10_tryIt 1 none) 2 sp_X10_tryIt := by
  intro w σ As Kn hI h
  unfold sp_X10_tryIt at h
  split at h
  rotate_left 1
  · exact h.elim
  next a =>
    obtain ⟨rfl, hw, h⟩ := h
    obtain ⟨k8, k9, l9, -, ⟨k11, l11⟩, ⟨k12, l12⟩, -⟩ := id hw
    refine vc_X10_tryIt hl hI (ok_X10_copy hl) (Nat.le_of_ble_eq_true rfl) (fun M h0 => h0 [.ref 8] [] σ ?_)
    simp (disch := omega) only [bX10_tryIt_0, sp_X10_copy, k8, q_ci, q_cl, q_ild, q_lld, q_ald, q_ist, q_ast, q_lst, q_inc, q_b2, q_d2, q_u1, q_l2, q_ld2, q_lsh, q_lcmp, q_i2l, q_l2i, q_dupi, q_dupr, q_dup2, q_popi, q_popr, q_if1, q_if2, q_nn, q_sw, q_swn, q_swc, q_gf, q_gr, q_pf, q_pz, q_pc, q_ia, q_is, q_cs, q_zs, q_la, q_lw, q_aa, q_al, q_gs, q_acp, q_m2, q_m1, q_ir, q_zr, q_lr, q_ar, q_vr, q_cN0, q_cSX0, q_cV0, q_cVX0, q_cN1, q_cSX1, q_cV1, q_cVX1, q_cN2, q_cSX2, q_cV2, q_cVX2, q_cN3, q_cSX3, q_cV3, q_cVX3, q_cN4, q_cSX4, q_cV4, q_cVX4, q_cN5, q_cSX5, q_cV5, q_cVX5, q_cN6, q_cSX6, q_cV6, q_cVX6, q_th, q_sh0, q_sh1, q_sh2, q_sh3, q_sh4, q_toL0, q_toL1, q_gl0, q_gls, q_sl0, q_sls, q_k10, q_k1s, q_lgi, q_lgr, q_lgl, q_lgn, Bool.not_false, and_true, true_and, nz_2, nz_4, nz_5, nz_8, nz_10, nz_12, nz_14, nz_16, nz_40, nz_41, nz_64, nz_100, nz_1000, nz_1024, nz_4096, nz_10000, nz_100000, not_false_eq_true, bI_0, nI_add, pk_mul, nI_lt', nI_le', nI_eq', nI_z, nI_p, nI_e0, nI_l0, nI_le0, nI_clamp, up_eq, up_ne, not_true_eq_false, Classical.not_not, false_implies, true_implies, false_and, and_false, or_true, true_or, Nat.add_zero, pk_m1, m1_0, m1_n, m1_p, Nat.zero_le, forall_const, Nat.zero_add, Nat.reduceAdd, Nat.reduceEqDiff, or_false, false_or, Nat.one_ne_zero, l64_2, l64_3, l64_4, l64_5, l64_7, l64_9, l64_10, l64_11, l64_15, l64_20, l64_30, l64_40, l64_60, l64_99, l64_255, l64_999, le64l, le64r, le64b, le64n, rset_eq, rset_upd, rset_rset, upd_nep, upd_eqp, ix21_4k, ix21_1, ix21_2, ix21_3, ix21_4, ix21_5, ix21_6, ix21_7, ix21_8, ix21_9, ix21_10, ix76_1, ix76_2, ix76_3, ix100_1, ix100_2, ix100_3, Nat.lt_irrefl, zl1, zl2, zl3, implies_true]
    refine ⟨0, 0, 304, rfl, rfl, rfl, k11, k12, by omega, by omega, by omega, by omega, by decide, ?_⟩
    refine h _ (fun n T hW hT hR => ?_) ⟨fun v h1 h2 h3 => ?_, fun k k1 k2 k3 k4 k5 => ?_⟩ ?_
    · rw [up_ne (by decide), rset_eq]
      refine hR.cq hW hT (fun i hi => ?_)
      unfold cpy; rw [if_pos (by omega)]; congr 1; omega
    · rw [up_ne h1, rset_ne h3]
    · rw [up_nep k4, rset_ne (by decide)]
    · exact up_eqp rfl rfl
set_option maxRecDepth 20000 in
set_option maxHeartbeats 4000000 in
theorem cd_X10_windOf {l : Launch} (hl : l.stackTraces = false) {w : ab_W} {σ : ab_H} {Kn : Option Value → ab_H → Prop} {Kx : String → ab_H → Prop} (hI : ab_Inj w) (h' : Int32) (h : sdA w σ (c_windOf h') Kn) : ab_Met l yX10_windOf (Cond.code yX10_windOf cX10_windOf 2 (some .int)) 3 0 w σ [.ref 8, .int h'] Kn Kx := by
  obtain ⟨hw, A, T, hA, hW, hT, hn⟩ := h
  obtain ⟨k8, k9, l9, ⟨k10, l10⟩, ⟨k11, l11⟩, ⟨k12, l12⟩, k13, l13, k14, l14, k15, l15⟩ := id hw
  have hcO := hW.1.cOK
  have hc51 := hcO.2
  have hR := hA.1
  have hr := hR.1
  have hwR : wR w 11 := ⟨k11, l11⟩
  have z0 : ∀ x, RD (ab_up σ 8 0 x) A := fun x => hA.z x
  have zF : ∀ x, FrB σ (ab_up σ 8 0 x) := fun x => FrB.z x
  have z8 : ∀ x, ab_up σ 8 0 x 8 0 = x := fun x => up_eqp rfl rfl
  refine vc_X10_windOf hl hI (ok_X10_isHour hl) (ok_X10_refused hl) (Nat.le_of_ble_eq_true rfl) (fun M h0 h13 => h0 [.ref 8, .int h'] [] σ ?_)
  by_cases hb : bt2 (nI 0) h' (nI 3)
  · obtain ⟨k, -, hk, rfl⟩ := ab_lo (a := 0) (b := 3) (by omega) (by omega) hb.1 hb.2
    have hc : c_windOf (nI k) A = (0, nI 100 + A.1.1 (17 + k), A) := by unfold c_windOf; rw [if_pos hb, cl_nI (by omega)]
    rw [hc] at hn
    have hn := hn _ _ (z0 (nI 0)) (zF _) (z8 _) (fun _ => rfl)
    have v1 : vp_in (nI (17 + k)) 304 := vp_in_nI (by omega) (by omega)
    have f13 : M 13 [.ref 8, .int (nI k)] [.int (nI 0), .ref 8] σ := by
      refine h13 _ _ _ ?_
      simp (disch := omega) only [bX10_windOf_13, sp_X10_refused, k8, k11, l11, hr, q_ci, q_cl, q_ild, q_lld, q_ald, q_ist, q_ast, q_lst, q_inc, q_b2, q_d2, q_u1, q_l2, q_ld2, q_lsh, q_lcmp, q_i2l, q_l2i, q_dupi, q_dupr, q_dup2, q_popi, q_popr, q_if1, q_if2, q_nn, q_sw, q_swn, q_swc, q_gf, q_gr, q_pf, q_pz, q_pc, q_ia, q_is, q_cs, q_zs, q_la, q_lw, q_aa, q_al, q_gs, q_acp, q_m2, q_m1, q_ir, q_zr, q_lr, q_ar, q_vr, q_cN0, q_cSX0, q_cV0, q_cVX0, q_cN1, q_cSX1, q_cV1, q_cVX1, q_cN2, q_cSX2, q_cV2, q_cVX2, q_cN3, q_cSX3, q_cV3, q_cVX3, q_cN4, q_cSX4, q_cV4, q_cVX4, q_cN5, q_cSX5, q_cV5, q_cVX5, q_cN6, q_cSX6, q_cV6, q_cVX6, q_th, q_sh0, q_sh1, q_sh2, q_sh3, q_sh4, q_toL0, q_toL1, q_gl0, q_gls, q_sl0, q_sls, q_k10, q_k1s, q_lgi, q_lgr, q_lgl, q_lgn, Bool.not_false, and_true, true_and, nz_2, nz_4, nz_5, nz_8, nz_10, nz_12, nz_14, nz_16, nz_40, nz_41, nz_64, nz_100, nz_1000, nz_1024, nz_4096, nz_10000, nz_100000, not_false_eq_true, bI_0, nI_add, pk_mul, nI_lt', nI_le', nI_eq', nI_z, nI_p, nI_e0, nI_l0, nI_le0, nI_clamp, up_eq, up_ne, not_true_eq_false, Classical.not_not, false_implies, true_implies, false_and, and_false, or_true, true_or, Nat.add_zero, pk_m1, m1_0, m1_n, m1_p, Nat.zero_le, forall_const, Nat.zero_add, Nat.reduceAdd, Nat.reduceEqDiff, or_false, false_or, Nat.one_ne_zero, l64_2, l64_3, l64_4, l64_5, l64_7, l64_9, l64_10, l64_11, l64_15, l64_20, l64_30, l64_40, l64_60, l64_99, l64_255, l64_999, le64l, le64r, le64b, le64n, rset_eq, rset_upd, rset_rset, upd_nep, upd_eqp, ix21_4k, ix21_1, ix21_2, ix21_3, ix21_4, ix21_5, ix21_6, ix21_7, ix21_8, ix21_9, ix21_10, ix76_1, ix76_2, ix76_3, ix100_1, ix100_2, ix100_3, Nat.lt_irrefl, zl1, zl2, zl3, implies_true]
      exact ⟨v1, hn⟩
    simp (disch := omega) only [bX10_windOf_0, sp_X10_isHour, q_ci, q_cl, q_ild, q_lld, q_ald, q_ist, q_ast, q_lst, q_inc, q_b2, q_d2, q_u1, q_l2, q_ld2, q_lsh, q_lcmp, q_i2l, q_l2i, q_dupi, q_dupr, q_dup2, q_popi, q_popr, q_if1, q_if2, q_nn, q_sw, q_swn, q_swc, q_gf, q_gr, q_pf, q_pz, q_pc, q_ia, q_is, q_cs, q_zs, q_la, q_lw, q_aa, q_al, q_gs, q_acp, q_m2, q_m1, q_ir, q_zr, q_lr, q_ar, q_vr, q_cN0, q_cSX0, q_cV0, q_cVX0, q_cN1, q_cSX1, q_cV1, q_cVX1, q_cN2, q_cSX2, q_cV2, q_cVX2, q_cN3, q_cSX3, q_cV3, q_cVX3, q_cN4, q_cSX4, q_cV4, q_cVX4, q_cN5, q_cSX5, q_cV5, q_cVX5, q_cN6, q_cSX6, q_cV6, q_cVX6, q_th, q_sh0, q_sh1, q_sh2, q_sh3, q_sh4, q_toL0, q_toL1, q_gl0, q_gls, q_sl0, q_sls, q_k10, q_k1s, q_lgi, q_lgr, q_lgl, q_lgn, Bool.not_false, and_true, true_and, nz_2, nz_4, nz_5, nz_8, nz_10, nz_12, nz_14, nz_16, nz_40, nz_41, nz_64, nz_100, nz_1000, nz_1024, nz_4096, nz_10000, nz_100000, not_false_eq_true, bI_0, nI_add, pk_mul, nI_lt', nI_le', nI_eq', nI_z, nI_p, nI_e0, nI_l0, nI_le0, nI_clamp, up_eq, up_ne, not_true_eq_false, Classical.not_not, false_implies, true_implies, false_and, and_false, or_true, true_or, Nat.add_zero, pk_m1, m1_0, m1_n, m1_p, Nat.zero_le, forall_const, Nat.zero_add, Nat.reduceAdd, Nat.reduceEqDiff, or_false, false_or, Nat.one_ne_zero, l64_2, l64_3, l64_4, l64_5, l64_7, l64_9, l64_10, l64_11, l64_15, l64_20, l64_30, l64_40, l64_60, l64_99, l64_255, l64_999, le64l, le64r, le64b, le64n, rset_eq, rset_upd, rset_rset, upd_nep, upd_eqp, ix21_4k, ix21_1, ix21_2, ix21_3, ix21_4, ix21_5, ix21_6, ix21_7, ix21_8, ix21_9, ix21_10, ix76_1, ix76_2, ix76_3, ix100_1, ix100_2, ix100_3, Nat.lt_irrefl, zl1, zl2, zl3, implies_true]
    exact ⟨fun q => absurd hb q, fun _ => f13⟩
  · have hc : c_windOf h' A = (1, 0, A) := if_neg hb
    rw [hc] at hn
    have hn := hn _ (nI 0) (z0 (nI 1)) (zF _) (z8 _) (fun q => ne_c q)
    have f13 : M 13 [.ref 8, .int h'] [.int (nI 1), .ref 8] σ := by
      refine h13 _ _ _ ?_
      simp (disch := omega) only [bX10_windOf_13, sp_X10_refused, k8, q_ci, q_cl, q_ild, q_lld, q_ald, q_ist, q_ast, q_lst, q_inc, q_b2, q_d2, q_u1, q_l2, q_ld2, q_lsh, q_lcmp, q_i2l, q_l2i, q_dupi, q_dupr, q_dup2, q_popi, q_popr, q_if1, q_if2, q_nn, q_sw, q_swn, q_swc, q_gf, q_gr, q_pf, q_pz, q_pc, q_ia, q_is, q_cs, q_zs, q_la, q_lw, q_aa, q_al, q_gs, q_acp, q_m2, q_m1, q_ir, q_zr, q_lr, q_ar, q_vr, q_cN0, q_cSX0, q_cV0, q_cVX0, q_cN1, q_cSX1, q_cV1, q_cVX1, q_cN2, q_cSX2, q_cV2, q_cVX2, q_cN3, q_cSX3, q_cV3, q_cVX3, q_cN4, q_cSX4, q_cV4, q_cVX4, q_cN5, q_cSX5, q_cV5, q_cVX5, q_cN6, q_cSX6, q_cV6, q_cVX6, q_th, q_sh0, q_sh1, q_sh2, q_sh3, q_sh4, q_toL0, q_toL1, q_gl0, q_gls, q_sl0, q_sls, q_k10, q_k1s, q_lgi, q_lgr, q_lgl, q_lgn, Bool.not_false, and_true, true_and, nz_2, nz_4, nz_5, nz_8, nz_10, nz_12, nz_14, nz_16, nz_40, nz_41, nz_64, nz_100, nz_1000, nz_1024, nz_4096, nz_10000, nz_100000, not_false_eq_true, bI_0, nI_add, pk_mul, nI_lt', nI_le', nI_eq', nI_z, nI_p, nI_e0, nI_l0, nI_le0, nI_clamp, up_eq, up_ne, not_true_eq_false, Classical.not_not, false_implies, true_implies, false_and, and_false, or_true, true_or, Nat.add_zero, pk_m1, m1_0, m1_n, m1_p, Nat.zero_le, forall_const, Nat.zero_add, Nat.reduceAdd, Nat.reduceEqDiff, or_false, false_or, Nat.one_ne_zero, l64_2, l64_3, l64_4, l64_5, l64_7, l64_9, l64_10, l64_11, l64_15, l64_20, l64_30, l64_40, l64_60, l64_99, l64_255, l64_999, le64l, le64r, le64b, le64n, rset_eq, rset_upd, rset_rset, upd_nep, upd_eqp, ix21_4k, ix21_1, ix21_2, ix21_3, ix21_4, ix21_5, ix21_6, ix21_7, ix21_8, ix21_9, ix21_10, ix76_1, ix76_2, ix76_3, ix100_1, ix100_2, ix100_3, Nat.lt_irrefl, zl1, zl2, zl3, implies_true]
      first
        | exact hn
        | exact ⟨fun q => absurd (by omega) q, fun _ => hn⟩
    simp (disch := omega) only [bX10_windOf_0, sp_X10_isHour, q_ci, q_cl, q_ild, q_lld, q_ald, q_ist, q_ast, q_lst, q_inc, q_b2, q_d2, q_u1, q_l2, q_ld2, q_lsh, q_lcmp, q_i2l, q_l2i, q_dupi, q_dupr, q_dup2, q_popi, q_popr, q_if1, q_if2, q_nn, q_sw, q_swn, q_swc, q_gf, q_gr, q_pf, q_pz, q_pc, q_ia, q_is, q_cs, q_zs, q_la, q_lw, q_aa, q_al, q_gs, q_acp, q_m2, q_m1, q_ir, q_zr, q_lr, q_ar, q_vr, q_cN0, q_cSX0, q_cV0, q_cVX0, q_cN1, q_cSX1, q_cV1, q_cVX1, q_cN2, q_cSX2, q_cV2, q_cVX2, q_cN3, q_cSX3, q_cV3, q_cVX3, q_cN4, q_cSX4, q_cV4, q_cVX4, q_cN5, q_cSX5, q_cV5, q_cVX5, q_cN6, q_cSX6, q_cV6, q_cVX6, q_th, q_sh0, q_sh1, q_sh2, q_sh3, q_sh4, q_toL0, q_toL1, q_gl0, q_gls, q_sl0, q_sls, q_k10, q_k1s, q_lgi, q_lgr, q_lgl, q_lgn, Bool.not_false, and_true, true_and, nz_2, nz_4, nz_5, nz_8, nz_10, nz_12, nz_14, nz_16, nz_40, nz_41, nz_64, nz_100, nz_1000, nz_1024, nz_4096, nz_10000, nz_100000, not_false_eq_true, bI_0, nI_add, pk_mul, nI_lt', nI_le', nI_eq', nI_z, nI_p, nI_e0, nI_l0, nI_le0, nI_clamp, up_eq, up_ne, not_true_eq_false, Classical.not_not, false_implies, true_implies, false_and, and_false, or_true, true_or, Nat.add_zero, pk_m1, m1_0, m1_n, m1_p, Nat.zero_le, forall_const, Nat.zero_add, Nat.reduceAdd, Nat.reduceEqDiff, or_false, false_or, Nat.one_ne_zero, l64_2, l64_3, l64_4, l64_5, l64_7, l64_9, l64_10, l64_11, l64_15, l64_20, l64_30, l64_40, l64_60, l64_99, l64_255, l64_999, le64l, le64r, le64b, le64n, rset_eq, rset_upd, rset_rset, upd_nep, upd_eqp, ix21_4k, ix21_1, ix21_2, ix21_3, ix21_4, ix21_5, ix21_6, ix21_7, ix21_8, ix21_9, ix21_10, ix76_1, ix76_2, ix76_3, ix100_1, ix100_2, ix100_3, Nat.lt_irrefl, zl1, zl2, zl3, implies_true]
    exact ⟨fun _ => f13, fun q => absurd q hb⟩
