/-! the reference reads a text: the place and whether all was good so far -/
def zb (g : Bool) : Int32 := if g then 1 else 0
theorem zb_t : zb true = 1 := rfl
theorem zb_f : zb false = 0 := rfl
theorem zb_0 {g : Bool} : (zb g = 0) = (g = false) := by cases g <;> simp [zb]
theorem zb_01 {g : Bool} : zb g = 0 ∨ zb g = 1 := by cases g <;> simp [zb]
def hX (h : nF) (g : Bool) (i : Nat) : nF := upd (upd h 4 (zb g)) 3 (nI i)
theorem hX_3 {h : nF} {g : Bool} {i : Nat} : hX h g i 3 = nI i := upd_eq
theorem hX_4 {h : nF} {g : Bool} {i : Nat} : hX h g i 4 = zb g := by unfold hX; rw [upd_nep (by omega), upd_eq]
theorem hX_k {h : nF} {g : Bool} {i k : Nat} (h3 : k ≠ 3) (h4 : k ≠ 4) : hX h g i k = h k := by unfold hX; rw [upd_nep h3, upd_nep h4]
theorem hX_u {h : nF} {g : Bool} {i k : Nat} {x : Int32} (h3 : k ≠ 3) (h4 : k ≠ 4) : upd (hX h g i) k x = hX (upd h k x) g i := by
  unfold hX
  rw [upd_comm (i := 3) (j := k) (by omega), upd_comm (i := 4) (j := k) (by omega)]
theorem upd_upd {f : nF} {k : Nat} {x y : Int32} : upd (upd f k x) k y = upd f k y := by
  funext j; unfold upd; split <;> rfl
theorem hX_43 {h : nF} {g g' : Bool} {i j : Nat} : upd (upd (hX h g i) 4 (zb g')) 3 (nI j) = hX h g' j := by
  unfold hX
  rw [upd_comm (i := 3) (j := 4) (by omega), upd_upd, upd_upd]
/-- the text, at most 120 codes -/
def dT (σ : ab_H) (t : Nat → Nat) (m : Nat) : Prop := m ≤ 120 ∧ ∀ j, j < m → σ 9 j = nI (t j) ∧ t j ≤ 255
theorem dT.r {σ : ab_H} {t : Nat → Nat} {m : Nat} {h : nF} (q : dT σ t m) : dT (rset σ 8 h) t m := by
  unfold dT; rw [rset_ne (show (9 : Nat) ≠ 8 by decide)]; exact q
theorem dT.r10 {σ : ab_H} {t : Nat → Nat} {m : Nat} {h : nF} (q : dT σ t m) : dT (rset σ 10 h) t m := by
  unfold dT; rw [rset_ne (show (9 : Nat) ≠ 10 by decide)]; exact q
def m_d (t : Nat → Nat) (m : Nat) (g : Bool) (i lo hi : Nat) : Nat × Bool × Nat := if g = true then (match p_d t m i lo hi with
  | some v => (v, true, i + 1)
  | none => (lo, false, i)) else (lo, false, i)
def m_2 (t : Nat → Nat) (m : Nat) (g : Bool) (i lo hi : Nat) : Nat × Bool × Nat :=
  (10 * (m_d t m g i (lo / 10) (hi / 10)).1 + (m_d t m (m_d t m g i (lo / 10) (hi / 10)).2.1 (m_d t m g i (lo / 10) (hi / 10)).2.2 (if (m_d t m g i (lo / 10) (hi / 10)).1 = lo / 10 then lo % 10 else 0) (if (m_d t m g i (lo / 10) (hi / 10)).1 = hi / 10 then hi % 10 else 9)).1,
   (m_d t m (m_d t m g i (lo / 10) (hi / 10)).2.1 (m_d t m g i (lo / 10) (hi / 10)).2.2 (if (m_d t m g i (lo / 10) (hi / 10)).1 = lo / 10 then lo % 10 else 0) (if (m_d t m g i (lo / 10) (hi / 10)).1 = hi / 10 then hi % 10 else 9)).2)
theorem m_d_le {t : Nat → Nat} {m i lo hi : Nat} {g : Bool} (hi9 : hi ≤ 9) (hl : lo ≤ 9) (him : i ≤ m) : (m_d t m g i lo hi).1 ≤ 9 ∧ (m_d t m g i lo hi).2.2 ≤ m ∧ ((m_d t m g i lo hi).1 ≤ hi ∨ (m_d t m g i lo hi).1 = lo) := by
  unfold m_d
  split
  · split
    · next v q => have := p_d_in q; have := p_d_lt q; dsimp only; omega
    · dsimp only; omega
  · dsimp only; omega
theorem m_2_le {t : Nat → Nat} {m i lo hi : Nat} {g : Bool} (hi9 : hi ≤ 99) (hl : lo ≤ 99) (him : i ≤ m) : (m_2 t m g i lo hi).1 ≤ 99 ∧ (m_2 t m g i lo hi).2.2 ≤ m := by
  unfold m_2
  dsimp only
  obtain ⟨a1, a2, -⟩ := m_d_le (t := t) (g := g) (show hi / 10 ≤ 9 by omega) (show lo / 10 ≤ 9 by omega) him
  generalize m_d t m g i (lo / 10) (hi / 10) = x at *
  have := m_d_le (t := t) (g := x.2.1) (i := x.2.2) (lo := if x.1 = lo / 10 then lo % 10 else 0) (hi := if x.1 = hi / 10 then hi % 10 else 9) (by split <;> omega) (by split <;> omega) a2
  omega
/-- what the two readings have in common -/
def mres (x : tP Nat) (r : Nat × Bool × Nat) : Prop := r.2 = (x.2.isSome, x.1) ∧ ∀ v, x.2 = some v → r.1 = v
theorem m_d_t {t : Nat → Nat} {m i lo hi : Nat} : mres (p_n t m i 1 lo hi) (m_d t m true i lo hi) := by
  unfold mres p_n m_d
  rw [if_pos rfl, if_pos rfl]
  unfold p_n1
  cases p_d t m i lo hi with
  | none => exact ⟨rfl, fun v q => by cases q⟩
  | some a => exact ⟨rfl, fun v q => by cases q; rfl⟩
theorem m_d_f {t : Nat → Nat} {m i lo hi : Nat} : (m_d t m false i lo hi).2 = (false, i) := by
  unfold m_d; rw [if_neg (by decide)]
theorem m_2_f {t : Nat → Nat} {m i lo hi : Nat} : (m_2 t m false i lo hi).2 = (false, i) := by
  unfold m_2
  dsimp only
  have h1 := @m_d_f t m i (lo / 10) (hi / 10)
  generalize m_d t m false i (lo / 10) (hi / 10) = x at *
  obtain ⟨a, b, c⟩ := x
  dsimp only at h1 ⊢
  cases h1
  exact m_d_f
theorem m_2_t {t : Nat → Nat} {m i lo hi : Nat} : mres (p_n t m i 2 lo hi) (m_2 t m true i lo hi) := by
  have e0 : p_n t m i 2 lo hi = p_n2 t m i lo hi := if_neg (by decide)
  unfold mres
  rw [e0]
  unfold m_2 p_n2
  dsimp only
  cases h1 : p_d t m i (lo / 10) (hi / 10) with
  | none =>
    have e : m_d t m true i (lo / 10) (hi / 10) = (lo / 10, false, i) := by unfold m_d; rw [if_pos rfl, h1]
    rw [e]
    dsimp only
    exact ⟨m_d_f, fun v q => by cases q⟩
  | some a =>
    have e : m_d t m true i (lo / 10) (hi / 10) = (a, true, i + 1) := by unfold m_d; rw [if_pos rfl, h1]
    rw [e]
    dsimp only
    cases h2 : p_d t m (i + 1) (if a = lo / 10 then lo % 10 else 0) (if a = hi / 10 then hi % 10 else 9) with
    | none =>
      have e2 : m_d t m true (i + 1) (if a = lo / 10 then lo % 10 else 0) (if a = hi / 10 then hi % 10 else 9) = ((if a = lo / 10 then lo % 10 else 0), false, i + 1) := by unfold m_d; rw [if_pos rfl, h2]
      rw [e2]
      exact ⟨rfl, fun v q => by cases q⟩
    | some b =>
      have e2 : m_d t m true (i + 1) (if a = lo / 10 then lo % 10 else 0) (if a = hi / 10 then hi % 10 else 9) = (b, true, i + 2) := by unfold m_d; rw [if_pos rfl, h2]
      rw [e2]
      exact ⟨rfl, fun v q => by cases q; rfl⟩
def sp_X10_isNext : ab_S := fun w As σ K => match As with
  | [.ref a, .int c] => a = 8 ∧ wD w ∧ ∃ t m h g i k, dT σ t m ∧ h 2 = nI m ∧ σ 8 = hX h g i ∧ i ≤ m ∧ c = nI k ∧ k ≤ 255 ∧ K (some (.int (zb (decide (i < m ∧ t i = k))))) σ
  | _ => False
def sp_X10_accept : ab_S := fun w As σ K => match As with
  | [.ref a, .int b] => a = 8 ∧ wD w ∧ ∃ h g i p, σ 8 = hX h g i ∧ b = zb p ∧ K none (rset σ 8 (hX h (g && p) (if (g && p) = true then i + 1 else i)))
  | _ => False
def sp_X10_digit : ab_S := fun w As σ K => match As with
  | [.ref a, .int lo, .int hi] => a = 8 ∧ wD w ∧ ∃ t m h g i lo' hi', dT σ t m ∧ h 2 = nI m ∧ σ 8 = hX h g i ∧ i ≤ m ∧ lo = nI lo' ∧ hi = nI hi' ∧ lo' ≤ 9 ∧ hi' ≤ 9 ∧ K (some (.int (nI (m_d t m g i lo' hi').1))) (rset σ 8 (hX h (m_d t m g i lo' hi').2.1 (m_d t m g i lo' hi').2.2))
  | _ => False
def sp_X10_two : ab_S := fun w As σ K => match As with
  | [.ref a, .int lo, .int hi] => a = 8 ∧ wD w ∧ ∃ t m h g i lo' hi', dT σ t m ∧ h 2 = nI m ∧ σ 8 = hX h g i ∧ i ≤ m ∧ lo = nI lo' ∧ hi = nI hi' ∧ lo' ≤ 99 ∧ hi' ≤ 99 ∧ K (some (.int (nI (m_2 t m g i lo' hi').1))) (rset σ 8 (hX h (m_2 t m g i lo' hi').2.1 (m_2 t m g i lo' hi').2.2))
  | _ => False
def sp_X10_goes : ab_S := fun w As σ K => match As with
  | [.ref a, .int b] => a = 8 ∧ wD w ∧ ∃ h g i p q, σ 8 = hX h g i ∧ h 5 = nI q ∧ b = zb p ∧ K (some (.int (zb (g && p)))) (rset σ 8 (hX (upd h 5 (nI (q + if (g && !p) = true then 1 else 0))) g i))
  | _ => False
set_option maxRecDepth 20000 in
set_option maxHeartbeats 4000000 in
theorem ok_X10_isNext {l : Launch} (hl : l.stackTraces = false) : ab_OkN l yX10_isNext (Cond.code yX10_isNext cX10_isNext 2 (some .boolean)) 1 sp_X10_isNext := by
  intro w σ As Kn hI h
  unfold sp_X10_isNext at h
  split at h
  rotate_left 1
  · exact h.elim
  next a c =>
    obtain ⟨rfl, hw, t, m, h', g, i, k, hT, h2, h8, him, rfl, hk, h⟩ := h
    refine vc_X10_isNext hl hI  (Nat.le_of_ble_eq_true rfl) (fun M h0 h28 h29 => h0 [.ref 8, .int (nI k)] [] σ ?_)
    obtain ⟨k8, k9, l9, -⟩ := id hw
    have e2 : σ 8 2 = nI m := by rw [h8, hX_k (by decide) (by decide)]; exact h2
    have e3 : σ 8 3 = nI i := by rw [h8, hX_3]
    have hm := hT.1
    have f28 : ¬ (i < m ∧ t i = k) → ∀ L, M 28 L [] σ := fun q L => h28 _ _ _ (by
      simp (disch := omega) only [bX10_isNext_28, q_ci, q_cl, q_ild, q_lld, q_ald, q_ist, q_ast, q_lst, q_inc, q_b2, q_d2, q_u1, q_l2, q_ld2, q_lsh, q_lcmp, q_i2l, q_l2i, q_dupi, q_dupr, q_dup2, q_popi, q_popr, q_if1, q_if2, q_nn, q_sw, q_swn, q_swc, q_gf, q_gr, q_pf, q_pz, q_pc, q_ia, q_is, q_cs, q_zs, q_la, q_lw, q_aa, q_al, q_gs, q_acp, q_m2, q_m1, q_ir, q_zr, q_lr, q_ar, q_vr, q_cN0, q_cSX0, q_cV0, q_cVX0, q_cN1, q_cSX1, q_cV1, q_cVX1, q_cN2, q_cSX2, q_cV2, q_cVX2, q_cN3, q_cSX3, q_cV3, q_cVX3, q_cN4, q_cSX4, q_cV4, q_cVX4, q_cN5, q_cSX5, q_cV5, q_cVX5, q_cN6, q_cSX6, q_cV6, q_cVX6, q_th, q_sh0, q_sh1, q_sh2, q_sh3, q_sh4, q_toL0, q_toL1, q_gl0, q_gls, q_sl0, q_sls, q_k10, q_k1s, q_lgi, q_lgr, q_lgl, q_lgn, Bool.not_false, and_true, true_and, nz_2, nz_4, nz_5, nz_8, nz_10, nz_12, nz_14, nz_16, nz_40, nz_41, nz_64, nz_100, nz_1000, nz_1024, nz_4096, nz_10000, nz_100000, not_false_eq_true, bI_0, nI_add, pk_mul, nI_lt', nI_le', nI_eq', nI_z, nI_p, nI_e0, nI_l0, nI_le0, nI_clamp, up_eq, up_ne, not_true_eq_false, Classical.not_not, false_implies, true_implies, false_and, and_false, or_true, true_or, Nat.add_zero, pk_m1, m1_0, m1_n, m1_p, Nat.zero_le, forall_const, Nat.zero_add, Nat.reduceAdd, Nat.reduceEqDiff, or_false, false_or, Nat.one_ne_zero, l64_2, l64_3, l64_4, l64_5, l64_7, l64_9, l64_10, l64_11, l64_15, l64_20, l64_30, l64_40, l64_60, l64_99, l64_255, l64_999, le64l, le64r, le64b, le64n, rset_eq, rset_upd, rset_rset, upd_nep, upd_eqp, ix21_4k, ix21_1, ix21_2, ix21_3, ix21_4, ix21_5, ix21_6, ix21_7, ix21_8, ix21_9, ix21_10, ix76_1, ix76_2, ix76_3, ix100_1, ix100_2, ix100_3]
      refine h29 _ _ _ ?_
      rw [decide_eq_false q, zb_f] at h
      simp (disch := omega) only [bX10_isNext_29, q_ci, q_cl, q_ild, q_lld, q_ald, q_ist, q_ast, q_lst, q_inc, q_b2, q_d2, q_u1, q_l2, q_ld2, q_lsh, q_lcmp, q_i2l, q_l2i, q_dupi, q_dupr, q_dup2, q_popi, q_popr, q_if1, q_if2, q_nn, q_sw, q_swn, q_swc, q_gf, q_gr, q_pf, q_pz, q_pc, q_ia, q_is, q_cs, q_zs, q_la, q_lw, q_aa, q_al, q_gs, q_acp, q_m2, q_m1, q_ir, q_zr, q_lr, q_ar, q_vr, q_cN0, q_cSX0, q_cV0, q_cVX0, q_cN1, q_cSX1, q_cV1, q_cVX1, q_cN2, q_cSX2, q_cV2, q_cVX2, q_cN3, q_cSX3, q_cV3, q_cVX3, q_cN4, q_cSX4, q_cV4, q_cVX4, q_cN5, q_cSX5, q_cV5, q_cVX5, q_cN6, q_cSX6, q_cV6, q_cVX6, q_th, q_sh0, q_sh1, q_sh2, q_sh3, q_sh4, q_toL0, q_toL1, q_gl0, q_gls, q_sl0, q_sls, q_k10, q_k1s, q_lgi, q_lgr, q_lgl, q_lgn, Bool.not_false, and_true, true_and, nz_2, nz_4, nz_5, nz_8, nz_10, nz_12, nz_14, nz_16, nz_40, nz_41, nz_64, nz_100, nz_1000, nz_1024, nz_4096, nz_10000, nz_100000, not_false_eq_true, bI_0, nI_add, pk_mul, nI_lt', nI_le', nI_eq', nI_z, nI_p, nI_e0, nI_l0, nI_le0, nI_clamp, up_eq, up_ne, not_true_eq_false, Classical.not_not, false_implies, true_implies, false_and, and_false, or_true, true_or, Nat.add_zero, pk_m1, m1_0, m1_n, m1_p, Nat.zero_le, forall_const, Nat.zero_add, Nat.reduceAdd, Nat.reduceEqDiff, or_false, false_or, Nat.one_ne_zero, l64_2, l64_3, l64_4, l64_5, l64_7, l64_9, l64_10, l64_11, l64_15, l64_20, l64_30, l64_40, l64_60, l64_99, l64_255, l64_999, le64l, le64r, le64b, le64n, rset_eq, rset_upd, rset_rset, upd_nep, upd_eqp, ix21_4k, ix21_1, ix21_2, ix21_3, ix21_4, ix21_5, ix21_6, ix21_7, ix21_8, ix21_9, ix21_10, ix76_1, ix76_2, ix76_3, ix100_1, ix100_2, ix100_3]
      rw [nI_0]; exact h)
    by_cases hlt : i < m
    · obtain ⟨e9, et⟩ := hT.2 i hlt
      have vi : vp_in (nI i) 120 := vp_in_nI (by omega) (by omega)
      simp (disch := omega) only [bX10_isNext_0, k8, k9, l9, e2, e3, e9, q_ci, q_cl, q_ild, q_lld, q_ald, q_ist, q_ast, q_lst, q_inc, q_b2, q_d2, q_u1, q_l2, q_ld2, q_lsh, q_lcmp, q_i2l, q_l2i, q_dupi, q_dupr, q_dup2, q_popi, q_popr, q_if1, q_if2, q_nn, q_sw, q_swn, q_swc, q_gf, q_gr, q_pf, q_pz, q_pc, q_ia, q_is, q_cs, q_zs, q_la, q_lw, q_aa, q_al, q_gs, q_acp, q_m2, q_m1, q_ir, q_zr, q_lr, q_ar, q_vr, q_cN0, q_cSX0, q_cV0, q_cVX0, q_cN1, q_cSX1, q_cV1, q_cVX1, q_cN2, q_cSX2, q_cV2, q_cVX2, q_cN3, q_cSX3, q_cV3, q_cVX3, q_cN4, q_cSX4, q_cV4, q_cVX4, q_cN5, q_cSX5, q_cV5, q_cVX5, q_cN6, q_cSX6, q_cV6, q_cVX6, q_th, q_sh0, q_sh1, q_sh2, q_sh3, q_sh4, q_toL0, q_toL1, q_gl0, q_gls, q_sl0, q_sls, q_k10, q_k1s, q_lgi, q_lgr, q_lgl, q_lgn, Bool.not_false, and_true, true_and, nz_2, nz_4, nz_5, nz_8, nz_10, nz_12, nz_14, nz_16, nz_40, nz_41, nz_64, nz_100, nz_1000, nz_1024, nz_4096, nz_10000, nz_100000, not_false_eq_true, bI_0, nI_add, pk_mul, nI_lt', nI_le', nI_eq', nI_z, nI_p, nI_e0, nI_l0, nI_le0, nI_clamp, up_eq, up_ne, not_true_eq_false, Classical.not_not, false_implies, true_implies, false_and, and_false, or_true, true_or, Nat.add_zero, pk_m1, m1_0, m1_n, m1_p, Nat.zero_le, forall_const, Nat.zero_add, Nat.reduceAdd, Nat.reduceEqDiff, or_false, false_or, Nat.one_ne_zero, l64_2, l64_3, l64_4, l64_5, l64_7, l64_9, l64_10, l64_11, l64_15, l64_20, l64_30, l64_40, l64_60, l64_99, l64_255, l64_999, le64l, le64r, le64b, le64n, rset_eq, rset_upd, rset_rset, upd_nep, upd_eqp, ix21_4k, ix21_1, ix21_2, ix21_3, ix21_4, ix21_5, ix21_6, ix21_7, ix21_8, ix21_9, ix21_10, ix76_1, ix76_2, ix76_3, ix100_1, ix100_2, ix100_3]
      refine ⟨fun q => absurd hlt (by omega), fun _ => ⟨vi, fun q => f28 (fun q2 => q q2.2) _, fun q => h29 _ _ _ ?_⟩⟩
      rw [decide_eq_true ⟨hlt, q⟩, zb_t] at h
      simp (disch := omega) only [bX10_isNext_29, nI_one, q_ci, q_cl, q_ild, q_lld, q_ald, q_ist, q_ast, q_lst, q_inc, q_b2, q_d2, q_u1, q_l2, q_ld2, q_lsh, q_lcmp, q_i2l, q_l2i, q_dupi, q_dupr, q_dup2, q_popi, q_popr, q_if1, q_if2, q_nn, q_sw, q_swn, q_swc, q_gf, q_gr, q_pf, q_pz, q_pc, q_ia, q_is, q_cs, q_zs, q_la, q_lw, q_aa, q_al, q_gs, q_acp, q_m2, q_m1, q_ir, q_zr, q_lr, q_ar, q_vr, q_cN0, q_cSX0, q_cV0, q_cVX0, q_cN1, q_cSX1, q_cV1, q_cVX1, q_cN2, q_cSX2, q_cV2, q_cVX2, q_cN3, q_cSX3, q_cV3, q_cVX3, q_cN4, q_cSX4, q_cV4, q_cVX4, q_cN5, q_cSX5, q_cV5, q_cVX5, q_cN6, q_cSX6, q_cV6, q_cVX6, q_th, q_sh0, q_sh1, q_sh2, q_sh3, q_sh4, q_toL0, q_toL1, q_gl0, q_gls, q_sl0, q_sls, q_k10, q_k1s, q_lgi, q_lgr, q_lgl, q_lgn, Bool.not_false, and_true, true_and, nz_2, nz_4, nz_5, nz_8, nz_10, nz_12, nz_14, nz_16, nz_40, nz_41, nz_64, nz_100, nz_1000, nz_1024, nz_4096, nz_10000, nz_100000, not_false_eq_true, bI_0, nI_add, pk_mul, nI_lt', nI_le', nI_eq', nI_z, nI_p, nI_e0, nI_l0, nI_le0, nI_clamp, up_eq, up_ne, not_true_eq_false, Classical.not_not, false_implies, true_implies, false_and, and_false, or_true, true_or, Nat.add_zero, pk_m1, m1_0, m1_n, m1_p, Nat.zero_le, forall_const, Nat.zero_add, Nat.reduceAdd, Nat.reduceEqDiff, or_false, false_or, Nat.one_ne_zero, l64_2, l64_3, l64_4, l64_5, l64_7, l64_9, l64_10, l64_11, l64_15, l64_20, l64_30, l64_40, l64_60, l64_99, l64_255, l64_999, le64l, le64r, le64b, le64n, rset_eq, rset_upd, rset_rset, upd_nep, upd_eqp, ix21_4k, ix21_1, ix21_2, ix21_3, ix21_4, ix21_5, ix21_6, ix21_7, ix21_8, ix21_9, ix21_10, ix76_1, ix76_2, ix76_3, ix100_1, ix100_2, ix100_3]
      first | exact h | exact ⟨Or.inr rfl, h⟩
    · simp (disch := omega) only [bX10_isNext_0, k8, k9, l9, e2, e3, q_ci, q_cl, q_ild, q_lld, q_ald, q_ist, q_ast, q_lst, q_inc, q_b2, q_d2, q_u1, q_l2, q_ld2, q_lsh, q_lcmp, q_i2l, q_l2i, q_dupi, q_dupr, q_dup2, q_popi, q_popr, q_if1, q_if2, q_nn, q_sw, q_swn, q_swc, q_gf, q_gr, q_pf, q_pz, q_pc, q_ia, q_is, q_cs, q_zs, q_la, q_lw, q_aa, q_al, q_gs, q_acp, q_m2, q_m1, q_ir, q_zr, q_lr, q_ar, q_vr, q_cN0, q_cSX0, q_cV0, q_cVX0, q_cN1, q_cSX1, q_cV1, q_cVX1, q_cN2, q_cSX2, q_cV2, q_cVX2, q_cN3, q_cSX3, q_cV3, q_cVX3, q_cN4, q_cSX4, q_cV4, q_cVX4, q_cN5, q_cSX5, q_cV5, q_cVX5, q_cN6, q_cSX6, q_cV6, q_cVX6, q_th, q_sh0, q_sh1, q_sh2, q_sh3, q_sh4, q_toL0, q_toL1, q_gl0, q_gls, q_sl0, q_sls, q_k10, q_k1s, q_lgi, q_lgr, q_lgl, q_lgn, Bool.not_false, and_true, true_and, nz_2, nz_4, nz_5, nz_8, nz_10, nz_12, nz_14, nz_16, nz_40, nz_41, nz_64, nz_100, nz_1000, nz_1024, nz_4096, nz_10000, nz_100000, not_false_eq_true, bI_0, nI_add, pk_mul, nI_lt', nI_le', nI_eq', nI_z, nI_p, nI_e0, nI_l0, nI_le0, nI_clamp, up_eq, up_ne, not_true_eq_false, Classical.not_not, false_implies, true_implies, false_and, and_false, or_true, true_or, Nat.add_zero, pk_m1, m1_0, m1_n, m1_p, Nat.zero_le, forall_const, Nat.zero_add, Nat.reduceAdd, Nat.reduceEqDiff, or_false, false_or, Nat.one_ne_zero, l64_2, l64_3, l64_4, l64_5, l64_7, l64_9, l64_10, l64_11, l64_15, l64_20, l64_30, l64_40, l64_60, l64_99, l64_255, l64_999, le64l, le64r, le64b, le64n, rset_eq, rset_upd, rset_rset, upd_nep, upd_eqp, ix21_4k, ix21_1, ix21_2, ix21_3, ix21_4, ix21_5, ix21_6, ix21_7, ix21_8, ix21_9, ix21_10, ix76_1, ix76_2, ix76_3, ix100_1, ix100_2, ix100_3]
      exact ⟨fun _ => f28 (fun q => hlt q.1) _, fun q => absurd hlt (by omega)⟩
set_option maxRecDepth 20000 in
set_option maxHeartbeats 4000000 in
theorem ok_X10_accept {l : Launch} (hl : l.stackTraces = false) : ab_OkN l yX10_accept (Cond.code yX10_accept cX10_accept 2 none) 1 sp_X10_accept := by
  intro w σ As Kn hI h
  unfold sp_X10_accept at h
  split at h
  rotate_left 1
  · exact h.elim
  next a b =>
    obtain ⟨rfl, hw, h', g, i, p, h8, rfl, h⟩ := h
    obtain ⟨k8, -⟩ := id hw
    refine vc_X10_accept hl hI  (Nat.le_of_ble_eq_true rfl) (fun M h0 h16 h17 h37 => ?_)
    suffices HS : M 0 [.ref 8, .int (zb p)] [] (rset σ 8 (σ 8)) from (by rw [rset_self] at HS; exact HS)
    refine h0 _ _ _ ?_
    rw [h8]
    have H17 : ∀ x, x = zb (g && p) → M 17 [.ref 8, .int (zb p)] [.int x, .ref 8] (rset σ 8 (hX h' g i)) := by
      intro x hx
      subst hx
      refine h17 _ _ _ ?_
      have e3 : upd (hX h' g i) 4 (zb (g && p)) 3 = nI i := by rw [upd_nep (by decide)]; exact hX_3
      have e4 : upd (hX h' g i) 4 (zb (g && p)) 4 = zb (g && p) := upd_eq
      have h01 := @zb_01 (g && p)
      simp (disch := omega) only [bX10_accept_17, k8, e3, e4, zb_0, q_ci, q_cl, q_ild, q_lld, q_ald, q_ist, q_ast, q_lst, q_inc, q_b2, q_d2, q_u1, q_l2, q_ld2, q_lsh, q_lcmp, q_i2l, q_l2i, q_dupi, q_dupr, q_dup2, q_popi, q_popr, q_if1, q_if2, q_nn, q_sw, q_swn, q_swc, q_gf, q_gr, q_pf, q_pz, q_pc, q_ia, q_is, q_cs, q_zs, q_la, q_lw, q_aa, q_al, q_gs, q_acp, q_m2, q_m1, q_ir, q_zr, q_lr, q_ar, q_vr, q_cN0, q_cSX0, q_cV0, q_cVX0, q_cN1, q_cSX1, q_cV1, q_cVX1, q_cN2, q_cSX2, q_cV2, q_cVX2, q_cN3, q_cSX3, q_cV3, q_cVX3, q_cN4, q_cSX4, q_cV4, q_cVX4, q_cN5, q_cSX5, q_cV5, q_cVX5, q_cN6, q_cSX6, q_cV6, q_cVX6, q_th, q_sh0, q_sh1, q_sh2, q_sh3, q_sh4, q_toL0, q_toL1, q_gl0, q_gls, q_sl0, q_sls, q_k10, q_k1s, q_lgi, q_lgr, q_lgl, q_lgn, Bool.not_false, and_true, true_and, nz_2, nz_4, nz_5, nz_8, nz_10, nz_12, nz_14, nz_16, nz_40, nz_41, nz_64, nz_100, nz_1000, nz_1024, nz_4096, nz_10000, nz_100000, not_false_eq_true, bI_0, nI_add, pk_mul, nI_lt', nI_le', nI_eq', nI_z, nI_p, nI_e0, nI_l0, nI_le0, nI_clamp, up_eq, up_ne, not_true_eq_false, Classical.not_not, false_implies, true_implies, false_and, and_false, or_true, true_or, Nat.add_zero, pk_m1, m1_0, m1_n, m1_p, Nat.zero_le, forall_const, Nat.zero_add, Nat.reduceAdd, Nat.reduceEqDiff, or_false, false_or, Nat.one_ne_zero, l64_2, l64_3, l64_4, l64_5, l64_7, l64_9, l64_10, l64_11, l64_15, l64_20, l64_30, l64_40, l64_60, l64_99, l64_255, l64_999, le64l, le64r, le64b, le64n, rset_eq, rset_upd, rset_rset, upd_nep, upd_eqp, ix21_4k, ix21_1, ix21_2, ix21_3, ix21_4, ix21_5, ix21_6, ix21_7, ix21_8, ix21_9, ix21_10, ix76_1, ix76_2, ix76_3, ix100_1, ix100_2, ix100_3]
      have h01' : (g && p) = false ∨ zb (g && p) = 1 := by rw [← zb_0]; exact h01
      refine ⟨h01', fun q => h37 _ _ _ ?_, fun q => h37 _ _ _ ?_⟩
      · simp (disch := omega) only [bX10_accept_37, k8, q_ci, q_cl, q_ild, q_lld, q_ald, q_ist, q_ast, q_lst, q_inc, q_b2, q_d2, q_u1, q_l2, q_ld2, q_lsh, q_lcmp, q_i2l, q_l2i, q_dupi, q_dupr, q_dup2, q_popi, q_popr, q_if1, q_if2, q_nn, q_sw, q_swn, q_swc, q_gf, q_gr, q_pf, q_pz, q_pc, q_ia, q_is, q_cs, q_zs, q_la, q_lw, q_aa, q_al, q_gs, q_acp, q_m2, q_m1, q_ir, q_zr, q_lr, q_ar, q_vr, q_cN0, q_cSX0, q_cV0, q_cVX0, q_cN1, q_cSX1, q_cV1, q_cVX1, q_cN2, q_cSX2, q_cV2, q_cVX2, q_cN3, q_cSX3, q_cV3, q_cVX3, q_cN4, q_cSX4, q_cV4, q_cVX4, q_cN5, q_cSX5, q_cV5, q_cVX5, q_cN6, q_cSX6, q_cV6, q_cVX6, q_th, q_sh0, q_sh1, q_sh2, q_sh3, q_sh4, q_toL0, q_toL1, q_gl0, q_gls, q_sl0, q_sls, q_k10, q_k1s, q_lgi, q_lgr, q_lgl, q_lgn, Bool.not_false, and_true, true_and, nz_2, nz_4, nz_5, nz_8, nz_10, nz_12, nz_14, nz_16, nz_40, nz_41, nz_64, nz_100, nz_1000, nz_1024, nz_4096, nz_10000, nz_100000, not_false_eq_true, bI_0, nI_add, pk_mul, nI_lt', nI_le', nI_eq', nI_z, nI_p, nI_e0, nI_l0, nI_le0, nI_clamp, up_eq, up_ne, not_true_eq_false, Classical.not_not, false_implies, true_implies, false_and, and_false, or_true, true_or, Nat.add_zero, pk_m1, m1_0, m1_n, m1_p, Nat.zero_le, forall_const, Nat.zero_add, Nat.reduceAdd, Nat.reduceEqDiff, or_false, false_or, Nat.one_ne_zero, l64_2, l64_3, l64_4, l64_5, l64_7, l64_9, l64_10, l64_11, l64_15, l64_20, l64_30, l64_40, l64_60, l64_99, l64_255, l64_999, le64l, le64r, le64b, le64n, rset_eq, rset_upd, rset_rset, upd_nep, upd_eqp, ix21_4k, ix21_1, ix21_2, ix21_3, ix21_4, ix21_5, ix21_6, ix21_7, ix21_8, ix21_9, ix21_10, ix76_1, ix76_2, ix76_3, ix100_1, ix100_2, ix100_3]
        rw [q] at h ⊢
        rw [hX_43]
        exact h
      · have q2 : (g && p) = true := by revert q; cases (g && p) <;> simp
        simp (disch := omega) only [bX10_accept_37, k8, q_ci, q_cl, q_ild, q_lld, q_ald, q_ist, q_ast, q_lst, q_inc, q_b2, q_d2, q_u1, q_l2, q_ld2, q_lsh, q_lcmp, q_i2l, q_l2i, q_dupi, q_dupr, q_dup2, q_popi, q_popr, q_if1, q_if2, q_nn, q_sw, q_swn, q_swc, q_gf, q_gr, q_pf, q_pz, q_pc, q_ia, q_is, q_cs, q_zs, q_la, q_lw, q_aa, q_al, q_gs, q_acp, q_m2, q_m1, q_ir, q_zr, q_lr, q_ar, q_vr, q_cN0, q_cSX0, q_cV0, q_cVX0, q_cN1, q_cSX1, q_cV1, q_cVX1, q_cN2, q_cSX2, q_cV2, q_cVX2, q_cN3, q_cSX3, q_cV3, q_cVX3, q_cN4, q_cSX4, q_cV4, q_cVX4, q_cN5, q_cSX5, q_cV5, q_cVX5, q_cN6, q_cSX6, q_cV6, q_cVX6, q_th, q_sh0, q_sh1, q_sh2, q_sh3, q_sh4, q_toL0, q_toL1, q_gl0, q_gls, q_sl0, q_sls, q_k10, q_k1s, q_lgi, q_lgr, q_lgl, q_lgn, Bool.not_false, and_true, true_and, nz_2, nz_4, nz_5, nz_8, nz_10, nz_12, nz_14, nz_16, nz_40, nz_41, nz_64, nz_100, nz_1000, nz_1024, nz_4096, nz_10000, nz_100000, not_false_eq_true, bI_0, nI_add, pk_mul, nI_lt', nI_le', nI_eq', nI_z, nI_p, nI_e0, nI_l0, nI_le0, nI_clamp, up_eq, up_ne, not_true_eq_false, Classical.not_not, false_implies, true_implies, false_and, and_false, or_true, true_or, Nat.add_zero, pk_m1, m1_0, m1_n, m1_p, Nat.zero_le, forall_const, Nat.zero_add, Nat.reduceAdd, Nat.reduceEqDiff, or_false, false_or, Nat.one_ne_zero, l64_2, l64_3, l64_4, l64_5, l64_7, l64_9, l64_10, l64_11, l64_15, l64_20, l64_30, l64_40, l64_60, l64_99, l64_255, l64_999, le64l, le64r, le64b, le64n, rset_eq, rset_upd, rset_rset, upd_nep, upd_eqp, ix21_4k, ix21_1, ix21_2, ix21_3, ix21_4, ix21_5, ix21_6, ix21_7, ix21_8, ix21_9, ix21_10, ix76_1, ix76_2, ix76_3, ix100_1, ix100_2, ix100_3]
        rw [q2] at h ⊢
        rw [hX_43]
        exact h
    have f16 : (g && p) = false → M 16 [.ref 8, .int (zb p)] [.ref 8] (rset σ 8 (hX h' g i)) := by
      intro q
      refine h16 _ _ _ ?_
      simp (disch := omega) only [bX10_accept_16, q_ci, q_cl, q_ild, q_lld, q_ald, q_ist, q_ast, q_lst, q_inc, q_b2, q_d2, q_u1, q_l2, q_ld2, q_lsh, q_lcmp, q_i2l, q_l2i, q_dupi, q_dupr, q_dup2, q_popi, q_popr, q_if1, q_if2, q_nn, q_sw, q_swn, q_swc, q_gf, q_gr, q_pf, q_pz, q_pc, q_ia, q_is, q_cs, q_zs, q_la, q_lw, q_aa, q_al, q_gs, q_acp, q_m2, q_m1, q_ir, q_zr, q_lr, q_ar, q_vr, q_cN0, q_cSX0, q_cV0, q_cVX0, q_cN1, q_cSX1, q_cV1, q_cVX1, q_cN2, q_cSX2, q_cV2, q_cVX2, q_cN3, q_cSX3, q_cV3, q_cVX3, q_cN4, q_cSX4, q_cV4, q_cVX4, q_cN5, q_cSX5, q_cV5, q_cVX5, q_cN6, q_cSX6, q_cV6, q_cVX6, q_th, q_sh0, q_sh1, q_sh2, q_sh3, q_sh4, q_toL0, q_toL1, q_gl0, q_gls, q_sl0, q_sls, q_k10, q_k1s, q_lgi, q_lgr, q_lgl, q_lgn, Bool.not_false, and_true, true_and, nz_2, nz_4, nz_5, nz_8, nz_10, nz_12, nz_14, nz_16, nz_40, nz_41, nz_64, nz_100, nz_1000, nz_1024, nz_4096, nz_10000, nz_100000, not_false_eq_true, bI_0, nI_add, pk_mul, nI_lt', nI_le', nI_eq', nI_z, nI_p, nI_e0, nI_l0, nI_le0, nI_clamp, up_eq, up_ne, not_true_eq_false, Classical.not_not, false_implies, true_implies, false_and, and_false, or_true, true_or, Nat.add_zero, pk_m1, m1_0, m1_n, m1_p, Nat.zero_le, forall_const, Nat.zero_add, Nat.reduceAdd, Nat.reduceEqDiff, or_false, false_or, Nat.one_ne_zero, l64_2, l64_3, l64_4, l64_5, l64_7, l64_9, l64_10, l64_11, l64_15, l64_20, l64_30, l64_40, l64_60, l64_99, l64_255, l64_999, le64l, le64r, le64b, le64n, rset_eq, rset_upd, rset_rset, upd_nep, upd_eqp, ix21_4k, ix21_1, ix21_2, ix21_3, ix21_4, ix21_5, ix21_6, ix21_7, ix21_8, ix21_9, ix21_10, ix76_1, ix76_2, ix76_3, ix100_1, ix100_2, ix100_3]
      exact H17 _ (by rw [q]; exact nI_0)
    simp (disch := omega) only [bX10_accept_0, k8, hX_4, zb_0, q_ci, q_cl, q_ild, q_lld, q_ald, q_ist, q_ast, q_lst, q_inc, q_b2, q_d2, q_u1, q_l2, q_ld2, q_lsh, q_lcmp, q_i2l, q_l2i, q_dupi, q_dupr, q_dup2, q_popi, q_popr, q_if1, q_if2, q_nn, q_sw, q_swn, q_swc, q_gf, q_gr, q_pf, q_pz, q_pc, q_ia, q_is, q_cs, q_zs, q_la, q_lw, q_aa, q_al, q_gs, q_acp, q_m2, q_m1, q_ir, q_zr, q_lr, q_ar, q_vr, q_cN0, q_cSX0, q_cV0, q_cVX0, q_cN1, q_cSX1, q_cV1, q_cVX1, q_cN2, q_cSX2, q_cV2, q_cVX2, q_cN3, q_cSX3, q_cV3, q_cVX3, q_cN4, q_cSX4, q_cV4, q_cVX4, q_cN5, q_cSX5, q_cV5, q_cVX5, q_cN6, q_cSX6, q_cV6, q_cVX6, q_th, q_sh0, q_sh1, q_sh2, q_sh3, q_sh4, q_toL0, q_toL1, q_gl0, q_gls, q_sl0, q_sls, q_k10, q_k1s, q_lgi, q_lgr, q_lgl, q_lgn, Bool.not_false, and_true, true_and, nz_2, nz_4, nz_5, nz_8, nz_10, nz_12, nz_14, nz_16, nz_40, nz_41, nz_64, nz_100, nz_1000, nz_1024, nz_4096, nz_10000, nz_100000, not_false_eq_true, bI_0, nI_add, pk_mul, nI_lt', nI_le', nI_eq', nI_z, nI_p, nI_e0, nI_l0, nI_le0, nI_clamp, up_eq, up_ne, not_true_eq_false, Classical.not_not, false_implies, true_implies, false_and, and_false, or_true, true_or, Nat.add_zero, pk_m1, m1_0, m1_n, m1_p, Nat.zero_le, forall_const, Nat.zero_add, Nat.reduceAdd, Nat.reduceEqDiff, or_false, false_or, Nat.one_ne_zero, l64_2, l64_3, l64_4, l64_5, l64_7, l64_9, l64_10, l64_11, l64_15, l64_20, l64_30, l64_40, l64_60, l64_99, l64_255, l64_999, le64l, le64r, le64b, le64n, rset_eq, rset_upd, rset_rset, upd_nep, upd_eqp, ix21_4k, ix21_1, ix21_2, ix21_3, ix21_4, ix21_5, ix21_6, ix21_7, ix21_8, ix21_9, ix21_10, ix76_1, ix76_2, ix76_3, ix100_1, ix100_2, ix100_3]
    refine ⟨fun q => f16 (by rw [q]; rfl), fun q => ⟨fun q2 => f16 (by rw [q2]; cases g <;> rfl), fun q2 => H17 _ ?_⟩⟩
    have q1 : g = true := by revert q; cases g <;> simp
    have q3 : p = true := by revert q2; cases p <;> simp
    rw [q1, q3]; exact nI_one
set_option maxRecDepth 20000 in
set_option maxHeartbeats 4000000 in
theorem ok_X10_goes {l : Launch} (hl : l.stackTraces = false) : ab_OkN l yX10_goes (Cond.code yX10_goes cX10_goes 2 (some .boolean)) 1 sp_X10_goes := by
  intro w σ As Kn hI h
  unfold sp_X10_goes at h
  split at h
  rotate_left 1
  · exact h.elim
  next a b =>
    obtain ⟨rfl, hw, h', g, i, p, q, h8, h5, rfl, h⟩ := h
    obtain ⟨k8, -⟩ := id hw
    refine vc_X10_goes hl hI  (Nat.le_of_ble_eq_true rfl) (fun M h0 h20 h21 h40 h41 => ?_)
    suffices HS : M 0 [.ref 8, .int (zb p)] [] (rset σ 8 (σ 8)) from (by rw [rset_self] at HS; exact HS)
    refine h0 _ _ _ ?_
    rw [h8]
    have e5 : hX h' g i 5 = nI q := by rw [hX_k (by decide) (by decide)]; exact h5
    have H41 : ∀ x h2, x = zb (g && p) → h2 = hX (upd h' 5 (nI (q + if (g && !p) = true then 1 else 0))) g i → M 41 [.ref 8, .int (zb p)] [.int x] (rset σ 8 h2) := by
      intro x h2 hx hh
      subst hx; subst hh
      refine h41 _ _ _ ?_
      have h01 := @zb_01 (g && p)
      simp (disch := omega) only [bX10_goes_41, q_ci, q_cl, q_ild, q_lld, q_ald, q_ist, q_ast, q_lst, q_inc, q_b2, q_d2, q_u1, q_l2, q_ld2, q_lsh, q_lcmp, q_i2l, q_l2i, q_dupi, q_dupr, q_dup2, q_popi, q_popr, q_if1, q_if2, q_nn, q_sw, q_swn, q_swc, q_gf, q_gr, q_pf, q_pz, q_pc, q_ia, q_is, q_cs, q_zs, q_la, q_lw, q_aa, q_al, q_gs, q_acp, q_m2, q_m1, q_ir, q_zr, q_lr, q_ar, q_vr, q_cN0, q_cSX0, q_cV0, q_cVX0, q_cN1, q_cSX1, q_cV1, q_cVX1, q_cN2, q_cSX2, q_cV2, q_cVX2, q_cN3, q_cSX3, q_cV3, q_cVX3, q_cN4, q_cSX4, q_cV4, q_cVX4, q_cN5, q_cSX5, q_cV5, q_cVX5, q_cN6, q_cSX6, q_cV6, q_cVX6, q_th, q_sh0, q_sh1, q_sh2, q_sh3, q_sh4, q_toL0, q_toL1, q_gl0, q_gls, q_sl0, q_sls, q_k10, q_k1s, q_lgi, q_lgr, q_lgl, q_lgn, Bool.not_false, and_true, true_and, nz_2, nz_4, nz_5, nz_8, nz_10, nz_12, nz_14, nz_16, nz_40, nz_41, nz_64, nz_100, nz_1000, nz_1024, nz_4096, nz_10000, nz_100000, not_false_eq_true, bI_0, nI_add, pk_mul, nI_lt', nI_le', nI_eq', nI_z, nI_p, nI_e0, nI_l0, nI_le0, nI_clamp, up_eq, up_ne, not_true_eq_false, Classical.not_not, false_implies, true_implies, false_and, and_false, or_true, true_or, Nat.add_zero, pk_m1, m1_0, m1_n, m1_p, Nat.zero_le, forall_const, Nat.zero_add, Nat.reduceAdd, Nat.reduceEqDiff, or_false, false_or, Nat.one_ne_zero, l64_2, l64_3, l64_4, l64_5, l64_7, l64_9, l64_10, l64_11, l64_15, l64_20, l64_30, l64_40, l64_60, l64_99, l64_255, l64_999, le64l, le64r, le64b, le64n, rset_eq, rset_upd, rset_rset, upd_nep, upd_eqp, ix21_4k, ix21_1, ix21_2, ix21_3, ix21_4, ix21_5, ix21_6, ix21_7, ix21_8, ix21_9, ix21_10, ix76_1, ix76_2, ix76_3, ix100_1, ix100_2, ix100_3]
      exact ⟨h01, h⟩
    have H40 : ∀ h2, (g && p) = false → h2 = hX (upd h' 5 (nI (q + if (g && !p) = true then 1 else 0))) g i → M 40 [.ref 8, .int (zb p)] [] (rset σ 8 h2) := by
      intro h2 q1 hh
      refine h40 _ _ _ ?_
      simp (disch := omega) only [bX10_goes_40, q_ci, q_cl, q_ild, q_lld, q_ald, q_ist, q_ast, q_lst, q_inc, q_b2, q_d2, q_u1, q_l2, q_ld2, q_lsh, q_lcmp, q_i2l, q_l2i, q_dupi, q_dupr, q_dup2, q_popi, q_popr, q_if1, q_if2, q_nn, q_sw, q_swn, q_swc, q_gf, q_gr, q_pf, q_pz, q_pc, q_ia, q_is, q_cs, q_zs, q_la, q_lw, q_aa, q_al, q_gs, q_acp, q_m2, q_m1, q_ir, q_zr, q_lr, q_ar, q_vr, q_cN0, q_cSX0, q_cV0, q_cVX0, q_cN1, q_cSX1, q_cV1, q_cVX1, q_cN2, q_cSX2, q_cV2, q_cVX2, q_cN3, q_cSX3, q_cV3, q_cVX3, q_cN4, q_cSX4, q_cV4, q_cVX4, q_cN5, q_cSX5, q_cV5, q_cVX5, q_cN6, q_cSX6, q_cV6, q_cVX6, q_th, q_sh0, q_sh1, q_sh2, q_sh3, q_sh4, q_toL0, q_toL1, q_gl0, q_gls, q_sl0, q_sls, q_k10, q_k1s, q_lgi, q_lgr, q_lgl, q_lgn, Bool.not_false, and_true, true_and, nz_2, nz_4, nz_5, nz_8, nz_10, nz_12, nz_14, nz_16, nz_40, nz_41, nz_64, nz_100, nz_1000, nz_1024, nz_4096, nz_10000, nz_100000, not_false_eq_true, bI_0, nI_add, pk_mul, nI_lt', nI_le', nI_eq', nI_z, nI_p, nI_e0, nI_l0, nI_le0, nI_clamp, up_eq, up_ne, not_true_eq_false, Classical.not_not, false_implies, true_implies, false_and, and_false, or_true, true_or, Nat.add_zero, pk_m1, m1_0, m1_n, m1_p, Nat.zero_le, forall_const, Nat.zero_add, Nat.reduceAdd, Nat.reduceEqDiff, or_false, false_or, Nat.one_ne_zero, l64_2, l64_3, l64_4, l64_5, l64_7, l64_9, l64_10, l64_11, l64_15, l64_20, l64_30, l64_40, l64_60, l64_99, l64_255, l64_999, le64l, le64r, le64b, le64n, rset_eq, rset_upd, rset_rset, upd_nep, upd_eqp, ix21_4k, ix21_1, ix21_2, ix21_3, ix21_4, ix21_5, ix21_6, ix21_7, ix21_8, ix21_9, ix21_10, ix76_1, ix76_2, ix76_3, ix100_1, ix100_2, ix100_3]
      exact H41 _ _ (by rw [q1]; exact nI_0) hh
    have H21 : ∀ x, x = nI (if (g && !p) = true then 1 else 0) → M 21 [.ref 8, .int (zb p)] [.int x, .int (nI q), .ref 8] (rset σ 8 (hX h' g i)) := by
      intro x hx
      subst hx
      refine h21 _ _ _ ?_
      have e4 : upd (hX h' g i) 5 (nI (q + if (g && !p) = true then 1 else 0)) 4 = zb g := by rw [upd_nep (by decide)]; exact hX_4
      have eh : upd (hX h' g i) 5 (nI (q + if (g && !p) = true then 1 else 0)) = hX (upd h' 5 (nI (q + if (g && !p) = true then 1 else 0))) g i := hX_u (by decide) (by decide)
      simp (disch := omega) only [bX10_goes_21, k8, e4, zb_0, q_ci, q_cl, q_ild, q_lld, q_ald, q_ist, q_ast, q_lst, q_inc, q_b2, q_d2, q_u1, q_l2, q_ld2, q_lsh, q_lcmp, q_i2l, q_l2i, q_dupi, q_dupr, q_dup2, q_popi, q_popr, q_if1, q_if2, q_nn, q_sw, q_swn, q_swc, q_gf, q_gr, q_pf, q_pz, q_pc, q_ia, q_is, q_cs, q_zs, q_la, q_lw, q_aa, q_al, q_gs, q_acp, q_m2, q_m1, q_ir, q_zr, q_lr, q_ar, q_vr, q_cN0, q_cSX0, q_cV0, q_cVX0, q_cN1, q_cSX1, q_cV1, q_cVX1, q_cN2, q_cSX2, q_cV2, q_cVX2, q_cN3, q_cSX3, q_cV3, q_cVX3, q_cN4, q_cSX4, q_cV4, q_cVX4, q_cN5, q_cSX5, q_cV5, q_cVX5, q_cN6, q_cSX6, q_cV6, q_cVX6, q_th, q_sh0, q_sh1, q_sh2, q_sh3, q_sh4, q_toL0, q_toL1, q_gl0, q_gls, q_sl0, q_sls, q_k10, q_k1s, q_lgi, q_lgr, q_lgl, q_lgn, Bool.not_false, and_true, true_and, nz_2, nz_4, nz_5, nz_8, nz_10, nz_12, nz_14, nz_16, nz_40, nz_41, nz_64, nz_100, nz_1000, nz_1024, nz_4096, nz_10000, nz_100000, not_false_eq_true, bI_0, nI_add, pk_mul, nI_lt', nI_le', nI_eq', nI_z, nI_p, nI_e0, nI_l0, nI_le0, nI_clamp, up_eq, up_ne, not_true_eq_false, Classical.not_not, false_implies, true_implies, false_and, and_false, or_true, true_or, Nat.add_zero, pk_m1, m1_0, m1_n, m1_p, Nat.zero_le, forall_const, Nat.zero_add, Nat.reduceAdd, Nat.reduceEqDiff, or_false, false_or, Nat.one_ne_zero, l64_2, l64_3, l64_4, l64_5, l64_7, l64_9, l64_10, l64_11, l64_15, l64_20, l64_30, l64_40, l64_60, l64_99, l64_255, l64_999, le64l, le64r, le64b, le64n, rset_eq, rset_upd, rset_rset, upd_nep, upd_eqp, ix21_4k, ix21_1, ix21_2, ix21_3, ix21_4, ix21_5, ix21_6, ix21_7, ix21_8, ix21_9, ix21_10, ix76_1, ix76_2, ix76_3, ix100_1, ix100_2, ix100_3]
      refine ⟨fun q1 => H40 _ (by rw [q1]; rfl) eh, fun q1 => ⟨fun q2 => H40 _ (by rw [q2]; cases g <;> rfl) eh, fun q2 => H41 _ _ ?_ eh⟩⟩
      have q1 : g = true := by revert q1; cases g <;> simp
      have q3 : p = true := by revert q2; cases p <;> simp
      rw [q1, q3]; exact nI_one
    have H20 : (g && !p) = false → M 20 [.ref 8, .int (zb p)] [.int (nI q), .ref 8] (rset σ 8 (hX h' g i)) := by
      intro q1
      refine h20 _ _ _ ?_
      simp (disch := omega) only [bX10_goes_20, q_ci, q_cl, q_ild, q_lld, q_ald, q_ist, q_ast, q_lst, q_inc, q_b2, q_d2, q_u1, q_l2, q_ld2, q_lsh, q_lcmp, q_i2l, q_l2i, q_dupi, q_dupr, q_dup2, q_popi, q_popr, q_if1, q_if2, q_nn, q_sw, q_swn, q_swc, q_gf, q_gr, q_pf, q_pz, q_pc, q_ia, q_is, q_cs, q_zs, q_la, q_lw, q_aa, q_al, q_gs, q_acp, q_m2, q_m1, q_ir, q_zr, q_lr, q_ar, q_vr, q_cN0, q_cSX0, q_cV0, q_cVX0, q_cN1, q_cSX1, q_cV1, q_cVX1, q_cN2, q_cSX2, q_cV2, q_cVX2, q_cN3, q_cSX3, q_cV3, q_cVX3, q_cN4, q_cSX4, q_cV4, q_cVX4, q_cN5, q_cSX5, q_cV5, q_cVX5, q_cN6, q_cSX6, q_cV6, q_cVX6, q_th, q_sh0, q_sh1, q_sh2, q_sh3, q_sh4, q_toL0, q_toL1, q_gl0, q_gls, q_sl0, q_sls, q_k10, q_k1s, q_lgi, q_lgr, q_lgl, q_lgn, Bool.not_false, and_true, true_and, nz_2, nz_4, nz_5, nz_8, nz_10, nz_12, nz_14, nz_16, nz_40, nz_41, nz_64, nz_100, nz_1000, nz_1024, nz_4096, nz_10000, nz_100000, not_false_eq_true, bI_0, nI_add, pk_mul, nI_lt', nI_le', nI_eq', nI_z, nI_p, nI_e0, nI_l0, nI_le0, nI_clamp, up_eq, up_ne, not_true_eq_false, Classical.not_not, false_implies, true_implies, false_and, and_false, or_true, true_or, Nat.add_zero, pk_m1, m1_0, m1_n, m1_p, Nat.zero_le, forall_const, Nat.zero_add, Nat.reduceAdd, Nat.reduceEqDiff, or_false, false_or, Nat.one_ne_zero, l64_2, l64_3, l64_4, l64_5, l64_7, l64_9, l64_10, l64_11, l64_15, l64_20, l64_30, l64_40, l64_60, l64_99, l64_255, l64_999, le64l, le64r, le64b, le64n, rset_eq, rset_upd, rset_rset, upd_nep, upd_eqp, ix21_4k, ix21_1, ix21_2, ix21_3, ix21_4, ix21_5, ix21_6, ix21_7, ix21_8, ix21_9, ix21_10, ix76_1, ix76_2, ix76_3, ix100_1, ix100_2, ix100_3]
      exact H21 _ (by rw [q1]; rfl)
    simp (disch := omega) only [bX10_goes_0, k8, e5, hX_4, zb_0, q_ci, q_cl, q_ild, q_lld, q_ald, q_ist, q_ast, q_lst, q_inc, q_b2, q_d2, q_u1, q_l2, q_ld2, q_lsh, q_lcmp, q_i2l, q_l2i, q_dupi, q_dupr, q_dup2, q_popi, q_popr, q_if1, q_if2, q_nn, q_sw, q_swn, q_swc, q_gf, q_gr, q_pf, q_pz, q_pc, q_ia, q_is, q_cs, q_zs, q_la, q_lw, q_aa, q_al, q_gs, q_acp, q_m2, q_m1, q_ir, q_zr, q_lr, q_ar, q_vr, q_cN0, q_cSX0, q_cV0, q_cVX0, q_cN1, q_cSX1, q_cV1, q_cVX1, q_cN2, q_cSX2, q_cV2, q_cVX2, q_cN3, q_cSX3, q_cV3, q_cVX3, q_cN4, q_cSX4, q_cV4, q_cVX4, q_cN5, q_cSX5, q_cV5, q_cVX5, q_cN6, q_cSX6, q_cV6, q_cVX6, q_th, q_sh0, q_sh1, q_sh2, q_sh3, q_sh4, q_toL0, q_toL1, q_gl0, q_gls, q_sl0, q_sls, q_k10, q_k1s, q_lgi, q_lgr, q_lgl, q_lgn, Bool.not_false, and_true, true_and, nz_2, nz_4, nz_5, nz_8, nz_10, nz_12, nz_14, nz_16, nz_40, nz_41, nz_64, nz_100, nz_1000, nz_1024, nz_4096, nz_10000, nz_100000, not_false_eq_true, bI_0, nI_add, pk_mul, nI_lt', nI_le', nI_eq', nI_z, nI_p, nI_e0, nI_l0, nI_le0, nI_clamp, up_eq, up_ne, not_true_eq_false, Classical.not_not, false_implies, true_implies, false_and, and_false, or_true, true_or, Nat.add_zero, pk_m1, m1_0, m1_n, m1_p, Nat.zero_le, forall_const, Nat.zero_add, Nat.reduceAdd, Nat.reduceEqDiff, or_false, false_or, Nat.one_ne_zero, l64_2, l64_3, l64_4, l64_5, l64_7, l64_9, l64_10, l64_11, l64_15, l64_20, l64_30, l64_40, l64_60, l64_99, l64_255, l64_999, le64l, le64r, le64b, le64n, rset_eq, rset_upd, rset_rset, upd_nep, upd_eqp, ix21_4k, ix21_1, ix21_2, ix21_3, ix21_4, ix21_5, ix21_6, ix21_7, ix21_8, ix21_9, ix21_10, ix76_1, ix76_2, ix76_3, ix100_1, ix100_2, ix100_3]
    refine ⟨fun q1 => H20 (by rw [q1]; rfl), fun q1 => ⟨fun q2 => H20 ?_, fun q2 => H21 _ ?_⟩⟩
    · have q3 : p = true := by revert q2; cases p <;> simp
      rw [q3]; cases g <;> rfl
    · have q1 : g = true := by revert q1; cases g <;> simp
      have q3 : p = false := by revert q2; cases p <;> simp
      rw [q1, q3]; rfl
set_option maxRecDepth 20000 in
set_option maxHeartbeats 4000000 in
theorem ok_X10_digit {l : Launch} (hl : l.stackTraces = false) : ab_OkN l yX10_digit (Cond.code yX10_digit cX10_digit 4 (some .int)) 2 sp_X10_digit := by
  intro w σ As Kn hI h
  unfold sp_X10_digit at h
  split at h
  rotate_left 1
  · exact h.elim
  next a lo hi =>
    obtain ⟨rfl, hw, t, m, h', g, i, lo, hi, hT, h2, h8, him, rfl, rfl, hlo, hhi, h⟩ := h
    obtain ⟨k8, k9, l9, -⟩ := id hw
    refine vc_X10_digit hl hI (ok_X10_in hl) (ok_X10_accept hl) (Nat.le_of_ble_eq_true rfl) (fun M h0 h27 h57 h58 h73 => ?_)
    suffices HS : M 0 [.ref 8, .int (nI lo), .int (nI hi), .null] [] (rset σ 8 (σ 8)) from (by rw [rset_self] at HS; exact HS)
    refine h0 _ _ _ ?_
    rw [h8]
    have e2 : hX h' g i 2 = nI m := by rw [hX_k (by decide) (by decide)]; exact h2
    have e3 : hX h' g i 3 = nI i := hX_3
    have hm := hT.1
    have H58 : ∀ v p, (g && p) = (m_d t m g i lo hi).2.1 → (if (g && p) = true then i + 1 else i) = (m_d t m g i lo hi).2.2 → ((g && p) = true → v = nI (m_d t m g i lo hi).1) → ((g && p) = false → lo = (m_d t m g i lo hi).1) → M 58 [.ref 8, .int (nI lo), .int (nI hi), .int v] [.int (zb p), .ref 8] (rset σ 8 (hX h' g i)) := by
      intro v p q1 q2 q3 q4
      refine h58 _ _ _ ?_
      simp (disch := omega) only [bX10_digit_58, sp_X10_accept, k8, q_ci, q_cl, q_ild, q_lld, q_ald, q_ist, q_ast, q_lst, q_inc, q_b2, q_d2, q_u1, q_l2, q_ld2, q_lsh, q_lcmp, q_i2l, q_l2i, q_dupi, q_dupr, q_dup2, q_popi, q_popr, q_if1, q_if2, q_nn, q_sw, q_swn, q_swc, q_gf, q_gr, q_pf, q_pz, q_pc, q_ia, q_is, q_cs, q_zs, q_la, q_lw, q_aa, q_al, q_gs, q_acp, q_m2, q_m1, q_ir, q_zr, q_lr, q_ar, q_vr, q_cN0, q_cSX0, q_cV0, q_cVX0, q_cN1, q_cSX1, q_cV1, q_cVX1, q_cN2, q_cSX2, q_cV2, q_cVX2, q_cN3, q_cSX3, q_cV3, q_cVX3, q_cN4, q_cSX4, q_cV4, q_cVX4, q_cN5, q_cSX5, q_cV5, q_cVX5, q_cN6, q_cSX6, q_cV6, q_cVX6, q_th, q_sh0, q_sh1, q_sh2, q_sh3, q_sh4, q_toL0, q_toL1, q_gl0, q_gls, q_sl0, q_sls, q_k10, q_k1s, q_lgi, q_lgr, q_lgl, q_lgn, Bool.not_false, and_true, true_and, nz_2, nz_4, nz_5, nz_8, nz_10, nz_12, nz_14, nz_16, nz_40, nz_41, nz_64, nz_100, nz_1000, nz_1024, nz_4096, nz_10000, nz_100000, not_false_eq_true, bI_0, nI_add, pk_mul, nI_lt', nI_le', nI_eq', nI_z, nI_p, nI_e0, nI_l0, nI_le0, nI_clamp, up_eq, up_ne, not_true_eq_false, Classical.not_not, false_implies, true_implies, false_and, and_false, or_true, true_or, Nat.add_zero, pk_m1, m1_0, m1_n, m1_p, Nat.zero_le, forall_const, Nat.zero_add, Nat.reduceAdd, Nat.reduceEqDiff, or_false, false_or, Nat.one_ne_zero, l64_2, l64_3, l64_4, l64_5, l64_7, l64_9, l64_10, l64_11, l64_15, l64_20, l64_30, l64_40, l64_60, l64_99, l64_255, l64_999, le64l, le64r, le64b, le64n, rset_eq, rset_upd, rset_rset, upd_nep, upd_eqp, ix21_4k, ix21_1, ix21_2, ix21_3, ix21_4, ix21_5, ix21_6, ix21_7, ix21_8, ix21_9, ix21_10, ix76_1, ix76_2, ix76_3, ix100_1, ix100_2, ix100_3]
      refine ⟨hw, h', g, i, p, rfl, rfl, ?_⟩
      rw [hX_4, zb_0]
      refine ⟨fun q => h73 _ _ _ ?_, fun q => h73 _ _ _ ?_⟩
      · simp (disch := omega) only [bX10_digit_73, q_ci, q_cl, q_ild, q_lld, q_ald, q_ist, q_ast, q_lst, q_inc, q_b2, q_d2, q_u1, q_l2, q_ld2, q_lsh, q_lcmp, q_i2l, q_l2i, q_dupi, q_dupr, q_dup2, q_popi, q_popr, q_if1, q_if2, q_nn, q_sw, q_swn, q_swc, q_gf, q_gr, q_pf, q_pz, q_pc, q_ia, q_is, q_cs, q_zs, q_la, q_lw, q_aa, q_al, q_gs, q_acp, q_m2, q_m1, q_ir, q_zr, q_lr, q_ar, q_vr, q_cN0, q_cSX0, q_cV0, q_cVX0, q_cN1, q_cSX1, q_cV1, q_cVX1, q_cN2, q_cSX2, q_cV2, q_cVX2, q_cN3, q_cSX3, q_cV3, q_cVX3, q_cN4, q_cSX4, q_cV4, q_cVX4, q_cN5, q_cSX5, q_cV5, q_cVX5, q_cN6, q_cSX6, q_cV6, q_cVX6, q_th, q_sh0, q_sh1, q_sh2, q_sh3, q_sh4, q_toL0, q_toL1, q_gl0, q_gls, q_sl0, q_sls, q_k10, q_k1s, q_lgi, q_lgr, q_lgl, q_lgn, Bool.not_false, and_true, true_and, nz_2, nz_4, nz_5, nz_8, nz_10, nz_12, nz_14, nz_16, nz_40, nz_41, nz_64, nz_100, nz_1000, nz_1024, nz_4096, nz_10000, nz_100000, not_false_eq_true, bI_0, nI_add, pk_mul, nI_lt', nI_le', nI_eq', nI_z, nI_p, nI_e0, nI_l0, nI_le0, nI_clamp, up_eq, up_ne, not_true_eq_false, Classical.not_not, false_implies, true_implies, false_and, and_false, or_true, true_or, Nat.add_zero, pk_m1, m1_0, m1_n, m1_p, Nat.zero_le, forall_const, Nat.zero_add, Nat.reduceAdd, Nat.reduceEqDiff, or_false, false_or, Nat.one_ne_zero, l64_2, l64_3, l64_4, l64_5, l64_7, l64_9, l64_10, l64_11, l64_15, l64_20, l64_30, l64_40, l64_60, l64_99, l64_255, l64_999, le64l, le64r, le64b, le64n, rset_eq, rset_upd, rset_rset, upd_nep, upd_eqp, ix21_4k, ix21_1, ix21_2, ix21_3, ix21_4, ix21_5, ix21_6, ix21_7, ix21_8, ix21_9, ix21_10, ix76_1, ix76_2, ix76_3, ix100_1, ix100_2, ix100_3]
        rw [q2, q1]
        rw [← q4 q] at h
        exact h
      · have q5 : (g && p) = true := by revert q; cases (g && p) <;> simp
        simp (disch := omega) only [bX10_digit_73, q_ci, q_cl, q_ild, q_lld, q_ald, q_ist, q_ast, q_lst, q_inc, q_b2, q_d2, q_u1, q_l2, q_ld2, q_lsh, q_lcmp, q_i2l, q_l2i, q_dupi, q_dupr, q_dup2, q_popi, q_popr, q_if1, q_if2, q_nn, q_sw, q_swn, q_swc, q_gf, q_gr, q_pf, q_pz, q_pc, q_ia, q_is, q_cs, q_zs, q_la, q_lw, q_aa, q_al, q_gs, q_acp, q_m2, q_m1, q_ir, q_zr, q_lr, q_ar, q_vr, q_cN0, q_cSX0, q_cV0, q_cVX0, q_cN1, q_cSX1, q_cV1, q_cVX1, q_cN2, q_cSX2, q_cV2, q_cVX2, q_cN3, q_cSX3, q_cV3, q_cVX3, q_cN4, q_cSX4, q_cV4, q_cVX4, q_cN5, q_cSX5, q_cV5, q_cVX5, q_cN6, q_cSX6, q_cV6, q_cVX6, q_th, q_sh0, q_sh1, q_sh2, q_sh3, q_sh4, q_toL0, q_toL1, q_gl0, q_gls, q_sl0, q_sls, q_k10, q_k1s, q_lgi, q_lgr, q_lgl, q_lgn, Bool.not_false, and_true, true_and, nz_2, nz_4, nz_5, nz_8, nz_10, nz_12, nz_14, nz_16, nz_40, nz_41, nz_64, nz_100, nz_1000, nz_1024, nz_4096, nz_10000, nz_100000, not_false_eq_true, bI_0, nI_add, pk_mul, nI_lt', nI_le', nI_eq', nI_z, nI_p, nI_e0, nI_l0, nI_le0, nI_clamp, up_eq, up_ne, not_true_eq_false, Classical.not_not, false_implies, true_implies, false_and, and_false, or_true, true_or, Nat.add_zero, pk_m1, m1_0, m1_n, m1_p, Nat.zero_le, forall_const, Nat.zero_add, Nat.reduceAdd, Nat.reduceEqDiff, or_false, false_or, Nat.one_ne_zero, l64_2, l64_3, l64_4, l64_5, l64_7, l64_9, l64_10, l64_11, l64_15, l64_20, l64_30, l64_40, l64_60, l64_99, l64_255, l64_999, le64l, le64r, le64b, le64n, rset_eq, rset_upd, rset_rset, upd_nep, upd_eqp, ix21_4k, ix21_1, ix21_2, ix21_3, ix21_4, ix21_5, ix21_6, ix21_7, ix21_8, ix21_9, ix21_10, ix76_1, ix76_2, ix76_3, ix100_1, ix100_2, ix100_3]
        rw [q2, q1, q3 q5]
        exact h
    have hbad : ∀ v, (g = true → p_d t m i lo hi = none) → ¬ ((nI 0 ≤ v ∧ v ≤ nI 9) ∧ (nI lo ≤ v ∧ v ≤ nI hi)) → ∀ x, M 27 [.ref 8, .int (nI lo), .int (nI hi), x] [.int v] (rset σ 8 (hX h' g i)) := by
      intro v hp hv x
      have em : m_d t m g i lo hi = (lo, false, i) := by
        unfold m_d
        cases g with
        | true => rw [if_pos rfl, hp rfl]
        | false => rw [if_neg (by decide)]
      rw [em] at H58
      have f57 : M 57 [.ref 8, .int (nI lo), .int (nI hi), .int v] [.ref 8] (rset σ 8 (hX h' g i)) := by
        refine h57 _ _ _ ?_
        simp (disch := omega) only [bX10_digit_57, q_ci, q_cl, q_ild, q_lld, q_ald, q_ist, q_ast, q_lst, q_inc, q_b2, q_d2, q_u1, q_l2, q_ld2, q_lsh, q_lcmp, q_i2l, q_l2i, q_dupi, q_dupr, q_dup2, q_popi, q_popr, q_if1, q_if2, q_nn, q_sw, q_swn, q_swc, q_gf, q_gr, q_pf, q_pz, q_pc, q_ia, q_is, q_cs, q_zs, q_la, q_lw, q_aa, q_al, q_gs, q_acp, q_m2, q_m1, q_ir, q_zr, q_lr, q_ar, q_vr, q_cN0, q_cSX0, q_cV0, q_cVX0, q_cN1, q_cSX1, q_cV1, q_cVX1, q_cN2, q_cSX2, q_cV2, q_cVX2, q_cN3, q_cSX3, q_cV3, q_cVX3, q_cN4, q_cSX4, q_cV4, q_cVX4, q_cN5, q_cSX5, q_cV5, q_cVX5, q_cN6, q_cSX6, q_cV6, q_cVX6, q_th, q_sh0, q_sh1, q_sh2, q_sh3, q_sh4, q_toL0, q_toL1, q_gl0, q_gls, q_sl0, q_sls, q_k10, q_k1s, q_lgi, q_lgr, q_lgl, q_lgn, Bool.not_false, and_true, true_and, nz_2, nz_4, nz_5, nz_8, nz_10, nz_12, nz_14, nz_16, nz_40, nz_41, nz_64, nz_100, nz_1000, nz_1024, nz_4096, nz_10000, nz_100000, not_false_eq_true, bI_0, nI_add, pk_mul, nI_lt', nI_le', nI_eq', nI_z, nI_p, nI_e0, nI_l0, nI_le0, nI_clamp, up_eq, up_ne, not_true_eq_false, Classical.not_not, false_implies, true_implies, false_and, and_false, or_true, true_or, Nat.add_zero, pk_m1, m1_0, m1_n, m1_p, Nat.zero_le, forall_const, Nat.zero_add, Nat.reduceAdd, Nat.reduceEqDiff, or_false, false_or, Nat.one_ne_zero, l64_2, l64_3, l64_4, l64_5, l64_7, l64_9, l64_10, l64_11, l64_15, l64_20, l64_30, l64_40, l64_60, l64_99, l64_255, l64_999, le64l, le64r, le64b, le64n, rset_eq, rset_upd, rset_rset, upd_nep, upd_eqp, ix21_4k, ix21_1, ix21_2, ix21_3, ix21_4, ix21_5, ix21_6, ix21_7, ix21_8, ix21_9, ix21_10, ix76_1, ix76_2, ix76_3, ix100_1, ix100_2, ix100_3]
        rw [nI_0]
        exact H58 v false (by cases g <;> rfl) (by cases g <;> rfl) (fun q => by revert q; cases g <;> simp) (fun _ => rfl)
      refine h27 _ _ _ ?_
      simp (disch := omega) only [bX10_digit_27, sp_X10_in, q_ci, q_cl, q_ild, q_lld, q_ald, q_ist, q_ast, q_lst, q_inc, q_b2, q_d2, q_u1, q_l2, q_ld2, q_lsh, q_lcmp, q_i2l, q_l2i, q_dupi, q_dupr, q_dup2, q_popi, q_popr, q_if1, q_if2, q_nn, q_sw, q_swn, q_swc, q_gf, q_gr, q_pf, q_pz, q_pc, q_ia, q_is, q_cs, q_zs, q_la, q_lw, q_aa, q_al, q_gs, q_acp, q_m2, q_m1, q_ir, q_zr, q_lr, q_ar, q_vr, q_cN0, q_cSX0, q_cV0, q_cVX0, q_cN1, q_cSX1, q_cV1, q_cVX1, q_cN2, q_cSX2, q_cV2, q_cVX2, q_cN3, q_cSX3, q_cV3, q_cVX3, q_cN4, q_cSX4, q_cV4, q_cVX4, q_cN5, q_cSX5, q_cV5, q_cVX5, q_cN6, q_cSX6, q_cV6, q_cVX6, q_th, q_sh0, q_sh1, q_sh2, q_sh3, q_sh4, q_toL0, q_toL1, q_gl0, q_gls, q_sl0, q_sls, q_k10, q_k1s, q_lgi, q_lgr, q_lgl, q_lgn, Bool.not_false, and_true, true_and, nz_2, nz_4, nz_5, nz_8, nz_10, nz_12, nz_14, nz_16, nz_40, nz_41, nz_64, nz_100, nz_1000, nz_1024, nz_4096, nz_10000, nz_100000, not_false_eq_true, bI_0, nI_add, pk_mul, nI_lt', nI_le', nI_eq', nI_z, nI_p, nI_e0, nI_l0, nI_le0, nI_clamp, up_eq, up_ne, not_true_eq_false, Classical.not_not, false_implies, true_implies, false_and, and_false, or_true, true_or, Nat.add_zero, pk_m1, m1_0, m1_n, m1_p, Nat.zero_le, forall_const, Nat.zero_add, Nat.reduceAdd, Nat.reduceEqDiff, or_false, false_or, Nat.one_ne_zero, l64_2, l64_3, l64_4, l64_5, l64_7, l64_9, l64_10, l64_11, l64_15, l64_20, l64_30, l64_40, l64_60, l64_99, l64_255, l64_999, le64l, le64r, le64b, le64n, rset_eq, rset_upd, rset_rset, upd_nep, upd_eqp, ix21_4k, ix21_1, ix21_2, ix21_3, ix21_4, ix21_5, ix21_6, ix21_7, ix21_8, ix21_9, ix21_10, ix76_1, ix76_2, ix76_3, ix100_1, ix100_2, ix100_3]
      exact ⟨fun _ => f57, fun q => ⟨fun _ => f57, fun q2 => absurd ⟨q, q2⟩ hv⟩⟩
    by_cases hlt : i < m
    · obtain ⟨e9, et⟩ := hT.2 i hlt
      have e9' : rset σ 8 (hX h' g i) 9 i = nI (t i) := by rw [rset_ne (by decide)]; exact e9
      have vi : vp_in (nI i) 120 := vp_in_nI (by omega) (by omega)
      simp (disch := omega) only [bX10_digit_0, k8, k9, l9, e2, e3, e9', q_ci, q_cl, q_ild, q_lld, q_ald, q_ist, q_ast, q_lst, q_inc, q_b2, q_d2, q_u1, q_l2, q_ld2, q_lsh, q_lcmp, q_i2l, q_l2i, q_dupi, q_dupr, q_dup2, q_popi, q_popr, q_if1, q_if2, q_nn, q_sw, q_swn, q_swc, q_gf, q_gr, q_pf, q_pz, q_pc, q_ia, q_is, q_cs, q_zs, q_la, q_lw, q_aa, q_al, q_gs, q_acp, q_m2, q_m1, q_ir, q_zr, q_lr, q_ar, q_vr, q_cN0, q_cSX0, q_cV0, q_cVX0, q_cN1, q_cSX1, q_cV1, q_cVX1, q_cN2, q_cSX2, q_cV2, q_cVX2, q_cN3, q_cSX3, q_cV3, q_cVX3, q_cN4, q_cSX4, q_cV4, q_cVX4, q_cN5, q_cSX5, q_cV5, q_cVX5, q_cN6, q_cSX6, q_cV6, q_cVX6, q_th, q_sh0, q_sh1, q_sh2, q_sh3, q_sh4, q_toL0, q_toL1, q_gl0, q_gls, q_sl0, q_sls, q_k10, q_k1s, q_lgi, q_lgr, q_lgl, q_lgn, Bool.not_false, and_true, true_and, nz_2, nz_4, nz_5, nz_8, nz_10, nz_12, nz_14, nz_16, nz_40, nz_41, nz_64, nz_100, nz_1000, nz_1024, nz_4096, nz_10000, nz_100000, not_false_eq_true, bI_0, nI_add, pk_mul, nI_lt', nI_le', nI_eq', nI_z, nI_p, nI_e0, nI_l0, nI_le0, nI_clamp, up_eq, up_ne, not_true_eq_false, Classical.not_not, false_implies, true_implies, false_and, and_false, or_true, true_or, Nat.add_zero, pk_m1, m1_0, m1_n, m1_p, Nat.zero_le, forall_const, Nat.zero_add, Nat.reduceAdd, Nat.reduceEqDiff, or_false, false_or, Nat.one_ne_zero, l64_2, l64_3, l64_4, l64_5, l64_7, l64_9, l64_10, l64_11, l64_15, l64_20, l64_30, l64_40, l64_60, l64_99, l64_255, l64_999, le64l, le64r, le64b, le64n, rset_eq, rset_upd, rset_rset, upd_nep, upd_eqp, ix21_4k, ix21_1, ix21_2, ix21_3, ix21_4, ix21_5, ix21_6, ix21_7, ix21_8, ix21_9, ix21_10, ix76_1, ix76_2, ix76_3, ix100_1, ix100_2, ix100_3]
      refine ⟨fun q => absurd hlt (by omega), fun _ => ⟨vi, ?_⟩⟩
      by_cases h48 : 48 ≤ t i
      · rw [pk_sub h48]
        by_cases hok : t i ≤ 57 ∧ lo ≤ t i - 48 ∧ t i - 48 ≤ hi
        · have hp : p_d t m i lo hi = some (t i - 48) := by unfold p_d; rw [if_pos ⟨hlt, h48, hok⟩]
          refine h27 _ _ _ ?_
          simp (disch := omega) only [bX10_digit_27, sp_X10_in, q_ci, q_cl, q_ild, q_lld, q_ald, q_ist, q_ast, q_lst, q_inc, q_b2, q_d2, q_u1, q_l2, q_ld2, q_lsh, q_lcmp, q_i2l, q_l2i, q_dupi, q_dupr, q_dup2, q_popi, q_popr, q_if1, q_if2, q_nn, q_sw, q_swn, q_swc, q_gf, q_gr, q_pf, q_pz, q_pc, q_ia, q_is, q_cs, q_zs, q_la, q_lw, q_aa, q_al, q_gs, q_acp, q_m2, q_m1, q_ir, q_zr, q_lr, q_ar, q_vr, q_cN0, q_cSX0, q_cV0, q_cVX0, q_cN1, q_cSX1, q_cV1, q_cVX1, q_cN2, q_cSX2, q_cV2, q_cVX2, q_cN3, q_cSX3, q_cV3, q_cVX3, q_cN4, q_cSX4, q_cV4, q_cVX4, q_cN5, q_cSX5, q_cV5, q_cVX5, q_cN6, q_cSX6, q_cV6, q_cVX6, q_th, q_sh0, q_sh1, q_sh2, q_sh3, q_sh4, q_toL0, q_toL1, q_gl0, q_gls, q_sl0, q_sls, q_k10, q_k1s, q_lgi, q_lgr, q_lgl, q_lgn, Bool.not_false, and_true, true_and, nz_2, nz_4, nz_5, nz_8, nz_10, nz_12, nz_14, nz_16, nz_40, nz_41, nz_64, nz_100, nz_1000, nz_1024, nz_4096, nz_10000, nz_100000, not_false_eq_true, bI_0, nI_add, pk_mul, nI_lt', nI_le', nI_eq', nI_z, nI_p, nI_e0, nI_l0, nI_le0, nI_clamp, up_eq, up_ne, not_true_eq_false, Classical.not_not, false_implies, true_implies, false_and, and_false, or_true, true_or, Nat.add_zero, pk_m1, m1_0, m1_n, m1_p, Nat.zero_le, forall_const, Nat.zero_add, Nat.reduceAdd, Nat.reduceEqDiff, or_false, false_or, Nat.one_ne_zero, l64_2, l64_3, l64_4, l64_5, l64_7, l64_9, l64_10, l64_11, l64_15, l64_20, l64_30, l64_40, l64_60, l64_99, l64_255, l64_999, le64l, le64r, le64b, le64n, rset_eq, rset_upd, rset_rset, upd_nep, upd_eqp, ix21_4k, ix21_1, ix21_2, ix21_3, ix21_4, ix21_5, ix21_6, ix21_7, ix21_8, ix21_9, ix21_10, ix76_1, ix76_2, ix76_3, ix100_1, ix100_2, ix100_3]
          refine ⟨fun q => absurd (by omega) q, fun _ => ⟨fun q => absurd (by omega) q, fun _ => ?_⟩⟩
          rw [nI_one, ← zb_t]
          refine H58 _ true ?_ ?_ (fun q => ?_) (fun q => ?_)
          · unfold m_d; rw [hp]; cases g <;> rfl
          · unfold m_d; rw [hp]; cases g <;> rfl
          · unfold m_d; rw [hp]; revert q; cases g <;> simp
          · unfold m_d; revert q; cases g <;> simp
        · refine hbad _ (fun _ => ?_) ?_ _
          · unfold p_d; rw [if_neg (fun q => hok q.2.2)]
          · rw [nI_le' (by omega) (by omega), nI_le' (by omega) (by omega), nI_le' (by omega) (by omega), nI_le' (by omega) (by omega)]
            omega
      · refine hbad _ (fun _ => ?_) (fun q => ?_) _
        · unfold p_d; rw [if_neg (fun q => h48 q.2.1)]
        · have := pk_sneg (a := t i) (b := 48) (by omega) (by omega)
          rw [nI_0] at q
          exact absurd this (Int32.not_lt.mpr q.1.1)
    · simp (disch := omega) only [bX10_digit_0, k8, e2, e3, q_ci, q_cl, q_ild, q_lld, q_ald, q_ist, q_ast, q_lst, q_inc, q_b2, q_d2, q_u1, q_l2, q_ld2, q_lsh, q_lcmp, q_i2l, q_l2i, q_dupi, q_dupr, q_dup2, q_popi, q_popr, q_if1, q_if2, q_nn, q_sw, q_swn, q_swc, q_gf, q_gr, q_pf, q_pz, q_pc, q_ia, q_is, q_cs, q_zs, q_la, q_lw, q_aa, q_al, q_gs, q_acp, q_m2, q_m1, q_ir, q_zr, q_lr, q_ar, q_vr, q_cN0, q_cSX0, q_cV0, q_cVX0, q_cN1, q_cSX1, q_cV1, q_cVX1, q_cN2, q_cSX2, q_cV2, q_cVX2, q_cN3, q_cSX3, q_cV3, q_cVX3, q_cN4, q_cSX4, q_cV4, q_cVX4, q_cN5, q_cSX5, q_cV5, q_cVX5, q_cN6, q_cSX6, q_cV6, q_cVX6, q_th, q_sh0, q_sh1, q_sh2, q_sh3, q_sh4, q_toL0, q_toL1, q_gl0, q_gls, q_sl0, q_sls, q_k10, q_k1s, q_lgi, q_lgr, q_lgl, q_lgn, Bool.not_false, and_true, true_and, nz_2, nz_4, nz_5, nz_8, nz_10, nz_12, nz_14, nz_16, nz_40, nz_41, nz_64, nz_100, nz_1000, nz_1024, nz_4096, nz_10000, nz_100000, not_false_eq_true, bI_0, nI_add, pk_mul, nI_lt', nI_le', nI_eq', nI_z, nI_p, nI_e0, nI_l0, nI_le0, nI_clamp, up_eq, up_ne, not_true_eq_false, Classical.not_not, false_implies, true_implies, false_and, and_false, or_true, true_or, Nat.add_zero, pk_m1, m1_0, m1_n, m1_p, Nat.zero_le, forall_const, Nat.zero_add, Nat.reduceAdd, Nat.reduceEqDiff, or_false, false_or, Nat.one_ne_zero, l64_2, l64_3, l64_4, l64_5, l64_7, l64_9, l64_10, l64_11, l64_15, l64_20, l64_30, l64_40, l64_60, l64_99, l64_255, l64_999, le64l, le64r, le64b, le64n, rset_eq, rset_upd, rset_rset, upd_nep, upd_eqp, ix21_4k, ix21_1, ix21_2, ix21_3, ix21_4, ix21_5, ix21_6, ix21_7, ix21_8, ix21_9, ix21_10, ix76_1, ix76_2, ix76_3, ix100_1, ix100_2, ix100_3]
      refine ⟨fun _ => hbad _ (fun _ => ?_) (fun q => ?_) _, fun q => absurd hlt (by omega)⟩
      · unfold p_d; rw [if_neg (fun q => hlt q.1)]
      · rw [nI_0] at q
        exact absurd q.1.1 (by decide +kernel)
set_option maxRecDepth 20000 in
set_option maxHeartbeats 4000000 in
theorem ok_X10_two {l : Launch} (hl : l.stackTraces = false) : ab_OkN l yX10_two (Cond.code yX10_two cX10_two 4 (some .int)) 3 sp_X10_two := by
  intro w σ As Kn hI h
  unfold sp_X10_two at h
  split at h
  rotate_left 1
  · exact h.elim
  next a lo hi =>
    obtain ⟨rfl, hw, t, m, h', g, i, lo, hi, hT, h2, h8, him, rfl, rfl, hlo, hhi, h⟩ := h
    obtain ⟨k8, k9, l9, -⟩ := id hw
    refine vc_X10_two hl hI (ok_X10_digit hl) (Nat.le_of_ble_eq_true rfl) (fun M h0 h34 h51 => ?_)
    suffices HS : M 0 [.ref 8, .int (nI lo), .int (nI hi), .null] [] (rset σ 8 (σ 8)) from (by rw [rset_self] at HS; exact HS)
    refine h0 _ _ _ ?_
    rw [h8]
    simp (disch := omega) only [bX10_two_0, sp_X10_digit, k8, pk_div, rem2, q_ci, q_cl, q_ild, q_lld, q_ald, q_ist, q_ast, q_lst, q_inc, q_b2, q_d2, q_u1, q_l2, q_ld2, q_lsh, q_lcmp, q_i2l, q_l2i, q_dupi, q_dupr, q_dup2, q_popi, q_popr, q_if1, q_if2, q_nn, q_sw, q_swn, q_swc, q_gf, q_gr, q_pf, q_pz, q_pc, q_ia, q_is, q_cs, q_zs, q_la, q_lw, q_aa, q_al, q_gs, q_acp, q_m2, q_m1, q_ir, q_zr, q_lr, q_ar, q_vr, q_cN0, q_cSX0, q_cV0, q_cVX0, q_cN1, q_cSX1, q_cV1, q_cVX1, q_cN2, q_cSX2, q_cV2, q_cVX2, q_cN3, q_cSX3, q_cV3, q_cVX3, q_cN4, q_cSX4, q_cV4, q_cVX4, q_cN5, q_cSX5, q_cV5, q_cVX5, q_cN6, q_cSX6, q_cV6, q_cVX6, q_th, q_sh0, q_sh1, q_sh2, q_sh3, q_sh4, q_toL0, q_toL1, q_gl0, q_gls, q_sl0, q_sls, q_k10, q_k1s, q_lgi, q_lgr, q_lgl, q_lgn, Bool.not_false, and_true, true_and, nz_2, nz_4, nz_5, nz_8, nz_10, nz_12, nz_14, nz_16, nz_40, nz_41, nz_64, nz_100, nz_1000, nz_1024, nz_4096, nz_10000, nz_100000, not_false_eq_true, bI_0, nI_add, pk_mul, nI_lt', nI_le', nI_eq', nI_z, nI_p, nI_e0, nI_l0, nI_le0, nI_clamp, up_eq, up_ne, not_true_eq_false, Classical.not_not, false_implies, true_implies, false_and, and_false, or_true, true_or, Nat.add_zero, pk_m1, m1_0, m1_n, m1_p, Nat.zero_le, forall_const, Nat.zero_add, Nat.reduceAdd, Nat.reduceEqDiff, or_false, false_or, Nat.one_ne_zero, l64_2, l64_3, l64_4, l64_5, l64_7, l64_9, l64_10, l64_11, l64_15, l64_20, l64_30, l64_40, l64_60, l64_99, l64_255, l64_999, le64l, le64r, le64b, le64n, rset_eq, rset_upd, rset_rset, upd_nep, upd_eqp, ix21_4k, ix21_1, ix21_2, ix21_3, ix21_4, ix21_5, ix21_6, ix21_7, ix21_8, ix21_9, ix21_10, ix76_1, ix76_2, ix76_3, ix100_1, ix100_2, ix100_3]
    refine ⟨hw, t, m, h', g, i, lo / 10, hi / 10, hT.r, h2, rfl, him, rfl, rfl, by omega, by omega, ?_⟩
    unfold m_2 at h
    dsimp only at h
    obtain ⟨a1, a2, -⟩ := m_d_le (t := t) (g := g) (show hi / 10 ≤ 9 by omega) (show lo / 10 ≤ 9 by omega) him
    generalize m_d t m g i (lo / 10) (hi / 10) = x at *
    obtain ⟨v, g2, i2⟩ := x
    dsimp only at *
    have H51 : ∀ c d, c = (if v = lo / 10 then lo % 10 else 0) → d = (if v = hi / 10 then hi % 10 else 9) → M 51 [.ref 8, .int (nI lo), .int (nI hi), .int (nI v)] [.int (nI d), .int (nI c), .ref 8, .int (nI (10 * v))] (rset σ 8 (hX h' g2 i2)) := by
      intro c d hc hd
      subst hc; subst hd
      refine h51 _ _ _ ?_
      simp (disch := omega) only [bX10_two_51, sp_X10_digit, k8, q_ci, q_cl, q_ild, q_lld, q_ald, q_ist, q_ast, q_lst, q_inc, q_b2, q_d2, q_u1, q_l2, q_ld2, q_lsh, q_lcmp, q_i2l, q_l2i, q_dupi, q_dupr, q_dup2, q_popi, q_popr, q_if1, q_if2, q_nn, q_sw, q_swn, q_swc, q_gf, q_gr, q_pf, q_pz, q_pc, q_ia, q_is, q_cs, q_zs, q_la, q_lw, q_aa, q_al, q_gs, q_acp, q_m2, q_m1, q_ir, q_zr, q_lr, q_ar, q_vr, q_cN0, q_cSX0, q_cV0, q_cVX0, q_cN1, q_cSX1, q_cV1, q_cVX1, q_cN2, q_cSX2, q_cV2, q_cVX2, q_cN3, q_cSX3, q_cV3, q_cVX3, q_cN4, q_cSX4, q_cV4, q_cVX4, q_cN5, q_cSX5, q_cV5, q_cVX5, q_cN6, q_cSX6, q_cV6, q_cVX6, q_th, q_sh0, q_sh1, q_sh2, q_sh3, q_sh4, q_toL0, q_toL1, q_gl0, q_gls, q_sl0, q_sls, q_k10, q_k1s, q_lgi, q_lgr, q_lgl, q_lgn, Bool.not_false, and_true, true_and, nz_2, nz_4, nz_5, nz_8, nz_10, nz_12, nz_14, nz_16, nz_40, nz_41, nz_64, nz_100, nz_1000, nz_1024, nz_4096, nz_10000, nz_100000, not_false_eq_true, bI_0, nI_add, pk_mul, nI_lt', nI_le', nI_eq', nI_z, nI_p, nI_e0, nI_l0, nI_le0, nI_clamp, up_eq, up_ne, not_true_eq_false, Classical.not_not, false_implies, true_implies, false_and, and_false, or_true, true_or, Nat.add_zero, pk_m1, m1_0, m1_n, m1_p, Nat.zero_le, forall_const, Nat.zero_add, Nat.reduceAdd, Nat.reduceEqDiff, or_false, false_or, Nat.one_ne_zero, l64_2, l64_3, l64_4, l64_5, l64_7, l64_9, l64_10, l64_11, l64_15, l64_20, l64_30, l64_40, l64_60, l64_99, l64_255, l64_999, le64l, le64r, le64b, le64n, rset_eq, rset_upd, rset_rset, upd_nep, upd_eqp, ix21_4k, ix21_1, ix21_2, ix21_3, ix21_4, ix21_5, ix21_6, ix21_7, ix21_8, ix21_9, ix21_10, ix76_1, ix76_2, ix76_3, ix100_1, ix100_2, ix100_3]
      exact ⟨hw, t, m, h', g2, i2, _, _, hT.r, h2, rfl, a2, rfl, rfl, by split <;> omega, by split <;> omega, h⟩
    have H34 : ∀ c, c = (if v = lo / 10 then lo % 10 else 0) → M 34 [.ref 8, .int (nI lo), .int (nI hi), .int (nI v)] [.int (nI c), .ref 8, .int (nI (10 * v))] (rset σ 8 (hX h' g2 i2)) := by
      intro c hc
      refine h34 _ _ _ ?_
      simp (disch := omega) only [bX10_two_34, pk_div, rem2, q_ci, q_cl, q_ild, q_lld, q_ald, q_ist, q_ast, q_lst, q_inc, q_b2, q_d2, q_u1, q_l2, q_ld2, q_lsh, q_lcmp, q_i2l, q_l2i, q_dupi, q_dupr, q_dup2, q_popi, q_popr, q_if1, q_if2, q_nn, q_sw, q_swn, q_swc, q_gf, q_gr, q_pf, q_pz, q_pc, q_ia, q_is, q_cs, q_zs, q_la, q_lw, q_aa, q_al, q_gs, q_acp, q_m2, q_m1, q_ir, q_zr, q_lr, q_ar, q_vr, q_cN0, q_cSX0, q_cV0, q_cVX0, q_cN1, q_cSX1, q_cV1, q_cVX1, q_cN2, q_cSX2, q_cV2, q_cVX2, q_cN3, q_cSX3, q_cV3, q_cVX3, q_cN4, q_cSX4, q_cV4, q_cVX4, q_cN5, q_cSX5, q_cV5, q_cVX5, q_cN6, q_cSX6, q_cV6, q_cVX6, q_th, q_sh0, q_sh1, q_sh2, q_sh3, q_sh4, q_toL0, q_toL1, q_gl0, q_gls, q_sl0, q_sls, q_k10, q_k1s, q_lgi, q_lgr, q_lgl, q_lgn, Bool.not_false, and_true, true_and, nz_2, nz_4, nz_5, nz_8, nz_10, nz_12, nz_14, nz_16, nz_40, nz_41, nz_64, nz_100, nz_1000, nz_1024, nz_4096, nz_10000, nz_100000, not_false_eq_true, bI_0, nI_add, pk_mul, nI_lt', nI_le', nI_eq', nI_z, nI_p, nI_e0, nI_l0, nI_le0, nI_clamp, up_eq, up_ne, not_true_eq_false, Classical.not_not, false_implies, true_implies, false_and, and_false, or_true, true_or, Nat.add_zero, pk_m1, m1_0, m1_n, m1_p, Nat.zero_le, forall_const, Nat.zero_add, Nat.reduceAdd, Nat.reduceEqDiff, or_false, false_or, Nat.one_ne_zero, l64_2, l64_3, l64_4, l64_5, l64_7, l64_9, l64_10, l64_11, l64_15, l64_20, l64_30, l64_40, l64_60, l64_99, l64_255, l64_999, le64l, le64r, le64b, le64n, rset_eq, rset_upd, rset_rset, upd_nep, upd_eqp, ix21_4k, ix21_1, ix21_2, ix21_3, ix21_4, ix21_5, ix21_6, ix21_7, ix21_8, ix21_9, ix21_10, ix76_1, ix76_2, ix76_3, ix100_1, ix100_2, ix100_3]
      exact ⟨fun q => H51 _ _ hc (if_neg q).symm, fun q => H51 _ _ hc (if_pos q).symm⟩
    rw [nI_eq' (by omega) (by omega)]
    exact ⟨fun q => H34 _ (if_neg q).symm, fun q => H34 _ (if_pos q).symm⟩
