/-! THE TEXT AS A VALUE: codes t, m of them, read from i on -/
/-- a command: its letter, its numbers -/
abbrev tC : Type := Nat × Nat × Nat × Nat × Nat × Nat
abbrev tP (α : Type) : Type := Nat × Option α
def pb {α β : Type} (x : tP α) (f : α → Nat → tP β) : tP β := match x.2 with
  | none => (x.1, none)
  | some a => f a x.1
def p_d (t : Nat → Nat) (m i lo hi : Nat) : Option Nat := if i < m ∧ 48 ≤ t i ∧ t i ≤ 57 ∧ lo ≤ t i - 48 ∧ t i - 48 ≤ hi then some (t i - 48) else none
def p_n1 (t : Nat → Nat) (m i lo hi : Nat) : tP Nat := match p_d t m i lo hi with
  | none => (i, none)
  | some a => (i + 1, some a)
def p_n2 (t : Nat → Nat) (m i lo hi : Nat) : tP Nat := match p_d t m i (lo / 10) (hi / 10) with
  | none => (i, none)
  | some a => match p_d t m (i + 1) (if a = lo / 10 then lo % 10 else 0) (if a = hi / 10 then hi % 10 else 9) with
    | none => (i + 1, none)
    | some b => (i + 2, some (10 * a + b))
def p_n (t : Nat → Nat) (m i d lo hi : Nat) : tP Nat := if d = 1 then p_n1 t m i lo hi else p_n2 t m i lo hi
def p_pm (t : Nat → Nat) (m i : Nat) : tP Bool := if i < m ∧ t i = 45 then (i + 1, some true) else if i < m ∧ t i = 43 then (i + 1, some false) else (i, none)
def p_s (t : Nat → Nat) (m i : Nat) : tP tC := pb (p_n t m i 2 0 99) fun p i => pb (p_n t m i 2 0 15) fun h i => pb (p_n t m i 1 1 5) fun z i => pb (p_n t m i 2 0 99) fun g i => pb (p_n t m i 1 0 9) fun k i => (i, some (115, p, h, z, g, k))
def p_f (t : Nat → Nat) (m i : Nat) : tP tC := pb (p_n t m i 2 0 99) fun p i => pb (p_n t m i 2 0 20) fun r i => pb (p_n t m i 2 1 30) fun d i => (i, some (102, p, r, d, 0, 0))
def p_w (t : Nat → Nat) (m i : Nat) : tP tC := pb (p_n t m i 1 0 3) fun h i => pb (p_pm t m i) fun b i => pb (p_n t m i 2 0 20) fun v i => (i, some (119, h, (if b then 1 else 0), v, 0, 0))
def p_o (t : Nat → Nat) (m i : Nat) : tP tC := pb (p_n t m i 1 0 4) fun s i => pb (p_n t m i 2 0 99) fun g i => pb (p_n t m i 1 0 9) fun k i => (i, some (100, s, g, k, 0, 0))
def p_r (t : Nat → Nat) (m i : Nat) : tP tC := pb (p_n t m i 1 1 9) fun n i => (i, some (114, n, 0, 0, 0, 0))
def p_cmd (t : Nat → Nat) (m i : Nat) : tP tC := if t i = 115 then p_s t m (i + 1) else if t i = 102 then p_f t m (i + 1) else if t i = 119 then p_w t m (i + 1) else if t i = 100 then p_o t m (i + 1) else if t i = 114 then p_r t m (i + 1) else (i, none)
/-! the class's text -/
def wX (w : ab_W) : Prop := ab_kd w 1 = 8 ∧ ab_kd w 2 = 12 ∧ ab_ln w 2 = 120 ∧ ab_kd w 3 = 11 ∧ ab_ln w 3 = 5
def tR (σ : ab_H) (t : Nat → Nat) (m : Nat) : Prop := σ 1 1 = nI m ∧ m ≤ 120 ∧ ∀ j, j < m → σ 2 j = nI (t j) ∧ t j ≤ 255
def tI (σ : ab_H) (m i : Nat) : Prop := σ 1 2 = nI i ∧ i ≤ m
def FrX (σ σ' : ab_H) : Prop := (∀ v, v ≠ 1 → v ≠ 3 → σ' v = σ v) ∧ ∀ k, k ≠ 2 → σ' 1 k = σ 1 k
theorem FrX.t {σ σ' : ab_H} {t : Nat → Nat} {m : Nat} (h : FrX σ σ') (ht : tR σ t m) : tR σ' t m := ⟨by rw [h.2 1 (by omega)]; exact ht.1, ht.2.1, by rw [h.1 2 (by omega) (by omega)]; exact ht.2.2⟩
theorem FrX.trans {σ σ' σ2 : ab_H} (h : FrX σ σ') (g : FrX σ' σ2) : FrX σ σ2 := ⟨fun v h1 h2 => by rw [g.1 v h1 h2, h.1 v h1 h2], fun k hk => by rw [g.2 k hk, h.2 k hk]⟩
theorem FrX.refl {σ : ab_H} : FrX σ σ := ⟨fun _ _ _ => rfl, fun _ _ => rfl⟩
theorem FrX.at {σ : ab_H} {x : Int32} : FrX σ (ab_up σ 1 2 x) := ⟨fun v h1 _ => up_ne h1, fun k hk => up_nep hk⟩
def sp_X8_skip : ab_S := fun w As σ K => match As with
  | [.ref a, .int c] => a = 1 ∧ wX w ∧ ∃ t m i k, tR σ t m ∧ tI σ m i ∧ c = nI k ∧ k ≤ 255 ∧ (i < m ∧ t i = k → K (some (.int 1)) (ab_up σ 1 2 (nI (i + 1)))) ∧ (¬ (i < m ∧ t i = k) → K (some (.int 0)) σ)
  | _ => False
def sp_X8_readNumber : ab_S := fun w As σ K => match As with
  | [.ref a, .int j, .int d, .int lo, .int hi] => a = 1 ∧ wX w ∧ ∃ t m i j' d' lo' hi', tR σ t m ∧ tI σ m i ∧ j = nI j' ∧ j' < 5 ∧ d = nI d' ∧ (d' = 1 ∨ d' = 2) ∧ lo = nI lo' ∧ hi = nI hi' ∧ lo' ≤ 99 ∧ hi' ≤ 99 ∧
     (∀ σ' v, p_n t m i d' lo' hi' = ((p_n t m i d' lo' hi').1, some v) → FrX σ σ' → tI σ' m (p_n t m i d' lo' hi').1 → σ' 3 = upd (σ 3) j' (nI v) → K (some (.int 1)) σ') ∧
     (∀ σ', (p_n t m i d' lo' hi').2 = none → FrX σ σ' → tI σ' m (p_n t m i d' lo' hi').1 → σ' 3 = σ 3 → K (some (.int 0)) σ')
  | _ => False
set_option maxRecDepth 20000 in
set_option maxHeartbeats 4000000 in
theorem ok_X8_skip {l : Launch} (hl : l.stackTraces = false) : ab_OkN l yX8_skip (Cond.code yX8_skip cX8_skip 2 (some .boolean)) 1 sp_X8_skip := by
  intro w σ As Kn hI h
  unfold sp_X8_skip at h
  split at h
  · next a c =>
    obtain ⟨rfl, hw, t, m, i, k, hR, hi, rfl, hk, ha, hb⟩ := h
    refine vc_X8_skip hl hI (Nat.le_of_ble_eq_true rfl) (fun M h0 h1 => h0 [.ref 1, .int (nI k)] [] σ ?_)
    obtain ⟨w1, w2, w3, w4, w5⟩ := hw
    obtain ⟨r1, r2, r3⟩ := hR
    obtain ⟨i1, i2⟩ := hi
    by_cases him : i < m
    · obtain ⟨q1, q2⟩ := r3 i him
      have vp : vp_in (nI i) 120 := vp_in_nI (by omega) (by omega)
      simp (disch := omega) only [bX8_skip_0, w1, w2, w3, r1, i1, q1, q_ci, q_cl, q_ild, q_lld, q_ald, q_ist, q_ast, q_lst, q_inc, q_b2, q_d2, q_u1, q_l2, q_ld2, q_lsh, q_lcmp, q_i2l, q_l2i, q_dupi, q_dupr, q_dup2, q_popi, q_popr, q_if1, q_if2, q_nn, q_sw, q_swn, q_swc, q_gf, q_gr, q_pf, q_pz, q_pc, q_ia, q_is, q_cs, q_zs, q_la, q_lw, q_aa, q_al, q_gs, q_acp, q_m2, q_m1, q_ir, q_zr, q_lr, q_ar, q_vr, q_cN0, q_cSX0, q_cV0, q_cVX0, q_cN1, q_cSX1, q_cV1, q_cVX1, q_cN2, q_cSX2, q_cV2, q_cVX2, q_cN3, q_cSX3, q_cV3, q_cVX3, q_cN4, q_cSX4, q_cV4, q_cVX4, q_cN5, q_cSX5, q_cV5, q_cVX5, q_cN6, q_cSX6, q_cV6, q_cVX6, q_th, q_sh0, q_sh1, q_sh2, q_sh3, q_sh4, q_toL0, q_toL1, q_gl0, q_gls, q_sl0, q_sls, q_k10, q_k1s, q_lgi, q_lgr, q_lgl, q_lgn, Bool.not_false, and_true, true_and, nz_2, nz_4, nz_5, nz_8, nz_10, nz_12, nz_14, nz_16, nz_40, nz_41, nz_64, nz_100, nz_1000, nz_1024, nz_4096, nz_10000, nz_100000, not_false_eq_true, bI_0, nI_add, pk_mul, nI_lt', nI_le', nI_eq', nI_z, nI_p, nI_e0, nI_l0, nI_le0, nI_clamp, up_eq, up_ne, not_true_eq_false, Classical.not_not, false_implies, true_implies, false_and, and_false, or_true, true_or, Nat.add_zero, pk_m1, m1_0, m1_n, m1_p, Nat.zero_le, forall_const]
      refine ⟨fun q => absurd him (by omega), fun _ => ⟨vp, fun q => ⟨Or.inr nI_one, ?_⟩, fun q => h1 _ _ _ ?_⟩⟩
      · rw [nI_one]; exact ha ⟨him, q⟩
      · simp (disch := omega) only [bX8_skip_24, q_ci, q_cl, q_ild, q_lld, q_ald, q_ist, q_ast, q_lst, q_inc, q_b2, q_d2, q_u1, q_l2, q_ld2, q_lsh, q_lcmp, q_i2l, q_l2i, q_dupi, q_dupr, q_dup2, q_popi, q_popr, q_if1, q_if2, q_nn, q_sw, q_swn, q_swc, q_gf, q_gr, q_pf, q_pz, q_pc, q_ia, q_is, q_cs, q_zs, q_la, q_lw, q_aa, q_al, q_gs, q_acp, q_m2, q_m1, q_ir, q_zr, q_lr, q_ar, q_vr, q_cN0, q_cSX0, q_cV0, q_cVX0, q_cN1, q_cSX1, q_cV1, q_cVX1, q_cN2, q_cSX2, q_cV2, q_cVX2, q_cN3, q_cSX3, q_cV3, q_cVX3, q_cN4, q_cSX4, q_cV4, q_cVX4, q_cN5, q_cSX5, q_cV5, q_cVX5, q_cN6, q_cSX6, q_cV6, q_cVX6, q_th, q_sh0, q_sh1, q_sh2, q_sh3, q_sh4, q_toL0, q_toL1, q_gl0, q_gls, q_sl0, q_sls, q_k10, q_k1s, q_lgi, q_lgr, q_lgl, q_lgn, Bool.not_false, and_true, true_and, nz_2, nz_4, nz_5, nz_8, nz_10, nz_12, nz_14, nz_16, nz_40, nz_41, nz_64, nz_100, nz_1000, nz_1024, nz_4096, nz_10000, nz_100000, not_false_eq_true, bI_0, nI_add, pk_mul, nI_lt', nI_le', nI_eq', nI_z, nI_p, nI_e0, nI_l0, nI_le0, nI_clamp, up_eq, up_ne, not_true_eq_false, Classical.not_not, false_implies, true_implies, false_and, and_false, or_true, true_or, Nat.add_zero, pk_m1, m1_0, m1_n, m1_p, Nat.zero_le, forall_const]
        rw [nI_0]
        exact hb (fun q1 => q q1.2)
    · simp (disch := omega) only [bX8_skip_0, w1, w2, w3, r1, i1, q_ci, q_cl, q_ild, q_lld, q_ald, q_ist, q_ast, q_lst, q_inc, q_b2, q_d2, q_u1, q_l2, q_ld2, q_lsh, q_lcmp, q_i2l, q_l2i, q_dupi, q_dupr, q_dup2, q_popi, q_popr, q_if1, q_if2, q_nn, q_sw, q_swn, q_swc, q_gf, q_gr, q_pf, q_pz, q_pc, q_ia, q_is, q_cs, q_zs, q_la, q_lw, q_aa, q_al, q_gs, q_acp, q_m2, q_m1, q_ir, q_zr, q_lr, q_ar, q_vr, q_cN0, q_cSX0, q_cV0, q_cVX0, q_cN1, q_cSX1, q_cV1, q_cVX1, q_cN2, q_cSX2, q_cV2, q_cVX2, q_cN3, q_cSX3, q_cV3, q_cVX3, q_cN4, q_cSX4, q_cV4, q_cVX4, q_cN5, q_cSX5, q_cV5, q_cVX5, q_cN6, q_cSX6, q_cV6, q_cVX6, q_th, q_sh0, q_sh1, q_sh2, q_sh3, q_sh4, q_toL0, q_toL1, q_gl0, q_gls, q_sl0, q_sls, q_k10, q_k1s, q_lgi, q_lgr, q_lgl, q_lgn, Bool.not_false, and_true, true_and, nz_2, nz_4, nz_5, nz_8, nz_10, nz_12, nz_14, nz_16, nz_40, nz_41, nz_64, nz_100, nz_1000, nz_1024, nz_4096, nz_10000, nz_100000, not_false_eq_true, bI_0, nI_add, pk_mul, nI_lt', nI_le', nI_eq', nI_z, nI_p, nI_e0, nI_l0, nI_le0, nI_clamp, up_eq, up_ne, not_true_eq_false, Classical.not_not, false_implies, true_implies, false_and, and_false, or_true, true_or, Nat.add_zero, pk_m1, m1_0, m1_n, m1_p, Nat.zero_le, forall_const]
      refine ⟨fun q => h1 _ _ _ ?_, fun q => absurd (by omega) him⟩
      simp (disch := omega) only [bX8_skip_24, q_ci, q_cl, q_ild, q_lld, q_ald, q_ist, q_ast, q_lst, q_inc, q_b2, q_d2, q_u1, q_l2, q_ld2, q_lsh, q_lcmp, q_i2l, q_l2i, q_dupi, q_dupr, q_dup2, q_popi, q_popr, q_if1, q_if2, q_nn, q_sw, q_swn, q_swc, q_gf, q_gr, q_pf, q_pz, q_pc, q_ia, q_is, q_cs, q_zs, q_la, q_lw, q_aa, q_al, q_gs, q_acp, q_m2, q_m1, q_ir, q_zr, q_lr, q_ar, q_vr, q_cN0, q_cSX0, q_cV0, q_cVX0, q_cN1, q_cSX1, q_cV1, q_cVX1, q_cN2, q_cSX2, q_cV2, q_cVX2, q_cN3, q_cSX3, q_cV3, q_cVX3, q_cN4, q_cSX4, q_cV4, q_cVX4, q_cN5, q_cSX5, q_cV5, q_cVX5, q_cN6, q_cSX6, q_cV6, q_cVX6, q_th, q_sh0, q_sh1, q_sh2, q_sh3, q_sh4, q_toL0, q_toL1, q_gl0, q_gls, q_sl0, q_sls, q_k10, q_k1s, q_lgi, q_lgr, q_lgl, q_lgn, Bool.not_false, and_true, true_and, nz_2, nz_4, nz_5, nz_8, nz_10, nz_12, nz_14, nz_16, nz_40, nz_41, nz_64, nz_100, nz_1000, nz_1024, nz_4096, nz_10000, nz_100000, not_false_eq_true, bI_0, nI_add, pk_mul, nI_lt', nI_le', nI_eq', nI_z, nI_p, nI_e0, nI_l0, nI_le0, nI_clamp, up_eq, up_ne, not_true_eq_false, Classical.not_not, false_implies, true_implies, false_and, and_false, or_true, true_or, Nat.add_zero, pk_m1, m1_0, m1_n, m1_p, Nat.zero_le, forall_const]
      rw [nI_0]
      exact hb (fun q1 => him q1.1)
  · exact h.elim
def sp_X8_startReading : ab_S := fun w As σ K => match As with
  | [.ref a] => a = 1 ∧ wX w ∧ ∃ t m, tR σ t m ∧ (0 < m ∧ t 0 = 78 → ∀ σ', FrX σ σ' → tI σ' m 1 → σ' 3 = σ 3 → K (some (.int 1)) σ') ∧ (¬ (0 < m ∧ t 0 = 78) → ∀ σ', FrX σ σ' → tI σ' m 0 → σ' 3 = σ 3 → K (some (.int 0)) σ')
  | _ => False
set_option maxRecDepth 20000 in
set_option maxHeartbeats 4000000 in
theorem ok_X8_startReading {l : Launch} (hl : l.stackTraces = false) : ab_OkN l yX8_startReading (Cond.code yX8_startReading cX8_startReading 1 (some .boolean)) 2 sp_X8_startReading := by
  intro w σ As Kn hI h
  unfold sp_X8_startReading at h
  split at h
  · next a =>
    obtain ⟨rfl, hw, t, m, hR, ha, hb⟩ := h
    refine vc_X8_startReading hl hI (ok_X8_skip hl) (Nat.le_of_ble_eq_true rfl) (fun M h0 => h0 [.ref 1] [] σ ?_)
    have w1 := hw.1
    have hF : FrX σ (ab_up σ 1 2 (nI 0)) := FrX.at
    simp (disch := omega) only [bX8_startReading_0, sp_X8_skip, w1, q_ci, q_cl, q_ild, q_lld, q_ald, q_ist, q_ast, q_lst, q_inc, q_b2, q_d2, q_u1, q_l2, q_ld2, q_lsh, q_lcmp, q_i2l, q_l2i, q_dupi, q_dupr, q_dup2, q_popi, q_popr, q_if1, q_if2, q_nn, q_sw, q_swn, q_swc, q_gf, q_gr, q_pf, q_pz, q_pc, q_ia, q_is, q_cs, q_zs, q_la, q_lw, q_aa, q_al, q_gs, q_acp, q_m2, q_m1, q_ir, q_zr, q_lr, q_ar, q_vr, q_cN0, q_cSX0, q_cV0, q_cVX0, q_cN1, q_cSX1, q_cV1, q_cVX1, q_cN2, q_cSX2, q_cV2, q_cVX2, q_cN3, q_cSX3, q_cV3, q_cVX3, q_cN4, q_cSX4, q_cV4, q_cVX4, q_cN5, q_cSX5, q_cV5, q_cVX5, q_cN6, q_cSX6, q_cV6, q_cVX6, q_th, q_sh0, q_sh1, q_sh2, q_sh3, q_sh4, q_toL0, q_toL1, q_gl0, q_gls, q_sl0, q_sls, q_k10, q_k1s, q_lgi, q_lgr, q_lgl, q_lgn, Bool.not_false, and_true, true_and, nz_2, nz_4, nz_5, nz_8, nz_10, nz_12, nz_14, nz_16, nz_40, nz_41, nz_64, nz_100, nz_1000, nz_1024, nz_4096, nz_10000, nz_100000, not_false_eq_true, bI_0, nI_add, pk_mul, nI_lt', nI_le', nI_eq', nI_z, nI_p, nI_e0, nI_l0, nI_le0, nI_clamp, up_eq, up_ne, not_true_eq_false, Classical.not_not, false_implies, true_implies, false_and, and_false, or_true, true_or, Nat.add_zero, pk_m1, m1_0, m1_n, m1_p, Nat.zero_le, forall_const]
    refine ⟨hw, t, m, 0, 78, hF.t hR, ⟨up_eqp rfl rfl, by omega⟩, rfl, by omega, fun q => ?_, fun q => ?_⟩
    · exact ha q _ (hF.trans FrX.at) ⟨up_eqp rfl rfl, by omega⟩ (by simp (disch := omega) only [up_ne])
    · exact hb q _ hF ⟨up_eqp rfl rfl, by omega⟩ (by simp (disch := omega) only [up_ne])
  · exact h.elim
def p_ok (t : Nat → Nat) (m i d k v0 lo hi : Nat) : Prop := i < m ∧ 48 ≤ t i ∧ t i ≤ 57 ∧ (if k + 1 < d then lo ≤ 10 * (10 * v0 + (t i - 48)) + 9 ∧ 10 * (10 * v0 + (t i - 48)) ≤ hi else lo ≤ 10 * v0 + (t i - 48) ∧ 10 * v0 + (t i - 48) ≤ hi)
set_option maxRecDepth 20000 in
set_option maxHeartbeats 4000000 in
theorem ok_X8_readNumber {l : Launch} (hl : l.stackTraces = false) : ab_OkN l yX8_readNumber (Cond.code yX8_readNumber cX8_readNumber 10 (some .boolean)) 1 sp_X8_readNumber := by
  intro w σ As Kn hI h
  unfold sp_X8_readNumber at h
  split at h
  · next a j d lo hi =>
    obtain ⟨rfl, hw, t, m, i, j, d, lo, hi, hR, hi1, rfl, hj, rfl, hd, rfl, rfl, hlo, hhi, ha, hb⟩ := h
    refine vc_X8_readNumber hl hI (Nat.le_of_ble_eq_true rfl) (fun M h0 h1 h2 h3 h4 h5 h6 => h0 [.ref 1, .int (nI j), .int (nI d), .int (nI lo), .int (nI hi), .null, .null, .null, .null, .null] [] σ ?_)
    obtain ⟨w1, w2, w3, w4, w5⟩ := id hw
    have H : ∀ k v0 i σ1 x7 x8 x9, k < d → v0 ≤ 9 → tR σ1 t m → tI σ1 m i →
        (p_ok t m i d k v0 lo hi → ∀ y7 y8 y9, M 6 [.ref 1, .int (nI j), .int (nI d), .int (nI lo), .int (nI hi), .int (nI (10 * v0 + (t i - 48))), .int (nI (k + 1)), y7, y8, y9] [] (ab_up σ1 1 2 (nI (i + 1)))) →
        (¬ p_ok t m i d k v0 lo hi → Kn (some (.int 0)) σ1) →
        M 6 [.ref 1, .int (nI j), .int (nI d), .int (nI lo), .int (nI hi), .int (nI v0), .int (nI k), x7, x8, x9] [] σ1 := by
      intro k v0 i σ1 x7 x8 x9 hk hv0 hR1 hi2 ka kb
      obtain ⟨r1, r2, r3⟩ := hR1
      obtain ⟨i1, i2⟩ := hi2
      refine h1 _ _ _ ?_
      by_cases him : i < m
      · obtain ⟨q1, q2⟩ := r3 i him
        have vp : vp_in (nI i) 120 := vp_in_nI (by omega) (by omega)
        simp (disch := omega) only [bX8_readNumber_6, w1, w2, w3, r1, i1, q1, q_ci, q_cl, q_ild, q_lld, q_ald, q_ist, q_ast, q_lst, q_inc, q_b2, q_d2, q_u1, q_l2, q_ld2, q_lsh, q_lcmp, q_i2l, q_l2i, q_dupi, q_dupr, q_dup2, q_popi, q_popr, q_if1, q_if2, q_nn, q_sw, q_swn, q_swc, q_gf, q_gr, q_pf, q_pz, q_pc, q_ia, q_is, q_cs, q_zs, q_la, q_lw, q_aa, q_al, q_gs, q_acp, q_m2, q_m1, q_ir, q_zr, q_lr, q_ar, q_vr, q_cN0, q_cSX0, q_cV0, q_cVX0, q_cN1, q_cSX1, q_cV1, q_cVX1, q_cN2, q_cSX2, q_cV2, q_cVX2, q_cN3, q_cSX3, q_cV3, q_cVX3, q_cN4, q_cSX4, q_cV4, q_cVX4, q_cN5, q_cSX5, q_cV5, q_cVX5, q_cN6, q_cSX6, q_cV6, q_cVX6, q_th, q_sh0, q_sh1, q_sh2, q_sh3, q_sh4, q_toL0, q_toL1, q_gl0, q_gls, q_sl0, q_sls, q_k10, q_k1s, q_lgi, q_lgr, q_lgl, q_lgn, Bool.not_false, and_true, true_and, nz_2, nz_4, nz_5, nz_8, nz_10, nz_12, nz_14, nz_16, nz_40, nz_41, nz_64, nz_100, nz_1000, nz_1024, nz_4096, nz_10000, nz_100000, not_false_eq_true, bI_0, nI_add, pk_mul, nI_lt', nI_le', nI_eq', nI_z, nI_p, nI_e0, nI_l0, nI_le0, nI_clamp, up_eq, up_ne, not_true_eq_false, Classical.not_not, false_implies, true_implies, false_and, and_false, or_true, true_or, Nat.add_zero, pk_m1, m1_0, m1_n, m1_p, Nat.zero_le, forall_const]
        have H51 : ¬ p_ok t m i d k v0 lo hi → ∀ L, M 51 L [] σ1 := fun q L => by
          refine h2 _ _ _ ?_
          simp (disch := omega) only [bX8_readNumber_51, q_ci, q_cl, q_ild, q_lld, q_ald, q_ist, q_ast, q_lst, q_inc, q_b2, q_d2, q_u1, q_l2, q_ld2, q_lsh, q_lcmp, q_i2l, q_l2i, q_dupi, q_dupr, q_dup2, q_popi, q_popr, q_if1, q_if2, q_nn, q_sw, q_swn, q_swc, q_gf, q_gr, q_pf, q_pz, q_pc, q_ia, q_is, q_cs, q_zs, q_la, q_lw, q_aa, q_al, q_gs, q_acp, q_m2, q_m1, q_ir, q_zr, q_lr, q_ar, q_vr, q_cN0, q_cSX0, q_cV0, q_cVX0, q_cN1, q_cSX1, q_cV1, q_cVX1, q_cN2, q_cSX2, q_cV2, q_cVX2, q_cN3, q_cSX3, q_cV3, q_cVX3, q_cN4, q_cSX4, q_cV4, q_cVX4, q_cN5, q_cSX5, q_cV5, q_cVX5, q_cN6, q_cSX6, q_cV6, q_cVX6, q_th, q_sh0, q_sh1, q_sh2, q_sh3, q_sh4, q_toL0, q_toL1, q_gl0, q_gls, q_sl0, q_sls, q_k10, q_k1s, q_lgi, q_lgr, q_lgl, q_lgn, Bool.not_false, and_true, true_and, nz_2, nz_4, nz_5, nz_8, nz_10, nz_12, nz_14, nz_16, nz_40, nz_41, nz_64, nz_100, nz_1000, nz_1024, nz_4096, nz_10000, nz_100000, not_false_eq_true, bI_0, nI_add, pk_mul, nI_lt', nI_le', nI_eq', nI_z, nI_p, nI_e0, nI_l0, nI_le0, nI_clamp, up_eq, up_ne, not_true_eq_false, Classical.not_not, false_implies, true_implies, false_and, and_false, or_true, true_or, Nat.add_zero, pk_m1, m1_0, m1_n, m1_p, Nat.zero_le, forall_const]
          rw [nI_0]; exact kb q
        refine ⟨fun q => absurd hk (by omega), fun _ => ⟨fun q => absurd him (by omega), fun _ => ⟨vp, fun q => H51 (fun q1 => by have := q1.2.1; omega) _, fun q48 => ⟨vp, fun q57 => ⟨vp, fun qd => h3 _ _ _ ?_, fun qd => h3 _ _ _ ?_⟩, fun q => H51 (fun q1 => q q1.2.2.1) _⟩⟩⟩⟩
        all_goals rw [show nI (v0 * 10 + t i) - nI 48 = nI (10 * v0 + (t i - 48)) by rw [pk_sub (by omega)]; congr 1; omega]
        all_goals have hub : t i - 48 ≤ 9 := by omega
        · have hp : p_ok t m i d k v0 lo hi = (lo ≤ 10 * v0 + (t i - 48) ∧ 10 * v0 + (t i - 48) ≤ hi) := by
            unfold p_ok; rw [if_neg (by omega)]; exact propext ⟨fun q => q.2.2.2, fun q => ⟨him, by omega, q57, q⟩⟩
          rw [hp] at ka kb
          generalize t i - 48 = u at *
          simp (disch := omega) only [bX8_readNumber_86, q_ci, q_cl, q_ild, q_lld, q_ald, q_ist, q_ast, q_lst, q_inc, q_b2, q_d2, q_u1, q_l2, q_ld2, q_lsh, q_lcmp, q_i2l, q_l2i, q_dupi, q_dupr, q_dup2, q_popi, q_popr, q_if1, q_if2, q_nn, q_sw, q_swn, q_swc, q_gf, q_gr, q_pf, q_pz, q_pc, q_ia, q_is, q_cs, q_zs, q_la, q_lw, q_aa, q_al, q_gs, q_acp, q_m2, q_m1, q_ir, q_zr, q_lr, q_ar, q_vr, q_cN0, q_cSX0, q_cV0, q_cVX0, q_cN1, q_cSX1, q_cV1, q_cVX1, q_cN2, q_cSX2, q_cV2, q_cVX2, q_cN3, q_cSX3, q_cV3, q_cVX3, q_cN4, q_cSX4, q_cV4, q_cVX4, q_cN5, q_cSX5, q_cV5, q_cVX5, q_cN6, q_cSX6, q_cV6, q_cVX6, q_th, q_sh0, q_sh1, q_sh2, q_sh3, q_sh4, q_toL0, q_toL1, q_gl0, q_gls, q_sl0, q_sls, q_k10, q_k1s, q_lgi, q_lgr, q_lgl, q_lgn, Bool.not_false, and_true, true_and, nz_2, nz_4, nz_5, nz_8, nz_10, nz_12, nz_14, nz_16, nz_40, nz_41, nz_64, nz_100, nz_1000, nz_1024, nz_4096, nz_10000, nz_100000, not_false_eq_true, bI_0, nI_add, pk_mul, nI_lt', nI_le', nI_eq', nI_z, nI_p, nI_e0, nI_l0, nI_le0, nI_clamp, up_eq, up_ne, not_true_eq_false, Classical.not_not, false_implies, true_implies, false_and, and_false, or_true, true_or, Nat.add_zero, pk_m1, m1_0, m1_n, m1_p, Nat.zero_le, forall_const]
          refine h4 _ _ _ ?_
          simp (disch := omega) only [bX8_readNumber_103, q_ci, q_cl, q_ild, q_lld, q_ald, q_ist, q_ast, q_lst, q_inc, q_b2, q_d2, q_u1, q_l2, q_ld2, q_lsh, q_lcmp, q_i2l, q_l2i, q_dupi, q_dupr, q_dup2, q_popi, q_popr, q_if1, q_if2, q_nn, q_sw, q_swn, q_swc, q_gf, q_gr, q_pf, q_pz, q_pc, q_ia, q_is, q_cs, q_zs, q_la, q_lw, q_aa, q_al, q_gs, q_acp, q_m2, q_m1, q_ir, q_zr, q_lr, q_ar, q_vr, q_cN0, q_cSX0, q_cV0, q_cVX0, q_cN1, q_cSX1, q_cV1, q_cVX1, q_cN2, q_cSX2, q_cV2, q_cVX2, q_cN3, q_cSX3, q_cV3, q_cVX3, q_cN4, q_cSX4, q_cV4, q_cVX4, q_cN5, q_cSX5, q_cV5, q_cVX5, q_cN6, q_cSX6, q_cV6, q_cVX6, q_th, q_sh0, q_sh1, q_sh2, q_sh3, q_sh4, q_toL0, q_toL1, q_gl0, q_gls, q_sl0, q_sls, q_k10, q_k1s, q_lgi, q_lgr, q_lgl, q_lgn, Bool.not_false, and_true, true_and, nz_2, nz_4, nz_5, nz_8, nz_10, nz_12, nz_14, nz_16, nz_40, nz_41, nz_64, nz_100, nz_1000, nz_1024, nz_4096, nz_10000, nz_100000, not_false_eq_true, bI_0, nI_add, pk_mul, nI_lt', nI_le', nI_eq', nI_z, nI_p, nI_e0, nI_l0, nI_le0, nI_clamp, up_eq, up_ne, not_true_eq_false, Classical.not_not, false_implies, true_implies, false_and, and_false, or_true, true_or, Nat.add_zero, pk_m1, m1_0, m1_n, m1_p, Nat.zero_le, forall_const]
          refine h5 _ _ _ ?_
          simp (disch := omega) only [bX8_readNumber_120, w1, i1, q_ci, q_cl, q_ild, q_lld, q_ald, q_ist, q_ast, q_lst, q_inc, q_b2, q_d2, q_u1, q_l2, q_ld2, q_lsh, q_lcmp, q_i2l, q_l2i, q_dupi, q_dupr, q_dup2, q_popi, q_popr, q_if1, q_if2, q_nn, q_sw, q_swn, q_swc, q_gf, q_gr, q_pf, q_pz, q_pc, q_ia, q_is, q_cs, q_zs, q_la, q_lw, q_aa, q_al, q_gs, q_acp, q_m2, q_m1, q_ir, q_zr, q_lr, q_ar, q_vr, q_cN0, q_cSX0, q_cV0, q_cVX0, q_cN1, q_cSX1, q_cV1, q_cVX1, q_cN2, q_cSX2, q_cV2, q_cVX2, q_cN3, q_cSX3, q_cV3, q_cVX3, q_cN4, q_cSX4, q_cV4, q_cVX4, q_cN5, q_cSX5, q_cV5, q_cVX5, q_cN6, q_cSX6, q_cV6, q_cVX6, q_th, q_sh0, q_sh1, q_sh2, q_sh3, q_sh4, q_toL0, q_toL1, q_gl0, q_gls, q_sl0, q_sls, q_k10, q_k1s, q_lgi, q_lgr, q_lgl, q_lgn, Bool.not_false, and_true, true_and, nz_2, nz_4, nz_5, nz_8, nz_10, nz_12, nz_14, nz_16, nz_40, nz_41, nz_64, nz_100, nz_1000, nz_1024, nz_4096, nz_10000, nz_100000, not_false_eq_true, bI_0, nI_add, pk_mul, nI_lt', nI_le', nI_eq', nI_z, nI_p, nI_e0, nI_l0, nI_le0, nI_clamp, up_eq, up_ne, not_true_eq_false, Classical.not_not, false_implies, true_implies, false_and, and_false, or_true, true_or, Nat.add_zero, pk_m1, m1_0, m1_n, m1_p, Nat.zero_le, forall_const]
          refine ⟨fun q => h6 _ _ _ ?_, fun q => ⟨fun q2 => ka ⟨by omega, by omega⟩ _ _ _, fun q2 => h6 _ _ _ ?_⟩⟩
          · simp (disch := omega) only [bX8_readNumber_135, q_ci, q_cl, q_ild, q_lld, q_ald, q_ist, q_ast, q_lst, q_inc, q_b2, q_d2, q_u1, q_l2, q_ld2, q_lsh, q_lcmp, q_i2l, q_l2i, q_dupi, q_dupr, q_dup2, q_popi, q_popr, q_if1, q_if2, q_nn, q_sw, q_swn, q_swc, q_gf, q_gr, q_pf, q_pz, q_pc, q_ia, q_is, q_cs, q_zs, q_la, q_lw, q_aa, q_al, q_gs, q_acp, q_m2, q_m1, q_ir, q_zr, q_lr, q_ar, q_vr, q_cN0, q_cSX0, q_cV0, q_cVX0, q_cN1, q_cSX1, q_cV1, q_cVX1, q_cN2, q_cSX2, q_cV2, q_cVX2, q_cN3, q_cSX3, q_cV3, q_cVX3, q_cN4, q_cSX4, q_cV4, q_cVX4, q_cN5, q_cSX5, q_cV5, q_cVX5, q_cN6, q_cSX6, q_cV6, q_cVX6, q_th, q_sh0, q_sh1, q_sh2, q_sh3, q_sh4, q_toL0, q_toL1, q_gl0, q_gls, q_sl0, q_sls, q_k10, q_k1s, q_lgi, q_lgr, q_lgl, q_lgn, Bool.not_false, and_true, true_and, nz_2, nz_4, nz_5, nz_8, nz_10, nz_12, nz_14, nz_16, nz_40, nz_41, nz_64, nz_100, nz_1000, nz_1024, nz_4096, nz_10000, nz_100000, not_false_eq_true, bI_0, nI_add, pk_mul, nI_lt', nI_le', nI_eq', nI_z, nI_p, nI_e0, nI_l0, nI_le0, nI_clamp, up_eq, up_ne, not_true_eq_false, Classical.not_not, false_implies, true_implies, false_and, and_false, or_true, true_or, Nat.add_zero, pk_m1, m1_0, m1_n, m1_p, Nat.zero_le, forall_const]
            rw [nI_0]; exact kb (fun q3 => by omega)
          · simp (disch := omega) only [bX8_readNumber_135, q_ci, q_cl, q_ild, q_lld, q_ald, q_ist, q_ast, q_lst, q_inc, q_b2, q_d2, q_u1, q_l2, q_ld2, q_lsh, q_lcmp, q_i2l, q_l2i, q_dupi, q_dupr, q_dup2, q_popi, q_popr, q_if1, q_if2, q_nn, q_sw, q_swn, q_swc, q_gf, q_gr, q_pf, q_pz, q_pc, q_ia, q_is, q_cs, q_zs, q_la, q_lw, q_aa, q_al, q_gs, q_acp, q_m2, q_m1, q_ir, q_zr, q_lr, q_ar, q_vr, q_cN0, q_cSX0, q_cV0, q_cVX0, q_cN1, q_cSX1, q_cV1, q_cVX1, q_cN2, q_cSX2, q_cV2, q_cVX2, q_cN3, q_cSX3, q_cV3, q_cVX3, q_cN4, q_cSX4, q_cV4, q_cVX4, q_cN5, q_cSX5, q_cV5, q_cVX5, q_cN6, q_cSX6, q_cV6, q_cVX6, q_th, q_sh0, q_sh1, q_sh2, q_sh3, q_sh4, q_toL0, q_toL1, q_gl0, q_gls, q_sl0, q_sls, q_k10, q_k1s, q_lgi, q_lgr, q_lgl, q_lgn, Bool.not_false, and_true, true_and, nz_2, nz_4, nz_5, nz_8, nz_10, nz_12, nz_14, nz_16, nz_40, nz_41, nz_64, nz_100, nz_1000, nz_1024, nz_4096, nz_10000, nz_100000, not_false_eq_true, bI_0, nI_add, pk_mul, nI_lt', nI_le', nI_eq', nI_z, nI_p, nI_e0, nI_l0, nI_le0, nI_clamp, up_eq, up_ne, not_true_eq_false, Classical.not_not, false_implies, true_implies, false_and, and_false, or_true, true_or, Nat.add_zero, pk_m1, m1_0, m1_n, m1_p, Nat.zero_le, forall_const]
            rw [nI_0]; exact kb (fun q3 => by omega)
        · have hp : p_ok t m i d k v0 lo hi = (lo ≤ 10 * (10 * v0 + (t i - 48)) + 9 ∧ 10 * (10 * v0 + (t i - 48)) ≤ hi) := by
            unfold p_ok; rw [if_pos (by omega)]; exact propext ⟨fun q => q.2.2.2, fun q => ⟨him, by omega, q57, q⟩⟩
          rw [hp] at ka kb
          generalize t i - 48 = u at *
          simp (disch := omega) only [bX8_readNumber_86, q_ci, q_cl, q_ild, q_lld, q_ald, q_ist, q_ast, q_lst, q_inc, q_b2, q_d2, q_u1, q_l2, q_ld2, q_lsh, q_lcmp, q_i2l, q_l2i, q_dupi, q_dupr, q_dup2, q_popi, q_popr, q_if1, q_if2, q_nn, q_sw, q_swn, q_swc, q_gf, q_gr, q_pf, q_pz, q_pc, q_ia, q_is, q_cs, q_zs, q_la, q_lw, q_aa, q_al, q_gs, q_acp, q_m2, q_m1, q_ir, q_zr, q_lr, q_ar, q_vr, q_cN0, q_cSX0, q_cV0, q_cVX0, q_cN1, q_cSX1, q_cV1, q_cVX1, q_cN2, q_cSX2, q_cV2, q_cVX2, q_cN3, q_cSX3, q_cV3, q_cVX3, q_cN4, q_cSX4, q_cV4, q_cVX4, q_cN5, q_cSX5, q_cV5, q_cVX5, q_cN6, q_cSX6, q_cV6, q_cVX6, q_th, q_sh0, q_sh1, q_sh2, q_sh3, q_sh4, q_toL0, q_toL1, q_gl0, q_gls, q_sl0, q_sls, q_k10, q_k1s, q_lgi, q_lgr, q_lgl, q_lgn, Bool.not_false, and_true, true_and, nz_2, nz_4, nz_5, nz_8, nz_10, nz_12, nz_14, nz_16, nz_40, nz_41, nz_64, nz_100, nz_1000, nz_1024, nz_4096, nz_10000, nz_100000, not_false_eq_true, bI_0, nI_add, pk_mul, nI_lt', nI_le', nI_eq', nI_z, nI_p, nI_e0, nI_l0, nI_le0, nI_clamp, up_eq, up_ne, not_true_eq_false, Classical.not_not, false_implies, true_implies, false_and, and_false, or_true, true_or, Nat.add_zero, pk_m1, m1_0, m1_n, m1_p, Nat.zero_le, forall_const]
          refine ⟨fun q => absurd q (by decide), fun _ => h4 _ _ _ ?_⟩
          simp (disch := omega) only [bX8_readNumber_103, q_ci, q_cl, q_ild, q_lld, q_ald, q_ist, q_ast, q_lst, q_inc, q_b2, q_d2, q_u1, q_l2, q_ld2, q_lsh, q_lcmp, q_i2l, q_l2i, q_dupi, q_dupr, q_dup2, q_popi, q_popr, q_if1, q_if2, q_nn, q_sw, q_swn, q_swc, q_gf, q_gr, q_pf, q_pz, q_pc, q_ia, q_is, q_cs, q_zs, q_la, q_lw, q_aa, q_al, q_gs, q_acp, q_m2, q_m1, q_ir, q_zr, q_lr, q_ar, q_vr, q_cN0, q_cSX0, q_cV0, q_cVX0, q_cN1, q_cSX1, q_cV1, q_cVX1, q_cN2, q_cSX2, q_cV2, q_cVX2, q_cN3, q_cSX3, q_cV3, q_cVX3, q_cN4, q_cSX4, q_cV4, q_cVX4, q_cN5, q_cSX5, q_cV5, q_cVX5, q_cN6, q_cSX6, q_cV6, q_cVX6, q_th, q_sh0, q_sh1, q_sh2, q_sh3, q_sh4, q_toL0, q_toL1, q_gl0, q_gls, q_sl0, q_sls, q_k10, q_k1s, q_lgi, q_lgr, q_lgl, q_lgn, Bool.not_false, and_true, true_and, nz_2, nz_4, nz_5, nz_8, nz_10, nz_12, nz_14, nz_16, nz_40, nz_41, nz_64, nz_100, nz_1000, nz_1024, nz_4096, nz_10000, nz_100000, not_false_eq_true, bI_0, nI_add, pk_mul, nI_lt', nI_le', nI_eq', nI_z, nI_p, nI_e0, nI_l0, nI_le0, nI_clamp, up_eq, up_ne, not_true_eq_false, Classical.not_not, false_implies, true_implies, false_and, and_false, or_true, true_or, Nat.add_zero, pk_m1, m1_0, m1_n, m1_p, Nat.zero_le, forall_const]
          refine ⟨fun q => absurd q (by decide), fun _ => h5 _ _ _ ?_⟩
          simp (disch := omega) only [bX8_readNumber_120, w1, i1, q_ci, q_cl, q_ild, q_lld, q_ald, q_ist, q_ast, q_lst, q_inc, q_b2, q_d2, q_u1, q_l2, q_ld2, q_lsh, q_lcmp, q_i2l, q_l2i, q_dupi, q_dupr, q_dup2, q_popi, q_popr, q_if1, q_if2, q_nn, q_sw, q_swn, q_swc, q_gf, q_gr, q_pf, q_pz, q_pc, q_ia, q_is, q_cs, q_zs, q_la, q_lw, q_aa, q_al, q_gs, q_acp, q_m2, q_m1, q_ir, q_zr, q_lr, q_ar, q_vr, q_cN0, q_cSX0, q_cV0, q_cVX0, q_cN1, q_cSX1, q_cV1, q_cVX1, q_cN2, q_cSX2, q_cV2, q_cVX2, q_cN3, q_cSX3, q_cV3, q_cVX3, q_cN4, q_cSX4, q_cV4, q_cVX4, q_cN5, q_cSX5, q_cV5, q_cVX5, q_cN6, q_cSX6, q_cV6, q_cVX6, q_th, q_sh0, q_sh1, q_sh2, q_sh3, q_sh4, q_toL0, q_toL1, q_gl0, q_gls, q_sl0, q_sls, q_k10, q_k1s, q_lgi, q_lgr, q_lgl, q_lgn, Bool.not_false, and_true, true_and, nz_2, nz_4, nz_5, nz_8, nz_10, nz_12, nz_14, nz_16, nz_40, nz_41, nz_64, nz_100, nz_1000, nz_1024, nz_4096, nz_10000, nz_100000, not_false_eq_true, bI_0, nI_add, pk_mul, nI_lt', nI_le', nI_eq', nI_z, nI_p, nI_e0, nI_l0, nI_le0, nI_clamp, up_eq, up_ne, not_true_eq_false, Classical.not_not, false_implies, true_implies, false_and, and_false, or_true, true_or, Nat.add_zero, pk_m1, m1_0, m1_n, m1_p, Nat.zero_le, forall_const]
          refine ⟨fun q => h6 _ _ _ ?_, fun q => ⟨fun q2 => ka ⟨by omega, by omega⟩ _ _ _, fun q2 => h6 _ _ _ ?_⟩⟩
          · simp (disch := omega) only [bX8_readNumber_135, q_ci, q_cl, q_ild, q_lld, q_ald, q_ist, q_ast, q_lst, q_inc, q_b2, q_d2, q_u1, q_l2, q_ld2, q_lsh, q_lcmp, q_i2l, q_l2i, q_dupi, q_dupr, q_dup2, q_popi, q_popr, q_if1, q_if2, q_nn, q_sw, q_swn, q_swc, q_gf, q_gr, q_pf, q_pz, q_pc, q_ia, q_is, q_cs, q_zs, q_la, q_lw, q_aa, q_al, q_gs, q_acp, q_m2, q_m1, q_ir, q_zr, q_lr, q_ar, q_vr, q_cN0, q_cSX0, q_cV0, q_cVX0, q_cN1, q_cSX1, q_cV1, q_cVX1, q_cN2, q_cSX2, q_cV2, q_cVX2, q_cN3, q_cSX3, q_cV3, q_cVX3, q_cN4, q_cSX4, q_cV4, q_cVX4, q_cN5, q_cSX5, q_cV5, q_cVX5, q_cN6, q_cSX6, q_cV6, q_cVX6, q_th, q_sh0, q_sh1, q_sh2, q_sh3, q_sh4, q_toL0, q_toL1, q_gl0, q_gls, q_sl0, q_sls, q_k10, q_k1s, q_lgi, q_lgr, q_lgl, q_lgn, Bool.not_false, and_true, true_and, nz_2, nz_4, nz_5, nz_8, nz_10, nz_12, nz_14, nz_16, nz_40, nz_41, nz_64, nz_100, nz_1000, nz_1024, nz_4096, nz_10000, nz_100000, not_false_eq_true, bI_0, nI_add, pk_mul, nI_lt', nI_le', nI_eq', nI_z, nI_p, nI_e0, nI_l0, nI_le0, nI_clamp, up_eq, up_ne, not_true_eq_false, Classical.not_not, false_implies, true_implies, false_and, and_false, or_true, true_or, Nat.add_zero, pk_m1, m1_0, m1_n, m1_p, Nat.zero_le, forall_const]
            rw [nI_0]; exact kb (fun q3 => by omega)
          · simp (disch := omega) only [bX8_readNumber_135, q_ci, q_cl, q_ild, q_lld, q_ald, q_ist, q_ast, q_lst, q_inc, q_b2, q_d2, q_u1, q_l2, q_ld2, q_lsh, q_lcmp, q_i2l, q_l2i, q_dupi, q_dupr, q_dup2, q_popi, q_popr, q_if1, q_if2, q_nn, q_sw, q_swn, q_swc, q_gf, q_gr, q_pf, q_pz, q_pc, q_ia, q_is, q_cs, q_zs, q_la, q_lw, q_aa, q_al, q_gs, q_acp, q_m2, q_m1, q_ir, q_zr, q_lr, q_ar, q_vr, q_cN0, q_cSX0, q_cV0, q_cVX0, q_cN1, q_cSX1, q_cV1, q_cVX1, q_cN2, q_cSX2, q_cV2, q_cVX2, q_cN3, q_cSX3, q_cV3, q_cVX3, q_cN4, q_cSX4, q_cV4, q_cVX4, q_cN5, q_cSX5, q_cV5, q_cVX5, q_cN6, q_cSX6, q_cV6, q_cVX6, q_th, q_sh0, q_sh1, q_sh2, q_sh3, q_sh4, q_toL0, q_toL1, q_gl0, q_gls, q_sl0, q_sls, q_k10, q_k1s, q_lgi, q_lgr, q_lgl, q_lgn, Bool.not_false, and_true, true_and, nz_2, nz_4, nz_5, nz_8, nz_10, nz_12, nz_14, nz_16, nz_40, nz_41, nz_64, nz_100, nz_1000, nz_1024, nz_4096, nz_10000, nz_100000, not_false_eq_true, bI_0, nI_add, pk_mul, nI_lt', nI_le', nI_eq', nI_z, nI_p, nI_e0, nI_l0, nI_le0, nI_clamp, up_eq, up_ne, not_true_eq_false, Classical.not_not, false_implies, true_implies, false_and, and_false, or_true, true_or, Nat.add_zero, pk_m1, m1_0, m1_n, m1_p, Nat.zero_le, forall_const]
            rw [nI_0]; exact kb (fun q3 => by omega)
      · simp (disch := omega) only [bX8_readNumber_6, w1, w2, w3, r1, i1, q_ci, q_cl, q_ild, q_lld, q_ald, q_ist, q_ast, q_lst, q_inc, q_b2, q_d2, q_u1, q_l2, q_ld2, q_lsh, q_lcmp, q_i2l, q_l2i, q_dupi, q_dupr, q_dup2, q_popi, q_popr, q_if1, q_if2, q_nn, q_sw, q_swn, q_swc, q_gf, q_gr, q_pf, q_pz, q_pc, q_ia, q_is, q_cs, q_zs, q_la, q_lw, q_aa, q_al, q_gs, q_acp, q_m2, q_m1, q_ir, q_zr, q_lr, q_ar, q_vr, q_cN0, q_cSX0, q_cV0, q_cVX0, q_cN1, q_cSX1, q_cV1, q_cVX1, q_cN2, q_cSX2, q_cV2, q_cVX2, q_cN3, q_cSX3, q_cV3, q_cVX3, q_cN4, q_cSX4, q_cV4, q_cVX4, q_cN5, q_cSX5, q_cV5, q_cVX5, q_cN6, q_cSX6, q_cV6, q_cVX6, q_th, q_sh0, q_sh1, q_sh2, q_sh3, q_sh4, q_toL0, q_toL1, q_gl0, q_gls, q_sl0, q_sls, q_k10, q_k1s, q_lgi, q_lgr, q_lgl, q_lgn, Bool.not_false, and_true, true_and, nz_2, nz_4, nz_5, nz_8, nz_10, nz_12, nz_14, nz_16, nz_40, nz_41, nz_64, nz_100, nz_1000, nz_1024, nz_4096, nz_10000, nz_100000, not_false_eq_true, bI_0, nI_add, pk_mul, nI_lt', nI_le', nI_eq', nI_z, nI_p, nI_e0, nI_l0, nI_le0, nI_clamp, up_eq, up_ne, not_true_eq_false, Classical.not_not, false_implies, true_implies, false_and, and_false, or_true, true_or, Nat.add_zero, pk_m1, m1_0, m1_n, m1_p, Nat.zero_le, forall_const]
        refine ⟨fun q => absurd hk (by omega), fun _ => ⟨fun q => h2 _ _ _ ?_, fun q => absurd (by omega) him⟩⟩
        simp (disch := omega) only [bX8_readNumber_51, q_ci, q_cl, q_ild, q_lld, q_ald, q_ist, q_ast, q_lst, q_inc, q_b2, q_d2, q_u1, q_l2, q_ld2, q_lsh, q_lcmp, q_i2l, q_l2i, q_dupi, q_dupr, q_dup2, q_popi, q_popr, q_if1, q_if2, q_nn, q_sw, q_swn, q_swc, q_gf, q_gr, q_pf, q_pz, q_pc, q_ia, q_is, q_cs, q_zs, q_la, q_lw, q_aa, q_al, q_gs, q_acp, q_m2, q_m1, q_ir, q_zr, q_lr, q_ar, q_vr, q_cN0, q_cSX0, q_cV0, q_cVX0, q_cN1, q_cSX1, q_cV1, q_cVX1, q_cN2, q_cSX2, q_cV2, q_cVX2, q_cN3, q_cSX3, q_cV3, q_cVX3, q_cN4, q_cSX4, q_cV4, q_cVX4, q_cN5, q_cSX5, q_cV5, q_cVX5, q_cN6, q_cSX6, q_cV6, q_cVX6, q_th, q_sh0, q_sh1, q_sh2, q_sh3, q_sh4, q_toL0, q_toL1, q_gl0, q_gls, q_sl0, q_sls, q_k10, q_k1s, q_lgi, q_lgr, q_lgl, q_lgn, Bool.not_false, and_true, true_and, nz_2, nz_4, nz_5, nz_8, nz_10, nz_12, nz_14, nz_16, nz_40, nz_41, nz_64, nz_100, nz_1000, nz_1024, nz_4096, nz_10000, nz_100000, not_false_eq_true, bI_0, nI_add, pk_mul, nI_lt', nI_le', nI_eq', nI_z, nI_p, nI_e0, nI_l0, nI_le0, nI_clamp, up_eq, up_ne, not_true_eq_false, Classical.not_not, false_implies, true_implies, false_and, and_false, or_true, true_or, Nat.add_zero, pk_m1, m1_0, m1_n, m1_p, Nat.zero_le, forall_const]
        rw [nI_0]; exact kb (fun q => him q.1)
    simp (disch := omega) only [bX8_readNumber_0, q_ci, q_cl, q_ild, q_lld, q_ald, q_ist, q_ast, q_lst, q_inc, q_b2, q_d2, q_u1, q_l2, q_ld2, q_lsh, q_lcmp, q_i2l, q_l2i, q_dupi, q_dupr, q_dup2, q_popi, q_popr, q_if1, q_if2, q_nn, q_sw, q_swn, q_swc, q_gf, q_gr, q_pf, q_pz, q_pc, q_ia, q_is, q_cs, q_zs, q_la, q_lw, q_aa, q_al, q_gs, q_acp, q_m2, q_m1, q_ir, q_zr, q_lr, q_ar, q_vr, q_cN0, q_cSX0, q_cV0, q_cVX0, q_cN1, q_cSX1, q_cV1, q_cVX1, q_cN2, q_cSX2, q_cV2, q_cVX2, q_cN3, q_cSX3, q_cV3, q_cVX3, q_cN4, q_cSX4, q_cV4, q_cVX4, q_cN5, q_cSX5, q_cV5, q_cVX5, q_cN6, q_cSX6, q_cV6, q_cVX6, q_th, q_sh0, q_sh1, q_sh2, q_sh3, q_sh4, q_toL0, q_toL1, q_gl0, q_gls, q_sl0, q_sls, q_k10, q_k1s, q_lgi, q_lgr, q_lgl, q_lgn, Bool.not_false, and_true, true_and, nz_2, nz_4, nz_5, nz_8, nz_10, nz_12, nz_14, nz_16, nz_40, nz_41, nz_64, nz_100, nz_1000, nz_1024, nz_4096, nz_10000, nz_100000, not_false_eq_true, bI_0, nI_add, pk_mul, nI_lt', nI_le', nI_eq', nI_z, nI_p, nI_e0, nI_l0, nI_le0, nI_clamp, up_eq, up_ne, not_true_eq_false, Classical.not_not, false_implies, true_implies, false_and, and_false, or_true, true_or, Nat.add_zero, pk_m1, m1_0, m1_n, m1_p, Nat.zero_le, forall_const]
    have E : ∀ v i σ1 x7 x8 x9, tR σ1 t m → tI σ1 m i → (∀ σ', FrX σ1 σ' → tI σ' m i → σ' 3 = upd (σ1 3) j (nI v) → Kn (some (.int 1)) σ') → M 6 [.ref 1, .int (nI j), .int (nI d), .int (nI lo), .int (nI hi), .int (nI v), .int (nI d), x7, x8, x9] [] σ1 := by
      intro v i σ1 x7 x8 x9 hR1 hi2 ka
      refine h1 _ _ _ ?_
      have vj : vp_in (nI j) 5 := vp_in_nI hj (by omega)
      simp (disch := omega) only [bX8_readNumber_6, w1, w2, w3, w4, w5, q_ci, q_cl, q_ild, q_lld, q_ald, q_ist, q_ast, q_lst, q_inc, q_b2, q_d2, q_u1, q_l2, q_ld2, q_lsh, q_lcmp, q_i2l, q_l2i, q_dupi, q_dupr, q_dup2, q_popi, q_popr, q_if1, q_if2, q_nn, q_sw, q_swn, q_swc, q_gf, q_gr, q_pf, q_pz, q_pc, q_ia, q_is, q_cs, q_zs, q_la, q_lw, q_aa, q_al, q_gs, q_acp, q_m2, q_m1, q_ir, q_zr, q_lr, q_ar, q_vr, q_cN0, q_cSX0, q_cV0, q_cVX0, q_cN1, q_cSX1, q_cV1, q_cVX1, q_cN2, q_cSX2, q_cV2, q_cVX2, q_cN3, q_cSX3, q_cV3, q_cVX3, q_cN4, q_cSX4, q_cV4, q_cVX4, q_cN5, q_cSX5, q_cV5, q_cVX5, q_cN6, q_cSX6, q_cV6, q_cVX6, q_th, q_sh0, q_sh1, q_sh2, q_sh3, q_sh4, q_toL0, q_toL1, q_gl0, q_gls, q_sl0, q_sls, q_k10, q_k1s, q_lgi, q_lgr, q_lgl, q_lgn, Bool.not_false, and_true, true_and, nz_2, nz_4, nz_5, nz_8, nz_10, nz_12, nz_14, nz_16, nz_40, nz_41, nz_64, nz_100, nz_1000, nz_1024, nz_4096, nz_10000, nz_100000, not_false_eq_true, bI_0, nI_add, pk_mul, nI_lt', nI_le', nI_eq', nI_z, nI_p, nI_e0, nI_l0, nI_le0, nI_clamp, up_eq, up_ne, not_true_eq_false, Classical.not_not, false_implies, true_implies, false_and, and_false, or_true, true_or, Nat.add_zero, pk_m1, m1_0, m1_n, m1_p, Nat.zero_le, forall_const]
      refine ⟨fun _ => ⟨vj, Or.inr nI_one, ?_⟩, fun q => absurd (Nat.le_refl d) q⟩
      rw [nI_one]
      exact ka _ ⟨fun v h1 h2 => by simp (disch := omega) only [up_ne], fun k hk => by simp (disch := omega) only [up_ne]⟩ ⟨by simp (disch := omega) only [up_ne]; exact hi2.1, hi2.2⟩ (by rw [show 1 + 2 = 3 from rfl, ab_up_row])
    rcases hd with rfl | rfl
    · have pe : p_n t m i 1 lo hi = p_n1 t m i lo hi := if_pos rfl
      rw [pe] at ha hb
      refine H 0 0 i σ _ _ _ (by omega) (by omega) hR hi1 (fun hp y7 y8 y9 => ?_) (fun hp => ?_)
      · unfold p_ok at hp
        rw [if_neg (by omega), Nat.mul_zero, Nat.zero_add] at hp
        have e1 : p_n1 t m i lo hi = (i + 1, some (t i - 48)) := by unfold p_n1 p_d; rw [if_pos hp]
        rw [e1] at ha
        rw [Nat.mul_zero, Nat.zero_add]
        exact E _ (i + 1) _ _ _ _ (FrX.at.t hR) ⟨up_eqp rfl rfl, by omega⟩ (fun σ' a1 a2 a3 => ha σ' _ rfl (FrX.at.trans a1) a2 (by rw [a3]; simp (disch := omega) only [up_ne]))
      · unfold p_ok at hp
        rw [if_neg (by omega), Nat.mul_zero, Nat.zero_add] at hp
        have e1 : p_n1 t m i lo hi = (i, none) := by unfold p_n1 p_d; rw [if_neg hp]
        rw [e1] at hb
        exact hb σ rfl FrX.refl hi1 rfl
    · have pe : p_n t m i 2 lo hi = p_n2 t m i lo hi := if_neg (by omega)
      rw [pe] at ha hb
      refine H 0 0 i σ _ _ _ (by omega) (by omega) hR hi1 (fun hp y7 y8 y9 => ?_) (fun hp => ?_)
      · unfold p_ok at hp
        rw [if_pos (by omega), Nat.mul_zero, Nat.zero_add] at hp
        have e1 : p_d t m i (lo / 10) (hi / 10) = some (t i - 48) := by unfold p_d; rw [if_pos ⟨hp.1, hp.2.1, hp.2.2.1, by omega, by omega⟩]
        rw [Nat.mul_zero, Nat.zero_add]
        have hu : t i - 48 ≤ 9 := by have := hp.2.2.1; omega
        have hlo2 : lo ≤ 10 * (t i - 48) + 9 := hp.2.2.2.1
        have hhi2 : 10 * (t i - 48) ≤ hi := hp.2.2.2.2
        have him := hp.1
        unfold p_n2 at ha hb
        rw [e1] at ha hb
        dsimp only at ha hb
        generalize t i - 48 = u at *
        refine H 1 u (i + 1) _ _ _ _ (by omega) hu (FrX.at.t hR) ⟨up_eqp rfl rfl, by omega⟩ (fun hp y7 y8 y9 => ?_) (fun hp => ?_)
        · unfold p_ok at hp
          rw [if_neg (by omega)] at hp
          have e2 : p_d t m (i + 1) (if u = lo / 10 then lo % 10 else 0) (if u = hi / 10 then hi % 10 else 9) = some (t (i + 1) - 48) := by
            unfold p_d; rw [if_pos ⟨hp.1, hp.2.1, hp.2.2.1, by split <;> omega, by split <;> omega⟩]
          rw [e2] at ha
          exact E _ (i + 2) _ _ _ _ (FrX.at.t (FrX.at.t hR)) ⟨up_eqp rfl rfl, by omega⟩ (fun σ' a1 a2 a3 => ha σ' _ rfl (FrX.at.trans (FrX.at.trans a1)) a2 (by rw [a3]; simp (disch := omega) only [up_ne]))
        · unfold p_ok at hp
          rw [if_neg (by omega)] at hp
          have e2 : p_d t m (i + 1) (if u = lo / 10 then lo % 10 else 0) (if u = hi / 10 then hi % 10 else 9) = none := by
            unfold p_d; rw [if_neg (fun q => hp ⟨q.1, q.2.1, q.2.2.1, by have := q.2.2.2.1; split at this <;> omega, by have := q.2.2.2.2; split at this <;> omega⟩)]
          rw [e2] at hb
          exact hb _ rfl FrX.at ⟨up_eqp rfl rfl, him⟩ (by simp (disch := omega) only [up_ne])
      · unfold p_ok at hp
        rw [if_pos (by omega), Nat.mul_zero, Nat.zero_add] at hp
        have e1 : p_d t m i (lo / 10) (hi / 10) = none := by unfold p_d; rw [if_neg (fun q => hp ⟨q.1, q.2.1, q.2.2.1, by omega, by omega⟩)]
        unfold p_n2 at hb
        rw [e1] at hb
        exact hb σ rfl FrX.refl hi1 rfl
  · exact h.elim
