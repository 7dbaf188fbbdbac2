theorem RF.cp {σ σ' : ab_H} {a o : Nat} {f : nF} (h : RF σ o f) (hc : cl (f 2) ≤ 6) (e0 : σ' a 0 = σ o 0) (e : ∀ i, 1 ≤ i → i ≤ 4 → ∀ j, j < 6 → σ' (a + i) j = σ (o + i) j) : RF σ' a f := by
  refine ⟨e0.trans h.1, fun s hs => ?_, fun s hs h5 => ?_⟩
  · rw [e 1 (by decide) (by decide) s (by omega), e 2 (by decide) (by decide) s (by omega), e 3 (by decide) (by decide) s (by omega), e 4 (by decide) (by decide) s (by omega)]
    exact h.2.1 s hs
  · rw [e 4 (by decide) (by decide) s h5]
    exact h.2.2 s hs h5
theorem RO.cp {σ σ' : ab_H} {a o : Nat} {l : List nO} (h : RO σ o l) (hc : l.length ≤ 8) (e0 : σ' a 0 = σ o 0) (e : ∀ i, 1 ≤ i → i ≤ 4 → ∀ j, j < 8 → σ' (a + i) j = σ (o + i) j) : RO σ' a l := by
  refine ⟨e0.trans h.1, fun s x hs => ?_⟩
  have := getq hs
  rw [e 1 (by decide) (by decide) s (by omega), e 2 (by decide) (by decide) s (by omega), e 3 (by decide) (by decide) s (by omega), e 4 (by decide) (by decide) s (by omega)]
  exact h.2 s x hs
theorem RB.cp {σ σ' : ab_H} {a o : Nat} {l : List nB} (h : RB σ o l) (hc : l.length ≤ 150) (e0 : σ' a 0 = σ o 0) (e : ∀ i, 1 ≤ i → i ≤ 3 → ∀ j, j < 150 → σ' (a + i) j = σ (o + i) j) : RB σ' a l := by
  refine ⟨e0.trans h.1, fun s x hs => ?_⟩
  have := getq hs
  rw [e 1 (by decide) (by decide) s (by omega), e 2 (by decide) (by decide) s (by omega), e 3 (by decide) (by decide) s (by omega)]
  exact h.2 s x hs
theorem RG.cp {σ σ' : ab_H} {a o : Nat} {c : Int32} {l : List nB} (h : RG σ o c l) (e0 : σ' a 0 = σ o 0) (e1 : σ' a 1 = σ o 1) (e : ∀ i, 1 ≤ i → i ≤ 3 → ∀ j, j < 12 → σ' (a + i) j = σ (o + i) j) : RG σ' a c l := by
  refine ⟨e0.trans h.1, fun s x hs => ?_, e1.trans h.2.2⟩
  have hm : (cl c - l.length + s) % 12 < 12 := Nat.mod_lt _ (by decide)
  rw [e 1 (by decide) (by decide) _ hm, e 2 (by decide) (by decide) _ hm, e 3 (by decide) (by decide) _ hm]
  exact h.2.1 s x hs
def sp_X0_copyFrom : ab_S := fun w As σ K => match As with
  | [.ref a, .ref o] => wF w a ∧ wF w o ∧ apt a 5 o ∧ ∀ σ', (∀ f, cl (f 2) ≤ 6 → RF σ o f → RF σ' a f) → Frk a 5 σ σ' → K none σ'
  | _ => False
def sp_X4_copyFrom : ab_S := fun w As σ K => match As with
  | [.ref a, .ref o] => wO w a ∧ wO w o ∧ apt a 5 o ∧ ∀ σ', (∀ l, l.length ≤ 8 → RO σ o l → RO σ' a l) → Frk a 5 σ σ' → K none σ'
  | _ => False
def sp_X5_copyFrom : ab_S := fun w As σ K => match As with
  | [.ref a, .ref o] => wB w a ∧ wB w o ∧ apt a 4 o ∧ ∀ σ', (∀ l, l.length ≤ 150 → RB σ o l → RB σ' a l) → Frk a 4 σ σ' → K none σ'
  | _ => False
def sp_X1_copyFrom : ab_S := fun w As σ K => match As with
  | [.ref a, .ref o] => wG w a ∧ wG w o ∧ apt a 4 o ∧ ∀ σ', (∀ c l, RG σ o c l → RG σ' a c l) → Frk a 4 σ σ' → K none σ'
  | _ => False
set_option maxRecDepth 20000 in
set_option maxHeartbeats 4000000 in
theorem ok_X0_copyFrom {l : Launch} (hl : l.stackTraces = false) : ab_OkN l yX0_copyFrom (Cond.code yX0_copyFrom cX0_copyFrom 2 none) 3 sp_X0_copyFrom := by
  intro w σ As Kn hI h
  unfold sp_X0_copyFrom at h
  split at h
  · next a o =>
    obtain ⟨hw, hwo, hap, h⟩ := h
    refine vc_X0_copyFrom hl hI (ok_X9_copyRow hl) (Nat.le_of_ble_eq_true rfl) (fun M h0 => h0 [.ref a, .ref o] [] σ ?_)
    unfold wF at hw hwo
    unfold apt at hap
    simp (disch := omega) only [bX0_copyFrom_0, sp_X9_copyRow, hw, hwo, exists_eq_left', q_ci, q_cl, q_ild, q_lld, q_ald, q_ist, q_ast, q_lst, q_inc, q_b2, q_d2, q_u1, q_l2, q_ld2, q_lsh, q_lcmp, q_i2l, q_l2i, q_dupi, q_dupr, q_dup2, q_popi, q_popr, q_if1, q_if2, q_nn, q_sw, q_swn, q_swc, q_gf, q_gr, q_pf, q_pz, q_pc, q_ia, q_is, q_cs, q_zs, q_la, q_lw, q_aa, q_al, q_gs, q_acp, q_m2, q_m1, q_ir, q_zr, q_lr, q_ar, q_vr, q_cN0, q_cSX0, q_cV0, q_cVX0, q_cN1, q_cSX1, q_cV1, q_cVX1, q_cN2, q_cSX2, q_cV2, q_cVX2, q_cN3, q_cSX3, q_cV3, q_cVX3, q_cN4, q_cSX4, q_cV4, q_cVX4, q_cN5, q_cSX5, q_cV5, q_cVX5, q_cN6, q_cSX6, q_cV6, q_cVX6, q_th, q_sh0, q_sh1, q_sh2, q_sh3, q_sh4, q_toL0, q_toL1, q_gl0, q_gls, q_sl0, q_sls, q_k10, q_k1s, q_lgi, q_lgr, q_lgl, q_lgn, Bool.not_false, and_true, true_and, nz_2, nz_4, nz_5, nz_8, nz_10, nz_12, nz_14, nz_16, nz_40, nz_41, nz_64, nz_100, nz_1000, nz_1024, nz_4096, nz_10000, nz_100000, not_false_eq_true, bI_0, nI_add, pk_mul, nI_lt', nI_le', nI_eq', nI_z, nI_p, nI_e0, nI_l0, nI_le0, nI_clamp, up_eq, up_ne, not_true_eq_false, Classical.not_not, false_implies, true_implies, false_and, and_false, or_true, true_or, Nat.add_zero, pk_m1, m1_0, m1_n, m1_p, Nat.zero_le, forall_const]
    repeat' first
      | assumption
      | (refine vp_in_nI ?_ ?_ <;> omega)
      | refine And.intro ?_ ?_
      | (intro (_ : _); first | (exfalso; omega) | skip)
    all_goals first | decide | skip
    refine h _ (fun f hc hf => hf.cp hc ?_ (fun i h1 h6 j hj => ?_)) (fun v hv => ?_)
    · simp (disch := omega) only [cp_ne, up_eqp]
    · rcases (show i = 1 ∨ i = 2 ∨ i = 3 ∨ i = 4 by omega) with rfl | rfl | rfl | rfl <;> simp (disch := omega) only [cp_ne, cp_eqp, up_ne]
    · simp (disch := omega) only [cp_ne, up_ne]
  · exact h.elim
set_option maxRecDepth 20000 in
set_option maxHeartbeats 4000000 in
theorem ok_X4_copyFrom {l : Launch} (hl : l.stackTraces = false) : ab_OkN l yX4_copyFrom (Cond.code yX4_copyFrom cX4_copyFrom 2 none) 3 sp_X4_copyFrom := by
  intro w σ As Kn hI h
  unfold sp_X4_copyFrom at h
  split at h
  · next a o =>
    obtain ⟨hw, hwo, hap, h⟩ := h
    refine vc_X4_copyFrom hl hI (ok_X9_copyRow hl) (Nat.le_of_ble_eq_true rfl) (fun M h0 => h0 [.ref a, .ref o] [] σ ?_)
    unfold wO at hw hwo
    unfold apt at hap
    simp (disch := omega) only [bX4_copyFrom_0, sp_X9_copyRow, hw, hwo, exists_eq_left', q_ci, q_cl, q_ild, q_lld, q_ald, q_ist, q_ast, q_lst, q_inc, q_b2, q_d2, q_u1, q_l2, q_ld2, q_lsh, q_lcmp, q_i2l, q_l2i, q_dupi, q_dupr, q_dup2, q_popi, q_popr, q_if1, q_if2, q_nn, q_sw, q_swn, q_swc, q_gf, q_gr, q_pf, q_pz, q_pc, q_ia, q_is, q_cs, q_zs, q_la, q_lw, q_aa, q_al, q_gs, q_acp, q_m2, q_m1, q_ir, q_zr, q_lr, q_ar, q_vr, q_cN0, q_cSX0, q_cV0, q_cVX0, q_cN1, q_cSX1, q_cV1, q_cVX1, q_cN2, q_cSX2, q_cV2, q_cVX2, q_cN3, q_cSX3, q_cV3, q_cVX3, q_cN4, q_cSX4, q_cV4, q_cVX4, q_cN5, q_cSX5, q_cV5, q_cVX5, q_cN6, q_cSX6, q_cV6, q_cVX6, q_th, q_sh0, q_sh1, q_sh2, q_sh3, q_sh4, q_toL0, q_toL1, q_gl0, q_gls, q_sl0, q_sls, q_k10, q_k1s, q_lgi, q_lgr, q_lgl, q_lgn, Bool.not_false, and_true, true_and, nz_2, nz_4, nz_5, nz_8, nz_10, nz_12, nz_14, nz_16, nz_40, nz_41, nz_64, nz_100, nz_1000, nz_1024, nz_4096, nz_10000, nz_100000, not_false_eq_true, bI_0, nI_add, pk_mul, nI_lt', nI_le', nI_eq', nI_z, nI_p, nI_e0, nI_l0, nI_le0, nI_clamp, up_eq, up_ne, not_true_eq_false, Classical.not_not, false_implies, true_implies, false_and, and_false, or_true, true_or, Nat.add_zero, pk_m1, m1_0, m1_n, m1_p, Nat.zero_le, forall_const]
    repeat' first
      | assumption
      | (refine vp_in_nI ?_ ?_ <;> omega)
      | refine And.intro ?_ ?_
      | (intro (_ : _); first | (exfalso; omega) | skip)
    all_goals first | decide | skip
    refine h _ (fun f hc hf => hf.cp hc ?_ (fun i h1 h6 j hj => ?_)) (fun v hv => ?_)
    · simp (disch := omega) only [cp_ne, up_eqp]
    · rcases (show i = 1 ∨ i = 2 ∨ i = 3 ∨ i = 4 by omega) with rfl | rfl | rfl | rfl <;> simp (disch := omega) only [cp_ne, cp_eqp, up_ne]
    · simp (disch := omega) only [cp_ne, up_ne]
  · exact h.elim
set_option maxRecDepth 20000 in
set_option maxHeartbeats 4000000 in
theorem ok_X5_copyFrom {l : Launch} (hl : l.stackTraces = false) : ab_OkN l yX5_copyFrom (Cond.code yX5_copyFrom cX5_copyFrom 2 none) 3 sp_X5_copyFrom := by
  intro w σ As Kn hI h
  unfold sp_X5_copyFrom at h
  split at h
  · next a o =>
    obtain ⟨hw, hwo, hap, h⟩ := h
    refine vc_X5_copyFrom hl hI (ok_X9_copyRow hl) (Nat.le_of_ble_eq_true rfl) (fun M h0 => h0 [.ref a, .ref o] [] σ ?_)
    unfold wB at hw hwo
    unfold apt at hap
    simp (disch := omega) only [bX5_copyFrom_0, sp_X9_copyRow, hw, hwo, exists_eq_left', q_ci, q_cl, q_ild, q_lld, q_ald, q_ist, q_ast, q_lst, q_inc, q_b2, q_d2, q_u1, q_l2, q_ld2, q_lsh, q_lcmp, q_i2l, q_l2i, q_dupi, q_dupr, q_dup2, q_popi, q_popr, q_if1, q_if2, q_nn, q_sw, q_swn, q_swc, q_gf, q_gr, q_pf, q_pz, q_pc, q_ia, q_is, q_cs, q_zs, q_la, q_lw, q_aa, q_al, q_gs, q_acp, q_m2, q_m1, q_ir, q_zr, q_lr, q_ar, q_vr, q_cN0, q_cSX0, q_cV0, q_cVX0, q_cN1, q_cSX1, q_cV1, q_cVX1, q_cN2, q_cSX2, q_cV2, q_cVX2, q_cN3, q_cSX3, q_cV3, q_cVX3, q_cN4, q_cSX4, q_cV4, q_cVX4, q_cN5, q_cSX5, q_cV5, q_cVX5, q_cN6, q_cSX6, q_cV6, q_cVX6, q_th, q_sh0, q_sh1, q_sh2, q_sh3, q_sh4, q_toL0, q_toL1, q_gl0, q_gls, q_sl0, q_sls, q_k10, q_k1s, q_lgi, q_lgr, q_lgl, q_lgn, Bool.not_false, and_true, true_and, nz_2, nz_4, nz_5, nz_8, nz_10, nz_12, nz_14, nz_16, nz_40, nz_41, nz_64, nz_100, nz_1000, nz_1024, nz_4096, nz_10000, nz_100000, not_false_eq_true, bI_0, nI_add, pk_mul, nI_lt', nI_le', nI_eq', nI_z, nI_p, nI_e0, nI_l0, nI_le0, nI_clamp, up_eq, up_ne, not_true_eq_false, Classical.not_not, false_implies, true_implies, false_and, and_false, or_true, true_or, Nat.add_zero, pk_m1, m1_0, m1_n, m1_p, Nat.zero_le, forall_const]
    repeat' first
      | assumption
      | (refine vp_in_nI ?_ ?_ <;> omega)
      | refine And.intro ?_ ?_
      | (intro (_ : _); first | (exfalso; omega) | skip)
    all_goals first | decide | skip
    refine h _ (fun f hc hf => hf.cp hc ?_ (fun i h1 h6 j hj => ?_)) (fun v hv => ?_)
    · simp (disch := omega) only [cp_ne, up_eqp]
    · rcases (show i = 1 ∨ i = 2 ∨ i = 3 by omega) with rfl | rfl | rfl <;> simp (disch := omega) only [cp_ne, cp_eqp, up_ne]
    · simp (disch := omega) only [cp_ne, up_ne]
  · exact h.elim
set_option maxRecDepth 20000 in
set_option maxHeartbeats 4000000 in
theorem ok_X1_copyFrom {l : Launch} (hl : l.stackTraces = false) : ab_OkN l yX1_copyFrom (Cond.code yX1_copyFrom cX1_copyFrom 2 none) 3 sp_X1_copyFrom := by
  intro w σ As Kn hI h
  unfold sp_X1_copyFrom at h
  split at h
  · next a o =>
    obtain ⟨hw, hwo, hap, h⟩ := h
    refine vc_X1_copyFrom hl hI (ok_X9_copyRow hl) (Nat.le_of_ble_eq_true rfl) (fun M h0 => h0 [.ref a, .ref o] [] σ ?_)
    unfold wG at hw hwo
    unfold apt at hap
    simp (disch := omega) only [bX1_copyFrom_0, sp_X9_copyRow, hw, hwo, exists_eq_left', q_ci, q_cl, q_ild, q_lld, q_ald, q_ist, q_ast, q_lst, q_inc, q_b2, q_d2, q_u1, q_l2, q_ld2, q_lsh, q_lcmp, q_i2l, q_l2i, q_dupi, q_dupr, q_dup2, q_popi, q_popr, q_if1, q_if2, q_nn, q_sw, q_swn, q_swc, q_gf, q_gr, q_pf, q_pz, q_pc, q_ia, q_is, q_cs, q_zs, q_la, q_lw, q_aa, q_al, q_gs, q_acp, q_m2, q_m1, q_ir, q_zr, q_lr, q_ar, q_vr, q_cN0, q_cSX0, q_cV0, q_cVX0, q_cN1, q_cSX1, q_cV1, q_cVX1, q_cN2, q_cSX2, q_cV2, q_cVX2, q_cN3, q_cSX3, q_cV3, q_cVX3, q_cN4, q_cSX4, q_cV4, q_cVX4, q_cN5, q_cSX5, q_cV5, q_cVX5, q_cN6, q_cSX6, q_cV6, q_cVX6, q_th, q_sh0, q_sh1, q_sh2, q_sh3, q_sh4, q_toL0, q_toL1, q_gl0, q_gls, q_sl0, q_sls, q_k10, q_k1s, q_lgi, q_lgr, q_lgl, q_lgn, Bool.not_false, and_true, true_and, nz_2, nz_4, nz_5, nz_8, nz_10, nz_12, nz_14, nz_16, nz_40, nz_41, nz_64, nz_100, nz_1000, nz_1024, nz_4096, nz_10000, nz_100000, not_false_eq_true, bI_0, nI_add, pk_mul, nI_lt', nI_le', nI_eq', nI_z, nI_p, nI_e0, nI_l0, nI_le0, nI_clamp, up_eq, up_ne, not_true_eq_false, Classical.not_not, false_implies, true_implies, false_and, and_false, or_true, true_or, Nat.add_zero, pk_m1, m1_0, m1_n, m1_p, Nat.zero_le, forall_const]
    repeat' first
      | assumption
      | (refine vp_in_nI ?_ ?_ <;> omega)
      | refine And.intro ?_ ?_
      | (intro (_ : _); first | (exfalso; omega) | skip)
    all_goals first | decide | skip
    refine h _ (fun c f hf => hf.cp ?_ ?_ (fun i h1 h6 j hj => ?_)) (fun v hv => ?_)
    · simp (disch := omega) only [cp_ne, up_eqp, up_nep, up_ne]
    · simp (disch := omega) only [cp_ne, up_eqp, up_nep, up_ne]
    · rcases (show i = 1 ∨ i = 2 ∨ i = 3 by omega) with rfl | rfl | rfl <;> simp (disch := omega) only [cp_ne, cp_eqp, up_ne]
    · simp (disch := omega) only [cp_ne, up_ne]
  · exact h.elim
theorem WFb.len {f : nF} {l : List nB} (h : WFb f l 0 0) : l.length ≤ 150 := by
  have h0 := h.2.2 0 (Nat.le_refl _) (by decide)
  have : n_cnt l (cl (f 0) + 0) = l.length := by
    unfold n_cnt
    rw [List.filter_eq_self.mpr]
    intro b hb
    have := (h.1 b hb).1
    simp; omega
  omega
theorem WFb.lenm {f : nF} {l : List nB} {m : Nat} (h : WFb f l 1 m) : l.length ≤ 145 + m := by
  have h0 := h.2.2 1 (Nat.le_refl _) (by decide)
  have : n_cnt l (cl (f 0) + 1) = l.length := by
    unfold n_cnt
    rw [List.filter_eq_self.mpr]
    intro b hb
    have := (h.1 b hb).1
    simp; omega
  omega
theorem WF.cOK {T : Nat} {n : nT} (h : WF T n) : cOK n.1 := ⟨h.1.2.2.1, h.1.2.2.2.1⟩
theorem WFm.cOK {T m : Nat} {n : nT} (h : WFm T m n) : cOK n.1 := ⟨h.1.2.2.1, h.1.2.2.2.1⟩
def sp_X3_copyFrom : ab_S := fun w As σ K => match As with
  | [.ref b, .ref o] => wN w b ∧ wN w o ∧ apt b 29 o ∧ ∀ σ', (∀ T n, WF T n → RC σ o n → RC σ' b n) → Frk b 29 σ σ' → K none σ'
  | _ => False
set_option maxRecDepth 20000 in
set_option maxHeartbeats 4000000 in
theorem ok_X3_copyFrom {l : Launch} (hl : l.stackTraces = false) : ab_OkN l yX3_copyFrom (Cond.code yX3_copyFrom cX3_copyFrom 2 none) 4 sp_X3_copyFrom := by
  intro w σ As Kn hI h
  unfold sp_X3_copyFrom at h
  split at h
  · next b o =>
    obtain ⟨b, rfl⟩ : ∃ z : Nat, z = b := ⟨_, rfl⟩
    obtain ⟨o, rfl⟩ : ∃ z : Nat, z = o := ⟨_, rfl⟩
    obtain ⟨hw, hwo, hap, h⟩ := h
    refine vc_X3_copyFrom hl hI (ok_X7_copyFrom hl) (ok_X0_copyFrom hl) (ok_X4_copyFrom hl) (ok_X5_copyFrom hl) (ok_X1_copyFrom hl) (ok_X9_copyRow hl) (Nat.le_of_ble_eq_true rfl) (fun M h0 => h0 [.ref b, .ref o] [] σ ?_)
    unfold wN at hw hwo
    unfold apt at hap
    have k7 := hw.2.1.1
    have k0 := hw.2.2.1.1
    have k4 := hw.2.2.2.1.1
    have k5 := hw.2.2.2.2.1.1
    have k1 := hw.2.2.2.2.2.1.1
    simp (disch := omega) only [bX3_copyFrom_0, sp_X7_copyFrom, sp_X0_copyFrom, sp_X4_copyFrom, sp_X5_copyFrom, sp_X1_copyFrom, sp_X9_copyRow, hw, hwo, k7, k0, k4, k5, k1, exists_eq_left', q_ci, q_cl, q_ild, q_lld, q_ald, q_ist, q_ast, q_lst, q_inc, q_b2, q_d2, q_u1, q_l2, q_ld2, q_lsh, q_lcmp, q_i2l, q_l2i, q_dupi, q_dupr, q_dup2, q_popi, q_popr, q_if1, q_if2, q_nn, q_sw, q_swn, q_swc, q_gf, q_gr, q_pf, q_pz, q_pc, q_ia, q_is, q_cs, q_zs, q_la, q_lw, q_aa, q_al, q_gs, q_acp, q_m2, q_m1, q_ir, q_zr, q_lr, q_ar, q_vr, q_cN0, q_cSX0, q_cV0, q_cVX0, q_cN1, q_cSX1, q_cV1, q_cVX1, q_cN2, q_cSX2, q_cV2, q_cVX2, q_cN3, q_cSX3, q_cV3, q_cVX3, q_cN4, q_cSX4, q_cV4, q_cVX4, q_cN5, q_cSX5, q_cV5, q_cVX5, q_cN6, q_cSX6, q_cV6, q_cVX6, q_th, q_sh0, q_sh1, q_sh2, q_sh3, q_sh4, q_toL0, q_toL1, q_gl0, q_gls, q_sl0, q_sls, q_k10, q_k1s, q_lgi, q_lgr, q_lgl, q_lgn, Bool.not_false, and_true, true_and, nz_2, nz_4, nz_5, nz_8, nz_10, nz_12, nz_14, nz_16, nz_40, nz_41, nz_64, nz_100, nz_1000, nz_1024, nz_4096, nz_10000, nz_100000, not_false_eq_true, bI_0, nI_add, pk_mul, nI_lt', nI_le', nI_eq', nI_z, nI_p, nI_e0, nI_l0, nI_le0, nI_clamp, up_eq, up_ne, not_true_eq_false, Classical.not_not, false_implies, true_implies, false_and, and_false, or_true, true_or, Nat.add_zero, pk_m1, m1_0, m1_n, m1_p, Nat.zero_le, forall_const]
    refine ⟨by unfold apt; omega, fun σ1 r1 f1 => ⟨by unfold apt; omega, fun σ2 r2 f2 => ⟨by unfold apt; omega, fun σ3 r3 f3 => ⟨by unfold apt; omega, fun σ4 r4 f4 => ⟨by unfold apt; omega, fun σ5 r5 f5 => ⟨by decide, by decide, ?_⟩⟩⟩⟩⟩⟩
    have g5 : ∀ v, (v < b ∨ b + 27 ≤ v) → σ5 v = σ v := fun v hv => by
      rw [f5 v (by omega), f4 v (by omega), f3 v (by omega), f2 v (by omega), f1 v (by omega)]
    have gb : σ5 b = σ b := by rw [f5 b (by omega), f4 b (by omega), f3 b (by omega), f2 b (by omega), f1 b (by omega)]
    refine h _ (fun T n hW hR => ?_) (fun v hv => ?_)
    · obtain ⟨q1, q2, q3, q4, q5, q6, q7, q8⟩ := hR
      have e2 : RF σ1 (o + 9) n.1 := q3.of fun v h1 h2 => f1 v (by omega)
      have e3 : RO σ2 (o + 14) n.2.1 := q4.of fun v h1 h2 => by rw [f2 v (by omega), f1 v (by omega)]
      have e4 : RB σ3 (o + 19) n.2.2.1 := q5.of fun v h1 h2 => by rw [f3 v (by omega), f2 v (by omega), f1 v (by omega)]
      have e5 : RG σ4 (o + 23) (n.1 5) n.2.2.2 := q6.of fun v h1 h2 => by rw [f4 v (by omega), f3 v (by omega), f2 v (by omega), f1 v (by omega)]
      have hl5 := hW.2.2.2.1.len
      refine ⟨?_, ?_, ?_, ?_, ?_, ?_, ?_, ?_⟩
      · unfold RN at q1 ⊢
        have go : ∀ j, σ5 o j = σ o j := fun j => by rw [g5 o (by omega)]
        simp (disch := omega) only [up_ne, up_nep, up_eqp, cp_ne, go]
        exact q1
      · exact (r1 _ hW.cOK q2).of fun v h1 h2 => by simp (disch := omega) only [up_ne, cp_ne]; rw [f5 v (by omega), f4 v (by omega), f3 v (by omega), f2 v (by omega)]
      · exact (r2 _ hW.1.2.2.2.2.2.1 e2).of fun v h1 h2 => by simp (disch := omega) only [up_ne, cp_ne]; rw [f5 v (by omega), f4 v (by omega), f3 v (by omega)]
      · exact (r3 _ hW.2.2.1.1 e3).of fun v h1 h2 => by simp (disch := omega) only [up_ne, cp_ne]; rw [f5 v (by omega), f4 v (by omega)]
      · exact (r4 _ hl5 e4).of fun v h1 h2 => by simp (disch := omega) only [up_ne, cp_ne]; rw [f5 v (by omega)]
      · exact (r5 _ _ e5).of fun v h1 h2 => by simp (disch := omega) only [up_ne, cp_ne]
      · intro j hj
        simp (disch := omega) only [up_ne, cp_ne, cp_eqp]
        rw [g5 _ (by omega)]; exact q7 j hj
      · intro j hj
        simp (disch := omega) only [up_ne, cp_ne, cp_eqp]
        rw [g5 _ (by omega)]; exact q8 j hj
    · simp (disch := omega) only [up_ne, cp_ne]
      exact g5 v (by omega)
  · exact h.elim
