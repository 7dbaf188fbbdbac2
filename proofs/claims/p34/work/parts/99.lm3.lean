/-! rows of the law's machine: constants, direct calls; rewriting rules of calls and returns -/
section LA3
variable {p : Program} {l : Launch} {e : Env} {R : Room} {s : State} {m : MethodId} {args : Array Value} {below : List Frame} {meth : Method} {c : Code} {Y : lW} {nL d lo mc : Nat} {cc : ByteArray} {own : String} {Q : State → Prop} {pc : Nat} {P : la_P}
theorem sl_ldc (C : la_Cx p l R s m args meth c Y nL cc own d lo mc) {i : Nat} {x : Int32} (dg : decode cc pc = .ok (.ldc i, 2)) (hv : Jvm.Cond.constant own i x ∈ ab_T) (kk : ∀ L st σ, P L st σ → la_M p l e R s m args below meth c Y nL Q (pc + 2) L st σ) : ∀ L st σ, la_ci x P L st σ → la_M p l e R s m args below meth c Y nL Q pc L st σ := by
  intro L st σ h H locs ls hR hS hL
  exact lv_ldc C.1 C.2.1 C.2.2.2.1 (C.2.2.2.2.1 _ hv) dg (kk _ _ _ h H locs ls hR hS hL)
theorem sl_ldcw (C : la_Cx p l R s m args meth c Y nL cc own d lo mc) {i : Nat} {x : Int32} (dg : decode cc pc = .ok (.ldc_w i, 3)) (hv : Jvm.Cond.constant own i x ∈ ab_T) (kk : ∀ L st σ, P L st σ → la_M p l e R s m args below meth c Y nL Q (pc + 3) L st σ) : ∀ L st σ, la_ci x P L st σ → la_M p l e R s m args below meth c Y nL Q pc L st σ := by
  intro L st σ h H locs ls hR hS hL
  exact lv_ldcw C.1 C.2.1 C.2.2.2.1 (C.2.2.2.2.1 _ hv) dg (kk _ _ _ h H locs ls hR hS hL)
/-- a call of the class from a helper, that is never refused -/
def la_cV (mc : Nat) (f : aS → cR) (P : la_P) : la_P := fun L st X => match st with
  | .ref i :: r => ab_sh r = true ∧ X.2 + 1 ≤ mc ∧ i < 2 ∧ okA (X.1 i) ∧ P L (.int (f (X.1 i)).2.1 :: r) (lup X.1 i (f (X.1 i)).2.2, X.2 + 1)
  | _ => False
def la_OV (l : Launch) (y : MethodName) (cy : Cond) (d' : Nat) (f : aS → cR) : Prop := (∀ a, (f a).1 = 0) ∧ ∀ {w : ab_W} {σ : ab_H} {Kn : Option Value → ab_H → Prop} {Kx : String → ab_H → Prop}, ab_Inj w → sbA w σ f [] Kn Kx → ab_Met l y cy d' 1 w σ [.ref 0] Kn Kx
theorem sl_cV (C : la_Cx p l R s m args meth c Y nL cc own d lo mc) {d' idx : Nat} {y : MethodName} {bytes : ByteArray} {maxL : Nat} {ret : Option FieldType} {f : aS → cR} (hy : y.cls = RX9) (hB : la_CB d lo d' (30 * d') 0 y (Cond.code y bytes maxL ret) maxL) (hlink : Cond.methodLink own idx y ∈ ab_T) (hinst : Cond.instanceMethod y ∈ ab_T) (hsel : Cond.selects y.cls y y ∈ ab_T) (dg : decode cc pc = .ok (.invokevirtual idx, 3)) (hf : la_OV l y (Cond.code y bytes maxL ret) d' f)
    (kk : ∀ L st σ, P L st σ → la_M p l e R s m args below meth c Y nL Q (pc + 3) L st σ) : ∀ L st σ, la_cV mc f P L st σ → la_M p l e R s m args below meth c Y nL Q pc L st σ := by
  intro L st X h H locs ls hR hS hL
  unfold la_cV at h
  split at h
  · next i r =>
    obtain ⟨hsh, hmc, hi, ⟨T, hW, hT⟩, hP⟩ := h
    have hw := C.2.2.2.2.2.2.2.1
    obtain ⟨σ, r1, r2⟩ := hR i hi
    have hs : sbA (Y.2 i) σ f [] (fun v σ' => v = some (.int (f (X.1 i)).2.1) ∧ RA (Y.2 i) σ' (f (X.1 i)).2.2) (fun E σ' => False) :=
      ⟨(hw.1 i hi).2.2, X.1 i, T, r2, hW, hT, fun h0 σ' g1 g2 => ⟨rfl, g1⟩, fun k E h1 h2 σ' g1 g2 => by cases h2⟩
    have hr1 := la_runV (p := p) (e := e) (below := below) (pc := pc) (nc := X.2) (r := r) (As := []) C hi hy hB hlink hinst hsel dg r1 hS hL rfl rfl hsh hmc (hf.2 (hw.1 i hi).2.1 hs)
    refine la_afterB C hi hR hr1 hS (fun v σ' hk H1 locs1 hR1 hS1 => ?_) (fun E σ' hk => hk.elim)
    obtain ⟨rfl, g1⟩ := hk
    exact kk _ _ _ hP H1 locs1 ls (hR1 (lup X.1 i (f (X.1 i)).2.2) (fun j _ hj => lup_ne hj) (by rw [lup_eq]; exact g1)) hS1 hL
  · exact h.elim
end LA3
theorem cV_firstGap {l : Launch} (hl : l.stackTraces = false) : la_OV l yX9_firstGap (Cond.code yX9_firstGap cX9_firstGap 2 (some .int)) 6 c_firstGap := ⟨fun _ => rfl, fun hI hs => cb_X9_firstGap hl hI hs⟩
set_option maxRecDepth 20000 in
set_option maxHeartbeats 4000000 in
theorem cb_X9_clearText {l : Launch} (hl : l.stackTraces = false) {w : ab_W} {σ : ab_H} {Kn : Option Value → ab_H → Prop} {Kx : String → ab_H → Prop} (hI : ab_Inj w) (h : sbA w σ c_clearText [] Kn Kx) : ab_Met l yX9_clearText (Cond.code yX9_clearText cX9_clearText 2 (some .int)) 1 1 w σ [.ref 0] Kn Kx := by
  obtain ⟨hw, A, T, hA, hW, hT, hn, hx⟩ := h
  refine vc_X9_clearText hl hI (Nat.le_of_ble_eq_true rfl) (fun M h0 => h0 [.ref 0, .null] [] σ ?_)
  have w0 := hw.1
  have w1 := hw.2.1.1
  have ht := hA.2.2.2.2.2.2
  have e1 := ht.1
  simp (disch := omega) only [bX9_clearText_0, w0, w1, e1, q_ci, q_cl, q_ild, q_lld, q_ald, q_ist, q_ast, q_lst, q_inc, q_b2, q_d2, q_u1, q_l2, q_ld2, q_lsh, q_lcmp, q_i2l, q_l2i, q_dupi, q_dupr, q_dup2, q_popi, q_popr, q_if1, q_if2, q_nn, q_sw, q_swn, q_swc, q_gf, q_gr, q_pf, q_pz, q_pc, q_ia, q_is, q_cs, q_zs, q_la, q_lw, q_aa, q_al, q_gs, q_acp, q_m2, q_m1, q_ir, q_zr, q_lr, q_ar, q_vr, q_cN0, q_cSX0, q_cV0, q_cVX0, q_cN1, q_cSX1, q_cV1, q_cVX1, q_cN2, q_cSX2, q_cV2, q_cVX2, q_cN3, q_cSX3, q_cV3, q_cVX3, q_cN4, q_cSX4, q_cV4, q_cVX4, q_cN5, q_cSX5, q_cV5, q_cVX5, q_cN6, q_cSX6, q_cV6, q_cVX6, q_th, q_sh0, q_sh1, q_sh2, q_sh3, q_sh4, q_toL0, q_toL1, q_gl0, q_gls, q_sl0, q_sls, q_k10, q_k1s, q_lgi, q_lgr, q_lgl, q_lgn, Bool.not_false, and_true, true_and, nz_2, nz_4, nz_5, nz_8, nz_10, nz_12, nz_14, nz_16, nz_40, nz_41, nz_64, nz_100, nz_1000, nz_1024, nz_4096, nz_10000, nz_100000, not_false_eq_true, bI_0, nI_add, pk_mul, nI_lt', nI_le', nI_eq', nI_z, nI_p, nI_e0, nI_l0, nI_le0, nI_clamp, up_eq, up_ne, not_true_eq_false, Classical.not_not, false_implies, true_implies, false_and, and_false, or_true, true_or, Nat.add_zero, pk_m1, m1_0, m1_n, m1_p, Nat.zero_le, forall_const]
  exact hn rfl _ (hA.txt ⟨by rw [up_eqp rfl rfl], by omega, fun j hj => absurd hj (by omega)⟩ (fun v v1 _ _ => up_ne v1)) (fun v v1 v2 => up_ne (by omega))
set_option maxRecDepth 20000 in
set_option maxHeartbeats 4000000 in
theorem cb_X9_errorPosition {l : Launch} (hl : l.stackTraces = false) {w : ab_W} {σ : ab_H} {Kn : Option Value → ab_H → Prop} {Kx : String → ab_H → Prop} (hI : ab_Inj w) (h : sbA w σ c_errorPosition [] Kn Kx) : ab_Met l yX9_errorPosition (Cond.code yX9_errorPosition cX9_errorPosition 1 (some .int)) 5 1 w σ [.ref 0] Kn Kx := by
  obtain ⟨hw, A, T, hA, hW, hT, hn, hx⟩ := h
  refine vc_X9_errorPosition hl hI (ok_X8_firstError hl) (Nat.le_of_ble_eq_true rfl) (fun M h0 => h0 [.ref 0] [] σ ?_)
  have w0 := hw.1
  have w1 := hw.2.1.1
  have ht := hA.2.2.2.2.2.2
  simp (disch := omega) only [bX9_errorPosition_0, sp_X8_firstError, w0, w1, q_ci, q_cl, q_ild, q_lld, q_ald, q_ist, q_ast, q_lst, q_inc, q_b2, q_d2, q_u1, q_l2, q_ld2, q_lsh, q_lcmp, q_i2l, q_l2i, q_dupi, q_dupr, q_dup2, q_popi, q_popr, q_if1, q_if2, q_nn, q_sw, q_swn, q_swc, q_gf, q_gr, q_pf, q_pz, q_pc, q_ia, q_is, q_cs, q_zs, q_la, q_lw, q_aa, q_al, q_gs, q_acp, q_m2, q_m1, q_ir, q_zr, q_lr, q_ar, q_vr, q_cN0, q_cSX0, q_cV0, q_cVX0, q_cN1, q_cSX1, q_cV1, q_cVX1, q_cN2, q_cSX2, q_cV2, q_cVX2, q_cN3, q_cSX3, q_cV3, q_cVX3, q_cN4, q_cSX4, q_cV4, q_cVX4, q_cN5, q_cSX5, q_cV5, q_cVX5, q_cN6, q_cSX6, q_cV6, q_cVX6, q_th, q_sh0, q_sh1, q_sh2, q_sh3, q_sh4, q_toL0, q_toL1, q_gl0, q_gls, q_sl0, q_sls, q_k10, q_k1s, q_lgi, q_lgr, q_lgl, q_lgn, Bool.not_false, and_true, true_and, nz_2, nz_4, nz_5, nz_8, nz_10, nz_12, nz_14, nz_16, nz_40, nz_41, nz_64, nz_100, nz_1000, nz_1024, nz_4096, nz_10000, nz_100000, not_false_eq_true, bI_0, nI_add, pk_mul, nI_lt', nI_le', nI_eq', nI_z, nI_p, nI_e0, nI_l0, nI_le0, nI_clamp, up_eq, up_ne, not_true_eq_false, Classical.not_not, false_implies, true_implies, false_and, and_false, or_true, true_or, Nat.add_zero, pk_m1, m1_0, m1_n, m1_p, Nat.zero_le, forall_const]
  exact ⟨hw.2.1, _, _, ht, fun σ' f => hn rfl σ' (hA.txt (f.t ht) (fun v v1 _ v3 => f.1 v v1 v3)) (fun v v1 v2 => f.1 v (by omega) (by omega))⟩
theorem cV_clearText {l : Launch} (hl : l.stackTraces = false) : la_OV l yX9_clearText (Cond.code yX9_clearText cX9_clearText 2 (some .int)) 1 c_clearText := ⟨fun _ => rfl, fun hI hs => cb_X9_clearText hl hI hs⟩
theorem cV_errorPosition {l : Launch} (hl : l.stackTraces = false) : la_OV l yX9_errorPosition (Cond.code yX9_errorPosition cX9_errorPosition 1 (some .int)) 5 c_errorPosition := ⟨fun _ => rfl, fun hI hs => cb_X9_errorPosition hl hI hs⟩
theorem ql_cN0 {P : la_P} {L st : List Value} {X : lX} {mc k : Nat} {S : la_S} : la_cN mc k 0 S P L (st) X = (ab_sh st = true ∧ X.2 + k ≤ mc ∧ S [] X.1 (fun v A2 => P L (v.toList ++ st) (A2, X.2 + k))) := rfl
theorem ql_cN1 {P : la_P} {L st : List Value} {X : lX} {mc k : Nat} {S : la_S} {v1 : Value} : la_cN mc k 1 S P L (v1 :: st) X = (ab_sh st = true ∧ X.2 + k ≤ mc ∧ S [v1] X.1 (fun v A2 => P L (v.toList ++ st) (A2, X.2 + k))) := rfl
theorem ql_cN2 {P : la_P} {L st : List Value} {X : lX} {mc k : Nat} {S : la_S} {v1 v2 : Value} : la_cN mc k 2 S P L (v2 :: v1 :: st) X = (ab_sh st = true ∧ X.2 + k ≤ mc ∧ S [v1, v2] X.1 (fun v A2 => P L (v.toList ++ st) (A2, X.2 + k))) := rfl
theorem ql_cN3 {P : la_P} {L st : List Value} {X : lX} {mc k : Nat} {S : la_S} {v1 v2 v3 : Value} : la_cN mc k 3 S P L (v3 :: v2 :: v1 :: st) X = (ab_sh st = true ∧ X.2 + k ≤ mc ∧ S [v1, v2, v3] X.1 (fun v A2 => P L (v.toList ++ st) (A2, X.2 + k))) := rfl
theorem ql_cN4 {P : la_P} {L st : List Value} {X : lX} {mc k : Nat} {S : la_S} {v1 v2 v3 v4 : Value} : la_cN mc k 4 S P L (v4 :: v3 :: v2 :: v1 :: st) X = (ab_sh st = true ∧ X.2 + k ≤ mc ∧ S [v1, v2, v3, v4] X.1 (fun v A2 => P L (v.toList ++ st) (A2, X.2 + k))) := rfl
theorem ql_cN5 {P : la_P} {L st : List Value} {X : lX} {mc k : Nat} {S : la_S} {v1 v2 v3 v4 v5 : Value} : la_cN mc k 5 S P L (v5 :: v4 :: v3 :: v2 :: v1 :: st) X = (ab_sh st = true ∧ X.2 + k ≤ mc ∧ S [v1, v2, v3, v4, v5] X.1 (fun v A2 => P L (v.toList ++ st) (A2, X.2 + k))) := rfl
theorem ql_cN6 {P : la_P} {L st : List Value} {X : lX} {mc k : Nat} {S : la_S} {v1 v2 v3 v4 v5 v6 : Value} : la_cN mc k 6 S P L (v6 :: v5 :: v4 :: v3 :: v2 :: v1 :: st) X = (ab_sh st = true ∧ X.2 + k ≤ mc ∧ S [v1, v2, v3, v4, v5, v6] X.1 (fun v A2 => P L (v.toList ++ st) (A2, X.2 + k))) := rfl
theorem ql_cV {P : la_P} {L st : List Value} {X : lX} {mc i : Nat} {f : aS → cR} : la_cV mc f P L (.ref i :: st) X = (ab_sh st = true ∧ X.2 + 1 ≤ mc ∧ i < 2 ∧ okA (X.1 i) ∧ P L (.int (f (X.1 i)).2.1 :: st) (lup X.1 i (f (X.1 i)).2.2, X.2 + 1)) := rfl
theorem ql_ir {K : Option Value → (Nat → aS) → Prop} {L : List Value} {X : lX} {v : Int32} {mc : Nat} : la_ir mc K L [.int v] X = (X.2 ≤ mc ∧ K (some (.int v)) X.1) := rfl
theorem ql_zr {K : Option Value → (Nat → aS) → Prop} {L : List Value} {X : lX} {v : Int32} {mc : Nat} : la_zr mc K L [.int v] X = (X.2 ≤ mc ∧ (v = 0 ∨ v = 1) ∧ K (some (.int v)) X.1) := rfl
theorem ql_lr {K : Option Value → (Nat → aS) → Prop} {L : List Value} {X : lX} {v : Int64} {mc : Nat} : la_lr mc K L [.long v] X = (X.2 ≤ mc ∧ K (some (.long v)) X.1) := rfl
