/-! one part of a net changes -/
theorem RC.N {σ : ab_H} {b : Nat} {n : nT} (h : RC σ b n) {c i : Nat} {v : Int32} (hc : (c = 7 ∧ i = 0) ∨ (c = 8 ∧ i = 3) ∨ (c = 9 ∧ i = 4) ∨ (c = 10 ∧ i = 6) ∨ (c = 11 ∧ i = 7) ∨ (c = 12 ∧ i = 8)) : RC (ab_up σ b c v) b (upd n.1 i v, n.2) := by
  have hi : i < 9 ∧ i ≠ 1 ∧ i ≠ 2 ∧ i ≠ 5 := by omega
  have en : ∀ j, j ≠ i → upd n.1 i v j = n.1 j := fun j hj => upd_nep hj
  have eo : ∀ a, a ≠ b → ab_up σ b c v a = σ a := fun a ha => up_ne ha
  obtain ⟨q1, q2, q3, q4, q5, q6, q7, q8⟩ := h
  refine ⟨?_, ?_, ?_, ?_, ?_, ?_, ?_, ?_⟩
  · unfold RN at q1 ⊢
    rcases hc with ⟨rfl, rfl⟩ | ⟨rfl, rfl⟩ | ⟨rfl, rfl⟩ | ⟨rfl, rfl⟩ | ⟨rfl, rfl⟩ | ⟨rfl, rfl⟩ <;> simp (disch := omega) only [up_eqp, up_nep, upd_eqp, upd_nep, q1, and_self]
  · exact (q2.of (fun a _ _ => eo a (by omega))).f (en 1 (by omega)) (fun j hj => en j (by omega))
  · exact q3.g (fun a _ _ => eo a (by omega)) (en 2 (by omega)) (fun j hj => en j (by omega))
  · exact q4.of (fun a _ _ => eo a (by omega))
  · exact q5.of (fun a _ _ => eo a (by omega))
  · show RG _ _ (upd n.1 i v 5) _
    rw [en 5 (by omega)]
    exact q6.of (fun a _ _ => eo a (by omega))
  · exact q7.g (eo _ (by omega)) (fun j _ _ => en j (by omega))
  · exact q8.g (eo _ (by omega)) (fun j _ _ => en j (by omega))
theorem RC.S {σ σ' : ab_H} {b : Nat} {n : nT} {f : nF} (h : RC σ b n) (hS : RS σ' (b + 1) f) (eo : ∀ a, (a < b + 1 ∨ b + 9 ≤ a) → σ' a = σ a) (en : ∀ i, (i < 21 ∨ 76 ≤ i) → f i = n.1 i) : RC σ' b (f, n.2) := by
  obtain ⟨q1, q2, q3, q4, q5, q6, q7, q8⟩ := h
  refine ⟨q1.g (eo b (by omega)) (fun i h1 h2 h3 h4 => en i (by omega)), hS, q3.g (fun a _ _ => eo a (by omega)) (en 2 (by omega)) (fun j hj => en j (by omega)), q4.of (fun a _ _ => eo a (by omega)), q5.of (fun a _ _ => eo a (by omega)), ?_, q7.g (eo _ (by omega)) (fun j _ _ => en j (by omega)), q8.g (eo _ (by omega)) (fun j _ _ => en j (by omega))⟩
  show RG _ _ (f 5) _
  rw [en 5 (by omega)]
  exact q6.of (fun a _ _ => eo a (by omega))
theorem RC.F {σ σ' : ab_H} {b : Nat} {n : nT} {f : nF} (h : RC σ b n) (h5 : cl (n.1 1) ≤ 5) (hF : RF σ' (b + 9) f) (eo : ∀ a, (a < b + 9 ∨ b + 14 ≤ a) → σ' a = σ a) (en : ∀ i, i < 76 → i ≠ 2 → f i = n.1 i) : RC σ' b (f, n.2) := by
  obtain ⟨q1, q2, q3, q4, q5, q6, q7, q8⟩ := h
  refine ⟨q1.g (eo b (by omega)) (fun i h1 h2 h3 h4 => en i (by omega) (by omega)), ?_, hF, q4.of (fun a _ _ => eo a (by omega)), q5.of (fun a _ _ => eo a (by omega)), ?_, q7.g (eo _ (by omega)) (fun j _ _ => en j (by omega) (by omega)), q8.g (eo _ (by omega)) (fun j _ _ => en j (by omega) (by omega))⟩
  · have this := q2.of (σ' := σ') (fun a _ _ => eo a (by omega))
    unfold RS at this ⊢
    dsimp only
    rw [en 1 (by omega) (by omega)]
    refine ⟨this.1, fun s hs => ?_, this.2.2⟩
    have q := this.2.1 s hs
    rw [en _ (by omega) (by omega), en _ (by omega) (by omega), en _ (by omega) (by omega), en _ (by omega) (by omega), en _ (by omega) (by omega), en _ (by omega) (by omega)]
    refine ⟨q.1, q.2.1, q.2.2.1, q.2.2.2.1, q.2.2.2.2.1, q.2.2.2.2.2.1, fun j hj => ?_⟩
    rw [en _ (by omega) (by omega)]
    exact q.2.2.2.2.2.2 j hj
  · show RG _ _ (f 5) _
    rw [en 5 (by omega) (by omega)]
    exact q6.of (fun a _ _ => eo a (by omega))
theorem RC.O {σ σ' : ab_H} {b : Nat} {n : nT} {l : List nO} (h : RC σ b n) (hO : RO σ' (b + 14) l) (eo : ∀ a, (a < b + 14 ∨ b + 19 ≤ a) → σ' a = σ a) : RC σ' b (n.1, l, n.2.2) := by
  obtain ⟨q1, q2, q3, q4, q5, q6, q7, q8⟩ := h
  exact ⟨q1.g (eo b (by omega)) (fun i h1 h2 h3 h4 => rfl), q2.of (fun a _ _ => eo a (by omega)), q3.of (fun a _ _ => eo a (by omega)), hO, q5.of (fun a _ _ => eo a (by omega)), q6.of (fun a _ _ => eo a (by omega)), q7.g (eo _ (by omega)) (fun _ _ _ => rfl), q8.g (eo _ (by omega)) (fun _ _ _ => rfl)⟩
theorem RC.B {σ σ' : ab_H} {b : Nat} {n : nT} {l : List nB} (h : RC σ b n) (hB : RB σ' (b + 19) l) (eo : ∀ a, (a < b + 19 ∨ b + 23 ≤ a) → σ' a = σ a) : RC σ' b (n.1, n.2.1, l, n.2.2.2) := by
  obtain ⟨q1, q2, q3, q4, q5, q6, q7, q8⟩ := h
  exact ⟨q1.g (eo b (by omega)) (fun i h1 h2 h3 h4 => rfl), q2.of (fun a _ _ => eo a (by omega)), q3.of (fun a _ _ => eo a (by omega)), q4.of (fun a _ _ => eo a (by omega)), hB, q6.of (fun a _ _ => eo a (by omega)), q7.g (eo _ (by omega)) (fun _ _ _ => rfl), q8.g (eo _ (by omega)) (fun _ _ _ => rfl)⟩
theorem RC.G {σ σ' : ab_H} {b : Nat} {n : nT} {c : Int32} {l : List nB} (h : RC σ b n) (hG : RG σ' (b + 23) c l) (eo : ∀ a, (a < b + 23 ∨ b + 27 ≤ a) → σ' a = σ a) : RC σ' b (upd n.1 5 c, n.2.1, n.2.2.1, l) := by
  have en : ∀ j, j ≠ 5 → upd n.1 5 c j = n.1 j := fun j hj => upd_nep hj
  obtain ⟨q1, q2, q3, q4, q5, q6, q7, q8⟩ := h
  refine ⟨q1.g (eo b (by omega)) (fun i h1 h2 h3 h4 => en i (by omega)), (q2.of (fun a _ _ => eo a (by omega))).f (en 1 (by omega)) (fun j hj => en j (by omega)), q3.g (fun a _ _ => eo a (by omega)) (en 2 (by omega)) (fun j hj => en j (by omega)), q4.of (fun a _ _ => eo a (by omega)), q5.of (fun a _ _ => eo a (by omega)), ?_, q7.g (eo _ (by omega)) (fun j _ _ => en j (by omega)), q8.g (eo _ (by omega)) (fun j _ _ => en j (by omega))⟩
  show RG _ _ (upd n.1 5 c 5) _
  rw [upd_eqp rfl]; exact hG
theorem RS.set {σ : ab_H} {a : Nat} {f : nF} (h : RS σ a f) {k c i : Nat} (hk : k < cl (f 1)) (x : Int32) (hc : (c = 4 ∧ i = 24) ∨ (c = 5 ∧ i = 30) ∨ (c = 6 ∧ i = 31)) : RS (ab_up σ (a + c) k x) a (upd f (i + 11 * k) x) := by
  have e1 : upd f (i + 11 * k) x 1 = f 1 := upd_nep (by omega)
  unfold RS
  rw [e1]
  rcases hc with ⟨rfl, rfl⟩ | ⟨rfl, rfl⟩ | ⟨rfl, rfl⟩
  all_goals
    refine ⟨by simp (disch := omega) only [up_ne]; exact h.1, fun s hs => ?_, fun s hs h5 => ?_⟩
    · obtain ⟨q1, q2, q3, q4, q5, q6, q7⟩ := h.2.1 s hs
      by_cases hsk : s = k
      · subst hsk
        refine ⟨?_, ?_, ?_, ?_, ?_, ?_, fun j hj => ?_⟩
        all_goals try simp (disch := omega) only [up_ne, up_eqp, up_nep, upd_eqp, upd_nep]
        all_goals try assumption
        exact q7 j hj
      · refine ⟨?_, ?_, ?_, ?_, ?_, ?_, fun j hj => ?_⟩
        all_goals try simp (disch := omega) only [up_ne, up_eqp, up_nep, upd_eqp, upd_nep]
        all_goals try assumption
        exact q7 j hj
    · obtain ⟨q4, q5, q6, q7⟩ := h.2.2 s hs h5
      refine ⟨?_, ?_, ?_, fun j hj => ?_⟩
      all_goals try simp (disch := omega) only [up_ne, up_eqp, up_nep]
      all_goals try assumption
      exact q7 j hj
theorem RF.fnd {σ : ab_H} {a : Nat} {f : nF} (h : RF σ a f) {k : Nat} (hk : k < cl (f 2)) (x : Int32) : RF (ab_up σ (a + 4) k x) a (upd f (79 + 4 * k) x) := by
  have e1 : upd f (79 + 4 * k) x 2 = f 2 := upd_nep (by omega)
  unfold RF
  rw [e1]
  refine ⟨by simp (disch := omega) only [up_ne]; exact h.1, fun s hs => ?_, fun s hs h5 => ?_⟩
  · obtain ⟨q1, q2, q3, q4⟩ := h.2.1 s hs
    by_cases hsk : s = k
    · subst hsk
      refine ⟨?_, ?_, ?_, ?_⟩
      all_goals try simp (disch := omega) only [up_ne, up_eqp, up_nep, upd_eqp, upd_nep]
      all_goals try assumption
    · refine ⟨?_, ?_, ?_, ?_⟩
      all_goals try simp (disch := omega) only [up_ne, up_eqp, up_nep, upd_eqp, upd_nep]
      all_goals try assumption
  · have q4 := h.2.2 s hs h5
    simp (disch := omega) only [up_ne, up_eqp, up_nep]
    exact q4
theorem n_addBs_7 : ∀ (l : List nB) (f : nF), (∀ b ∈ l, b.2.1 < 5 ∧ b.2.2 ≤ 4) → n_addBs f l 7 = f 7 + nI l.length ∧ n_addBs f l 16 = f 16 ∧ n_addBs f l 3 = f 3 + nI l.length * f 16
  | [], f, _ => by
    refine ⟨?_, rfl, ?_⟩
    · show f 7 = f 7 + nI 0
      rw [nI_0, Int32.add_zero]
    · show f 3 = f 3 + nI 0 * f 16
      rw [nI_0, Int32.zero_mul, Int32.add_zero]
  | b :: l, f, h => by
    have hb := h b (List.mem_cons_self ..)
    obtain ⟨h1, h2, h3⟩ := n_addBs_7 l (n_addB f b) (fun x hx => h x (List.mem_cons_of_mem _ hx))
    have e7 : n_addB f b 7 = f 7 + 1 := by
      unfold n_addB; simp (disch := omega) only [upd_nep, upd_eqp]
    have e16 : n_addB f b 16 = f 16 := n_addB_i hb (Or.inl ⟨by omega, by omega, by omega⟩)
    have e3 : n_addB f b 3 = f 3 + f 16 := by
      unfold n_addB; simp (disch := omega) only [upd_nep, upd_eqp]
    have el : nI (b :: l).length = nI l.length + 1 := by rw [List.length_cons, nI_succ]
    refine ⟨?_, ?_, ?_⟩
    · show n_addBs (n_addB f b) l 7 = _
      rw [h1, e7, el, Int32.add_assoc, Int32.add_comm 1]
    · show n_addBs (n_addB f b) l 16 = _
      rw [h2, e16]
    · show n_addBs (n_addB f b) l 3 = _
      rw [h3, e3, e16, el, Int32.add_mul, Int32.one_mul, Int32.add_assoc, Int32.add_comm (f 16)]
def sp_X3_takeWhatArrives : ab_S := fun w As σ K => match As with
  | [.ref b] => wN w b ∧ ∃ T n, RC σ b n ∧ WF T n ∧ T < 100000 ∧ ∀ σ', RC σ' b (n_arr n) → Frk b 29 σ σ' → K none σ'
  | _ => False
set_option maxRecDepth 20000 in
set_option maxHeartbeats 4000000 in
theorem ok_X3_takeWhatArrives {l : Launch} (hl : l.stackTraces = false) : ab_OkN l yX3_takeWhatArrives (Cond.code yX3_takeWhatArrives cX3_takeWhatArrives 2 none) 4 sp_X3_takeWhatArrives := by
  intro w σ As Kn hI h
  unfold sp_X3_takeWhatArrives at h
  split at h
  · next b =>
    obtain ⟨b, rfl⟩ : ∃ z : Nat, z = b := ⟨_, rfl⟩
    obtain ⟨hw, T, n, hR, hW, hT, ha⟩ := h
    refine vc_X3_takeWhatArrives hl hI (ok_X4_bringDue hl) (ok_X5_bringDue hl) (Nat.le_of_ble_eq_true rfl) (fun M h0 => h0 [.ref b, .null] [] σ ?_)
    have k3 := hw.1
    have k4 := hw.2.2.2.1.1
    have k5 := hw.2.2.2.2.1.1
    have k7 := hw.2.1.1
    have kT := hw.2.2.2.2.2.2.2.2.1
    have kTl := hw.2.2.2.2.2.2.2.2.2
    have hc := hW.cOK
    have h5 := hc.2
    have hT0 := hW.1.2.1
    have e7 : σ b 7 = nI (cl (n.1 0)) := hR.1.1.trans hW.1.1
    simp (disch := omega) only [bX3_takeWhatArrives_0, sp_X4_bringDue, sp_X5_bringDue, k3, k4, k5, k7, kT, kTl, q_ci, q_cl, q_ild, q_lld, q_ald, q_ist, q_ast, q_lst, q_inc, q_b2, q_d2, q_u1, q_l2, q_ld2, q_lsh, q_lcmp, q_i2l, q_l2i, q_dupi, q_dupr, q_dup2, q_popi, q_popr, q_if1, q_if2, q_nn, q_sw, q_swn, q_swc, q_gf, q_gr, q_pf, q_pz, q_pc, q_ia, q_is, q_cs, q_zs, q_la, q_lw, q_aa, q_al, q_gs, q_acp, q_m2, q_m1, q_ir, q_zr, q_lr, q_ar, q_vr, q_cN0, q_cSX0, q_cV0, q_cVX0, q_cN1, q_cSX1, q_cV1, q_cVX1, q_cN2, q_cSX2, q_cV2, q_cVX2, q_cN3, q_cSX3, q_cV3, q_cVX3, q_cN4, q_cSX4, q_cV4, q_cVX4, q_cN5, q_cSX5, q_cV5, q_cVX5, q_cN6, q_cSX6, q_cV6, q_cVX6, q_th, q_sh0, q_sh1, q_sh2, q_sh3, q_sh4, q_toL0, q_toL1, q_gl0, q_gls, q_sl0, q_sls, q_k10, q_k1s, q_lgi, q_lgr, q_lgl, q_lgn, Bool.not_false, and_true, true_and, nz_2, nz_4, nz_5, nz_8, nz_10, nz_12, nz_14, nz_16, nz_40, nz_41, nz_64, nz_100, nz_1000, nz_1024, nz_4096, nz_10000, nz_100000, not_false_eq_true, bI_0, nI_add, pk_mul, nI_lt', nI_le', nI_eq', nI_z, nI_p, nI_e0, nI_l0, nI_le0, nI_clamp, up_eq, up_ne, not_true_eq_false, Classical.not_not, false_implies, true_implies, false_and, and_false, or_true, true_or, Nat.add_zero, pk_m1, m1_0, m1_n, m1_p, Nat.zero_le, forall_const]
    have hO5 : ∀ o ∈ n.2.1, o.2.1 < 5 := fun o ho => by have := hW.2.2.1.2 o ho; omega
    have f1 : n.2.1.foldl (n_come (cl (n.1 0))) n.1 1 = n.1 1 := n_fold_i (Or.inl (by omega)) _ _ hO5
    have f7 : n.2.1.foldl (n_come (cl (n.1 0))) n.1 7 = n.1 7 := n_fold_i (Or.inl (by omega)) _ _ hO5
    have f3 : n.2.1.foldl (n_come (cl (n.1 0))) n.1 3 = n.1 3 := n_fold_i (Or.inl (by omega)) _ _ hO5
    have f16 : n.2.1.foldl (n_come (cl (n.1 0))) n.1 16 = n.1 16 := n_fold_i (Or.inl (by omega)) _ _ hO5
    have hB5 : ∀ x ∈ n.2.2.1, x.2.1 < 5 ∧ x.2.2 ≤ 4 := fun x hx => by have := hW.2.2.2.1.1 x hx; omega
    have hB6 : ∀ x ∈ n.2.2.1.take (n_due (cl (n.1 0)) n.2.2.1), x.2.1 < 5 ∧ x.2.2 ≤ 4 := fun x hx => hB5 x (List.mem_of_mem_take hx)
    obtain ⟨g7, g16, g3⟩ := n_addBs_7 _ (n.2.1.foldl (n_come (cl (n.1 0))) n.1) hB6
    have ed : (n.2.2.1.take (n_due (cl (n.1 0)) n.2.2.1)).length = n_due (cl (n.1 0)) n.2.2.1 := by
      rw [List.length_take]; exact Nat.min_eq_left (n_due_le _ _)
    rw [ed, f7] at g7
    rw [ed, f3, f16] at g3
    have hAr := fun i => @n_arr_i T n hW i
    have hae := n_arr_eq n
    refine ⟨hw.2.2.2.1, hw.2.1, by unfold ap8; omega, n.2.1, n.1, cl (n.1 0), hR.2.2.2.1, hR.2.1, hc, e7, by omega, hW.2.2.1.1, fun o ho => by have := hW.2.2.1.2 o ho; omega, fun σ1 a1 a2 a3 => ⟨hw.2.2.2.2.1, hw.2.1, by unfold ap8; omega, n.2.2.1, n.2.1.foldl (n_come (cl (n.1 0))) n.1, cl (n.1 0), ?_, a2, ⟨by rw [f1]; exact hc.1, by rw [f1]; exact h5⟩, ?_, by omega, ?_, ?_, fun σ2 b1 b2 b3 => ?_⟩⟩
    · exact hR.2.2.2.2.1.of (fun v h1 h2 => a3 v (by omega) (by omega))
    · rw [a3 b (by omega) (by omega)]; exact e7
    · exact hW.2.2.2.1.len
    · intro x hx; rw [f1]; have := hW.2.2.2.1.1 x hx; omega
    · have v4 : vp_in (nI 4) 5 := vp_in_nI (by omega) (by omega)
      refine ⟨v4, ?_⟩
      have eb : σ2 b = σ b := by rw [b3 b (by omega) (by omega), a3 b (by omega) (by omega)]
      have eo : ∀ v, (v < b + 1 ∨ b + 9 ≤ v) → (v < b + 14 ∨ b + 23 ≤ v) → σ2 v = σ v := fun v h1 h2 => by rw [b3 v (by omega) (by omega), a3 v (by omega) (by omega)]
      have e28 := hR.2.2.2.2.2.2.2 4 (by omega)
      obtain ⟨q1, q2, q3, q4, q5, q6, q7, q8⟩ := hR
      refine ha _ ⟨?_, ?_, ?_, ?_, ?_, ?_, ?_, ?_⟩ (fun v hv => ?_)
      · unfold RN at q1 ⊢
        rw [hAr 0 (by omega), hAr 4 (by omega), hAr 6 (by omega), hAr 8 (by omega), hae]
        simp (disch := omega) only [up_eqp, up_nep, eb]
        refine ⟨q1.1, ?_, q1.2.2.1, q1.2.2.2.1, ?_, q1.2.2.2.2.2⟩
        · rw [if_neg (by decide), g3, q1.2.1, eo (b + 28) (by omega) (by omega), e28]
        · rw [g7, q1.2.2.2.2.1]
      · rw [hae]
        exact b2.of (fun v h1 h2 => by simp (disch := omega) only [up_ne])
      · exact q3.g (fun v h1 h2 => by simp (disch := omega) only [up_ne]; exact eo v (by omega) (by omega)) (hAr 2 (by omega)) (fun i hi => hAr i (by omega))
      · rw [hae]
        exact a1.of (fun v h1 h2 => by simp (disch := omega) only [up_ne]; exact b3 v (by omega) (by omega))
      · rw [hae]
        exact b1.of (fun v h1 h2 => by simp (disch := omega) only [up_ne])
      · rw [hAr 5 (by omega), show (n_arr n).2.2.2 = n.2.2.2 from by rw [hae]]
        exact q6.of (fun v h1 h2 => by simp (disch := omega) only [up_ne]; exact eo v (by omega) (by omega))
      · exact q7.g (by simp (disch := omega) only [up_ne]; exact eo _ (by omega) (by omega)) (fun i h1 h2 => hAr i (by omega))
      · exact q8.g (by simp (disch := omega) only [up_ne]; exact eo _ (by omega) (by omega)) (fun i h1 h2 => hAr i (by omega))
      · simp (disch := omega) only [up_ne]; exact eo v (by omega) (by omega)
  · exact h.elim
