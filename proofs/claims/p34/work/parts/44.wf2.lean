/-! the changes keep what holds -/
theorem WF.num {T : Nat} {n : nT} {f : nF} (h : WF T n) (hf : WFf T f) (e0 : f 0 = n.1 0) (e1 : f 1 = n.1 1) (e5 : f 5 = n.1 5) (eg : ∀ s, s < 5 → f (24 + 11 * s) = n.1 (24 + 11 * s)) : WF T (f, n.2) := by
  have h5 := h.1.2.2.2.1
  obtain ⟨a1, a2, a3, a4, a5⟩ := h
  refine ⟨hf, ?_, ?_, ?_, ?_⟩
  · intro s hs
    dsimp only at hs ⊢
    rw [e1] at hs
    rw [eg s (by omega)]
    exact a2 s hs
  · unfold WFo; dsimp only; rw [e0, e1]; exact a3
  · unfold WFb; dsimp only; rw [e0, e1]; exact a4
  · unfold WFn; dsimp only; rw [e0, e5]; exact a5
theorem ab_lo {x : Int32} {a b : Nat} (hb : b < 2 ^ 30) (ha : a < 2 ^ 30) (h0 : nI a ≤ x) (h1 : x ≤ nI b) : ∃ k, a ≤ k ∧ k ≤ b ∧ x = nI k := by
  have : 0 ≤ x := Int32.le_trans (by rw [← nI_0]; exact (nI_leI (by omega) (by omega)).mpr (by omega)) h0
  obtain ⟨k, hk, rfl⟩ := ab_ixle (by omega) this h1
  rw [nI_le' (by omega) (by omega)] at h0
  exact ⟨k, h0, hk, rfl⟩
theorem WF_wind {T : Nat} {n : nT} (h : WF T n) {k : Nat} (hk : k < 4) (v : Int32) : WF T (n_wind n k v) := by
  have en : ∀ i, i ≠ 17 + k → upd n.1 (17 + k) v i = n.1 i := fun i hi => upd_nep hi
  exact h.num (h.1.of (en 0 (by omega)) (en 1 (by omega)) (en 2 (by omega)) (en 12 (by omega)) (en 13 (by omega)) (fun s hs => ⟨en _ (by omega), en _ (by omega)⟩) (fun j hj => ⟨en _ (by omega), en _ (by omega), en _ (by omega)⟩)) (en 0 (by omega)) (en 1 (by omega)) (en 5 (by omega)) (fun s hs => en _ (by omega))
theorem WF_mov {T : Nat} {n : nT} (h : WF T n) {s t : Nat} (hs : s < 5) (ht : t < 5) (hm : n_most n.1 s ≠ none) : WF T (n_mov n s t) := by
  obtain ⟨m, em⟩ := Option.ne_none_iff_exists'.mp hm
  have hm4 := n_most_lt em
  have en : ∀ i, i ≠ 25 + 11 * s + m → i ≠ 25 + 11 * t + m → upd (upd n.1 (25 + 11 * s + m) (n.1 (25 + 11 * s + m) - 1)) (25 + 11 * t + m) (n.1 (25 + 11 * t + m) + 1) i = n.1 i := fun i h1 h2 => by rw [upd_nep h2, upd_nep h1]
  have e : n_mov n s t = (upd (upd n.1 (25 + 11 * s + m) (n.1 (25 + 11 * s + m) - 1)) (25 + 11 * t + m) (n.1 (25 + 11 * t + m) + 1), n.2) := by unfold n_mov; rw [em]; rfl
  rw [e]
  exact h.num (h.1.of (en 0 (by omega) (by omega)) (en 1 (by omega) (by omega)) (en 2 (by omega) (by omega)) (en 12 (by omega) (by omega)) (en 13 (by omega) (by omega)) (fun s hs => ⟨en _ (by omega) (by omega), en _ (by omega) (by omega)⟩) (fun j hj => ⟨en _ (by omega) (by omega), en _ (by omega) (by omega), en _ (by omega) (by omega)⟩)) (en 0 (by omega) (by omega)) (en 1 (by omega) (by omega)) (en 5 (by omega) (by omega)) (fun s hs => en _ (by omega) (by omega))
theorem WF_set {T : Nat} {n : nT} (h : WF T n) {i v : Int32} (hr : rT i v = 0) : WF T (n_set n (cl i) v) := by
  have hok : okT i v := by
    unfold rT at hr; split at hr
    · assumption
    · omega
  obtain ⟨hi, hv⟩ := hok
  have hi0 := hi.1; rw [nI_0] at hi0
  obtain ⟨k, hk, rfl⟩ := ab_ixle (by omega) hi0 hi.2
  have ek : cl (nI k) = k := cl_nI (by omega)
  rw [ek] at hv ⊢
  have en : ∀ j, j ≠ 12 + k → upd n.1 (12 + k) v j = n.1 j := fun j hj => upd_nep hj
  refine h.num ?_ (en 0 (by omega)) (en 1 (by omega)) (en 5 (by omega)) (fun s hs => en _ (by omega))
  have h5 := h.1.2.2.2.1
  have h6 := h.1.2.2.2.2.2.1
  obtain ⟨a1, a2, a3, a4, a5, a6, a7, a8, a9, a10⟩ := h.1
  unfold WFf
  rw [en 0 (by omega), en 1 (by omega), en 2 (by omega)]
  have hlo : s_lo k < 2 ^ 30 := by unfold s_lo; split <;> omega
  have hhi : s_hi k < 2 ^ 30 := by unfold s_hi; split; omega; split <;> omega
  obtain ⟨p, hp1, hp2, rfl⟩ := ab_lo hhi hlo hv.1 hv.2
  refine ⟨a1, a2, a3, a4, a5, a6, fun s hs => ?_, fun j hj => ?_, ?_, ?_⟩
  · rw [en _ (by omega), en _ (by omega)]; exact a7 s hs
  · rw [en _ (by omega), en _ (by omega), en _ (by omega)]; exact a8 j hj
  · by_cases h0 : k = 0
    · subst h0
      unfold s_lo at hp1; unfold s_hi at hp2
      exact ⟨p, by simpa using hp1, by simpa using hp2, upd_eqp rfl⟩
    · rw [en _ (by omega)]; exact a9
  · by_cases h0 : k = 1
    · subst h0
      unfold s_lo at hp1; unfold s_hi at hp2
      exact ⟨p, by simpa using hp1, by simpa using hp2, upd_eqp rfl⟩
    · rw [en _ (by omega)]; exact a10
theorem WF_chg {T : Nat} {n : nT} (h : WF T n) {s : Nat} (hs : s < 5) {p z : Int32} (hz : bt2 (nI 1) z (nI 5)) : WF T (n_chg n s p z) := by
  have en : ∀ j, j ≠ 22 + 11 * s → j ≠ 23 + 11 * s → upd (upd n.1 (22 + 11 * s) p) (23 + 11 * s) z j = n.1 j := fun j h1 h2 => by rw [upd_nep h2, upd_nep h1]
  refine h.num ?_ (en 0 (by omega) (by omega)) (en 1 (by omega) (by omega)) (en 5 (by omega) (by omega)) (fun t ht => en _ (by omega) (by omega))
  have h5 := h.1.2.2.2.1
  have h6 := h.1.2.2.2.2.2.1
  obtain ⟨a1, a2, a3, a4, a5, a6, a7, a8, a9, a10⟩ := h.1
  unfold WFf
  rw [en 0 (by omega) (by omega), en 1 (by omega) (by omega), en 2 (by omega) (by omega), en 12 (by omega) (by omega), en 13 (by omega) (by omega)]
  obtain ⟨q, hq1, hq2, rfl⟩ := ab_lo (by omega) (by omega) hz.1 hz.2
  refine ⟨a1, a2, a3, a4, a5, a6, fun t ht => ?_, fun j hj => ?_, a9, a10⟩
  · rw [en (21 + 11 * t) (by omega) (by omega)]
    by_cases hts : t = s
    · subst hts; exact ⟨(a7 t ht).1, q, hq1, hq2, upd_eqp rfl⟩
    · rw [en _ (by omega) (by omega)]; exact a7 t ht
  · rw [en _ (by omega) (by omega), en _ (by omega) (by omega), en _ (by omega) (by omega)]; exact a8 j hj
theorem WF_ord {T : Nat} {n : nT} (h : WF T n) {s g k : Nat} (hs : s < cl (n.1 1)) (hg : g ≤ 999) (hk : k ≤ 99) (hl : n.2.1.length < 8) : WF T (n_ord n s g k) := by
  have en : ∀ j, j ≠ 3 → upd n.1 3 (n.1 3 + n_price n.1 (nI g) (nI k)) j = n.1 j := fun j h1 => upd_nep h1
  have h1 := h.num (h.1.of (en 0 (by omega)) (en 1 (by omega)) (en 2 (by omega)) (en 12 (by omega)) (en 13 (by omega)) (fun s hs => ⟨en _ (by omega), en _ (by omega)⟩) (fun j hj => ⟨en _ (by omega), en _ (by omega), en _ (by omega)⟩)) (en 0 (by omega)) (en 1 (by omega)) (en 5 (by omega)) (fun s hs => en _ (by omega))
  obtain ⟨a1, a2, a3, a4, a5⟩ := h1
  refine ⟨a1, a2, ?_, a4, a5⟩
  obtain ⟨d, hd1, hd2, hd⟩ := h.1.2.2.2.2.2.2.2.2.1
  have ed : cl (n.1 12) = d := by rw [hd, cl_nI (by omega)]
  have ho := h.2.2.1
  unfold n_ord WFo
  dsimp only
  rw [en 0 (by omega), en 1 (by omega), List.length_append, List.length_singleton]
  refine ⟨by omega, fun o q => ?_⟩
  rcases List.mem_append.mp q with q | q
  · exact ho.2 o q
  · rw [List.mem_singleton] at q
    subst q
    exact ⟨hs, hg, hk, by dsimp only; omega⟩
theorem WF_addS {T : Nat} {n : nT} (h : WF T n) {p hh z g k : Int32} (hr : rS (cl (n.1 1)) p hh z g k = 0) : WF T (n_addS n p hh z g k) := by
  have hok : okS p hh z g k ∧ cl (n.1 1) < 5 := by
    unfold rS at hr; split at hr
    · split at hr
      · exact ⟨by assumption, by assumption⟩
      · omega
    · omega
  obtain ⟨⟨k1, k2, k3, k4, k5⟩, hc⟩ := hok
  have e1 : (n_addS n p hh z g k).1 1 = nI (cl (n.1 1) + 1) := by
    unfold n_addS; dsimp only; rw [if_pos rfl, nI_succ, ← h.1.2.2.1]
  have ec : cl ((n_addS n p hh z g k).1 1) = cl (n.1 1) + 1 := by rw [e1, cl_nI (by omega)]
  have hf : ∀ i, (n_addS n p hh z g k).1 i = if i = 1 then n.1 1 + 1 else if i = 21 + 11 * cl (n.1 1) then p else if i = 22 + 11 * cl (n.1 1) then hh else if i = 23 + 11 * cl (n.1 1) then z else if i = 24 + 11 * cl (n.1 1) then g else if i = 25 + 11 * cl (n.1 1) then k else if 26 + 11 * cl (n.1 1) ≤ i ∧ i < 32 + 11 * cl (n.1 1) then 0 else n.1 i := fun _ => rfl
  have hs2 : (n_addS n p hh z g k).2 = n.2 := rfl
  have en : ∀ i, i ≠ 1 → (i < 21 + 11 * cl (n.1 1) ∨ 32 + 11 * cl (n.1 1) ≤ i) → (n_addS n p hh z g k).1 i = n.1 i := by
    intro i h1 h2; rw [hf]; simp (disch := omega) only [if_neg]
  have en2 : n_addS n p hh z g k = ((n_addS n p hh z g k).1, n.2) := rfl
  rw [en2]
  have f21 : (n_addS n p hh z g k).1 (21 + 11 * cl (n.1 1)) = p := by rw [hf]; simp (disch := omega) only [if_true, if_neg, if_pos]
  have f23 : (n_addS n p hh z g k).1 (23 + 11 * cl (n.1 1)) = z := by rw [hf]; simp (disch := omega) only [if_true, if_neg, if_pos]
  have f24 : (n_addS n p hh z g k).1 (24 + 11 * cl (n.1 1)) = g := by rw [hf]; simp (disch := omega) only [if_true, if_neg, if_pos]
  generalize (n_addS n p hh z g k).1 = F at *
  have h6 := h.1.2.2.2.2.2.1
  obtain ⟨⟨a1, a2, a3, a4, a5, a6, a7, a8, a9, a10⟩, b2, b3, b4, b5⟩ := h
  obtain ⟨P, -, hP, rfl⟩ := ab_lo (by omega) (by omega) k1.1 k1.2
  obtain ⟨Z, hZ1, hZ2, rfl⟩ := ab_lo (by omega) (by omega) k3.1 k3.2
  obtain ⟨G, -, hG2, rfl⟩ := ab_lo (by omega) (by omega) k4.1 k4.2
  refine ⟨?_, ?_, ?_, ?_, ?_⟩
  · unfold WFf
    dsimp only
    rw [ec, e1, en 0 (by omega) (by omega), en 2 (by omega) (by omega), en 12 (by omega) (by omega), en 13 (by omega) (by omega)]
    refine ⟨a1, a2, rfl, by omega, a5, a6, fun s hs => ?_, fun j hj => ?_, a9, a10⟩
    · by_cases hsc : s = cl (n.1 1)
      · subst hsc; exact ⟨⟨P, hP, f21⟩, Z, hZ1, hZ2, f23⟩
      · rw [en _ (by omega) (by omega), en _ (by omega) (by omega)]; exact a7 s (by omega)
    · rw [en _ (by omega) (by omega), en _ (by omega) (by omega), en _ (by omega) (by omega)]; exact a8 j hj
  · intro s hs
    dsimp only at hs ⊢
    rw [ec] at hs
    by_cases hsc : s = cl (n.1 1)
    · subst hsc; exact ⟨G, by omega, f24⟩
    · rw [en _ (by omega) (by omega)]; exact b2 s (by omega)
  · unfold WFo at b3 ⊢; dsimp only; rw [en 0 (by omega) (by omega), ec]
    exact ⟨b3.1, fun o q => by have := b3.2 o q; omega⟩
  · unfold WFb at b4 ⊢; dsimp only; rw [en 0 (by omega) (by omega), ec]
    exact ⟨fun o q => by have := b4.1 o q; omega, b4.2⟩
  · unfold WFn at b5 ⊢; dsimp only; rw [en 0 (by omega) (by omega), en 5 (by omega) (by omega)]; exact b5
theorem WF_addF {T : Nat} {n : nT} (h : WF T n) {p q d : Int32} (hr : rF (cl (n.1 2)) p q d = 0) : WF T (n_addF n p q d) := by
  have hok : okF p q d ∧ cl (n.1 2) < 6 := by
    unfold rF at hr; split at hr
    · split at hr
      · exact ⟨by assumption, by assumption⟩
      · omega
    · omega
  obtain ⟨⟨k1, k2, k3⟩, hc⟩ := hok
  have h5 := h.1.2.2.2.1
  have e1 : (n_addF n p q d).1 2 = nI (cl (n.1 2) + 1) := by
    unfold n_addF; dsimp only; rw [if_pos rfl, nI_succ, ← h.1.2.2.2.2.1]
  have ec : cl ((n_addF n p q d).1 2) = cl (n.1 2) + 1 := by rw [e1, cl_nI (by omega)]
  have hf : ∀ i, (n_addF n p q d).1 i = if i = 2 then n.1 2 + 1 else if i = 76 + 4 * cl (n.1 2) then p else if i = 77 + 4 * cl (n.1 2) then q else if i = 78 + 4 * cl (n.1 2) then d else if i = 79 + 4 * cl (n.1 2) then 0 else n.1 i := fun _ => rfl
  have en : ∀ i, i ≠ 2 → (i < 76 + 4 * cl (n.1 2) ∨ 80 + 4 * cl (n.1 2) ≤ i) → (n_addF n p q d).1 i = n.1 i := by
    intro i h1 h2; rw [hf]; simp (disch := omega) only [if_neg]
  have en2 : n_addF n p q d = ((n_addF n p q d).1, n.2) := rfl
  rw [en2]
  have f76 : (n_addF n p q d).1 (76 + 4 * cl (n.1 2)) = p := by rw [hf]; simp (disch := omega) only [if_true, if_neg, if_pos]
  have f77 : (n_addF n p q d).1 (77 + 4 * cl (n.1 2)) = q := by rw [hf]; simp (disch := omega) only [if_true, if_neg, if_pos]
  have f78 : (n_addF n p q d).1 (78 + 4 * cl (n.1 2)) = d := by rw [hf]; simp (disch := omega) only [if_true, if_neg, if_pos]
  generalize (n_addF n p q d).1 = F at *
  refine h.num ?_ (en 0 (by omega) (by omega)) (en 1 (by omega) (by omega)) (en 5 (by omega) (by omega)) (fun t ht => en _ (by omega) (by omega))
  obtain ⟨⟨a1, a2, a3, a4, a5, a6, a7, a8, a9, a10⟩, b2, b3, b4, b5⟩ := h
  obtain ⟨P, -, hP, rfl⟩ := ab_lo (by omega) (by omega) k1.1 k1.2
  obtain ⟨Z, -, hZ2, rfl⟩ := ab_lo (by omega) (by omega) k2.1 k2.2
  obtain ⟨G, hG1, hG2, rfl⟩ := ab_lo (by omega) (by omega) k3.1 k3.2
  unfold WFf
  rw [ec, e1, en 0 (by omega) (by omega), en 1 (by omega) (by omega), en 12 (by omega) (by omega), en 13 (by omega) (by omega)]
  refine ⟨a1, a2, a3, a4, rfl, by omega, fun s hs => ?_, fun j hj => ?_, a9, a10⟩
  · rw [en _ (by omega) (by omega), en _ (by omega) (by omega)]; exact a7 s hs
  · by_cases hsc : j = cl (n.1 2)
    · subst hsc; exact ⟨⟨P, hP, f76⟩, ⟨Z, hZ2, f77⟩, G, hG1, hG2, f78⟩
    · rw [en _ (by omega) (by omega), en _ (by omega) (by omega), en _ (by omega) (by omega)]; exact a8 j (by omega)
theorem WF_new : WF 0 n_new := by
  have z : ∀ i, i < 12 ∨ 17 ≤ i → n_new.1 i = 0 := by
    intro i hi; unfold n_new; dsimp only; simp (disch := omega) only [if_neg]
  have c0 : cl 0 = 0 := by decide +kernel
  have e12 : n_new.1 12 = nI 4 := rfl
  have e13 : n_new.1 13 = nI 3 := rfl
  refine ⟨?_, ?_, ?_, ?_, ?_⟩
  · unfold WFf
    rw [z 0 (by omega), z 1 (by omega), z 2 (by omega), c0]
    exact ⟨nI_0.symm, by omega, nI_0.symm, by omega, nI_0.symm, by omega, fun s hs => absurd hs (by omega), fun s hs => absurd hs (by omega), ⟨4, by omega, by omega, e12⟩, ⟨3, by omega, by omega, e13⟩⟩
  · intro s hs; rw [z 1 (by omega), c0] at hs; omega
  · exact ⟨by show 0 ≤ 8; omega, fun o q => by cases q⟩
  · refine ⟨fun o q => (by cases q), List.Pairwise.nil, fun j h1 h2 => ?_⟩
    show 0 ≤ _
    omega
  · unfold WFn; rw [z 0 (by omega), z 5 (by omega), c0]
    exact ⟨nI_0.symm, by omega, rfl, fun o q => by cases q⟩
