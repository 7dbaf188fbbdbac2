/-! gaps to come -/
theorem run5 {k j : Nat} {a : aS} (h : GB k a) (hk : k < 1000) (hj : j ≤ 60) : (n_run j a.1).1 5 = nI (cl ((n_run j a.1).1 5)) ∧ cl ((n_run j a.1).1 5) < 2 ^ 30 ∧ cl (a.1.1 5) ≤ cl ((n_run j a.1).1 5) := by
  have hw := WF_run h.WF j (by omega)
  have q := hw.2.2.2.2
  have := hw.1.2.1
  exact ⟨q.1, by have := q.2.1; omega, gaps_mono h.WF j 0 (Nat.zero_le _) (by omega)⟩
theorem gap_eq {k j : Nat} {a : aS} (h : GB k a) (hk : k < 1000) (hj : j ≤ 60) (hn : ¬ a.1.1 5 < (n_run j a.1).1 5) : (n_cm a.1 1 j).toInt64 = lN 0 := by
  obtain ⟨q1, q2, q3⟩ := run5 h hk hj
  obtain ⟨p1, p2, -⟩ := h.gp hk
  have p1' : a.1.1 5 = nI (cl (a.1.1 5)) := p1
  rw [q1, p1', nI_lt' (by omega) (by omega)] at hn
  have e : cl ((n_run j a.1).1 5) = cl (a.1.1 5) := by omega
  have e9 : n_cm a.1 1 j = nI (cl (a.1.1 5)) - nI (cl (a.1.1 5)) := by
    unfold n_cm
    rw [if_neg (by omega), if_pos rfl, ← p1', q1.trans ((congrArg nI e).trans p1'.symm)]
  rw [e9]; exact cm_0 (by omega) rfl
theorem gap_gt {k j : Nat} {a : aS} (h : GB k a) (hk : k < 1000) (hj : j ≤ 60) (hn : a.1.1 5 < (n_run j a.1).1 5) : ∃ g, 0 < g ∧ g < 2 ^ 30 ∧ (n_cm a.1 1 j).toInt64 = lN g := by
  obtain ⟨q1, q2, q3⟩ := run5 h hk hj
  obtain ⟨p1, p2, -⟩ := h.gp hk
  have p1' : a.1.1 5 = nI (cl (a.1.1 5)) := p1
  have hn' := hn
  rw [q1, p1', nI_lt' (by omega) (by omega)] at hn'
  refine ⟨cl ((n_run j a.1).1 5) - cl (a.1.1 5), by omega, by omega, ?_⟩
  have e : n_cm a.1 1 j = nI (cl ((n_run j a.1).1 5)) - nI (cl (a.1.1 5)) := by
    unfold n_cm
    rw [if_neg (by omega), if_pos rfl, ← q1, ← p1']
  rw [e]
  exact cm_n (by omega) (by omega)
