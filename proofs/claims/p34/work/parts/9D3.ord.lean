/-! BEHIND A DELIVERY NO MORE IS LACKING -/
theorem watch_now {T : Nat} {n : nT} (h : WF T n) (hT : T < 100000) : (n_watch n).1 0 = nI (cl (n.1 0) + 1) := by
  have hA := WF_arr h hT
  have e0 : (n_arr n).1 0 = n.1 0 := n_arr_i h (Or.inl (by omega))
  obtain ⟨w1, w2, w3⟩ := n_loop_W hA hT _ (Nat.le_refl (cl ((n_arr n).1 1)))
  unfold n_watch n_tick
  dsimp only
  rw [upd_eqp rfl, w3, e0, ← nI_add, ← h.1.1]
  rfl
theorem run_now {T : Nat} {n : nT} (h : WF T n) : ∀ j, T + j < 100000 → (n_run j n).1 0 = nI (cl (n.1 0) + j)
  | 0, _ => h.1.1
  | j + 1, hT => by
    have hj := WF_run h j (by omega)
    have := h.1.2.1
    show (n_watch (n_run j n)).1 0 = _
    rw [watch_now hj (by omega), run_now h j (by omega), cl_nI (by omega)]
    rfl
theorem ord_more {n : nT} {s g : Nat} : n_more (n_ord n s g 0) s (nI 300) = pd (eo (n_more n s (nI 300)) (cl (n.1 0) + cl (n.1 12), s, g, 0)) (n_price n.1 (nI g) (nI 0)) := by
  show (upd (upd n.1 3 (n.1 3 + n_price n.1 (nI g) (nI 0))) (24 + 11 * s) ((upd n.1 3 (n.1 3 + n_price n.1 (nI g) (nI 0))) (24 + 11 * s) + nI 300), n.2.1 ++ [(cl (n.1 0) + cl (n.1 12), s, g, 0)], n.2.2) = (pf (upd n.1 (24 + 11 * s) (n.1 (24 + 11 * s) + nI 300)) (n_price n.1 (nI g) (nI 0)), n.2.1 ++ [(cl (n.1 0) + cl (n.1 12), s, g, 0)], n.2.2)
  generalize n_price n.1 (nI g) (nI 0) = P
  unfold pf
  rw [upd_nep (show 24 + 11 * s ≠ 3 by omega), upd_nep (show 3 ≠ 24 + 11 * s by omega), upd_comm (show 3 ≠ 24 + 11 * s by omega)]
theorem ord_run {T : Nat} {n : nT} {s g : Nat} {P : Int32} (h : WF T n) (hT : T + 60 < 100000) (hs : s < cl (n.1 1)) (hg : g ≤ 1000) {d : Nat} : ∀ j, j ≤ 60 → (j ≤ d → n_run j (pd (eo (n_more n s (nI 300)) (cl (n.1 0) + d, s, g, 0)) P) = pd (eo (n_run j (n_more n s (nI 300))) (cl (n.1 0) + d, s, g, 0)) P) ∧ (d < j → n_run j (pd (eo (n_more n s (nI 300)) (cl (n.1 0) + d, s, g, 0)) P) = pd (n_more (n_run j (n_more n s (nI 300))) s (nI g)) P) := by
  have h5 : cl (n.1 1) ≤ 5 := h.1.2.2.2.1
  have hM := WF_more h (s := s) (g := 300) (by omega) (by omega)
  have en : cl ((n_more n s (nI 300)).1 0) = cl (n.1 0) := by
    show cl (upd _ _ _ _) = _
    rw [upd_nep (by omega)]
  intro j
  induction j with
  | zero => intro _; exact ⟨fun _ => rfl, fun q => by omega⟩
  | succ j ih =>
    intro hj
    obtain ⟨i1, i2⟩ := ih (by omega)
    obtain ⟨w1, w2, g1, z, q1, q2, q3, q4, q5⟩ := gas_arr h hT hs (show j ≤ 59 by omega)
    have hnow : cl ((n_run j (n_more n s (nI 300))).1 0) = cl (n.1 0) + j := by
      have := h.1.2.1
      rw [run_now hM j (by omega), en, cl_nI (by omega)]
    have hgc : ¬ (n_arr (n_run j (n_more n s (nI 300)))).1 (24 + 11 * s) < (n_arr (n_run j (n_more n s (nI 300)))).1 (23 + 11 * s) ∧ ¬ (n_arr (n_run j (n_more n s (nI 300)))).1 (24 + 11 * s) + nI g < (n_arr (n_run j (n_more n s (nI 300)))).1 (23 + 11 * s) := by
      rw [q1, q2, nI_add, nI_lt' (by omega) (by omega), nI_lt' (by omega) (by omega)]
      exact ⟨by omega, by omega⟩
    have hbb : ∀ b ∈ (n_run j (n_more n s (nI 300))).2.2.1, b.2.2 ≤ 4 := fun b hb => by have := w1.2.2.2.1.1 b hb; omega
    refine ⟨fun hd => ?_, fun hd => ?_⟩
    · show n_watch (n_run j _) = pd (eo (n_watch (n_run j _)) _) P
      rw [i1 (by omega), watch_pf, watch_eo (by rw [hnow]; dsimp only; omega)]
    · show n_watch (n_run j _) = pd (n_more (n_watch (n_run j _)) s (nI g)) P
      by_cases hjd : j = d
      · rw [i1 (by omega), watch_pf]
        congr 1
        rw [show cl (n.1 0) + d = cl ((n_run j (n_more n s (nI 300))).1 0) by rw [hnow, hjd]]
        generalize n_run j (n_more n s (nI 300)) = m at *
        have hA := WF_arr w1 (by omega)
        have e1 := n_arr_i w1 (i := 1) (by omega)
        unfold n_watch
        rw [arr_eq hbb]
        have e2 : (n_more (n_arr m) s (nI g)).1 1 = (n_arr m).1 1 := by
          show upd _ _ _ _ = _
          rw [upd_nep (by omega)]
        rw [e2, loop_mf hA (by omega) (by rw [e1]; omega) hgc _ (Nat.le_refl _)]
        unfold n_tick n_more
        dsimp only
        rw [upd_nep (show 0 ≠ 24 + 11 * s by omega), upd_comm (show 24 + 11 * s ≠ 0 by omega), upd_nep (show 24 + 11 * s ≠ 0 by omega)]
      · rw [i2 (by omega), watch_pf, watch_mf w1 (by omega) (by rw [w2]; exact hs) hgc]
theorem lack_ord {T : Nat} {n : nT} {s g : Nat} (h : WF T n) (hT : T + 60 < 100000) (hs : s < cl (n.1 1)) (hg : g ≤ 1000) : ∀ k, k ≤ 60 → n_lack (n_ord n s g 0) s 300 k ≤ n_lack n s 300 k
  | 0, _ => Nat.le_refl _
  | k + 1, hk => by
    have h5 : cl (n.1 1) ≤ 5 := h.1.2.2.2.1
    have hM := WF_more h (s := s) (g := 300) (by omega) (by omega)
    have ih := lack_ord h hT hs hg k (by omega)
    obtain ⟨w1, w2, g1, z, q1, q2, q3, q4, q5⟩ := gas_arr h hT hs (show k ≤ 59 by omega)
    obtain ⟨r1, r2⟩ := ord_run (P := n_price n.1 (nI g) (nI 0)) (d := cl (n.1 12)) h hT hs hg k (by omega)
    have hnow : cl ((n_run k (n_more n s (nI 300))).1 0) = cl (n.1 0) + k := by
      have en : cl ((n_more n s (nI 300)).1 0) = cl (n.1 0) := by
        show cl (upd _ _ _ _) = _
        rw [upd_nep (by omega)]
      have := h.1.2.1
      rw [run_now hM k (by omega), en, cl_nI (by omega)]
    have hgc : ¬ (n_arr (n_run k (n_more n s (nI 300)))).1 (24 + 11 * s) < (n_arr (n_run k (n_more n s (nI 300)))).1 (23 + 11 * s) ∧ ¬ (n_arr (n_run k (n_more n s (nI 300)))).1 (24 + 11 * s) + nI g < (n_arr (n_run k (n_more n s (nI 300)))).1 (23 + 11 * s) := by
      rw [q1, q2, nI_add, nI_lt' (by omega) (by omega), nI_lt' (by omega) (by omega)]
      exact ⟨by omega, by omega⟩
    have hbb : ∀ b ∈ (n_run k (n_more n s (nI 300))).2.2.1, b.2.2 ≤ 4 := fun b hb => by have := w1.2.2.2.1.1 b hb; omega
    have key : n_lk (n_run k (n_more (n_ord n s g 0) s (nI 300))) s 300 ≤ n_lk (n_run k (n_more n s (nI 300))) s 300 := by
      rw [ord_more]
      generalize n_price n.1 (nI g) (nI 0) = P at *
      have same : ∀ m : nT, m = eo (n_run k (n_more n s (nI 300))) (cl (n.1 0) + cl (n.1 12), s, g, 0) → k < cl (n.1 12) → n_lk (pd m P) s 300 = n_lk (n_run k (n_more n s (nI 300))) s 300 := fun m hm hk2 => by
        unfold n_lk
        rw [arr_pf, hm, arr_eo (by rw [hnow]; dsimp only; omega)]
        have e : (pd (eo (n_arr (n_run k (n_more n s (nI 300)))) (cl (n.1 0) + cl (n.1 12), s, g, 0)) P).1 = pf (n_arr (n_run k (n_more n s (nI 300)))).1 P := rfl
        rw [e, deed_pf, pf_i (show 23 + 11 * s ≠ 3 by omega), pf_i (show 24 + 11 * s ≠ 3 by omega)]
      have less : ∀ m : nT, n_arr m = n_more (n_arr (n_run k (n_more n s (nI 300)))) s (nI g) → n_lk (pd m P) s 300 ≤ n_lk (n_run k (n_more n s (nI 300))) s 300 := fun m hm => by
        unfold n_lk
        rw [arr_pf, hm]
        have e : (pd (n_more (n_arr (n_run k (n_more n s (nI 300)))) s (nI g)) P).1 = pf (mf (n_arr (n_run k (n_more n s (nI 300)))).1 s (nI g)) P := rfl
        rw [e, deed_pf, deed_mf (fun _ => hgc), pf_i (show 23 + 11 * s ≠ 3 by omega), pf_i (show 24 + 11 * s ≠ 3 by omega), mf_s, mf_i (show 23 + 11 * s ≠ 24 + 11 * s by omega)]
        split
        · exact Nat.le_refl _
        · rw [q1, q2, nI_add, cl_nI (by omega), cl_nI (by omega), cl_nI (by omega)]; omega
      rcases Nat.lt_or_ge k (cl (n.1 12)) with hlt | hge
      · rw [r1 (by omega)]; exact Nat.le_of_eq (same _ rfl hlt)
      · rcases Nat.lt_or_eq_of_le hge with hgt | heq
        · rw [r2 hgt]
          exact less _ (arr_mf hbb)
        · rw [r1 (by omega)]
          refine less _ ?_
          rw [show cl (n.1 0) + cl (n.1 12) = cl ((n_run k (n_more n s (nI 300))).1 0) by rw [hnow, heq]]
          exact arr_eq hbb
    rw [n_lack, n_lack]
    omega
