/-! RELEASES AND GAPS OF A WATCH, counted -/
theorem rel_4 {n : nT} {s : Nat} (hm : (n_most n.1 s).getD 0 ≤ 4) (hs : s < 5) : (n_rel n s).1 4 = n.1 4 + 1 := by
  unfold n_rel
  dsimp only
  have e : n_up1 n.1 s ((n_most n.1 s).getD 0) 4 = n.1 4 + 1 := by unfold n_up1; exact upd_eqp rfl
  generalize n_up1 n.1 s ((n_most n.1 s).getD 0) = F at *
  cases n_find F s with
  | none => dsimp only; rw [upd_nep (by omega)]; exact e
  | some k =>
    dsimp only
    split
    · dsimp only; rw [upd_nep (by omega), upd_nep (by omega)]; exact e
    · dsimp only; rw [upd_nep (by omega)]; exact e
def c1 (f : nF) : Nat → Nat
  | 0 => 0
  | k + 1 => c1 f k + (if n_deed f k = 1 then 1 else 0)
def c2 (f : nF) : Nat → Nat
  | 0 => 0
  | k + 1 => c2 f k + (if 1 < n_deed f k then 1 else 0)
theorem c12_le (f : nF) : ∀ k, c1 f k ≤ k ∧ c2 f k ≤ k
  | 0 => ⟨Nat.le_refl _, Nat.le_refl _⟩
  | k + 1 => by
    have := c12_le f k
    rw [c1, c2]
    constructor
    · split <;> omega
    · split <;> omega
theorem loop_deed {T : Nat} {m : nT} (h : WFm T 0 m) (hT : T < 100000) {k : Nat} (hk : k < cl (m.1 1)) : n_deed (n_loop k m).1 k = n_deed m.1 k := by
  have h5 : cl (m.1 1) ≤ 5 := h.1.2.2.2.1
  exact n_deed_cg (n_loop_W h hT k (by omega)).2.2 (fun c hc => n_loop_ge h hT k (by omega) k c (Nat.le_refl _) (by omega) hc)
theorem loop_cnt {T : Nat} {m : nT} (h : WFm T 0 m) (hT : T < 100000) : ∀ k, k ≤ cl (m.1 1) → (n_loop k m).1 4 = m.1 4 + nI (c1 m.1 k) ∧ (n_loop k m).1 5 = m.1 5 + nI (c2 m.1 k)
  | 0, _ => ⟨(Int32.add_zero _).symm, (Int32.add_zero _).symm⟩
  | k + 1, hk => by
    have h5 : cl (m.1 1) ≤ 5 := h.1.2.2.2.1
    obtain ⟨i4, i5⟩ := loop_cnt h hT k (by omega)
    have hd := loop_deed h hT (show k < cl (m.1 1) by omega)
    obtain ⟨w1, w2, w3⟩ := n_loop_W h hT k (by omega)
    show (n_step (n_loop k m) k).1 4 = _ ∧ (n_step (n_loop k m) k).1 5 = _
    rw [c1, c2]
    unfold n_step
    rw [hd]
    by_cases d0 : n_deed m.1 k = 0
    · rw [if_pos d0, if_neg (show ¬ n_deed m.1 k = 1 by omega), if_neg (show ¬ 1 < n_deed m.1 k by omega)]
      exact ⟨i4, i5⟩
    · rw [if_neg d0]
      by_cases d1 : n_deed m.1 k = 1
      · rw [if_pos d1, if_pos d1, if_neg (show ¬ 1 < n_deed m.1 k by omega)]
        have hm4 : (n_most (n_loop k m).1 k).getD 0 ≤ 4 := by
          cases hq : n_most (n_loop k m).1 k with
          | none => exact Nat.zero_le _
          | some q => exact n_most_lt hq
        refine ⟨?_, ?_⟩
        · rw [rel_4 hm4 (by omega), i4, ← nI_add, Int32.add_assoc]; rfl
        · rw [n_rel_i w1.1 (by omega) (by omega) (by omega) (by omega) (by omega) (by omega) (fun q hq => by omega) (fun q hq => by omega), i5]; rfl
      · rw [if_neg d1, if_neg d1, if_pos (show 1 < n_deed m.1 k by omega)]
        refine ⟨?_, ?_⟩
        · rw [n_gap_i (by omega) (by omega), i4]; rfl
        · have e : (n_gap (n_loop k m) k (n_deed m.1 k - 1)).1 5 = (n_loop k m).1 5 + 1 := by
            show upd (upd _ _ _) _ _ _ = _
            rw [upd_nep (by omega), upd_eqp rfl]
          rw [e, i5, ← nI_add, Int32.add_assoc]; rfl
theorem watch_cnt {T : Nat} {n : nT} (h : WF T n) (hT : T < 100000) : (n_watch n).1 4 = n.1 4 + nI (c1 (n_arr n).1 (cl (n.1 1))) ∧ (n_watch n).1 5 = n.1 5 + nI (c2 (n_arr n).1 (cl (n.1 1))) := by
  have hA := WF_arr h hT
  have e1 : (n_arr n).1 1 = n.1 1 := n_arr_i h (Or.inl (by omega))
  have e4 : (n_arr n).1 4 = n.1 4 := n_arr_i h (Or.inl (by omega))
  have e5 : (n_arr n).1 5 = n.1 5 := n_arr_i h (Or.inl (by omega))
  obtain ⟨i4, i5⟩ := loop_cnt hA hT _ (Nat.le_refl _)
  unfold n_watch n_tick
  dsimp only
  rw [upd_nep (by omega), upd_nep (by omega), i4, i5, e1, e4, e5]
  exact ⟨rfl, rfl⟩
theorem gaps_1 {T : Nat} {n : nT} (h : WF T n) (hT : T < 100000) : cl ((n_watch n).1 5) = cl (n.1 5) + c2 (n_arr n).1 (cl (n.1 1)) := by
  have q := h.2.2.2.2
  have h5 : cl (n.1 1) ≤ 5 := h.1.2.2.2.1
  have := (c12_le (n_arr n).1 (cl (n.1 1))).2
  have hT' := h.1.2.1
  rw [(watch_cnt h hT).2]
  exact (isN_add q.1 (by have := q.2.1; omega)).2
theorem gaps_mono {T : Nat} {n : nT} (h : WF T n) : ∀ j k, k ≤ j → T + j < 100000 → cl ((n_run k n).1 5) ≤ cl ((n_run j n).1 5)
  | 0, k, hk, _ => by rw [show k = 0 by omega]; exact Nat.le_refl _
  | j + 1, k, hk, hT => by
    by_cases q : k = j + 1
    · rw [q]; exact Nat.le_refl _
    · have := gaps_mono h j k (by omega) (by omega)
      have := gaps_1 (WF_run h j (by omega)) (by omega)
      show _ ≤ cl ((n_watch (n_run j n)).1 5)
      omega
theorem n_fg_none {n : nT} {c : Int32} : ∀ d k, n_fg n c d k = none → ∀ j, k ≤ j → j < k + d → ¬ c < (n_run (j + 1) n).1 5
  | 0, k, _, j, h1, h2 => by omega
  | d + 1, k, h, j, h1, h2 => by
    rw [n_fg] at h
    split at h
    · cases h
    · next q =>
      by_cases e : j = k
      · subst e; exact q
      · exact n_fg_none d (k + 1) h j (by omega) (by omega)
theorem n_fg_some {n : nT} {c : Int32} {m : Nat} : ∀ d k, n_fg n c d k = some m → k ≤ m ∧ m < k + d ∧ c < (n_run (m + 1) n).1 5 ∧ ∀ j, k ≤ j → j < m → ¬ c < (n_run (j + 1) n).1 5
  | 0, k, h => by cases h
  | d + 1, k, h => by
    rw [n_fg] at h
    split at h
    · next q => cases h; exact ⟨Nat.le_refl _, by omega, q, fun j h1 h2 => by omega⟩
    · next q =>
      obtain ⟨h1, h2, h3, h4⟩ := n_fg_some d (k + 1) h
      refine ⟨by omega, by omega, h3, fun j g1 g2 => ?_⟩
      by_cases e : j = k
      · subst e; exact q
      · exact h4 j (by omega) g2
/-! what is coming -/
theorem v_com {n : nT} {k j : Nat} (h1 : 1 ≤ k) (h2 : k ≤ 60) (hj : j ≤ 3) : v_coming (nI k) (nI j) n = (n_cm n j k).toInt64 := by
  unfold v_coming
  have hb : ∀ j, j < 4 → bt2 (nI 0) (nI j) (nI 3) := by decide
  have hk : bt2 (nI 1) (nI k) (nI 60) := ⟨by rw [nI_le' (by omega) (by omega)]; exact h1, by rw [nI_le' (by omega) (by omega)]; exact h2⟩
  rw [if_pos ⟨hk, hb j (by omega)⟩, cl_nI (by omega), cl_nI (by omega)]
theorem add_cm {r q : Nat} (hr : r < 2 ^ 30) (hq : q < 2 ^ 30) : lN r + (nI q - nI r).toInt64 = lN q := by
  apply Int64.toInt_inj.mp
  rw [Int64.toInt_add, Int32.toInt_toInt64, pk_lT (by omega), pk_lT (by omega), nI_subT hq hr]
  rw [Int.bmod_eq_of_le (by omega) (by omega)]
  omega
theorem cm_0 {r : Nat} (hr : r < 2 ^ 30) {x : Int32} (hx : x = nI r) : (x - nI r).toInt64 = lN 0 := by
  rw [hx, show nI r - nI r = nI 0 by rw [pk_sub (Nat.le_refl _), Nat.sub_self]]; rfl
theorem cm_n {r q : Nat} (hq : q < 2 ^ 30) (h : r ≤ q) : (nI q - nI r).toInt64 = lN (q - r) := by
  rw [pk_sub h]; exact nI_l (by omega)
