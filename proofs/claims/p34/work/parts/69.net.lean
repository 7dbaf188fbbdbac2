/-! rows of whole that speak of the net alone -/
theorem upd_comm {f : nF} {i j : Nat} {x y : Int32} (h : i ≠ j) : upd (upd f i x) j y = upd (upd f j y) i x := by
  funext k
  by_cases h1 : k = i
  · subst h1; rw [upd_nep h, upd_eqp rfl, upd_eqp rfl]
  · by_cases h2 : k = j
    · subst h2; rw [upd_eqp rfl, upd_nep h1, upd_eqp rfl]
    · rw [upd_nep h2, upd_nep h1, upd_nep h1, upd_nep h2]
theorem upd_upd {f : nF} {k : Nat} {x y : Int32} : upd (upd f k x) k y = upd f k y := by
  funext j; unfold upd; split <;> rfl
theorem ix21_1 {k : Nat} : 21 + 11 * k + 1 = 22 + 11 * k := by omega
theorem ix21_2 {k : Nat} : 21 + 11 * k + 2 = 23 + 11 * k := by omega
theorem ix21_3 {k : Nat} : 21 + 11 * k + 3 = 24 + 11 * k := by omega
theorem ix21_4 {k : Nat} : 21 + 11 * k + 4 = 25 + 11 * k := by omega
theorem ix21_5 {k : Nat} : 21 + 11 * k + 5 = 26 + 11 * k := by omega
theorem ix21_6 {k : Nat} : 21 + 11 * k + 6 = 27 + 11 * k := by omega
theorem ix21_7 {k : Nat} : 21 + 11 * k + 7 = 28 + 11 * k := by omega
theorem ix21_8 {k : Nat} : 21 + 11 * k + 8 = 29 + 11 * k := by omega
theorem ix21_9 {k : Nat} : 21 + 11 * k + 9 = 30 + 11 * k := by omega
theorem ix21_10 {k : Nat} : 21 + 11 * k + 10 = 31 + 11 * k := by omega
theorem ix76_1 {k : Nat} : 76 + 4 * k + 1 = 77 + 4 * k := by omega
theorem ix76_2 {k : Nat} : 76 + 4 * k + 2 = 78 + 4 * k := by omega
theorem ix76_3 {k : Nat} : 76 + 4 * k + 3 = 79 + 4 * k := by omega
theorem n_loop_ge {T : Nat} {n : nT} (h : WFm T 0 n) (hT : T < 100000) : ∀ k, k ≤ cl (n.1 1) → ∀ s c, k ≤ s → s < 5 → c < 11 → (n_loop k n).1 (21 + 11 * s + c) = n.1 (21 + 11 * s + c)
  | 0, _, _, _, _, _, _ => rfl
  | k + 1, hk, s, c, hs, hs5, hc => by
    have h5 : cl (n.1 1) ≤ 5 := h.1.2.2.2.1
    obtain ⟨h1, h2, h3⟩ := n_loop_W h hT k (by omega)
    show (n_step _ _).1 _ = _
    rw [n_step_i h1.1 (by omega) (by omega) (by omega) (by omega) (by omega) (by omega) (by omega) (by omega) (fun m hm => by omega) (fun j hj => by omega)]
    exact n_loop_ge h hT k (by omega) s c (by omega) hs5 hc
theorem n_deed_cg {f g : nF} {s : Nat} (e0 : f 0 = g 0) (e : ∀ c, c < 11 → f (21 + 11 * s + c) = g (21 + 11 * s + c)) : n_deed f s = n_deed g s := by
  have x1 := e 1 (by omega); have x2 := e 2 (by omega); have x3 := e 3 (by omega); have x4 := e 4 (by omega); have x5 := e 5 (by omega); have x6 := e 6 (by omega); have x7 := e 7 (by omega); have x8 := e 8 (by omega)
  rw [ix21_1] at x1; rw [ix21_2] at x2; rw [ix21_3] at x3; rw [ix21_4] at x4; rw [ix21_5] at x5; rw [ix21_6] at x6; rw [ix21_7] at x7; rw [ix21_8] at x8
  unfold n_deed n_hb n_most
  rw [e0, x1, x2, x3, x4, x5, x6, x7, x8]
theorem WF_all {t : Nat → Nat} {m : Nat} : ∀ (k i : Nat) (n : nT) (q T : Nat), WF T n → T + 9 * k < 90000 → WF (T + 9 * k) (x_all t m k i n q).1
  | 0, _, _, _, _, h, _ => h
  | k + 1, i, n, q, T, h, hT => by
    rw [x_all]
    split
    · rcases hc : (p_cmd t m i).2 with _ | c
      · exact h.mono (by omega)
      · dsimp only
        have hok := p_cmd_ok hc
        have : WF (T + 9) ((x_cmd n c).getD n) := by
          rcases hx : x_cmd n c with _ | n'
          · exact h.mono (by omega)
          · exact WF_xcmd h hok (by omega) hx
        exact (WF_all k _ _ _ (T + 9) this (by omega)).mono (by omega)
    · exact h.mono (by omega)
