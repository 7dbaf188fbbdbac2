theorem CT.of {w : ab_W} {σ σ' : ab_H} (h : CT w σ) (e1 : σ' 16 = σ 16) (e2 : σ' 17 = σ 17) : CT w σ' := by
  obtain ⟨q1, q2, q3, q4, q5⟩ := h
  exact ⟨q1, q2, q3, q4, by rw [e1, e2]; exact q5⟩
theorem RH.of {σ σ' : ab_H} {ms : List nT} (h : RH σ ms) (e4 : σ' 4 = σ 4) (e : ∀ v, 160 ≤ v → v < 720 → σ' v = σ v) : RH σ' ms := by
  obtain ⟨f, q1, q2, q3, q4, q5⟩ := h
  refine ⟨f, q1, q2, by rw [e4]; exact q3, by rw [e4]; exact q4, fun k x q => (q5 k x q).of (fun v v1 v2 => ?_)⟩
  have := Nat.mod_lt (f + k) (show 14 > 0 by omega)
  exact e v (by omega) (by omega)
theorem rSl.of {σ σ' : ab_H} {a : Nat} {o : Option nT} (h : rSl σ a o) (e : ∀ v, a ≤ v → v < a + 30 → σ' v = σ v) : rSl σ' a o := by
  unfold rSl at h ⊢
  split
  · next => rw [e a (by omega) (by omega)]; exact h
  · next n => exact ⟨by rw [e a (by omega) (by omega)]; exact h.1, h.2.of (fun v v1 v2 => e v (by omega) (by omega))⟩
theorem RA.txt {w : ab_W} {σ σ' : ab_H} {A : aS} (h : RA w σ A) {t : Nat → Nat} {m : Nat} (ht : tR σ' t m) (e : ∀ v, v ≠ 1 → v ≠ 2 → v ≠ 3 → σ' v = σ v) : RA w σ' (A.1, A.2.1, A.2.2.1, A.2.2.2.1, t, m) := by
  obtain ⟨q1, q2, q3, q4, q5, q6, q7⟩ := h
  exact ⟨q1.of (e 16 (by omega) (by omega) (by omega)) (e 17 (by omega) (by omega) (by omega)), q2.of (fun v _ _ => e v (by omega) (by omega) (by omega)), q3.of (fun v _ _ => e v (by omega) (by omega) (by omega)), q4.of (e 4 (by omega) (by omega) (by omega)) (fun v _ _ => e v (by omega) (by omega) (by omega)), q5.of (fun v _ _ => e v (by omega) (by omega) (by omega)), q6.of (fun v _ _ => e v (by omega) (by omega) (by omega)), ht⟩
