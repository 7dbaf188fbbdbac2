theorem RA.u18 {w : ab_W} {σ : ab_H} {A : aS} {x : Int32} (h : RA w σ A) : RA w (ab_up σ 18 0 x) A := by
  have e : ∀ v, v ≠ 18 → ab_up σ 18 0 x v = σ v := fun v hv => up_ne hv
  obtain ⟨q1, q2, q3, q4, q5, q6, q7⟩ := h
  exact ⟨q1.of (e 16 (by omega)) (e 17 (by omega)), q2.of (fun v _ _ => e v (by omega)), q3.of (fun v _ _ => e v (by omega)), q4.of (e 4 (by omega)) (fun v _ _ => e v (by omega)), q5.of (fun v _ _ => e v (by omega)), q6.of (fun v _ _ => e v (by omega)), by unfold tR at q7 ⊢; rw [e 1 (by omega), e 2 (by omega)]; exact q7⟩
/-- behind a wrapper: the code is given back, the answer is laid into the row of answers -/
def lwA (w : ab_W) (σ : ab_H) (c : aS → cR) (K : Int32 → ab_H → Prop) : Prop := wA w ∧ ab_kd w 18 = 15 ∧ ab_ln w 18 = 1 ∧ ∃ A T, RA w σ A ∧ WA T A ∧ T < 60000 ∧ ∀ σ', RA w σ' (if (c A).1 = 0 then (c A).2.2 else A) → (∀ v, 8 ≤ v → v < 40 → v ≠ 18 → σ' v = σ v) → ((c A).1 = 0 → σ' 18 0 = (c A).2.1) → K (nI (c A).1) σ'
theorem lw_sb {w : ab_W} {σ : ab_H} {c : aS → cR} {K : Int32 → ab_H → Prop} (xs : List String) (h : lwA w σ c K) : ∃ (Kn : Option Value → ab_H → Prop) (Kx : String → ab_H → Prop), sbA w σ c xs Kn Kx ∧ (∀ v σ', Kn v σ' → ∃ x : Int32, v = some (.int x) ∧ K 0 (ab_up σ' 18 0 x)) ∧ ∀ E σ', Kx E σ' → ∃ e, xs[e]? = some E ∧ K (nI (e + 1)) σ' := by
  obtain ⟨hw, -, -, A, T, hA, hW, hT, hK⟩ := h
  refine ⟨fun v σ' => v = some (.int (c A).2.1) ∧ (c A).1 = 0 ∧ RA w σ' (c A).2.2 ∧ FrA σ σ', fun E σ' => ∃ e, (c A).1 = e + 1 ∧ xs[e]? = some E ∧ RA w σ' A ∧ FrA σ σ', ⟨hw, A, T, hA, hW, hT, fun h0 σ' g1 g2 => ⟨rfl, h0, g1, g2⟩, fun e E h1 h2 σ' g1 g2 => ⟨e, h1, h2, g1, g2⟩⟩, ?_, ?_⟩
  · rintro v σ' ⟨rfl, h0, g1, g2⟩
    have := hK (ab_up σ' 18 0 (c A).2.1) (by rw [if_pos h0]; exact g1.u18) (fun v h1 h2 h3 => by rw [up_ne h3]; exact g2 v h1 h2) (fun _ => up_eqp rfl rfl)
    rw [h0] at this
    exact ⟨_, rfl, this⟩
  · rintro E σ' ⟨e, h1, h2, g1, g2⟩
    have := hK σ' (by rw [if_neg (by omega)]; exact g1) (fun v a b _ => g2 v a b) (fun q => by omega)
    rw [h1] at this
    exact ⟨e, h2, this⟩
