/-! reading stays within the text -/
theorem p_d_lt {t : Nat → Nat} {m i lo hi a : Nat} (h : p_d t m i lo hi = some a) : i < m := by
  unfold p_d at h; split at h
  · next q => exact q.1
  · cases h
theorem p_n1_le {t : Nat → Nat} {m i lo hi : Nat} (h : i ≤ m) : (p_n1 t m i lo hi).1 ≤ m := by
  unfold p_n1; split
  · exact h
  · next q => have := p_d_lt q; dsimp only; omega
theorem p_n2_le {t : Nat → Nat} {m i lo hi : Nat} (h : i ≤ m) : (p_n2 t m i lo hi).1 ≤ m := by
  unfold p_n2; split
  · exact h
  · next q =>
    have := p_d_lt q
    split
    · dsimp only; omega
    · next q2 => have := p_d_lt q2; dsimp only; omega
theorem p_n_le {t : Nat → Nat} {m i d lo hi : Nat} (h : i ≤ m) : (p_n t m i d lo hi).1 ≤ m := by
  unfold p_n; split
  · exact p_n1_le h
  · exact p_n2_le h
theorem p_pm_le {t : Nat → Nat} {m i : Nat} (h : i ≤ m) : (p_pm t m i).1 ≤ m := by
  unfold p_pm; split
  · dsimp only; omega
  · split
    · dsimp only; omega
    · exact h
theorem pb_le {α β : Type} {x : tP α} {f : α → Nat → tP β} {m : Nat} (h : x.1 ≤ m) (g : ∀ a i, i ≤ m → (f a i).1 ≤ m) : (pb x f).1 ≤ m := by
  unfold pb; split
  · exact h
  · exact g _ _ h
theorem p_cmd_le {t : Nat → Nat} {m i : Nat} (h : i < m) : (p_cmd t m i).1 ≤ m := by
  unfold p_cmd
  split
  · exact pb_le (p_n_le (by omega)) fun _ _ q => pb_le (p_n_le q) fun _ _ q => pb_le (p_n_le q) fun _ _ q => pb_le (p_n_le q) fun _ _ q => pb_le (p_n_le q) fun _ _ q => q
  · split
    · exact pb_le (p_n_le (by omega)) fun _ _ q => pb_le (p_n_le q) fun _ _ q => pb_le (p_n_le q) fun _ _ q => q
    · split
      · exact pb_le (p_n_le (by omega)) fun _ _ q => pb_le (p_pm_le q) fun _ _ q => pb_le (p_n_le q) fun _ _ q => q
      · split
        · exact pb_le (p_n_le (by omega)) fun _ _ q => pb_le (p_n_le q) fun _ _ q => pb_le (p_n_le q) fun _ _ q => q
        · split
          · exact pb_le (p_n_le (by omega)) fun _ _ q => q
          · dsimp only; omega
theorem p_err_le {t : Nat → Nat} {m : Nat} : ∀ (k i j : Nat), i ≤ m → p_err t m k i = some j → j ≤ m
  | 0, _, _, _, h => by cases h
  | k + 1, i, j, hi, h => by
    unfold p_err at h
    split at h
    · next q =>
      have := p_cmd_le (t := t) q
      split at h
      · cases h; exact this
      · exact p_err_le k _ j this h
    · cases h
theorem p_text_le {t : Nat → Nat} {m j : Nat} (h : p_text t m = some j) : j ≤ m := by
  unfold p_text at h; split at h
  · next q => exact p_err_le 120 1 j (by omega) h
  · cases h; omega
/-! what a command is -/
theorem pb_inv {α β : Type} {x : tP α} {f : α → Nat → tP β} {c : β} (h : (pb x f).2 = some c) : ∃ a, x.2 = some a ∧ (f a x.1).2 = some c := by
  unfold pb at h; split at h
  · cases h
  · next a q => exact ⟨a, q, h⟩
theorem p_d_in {t : Nat → Nat} {m i lo hi a : Nat} (h : p_d t m i lo hi = some a) : lo ≤ a ∧ a ≤ hi := by
  unfold p_d at h; split at h
  · next q => cases h; exact ⟨q.2.2.2.1, q.2.2.2.2⟩
  · cases h
theorem p_n1_in {t : Nat → Nat} {m i lo hi a : Nat} (h : (p_n t m i 1 lo hi).2 = some a) : lo ≤ a ∧ a ≤ hi := by
  unfold p_n at h; rw [if_pos rfl] at h
  unfold p_n1 at h; split at h
  · cases h
  · next q => cases h; exact p_d_in q
theorem p_n2_in {t : Nat → Nat} {m i lo hi a : Nat} (h : (p_n t m i 2 lo hi).2 = some a) : lo ≤ a ∧ a ≤ hi := by
  unfold p_n at h; rw [if_neg (by omega)] at h
  unfold p_n2 at h; split at h
  · cases h
  · next u q =>
    split at h
    · cases h
    · next v q2 =>
      cases h
      have h1 := p_d_in q
      have h2 := p_d_in q2
      split at h2 <;> split at h2 <;> omega
/-- the numbers of a command are in their ranges -/
def tOK2 (c : tC) : Prop := (c.1 = 115 ∧ c.2.1 ≤ 99 ∧ c.2.2.1 ≤ 15 ∧ 1 ≤ c.2.2.2.1 ∧ c.2.2.2.1 ≤ 5 ∧ c.2.2.2.2.1 ≤ 99 ∧ c.2.2.2.2.2 ≤ 9) ∨ (c.1 = 102 ∧ c.2.1 ≤ 99 ∧ c.2.2.1 ≤ 20 ∧ 1 ≤ c.2.2.2.1 ∧ c.2.2.2.1 ≤ 30) ∨ (c.1 = 119 ∧ c.2.1 ≤ 3 ∧ c.2.2.1 ≤ 1 ∧ c.2.2.2.1 ≤ 20) ∨ (c.1 = 100 ∧ c.2.1 ≤ 4 ∧ c.2.2.1 ≤ 99 ∧ c.2.2.2.1 ≤ 9) ∨ (c.1 = 114 ∧ 1 ≤ c.2.1 ∧ c.2.1 ≤ 9)
theorem p_cmd_ok {t : Nat → Nat} {m i : Nat} {c : tC} (h : (p_cmd t m i).2 = some c) : tOK2 c := by
  unfold p_cmd at h
  split at h
  · obtain ⟨p, hp, h⟩ := pb_inv h
    obtain ⟨q, hq, h⟩ := pb_inv h
    obtain ⟨r, hr, h⟩ := pb_inv h
    obtain ⟨u, hu, h⟩ := pb_inv h
    obtain ⟨v, hv, h⟩ := pb_inv h
    cases h
    have := p_n2_in hp; have := p_n2_in hq; have := p_n1_in hr; have := p_n2_in hu; have := p_n1_in hv
    refine Or.inl ⟨rfl, ?_, ?_, ?_, ?_, ?_, ?_⟩ <;> dsimp only <;> omega
  · split at h
    · obtain ⟨p, hp, h⟩ := pb_inv h
      obtain ⟨q, hq, h⟩ := pb_inv h
      obtain ⟨r, hr, h⟩ := pb_inv h
      cases h
      have := p_n2_in hp; have := p_n2_in hq; have := p_n2_in hr
      refine Or.inr (Or.inl ⟨rfl, ?_, ?_, ?_, ?_⟩) <;> dsimp only <;> omega
    · split at h
      · obtain ⟨p, hp, h⟩ := pb_inv h
        obtain ⟨q, hq, h⟩ := pb_inv h
        obtain ⟨r, hr, h⟩ := pb_inv h
        cases h
        have := p_n1_in hp; have := p_n2_in hr
        refine Or.inr (Or.inr (Or.inl ⟨rfl, ?_, ?_, ?_⟩)) <;> dsimp only
        · omega
        · split <;> omega
        · omega
      · split at h
        · obtain ⟨p, hp, h⟩ := pb_inv h
          obtain ⟨q, hq, h⟩ := pb_inv h
          obtain ⟨r, hr, h⟩ := pb_inv h
          cases h
          have := p_n1_in hp; have := p_n2_in hq; have := p_n1_in hr
          refine Or.inr (Or.inr (Or.inr (Or.inl ⟨rfl, ?_, ?_, ?_⟩))) <;> dsimp only <;> omega
        · split at h
          · obtain ⟨p, hp, h⟩ := pb_inv h
            cases h
            have := p_n1_in hp
            refine Or.inr (Or.inr (Or.inr (Or.inr ⟨rfl, ?_, ?_⟩))) <;> dsimp only <;> omega
          · cases h
theorem tOK2.ok {c : tC} (h : tOK2 c) : tOK c := by
  unfold tOK2 at h; unfold tOK
  refine ⟨by omega, fun q => by omega⟩
theorem rO_0 {f : nF} {n : Nat} {s g k : Int32} (hc : cOK f) (h : rO f n s g k = 0) : vS f s ∧ okL g k ∧ n < 8 := by
  unfold rO at h
  split at h
  · next q1 =>
    split at h
    · next q2 =>
      split at h
      · omega
      · next q3 => exact ⟨q1, q2, by omega⟩
    · omega
  · omega
theorem WF_ordI {T : Nat} {n : nT} (h : WF T n) {s g k : Int32} (hr : rO n.1 n.2.1.length s g k = 0) : WF T (n_ord n (cl s) (cl g) (cl k)) := by
  obtain ⟨q1, q2, q3⟩ := rO_0 h.cOK hr
  obtain ⟨a, -, ha, rfl⟩ := ab_lo (by omega) (by omega) q2.1.1 q2.1.2
  obtain ⟨b, -, hb, rfl⟩ := ab_lo (by omega) (by omega) q2.2.1 q2.2.2
  exact WF_ord h (ab_ixs h.cOK q1).2 (by rw [cl_nI (by omega)]; exact ha) (by rw [cl_nI (by omega)]; exact hb) q3
theorem WF_xcmd {T : Nat} {n n' : nT} {c : tC} (h : WF T n) (hc : tOK2 c) (hT : T + 9 < 100000) (hx : x_cmd n c = some n') : WF (T + 9) n' := by
  unfold x_cmd at hx
  split at hx
  · split at hx
    · next q => cases hx; exact (WF_addS h q).mono (by omega)
    · cases hx
  · split at hx
    · split at hx
      · next q => cases hx; exact (WF_addF h q).mono (by omega)
      · cases hx
    · split at hx
      · next q119 =>
        generalize (if c.2.2.1 = 1 then (-1 : Int32) else 1) * nI c.2.2.2.1 = v at hx
        split at hx
        · cases hx
          unfold tOK2 at hc
          have : c.2.1 ≤ 3 := by omega
          exact (WF_wind h (k := cl (nI c.2.1)) (by rw [cl_nI (by omega)]; omega) _).mono (by omega)
        · cases hx
      · split at hx
        · split at hx
          · next q => cases hx; exact (WF_ordI h q).mono (by omega)
          · cases hx
        · cases hx
          unfold tOK2 at hc
          have h9 : c.2.1 ≤ 9 ∧ 1 ≤ c.2.1 := by omega
          rw [cl_nI (by omega)]
          exact (WF_run h c.2.1 (by omega)).mono (by omega)
