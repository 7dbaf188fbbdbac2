theorem m_2_b {t : Nat → Nat} {m lo hi j : Nat} {p : Bool × Nat} (h : p = (false, j)) : (m_2 t m p.1 p.2 lo hi).2 = (false, j) := by subst h; exact m_2_f
theorem m_d_b {t : Nat → Nat} {m lo hi j : Nat} {p : Bool × Nat} (h : p = (false, j)) : (m_d t m p.1 p.2 lo hi).2 = (false, j) := by subst h; exact m_d_f
theorem m_2_g {t : Nat → Nat} {m lo hi j : Nat} {p : Bool × Nat} (h : p = (true, j)) : mres (p_n t m j 2 lo hi) (m_2 t m p.1 p.2 lo hi) := by subst h; exact m_2_t
theorem m_d_g {t : Nat → Nat} {m lo hi j : Nat} {p : Bool × Nat} (h : p = (true, j)) : mres (p_n t m j 1 lo hi) (m_d t m p.1 p.2 lo hi) := by subst h; exact m_d_t
def m_pm (t : Nat → Nat) (m : Nat) (g : Bool) (i : Nat) : Bool × Bool × Nat := (decide (i < m ∧ t i = 45), (g && (decide (i < m ∧ t i = 45) || decide (i < m ∧ t i = 43))), (if (g && (decide (i < m ∧ t i = 45) || decide (i < m ∧ t i = 43))) = true then i + 1 else i))
theorem m_pm_b {t : Nat → Nat} {m j : Nat} {p : Bool × Nat} (h : p = (false, j)) : (m_pm t m p.1 p.2).2 = (false, j) := by subst h; rfl
theorem m_pm_g {t : Nat → Nat} {m j : Nat} {p : Bool × Nat} (h : p = (true, j)) : (m_pm t m p.1 p.2).2 = ((p_pm t m j).2.isSome, (p_pm t m j).1) ∧ ∀ v, (p_pm t m j).2 = some v → (m_pm t m p.1 p.2).1 = v := by
  subst h
  unfold m_pm p_pm
  dsimp only
  by_cases h1 : j < m ∧ t j = 45
  · rw [if_pos h1, decide_eq_true h1]
    exact ⟨rfl, fun v q => by cases q; rfl⟩
  · rw [if_neg h1, decide_eq_false h1]
    by_cases h2 : j < m ∧ t j = 43
    · rw [if_pos h2, decide_eq_true h2]
      exact ⟨rfl, fun v q => by cases q; rfl⟩
    · rw [if_neg h2, decide_eq_false h2]
      exact ⟨rfl, fun v q => by cases q⟩
theorem m_pm_le {t : Nat → Nat} {m i : Nat} {g : Bool} (h : i ≤ m) : (m_pm t m g i).2.2 ≤ m := by
  unfold m_pm
  dsimp only
  split
  · next q =>
    have : i < m := by
      by_cases h1 : i < m
      · exact h1
      · rw [decide_eq_false (fun q => h1 q.1), decide_eq_false (fun q => h1 q.1)] at q
        cases g <;> simp at q
    omega
  · exact h

theorem m_s {t : Nat → Nat} {m i : Nat} {r1 : Nat × Bool × Nat} {r2 : Nat × Bool × Nat} {r3 : Nat × Bool × Nat} {r4 : Nat × Bool × Nat} {r5 : Nat × Bool × Nat} (e1 : r1 = m_2 t m true i 0 99) (e2 : r2 = m_2 t m r1.2.1 r1.2.2 0 15) (e3 : r3 = m_d t m r2.2.1 r2.2.2 1 5) (e4 : r4 = m_2 t m r3.2.1 r3.2.2 0 99) (e5 : r5 = m_d t m r4.2.1 r4.2.2 0 9) : r5.2 = ((p_s t m i).2.isSome, (p_s t m i).1) ∧ ∀ c, (p_s t m i).2 = some c → c = (115, r1.1, r2.1, r3.1, r4.1, r5.1) := by
  unfold p_s
  have A1 := @m_2_t t m i 0 99
  rw [← e1] at A1
  rcases hx1 : p_n t m i 2 0 99 with ⟨j1, _ | w1⟩
  · rw [hx1] at A1
    have g1 : r1.2 = (false, j1) := A1.1
    have g2 : r2.2 = (false, j1) := by rw [e2]; exact m_2_b g1
    have g3 : r3.2 = (false, j1) := by rw [e3]; exact m_d_b g2
    have g4 : r4.2 = (false, j1) := by rw [e4]; exact m_2_b g3
    have g5 : r5.2 = (false, j1) := by rw [e5]; exact m_d_b g4
    exact ⟨g5, fun c q => by cases q⟩
  rw [hx1] at A1
  have g1 : r1.2 = (true, j1) := A1.1
  have v1 : r1.1 = w1 := A1.2 w1 rfl
  rw [pb_some rfl]
  have A2 := m_2_g (t := t) (m := m) (lo := 0) (hi := 15) g1
  rw [← e2] at A2
  rcases hx2 : p_n t m j1 2 0 15 with ⟨j2, _ | w2⟩
  · rw [hx2] at A2
    have g2 : r2.2 = (false, j2) := A2.1
    have g3 : r3.2 = (false, j2) := by rw [e3]; exact m_d_b g2
    have g4 : r4.2 = (false, j2) := by rw [e4]; exact m_2_b g3
    have g5 : r5.2 = (false, j2) := by rw [e5]; exact m_d_b g4
    exact ⟨g5, fun c q => by cases q⟩
  rw [hx2] at A2
  have g2 : r2.2 = (true, j2) := A2.1
  have v2 : r2.1 = w2 := A2.2 w2 rfl
  rw [pb_some rfl]
  have A3 := m_d_g (t := t) (m := m) (lo := 1) (hi := 5) g2
  rw [← e3] at A3
  rcases hx3 : p_n t m j2 1 1 5 with ⟨j3, _ | w3⟩
  · rw [hx3] at A3
    have g3 : r3.2 = (false, j3) := A3.1
    have g4 : r4.2 = (false, j3) := by rw [e4]; exact m_2_b g3
    have g5 : r5.2 = (false, j3) := by rw [e5]; exact m_d_b g4
    exact ⟨g5, fun c q => by cases q⟩
  rw [hx3] at A3
  have g3 : r3.2 = (true, j3) := A3.1
  have v3 : r3.1 = w3 := A3.2 w3 rfl
  rw [pb_some rfl]
  have A4 := m_2_g (t := t) (m := m) (lo := 0) (hi := 99) g3
  rw [← e4] at A4
  rcases hx4 : p_n t m j3 2 0 99 with ⟨j4, _ | w4⟩
  · rw [hx4] at A4
    have g4 : r4.2 = (false, j4) := A4.1
    have g5 : r5.2 = (false, j4) := by rw [e5]; exact m_d_b g4
    exact ⟨g5, fun c q => by cases q⟩
  rw [hx4] at A4
  have g4 : r4.2 = (true, j4) := A4.1
  have v4 : r4.1 = w4 := A4.2 w4 rfl
  rw [pb_some rfl]
  have A5 := m_d_g (t := t) (m := m) (lo := 0) (hi := 9) g4
  rw [← e5] at A5
  rcases hx5 : p_n t m j4 1 0 9 with ⟨j5, _ | w5⟩
  · rw [hx5] at A5
    have g5 : r5.2 = (false, j5) := A5.1
    exact ⟨g5, fun c q => by cases q⟩
  rw [hx5] at A5
  have g5 : r5.2 = (true, j5) := A5.1
  have v5 : r5.1 = w5 := A5.2 w5 rfl
  rw [pb_some rfl]
  refine ⟨g5, fun c q => ?_⟩
  cases q
  rw [v1, v2, v3, v4, v5]

theorem m_f {t : Nat → Nat} {m i : Nat} {r1 : Nat × Bool × Nat} {r2 : Nat × Bool × Nat} {r3 : Nat × Bool × Nat} (e1 : r1 = m_2 t m true i 0 99) (e2 : r2 = m_2 t m r1.2.1 r1.2.2 0 20) (e3 : r3 = m_2 t m r2.2.1 r2.2.2 1 30) : r3.2 = ((p_f t m i).2.isSome, (p_f t m i).1) ∧ ∀ c, (p_f t m i).2 = some c → c = (102, r1.1, r2.1, r3.1, 0, 0) := by
  unfold p_f
  have A1 := @m_2_t t m i 0 99
  rw [← e1] at A1
  rcases hx1 : p_n t m i 2 0 99 with ⟨j1, _ | w1⟩
  · rw [hx1] at A1
    have g1 : r1.2 = (false, j1) := A1.1
    have g2 : r2.2 = (false, j1) := by rw [e2]; exact m_2_b g1
    have g3 : r3.2 = (false, j1) := by rw [e3]; exact m_2_b g2
    exact ⟨g3, fun c q => by cases q⟩
  rw [hx1] at A1
  have g1 : r1.2 = (true, j1) := A1.1
  have v1 : r1.1 = w1 := A1.2 w1 rfl
  rw [pb_some rfl]
  have A2 := m_2_g (t := t) (m := m) (lo := 0) (hi := 20) g1
  rw [← e2] at A2
  rcases hx2 : p_n t m j1 2 0 20 with ⟨j2, _ | w2⟩
  · rw [hx2] at A2
    have g2 : r2.2 = (false, j2) := A2.1
    have g3 : r3.2 = (false, j2) := by rw [e3]; exact m_2_b g2
    exact ⟨g3, fun c q => by cases q⟩
  rw [hx2] at A2
  have g2 : r2.2 = (true, j2) := A2.1
  have v2 : r2.1 = w2 := A2.2 w2 rfl
  rw [pb_some rfl]
  have A3 := m_2_g (t := t) (m := m) (lo := 1) (hi := 30) g2
  rw [← e3] at A3
  rcases hx3 : p_n t m j2 2 1 30 with ⟨j3, _ | w3⟩
  · rw [hx3] at A3
    have g3 : r3.2 = (false, j3) := A3.1
    exact ⟨g3, fun c q => by cases q⟩
  rw [hx3] at A3
  have g3 : r3.2 = (true, j3) := A3.1
  have v3 : r3.1 = w3 := A3.2 w3 rfl
  rw [pb_some rfl]
  refine ⟨g3, fun c q => ?_⟩
  cases q
  rw [v1, v2, v3]

theorem m_w {t : Nat → Nat} {m i : Nat} {r1 : Nat × Bool × Nat} {r2 : Bool × Bool × Nat} {r3 : Nat × Bool × Nat} (e1 : r1 = m_d t m true i 0 3) (e2 : r2 = m_pm t m r1.2.1 r1.2.2) (e3 : r3 = m_2 t m r2.2.1 r2.2.2 0 20) : r3.2 = ((p_w t m i).2.isSome, (p_w t m i).1) ∧ ∀ c, (p_w t m i).2 = some c → c = (119, r1.1, (if r2.1 = true then 1 else 0), r3.1, 0, 0) := by
  unfold p_w
  have A1 := @m_d_t t m i 0 3
  rw [← e1] at A1
  rcases hx1 : p_n t m i 1 0 3 with ⟨j1, _ | w1⟩
  · rw [hx1] at A1
    have g1 : r1.2 = (false, j1) := A1.1
    have g2 : r2.2 = (false, j1) := by rw [e2]; exact m_pm_b g1
    have g3 : r3.2 = (false, j1) := by rw [e3]; exact m_2_b g2
    exact ⟨g3, fun c q => by cases q⟩
  rw [hx1] at A1
  have g1 : r1.2 = (true, j1) := A1.1
  have v1 : r1.1 = w1 := A1.2 w1 rfl
  rw [pb_some rfl]
  have A2 := m_pm_g (t := t) (m := m) g1
  rw [← e2] at A2
  rcases hx2 : p_pm t m j1 with ⟨j2, _ | w2⟩
  · rw [hx2] at A2
    have g2 : r2.2 = (false, j2) := A2.1
    have g3 : r3.2 = (false, j2) := by rw [e3]; exact m_2_b g2
    exact ⟨g3, fun c q => by cases q⟩
  rw [hx2] at A2
  have g2 : r2.2 = (true, j2) := A2.1
  have v2 : r2.1 = w2 := A2.2 w2 rfl
  rw [pb_some rfl]
  have A3 := m_2_g (t := t) (m := m) (lo := 0) (hi := 20) g2
  rw [← e3] at A3
  rcases hx3 : p_n t m j2 2 0 20 with ⟨j3, _ | w3⟩
  · rw [hx3] at A3
    have g3 : r3.2 = (false, j3) := A3.1
    exact ⟨g3, fun c q => by cases q⟩
  rw [hx3] at A3
  have g3 : r3.2 = (true, j3) := A3.1
  have v3 : r3.1 = w3 := A3.2 w3 rfl
  rw [pb_some rfl]
  refine ⟨g3, fun c q => ?_⟩
  cases q
  rw [v1, v2, v3]

theorem m_o {t : Nat → Nat} {m i : Nat} {r1 : Nat × Bool × Nat} {r2 : Nat × Bool × Nat} {r3 : Nat × Bool × Nat} (e1 : r1 = m_d t m true i 0 4) (e2 : r2 = m_2 t m r1.2.1 r1.2.2 0 99) (e3 : r3 = m_d t m r2.2.1 r2.2.2 0 9) : r3.2 = ((p_o t m i).2.isSome, (p_o t m i).1) ∧ ∀ c, (p_o t m i).2 = some c → c = (100, r1.1, r2.1, r3.1, 0, 0) := by
  unfold p_o
  have A1 := @m_d_t t m i 0 4
  rw [← e1] at A1
  rcases hx1 : p_n t m i 1 0 4 with ⟨j1, _ | w1⟩
  · rw [hx1] at A1
    have g1 : r1.2 = (false, j1) := A1.1
    have g2 : r2.2 = (false, j1) := by rw [e2]; exact m_2_b g1
    have g3 : r3.2 = (false, j1) := by rw [e3]; exact m_d_b g2
    exact ⟨g3, fun c q => by cases q⟩
  rw [hx1] at A1
  have g1 : r1.2 = (true, j1) := A1.1
  have v1 : r1.1 = w1 := A1.2 w1 rfl
  rw [pb_some rfl]
  have A2 := m_2_g (t := t) (m := m) (lo := 0) (hi := 99) g1
  rw [← e2] at A2
  rcases hx2 : p_n t m j1 2 0 99 with ⟨j2, _ | w2⟩
  · rw [hx2] at A2
    have g2 : r2.2 = (false, j2) := A2.1
    have g3 : r3.2 = (false, j2) := by rw [e3]; exact m_d_b g2
    exact ⟨g3, fun c q => by cases q⟩
  rw [hx2] at A2
  have g2 : r2.2 = (true, j2) := A2.1
  have v2 : r2.1 = w2 := A2.2 w2 rfl
  rw [pb_some rfl]
  have A3 := m_d_g (t := t) (m := m) (lo := 0) (hi := 9) g2
  rw [← e3] at A3
  rcases hx3 : p_n t m j2 1 0 9 with ⟨j3, _ | w3⟩
  · rw [hx3] at A3
    have g3 : r3.2 = (false, j3) := A3.1
    exact ⟨g3, fun c q => by cases q⟩
  rw [hx3] at A3
  have g3 : r3.2 = (true, j3) := A3.1
  have v3 : r3.1 = w3 := A3.2 w3 rfl
  rw [pb_some rfl]
  refine ⟨g3, fun c q => ?_⟩
  cases q
  rw [v1, v2, v3]

theorem m_r {t : Nat → Nat} {m i : Nat} {r1 : Nat × Bool × Nat} (e1 : r1 = m_d t m true i 1 9) : r1.2 = ((p_r t m i).2.isSome, (p_r t m i).1) ∧ ∀ c, (p_r t m i).2 = some c → c = (114, r1.1, 0, 0, 0, 0) := by
  unfold p_r
  have A1 := @m_d_t t m i 1 9
  rw [← e1] at A1
  rcases hx1 : p_n t m i 1 1 9 with ⟨j1, _ | w1⟩
  · rw [hx1] at A1
    have g1 : r1.2 = (false, j1) := A1.1
    exact ⟨g1, fun c q => by cases q⟩
  rw [hx1] at A1
  have g1 : r1.2 = (true, j1) := A1.1
  have v1 : r1.1 = w1 := A1.2 w1 rfl
  rw [pb_some rfl]
  refine ⟨g1, fun c q => ?_⟩
  cases q
  rw [v1]
