/-! THE STATE AT THE START -/
def lw_A0 : aS := (n_new, [], none, none, fun _ => 0, 0)
theorem lw_WA : WA 0 lw_A0 := ⟨WF_new, fun _ q => absurd q List.not_mem_nil, fun _ q => (by cases q), fun _ q => (by cases q)⟩
theorem lw_RC {b : Nat} (hb : b = 40 ∨ b = 80 ∨ b = 120 ∨ b = 720 ∨ b = 760 ∨ ∃ j, j < 14 ∧ b = 160 + 40 * j) : RC lw_s b n_new := by
  have h40 : 40 ≤ b := by rcases hb with rfl | rfl | rfl | rfl | rfl | ⟨j, hj, rfl⟩ <;> omega
  have S : ∀ v i, b ≤ v → v < b + 28 → lw_s v i = 0 := fun v i h1 h2 => lw_s_0 (by omega) (by omega) (by omega) (by rw [lw_n_b (k := v - b) hb (by omega) (by omega)]; omega)
  have S28 : ∀ i, lw_s (b + 28) i = n_new.1 (12 + i) := fun i => by unfold lw_s; rw [if_neg (by omega), if_neg (by omega), if_neg (by omega), if_pos (lw_n_b hb (by omega) rfl)]
  have z : ∀ i, i < 12 ∨ 17 ≤ i → n_new.1 i = 0 := by
    intro i hi; unfold n_new; dsimp only; simp (disch := omega) only [if_neg]
  have c1 : cl (n_new.1 1) = 0 := by rw [z 1 (by omega)]; decide +kernel
  have c2 : cl (n_new.1 2) = 0 := by rw [z 2 (by omega)]; decide +kernel
  refine ⟨?_, ⟨?_, fun s hs => by rw [c1] at hs; omega, fun s _ _ => ⟨S _ _ (by omega) (by omega), S _ _ (by omega) (by omega), S _ _ (by omega) (by omega), fun k _ => S _ _ (by omega) (by omega)⟩⟩, ⟨?_, fun s hs => by rw [c2] at hs; omega, fun s _ _ => S _ _ (by omega) (by omega)⟩, ⟨?_, fun k x q => (by cases q)⟩, ⟨?_, fun k x q => (by cases q)⟩, ⟨?_, fun k x q => (by cases q), ?_⟩, fun h hh => ?_, fun h hh => S28 h⟩
  · exact ⟨(S _ _ (by omega) (by omega)).trans (z 0 (by omega)).symm, (S _ _ (by omega) (by omega)).trans (z 3 (by omega)).symm, (S _ _ (by omega) (by omega)).trans (z 4 (by omega)).symm, (S _ _ (by omega) (by omega)).trans (z 6 (by omega)).symm, (S _ _ (by omega) (by omega)).trans (z 7 (by omega)).symm, (S _ _ (by omega) (by omega)).trans (z 8 (by omega)).symm⟩
  · exact (S _ _ (by omega) (by omega)).trans (z 1 (by omega)).symm
  · exact (S _ _ (by omega) (by omega)).trans (z 2 (by omega)).symm
  · exact S _ _ (by omega) (by omega)
  · exact S _ _ (by omega) (by omega)
  · exact (S _ _ (by omega) (by omega)).trans (z 5 (by omega)).symm
  · exact (S _ _ (by omega) (by omega)).trans (by rw [z 5 (by omega)]; decide +kernel)
  · exact (S _ _ (by omega) (by omega)).trans (z (17 + h) (by omega)).symm
theorem lw_RA {z s0 s1 s2 : Nat} {w : bW} : RA (lw_w z s0 s1 s2 w) lw_s lw_A0 := by
  have o : ∀ v i, v ≠ 16 → v ≠ 17 → v ≠ 11 → lw_n v ≠ 28 → lw_s v i = 0 := fun v i h1 h2 h3 h4 => lw_s_0 h1 h2 h3 h4
  refine ⟨⟨rfl, rfl, rfl, rfl, fun i _ => ⟨rfl, rfl⟩⟩, lw_RC (by omega), lw_RC (by omega), ⟨0, by omega, by show 0 ≤ 14; omega, o 4 0 (by omega) (by omega) (by omega) (by decide), o 4 1 (by omega) (by omega) (by omega) (by decide), fun k x q => (by cases q)⟩, o 719 1 (by omega) (by omega) (by omega) (by decide), o 759 1 (by omega) (by omega) (by omega) (by decide), o 1 1 (by omega) (by omega) (by omega) (by decide), Nat.zero_le _, fun j hj => absurd hj (Nat.not_lt_zero _)⟩
theorem lw_RD : RD lw_s lw_A0 := by
  have o : ∀ v i, v ≠ 16 → v ≠ 17 → v ≠ 11 → lw_n v ≠ 28 → lw_s v i = 0 := fun v i h1 h2 h3 h4 => lw_s_0 h1 h2 h3 h4
  have z : ∀ i, i < 12 → n_new.1 i = 0 := by
    intro i hi; unfold n_new; dsimp only; simp (disch := omega) only [if_neg]
  refine ⟨⟨fun i _ _ _ _ => rfl, z 10 (by omega), z 9 (by omega), z 11 (by omega), fun k x q => (by cases q), fun k x q => (by cases q), fun k x q => (by cases q)⟩, ⟨by show 0 ≤ 14; omega, o 8 10 (by omega) (by omega) (by omega) (by decide), fun k x q => (by cases q)⟩, o 15 0 (by omega) (by omega) (by omega) (by decide), o 15 1 (by omega) (by omega) (by omega) (by decide), ⟨Nat.zero_le _, fun j hj => absurd hj (Nat.not_lt_zero _)⟩, o 8 2 (by omega) (by omega) (by omega) (by decide)⟩
