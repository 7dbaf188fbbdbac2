/-! THE WORLD THAT THE LAW MAKES: the class's objects from z on, the reference's behind them, the row of answers -/
def nkd (k : Nat) : Nat := if k = 0 then 3 else if k = 1 then 7 else if k = 9 then 0 else if k = 14 then 4 else if k = 19 then 5 else if k = 23 then 1 else 11
def nln (k : Nat) : Nat := if k ≤ 7 then 5 else if k = 8 then 25 else if k ≤ 13 then 6 else if k ≤ 18 then 8 else if k ≤ 22 then 150 else if k ≤ 26 then 12 else if k = 27 then 4 else 5
/-- the place of a cell in its net, if it lies in one -/
def lw_n (v : Nat) : Nat := if 40 ≤ v ∧ v < 69 then v - 40 else if 80 ≤ v ∧ v < 109 then v - 80 else if 120 ≤ v ∧ v < 149 then v - 120 else if 160 ≤ v ∧ v < 719 then (v - 160) % 40 else if 720 ≤ v ∧ v < 749 then v - 720 else if 760 ≤ v ∧ v < 789 then v - 760 else 40
def lw_ad (z s0 s1 s2 : Nat) (v : Nat) : Nat := if v ≤ 3 then z + v else if v ≤ 5 then z + 87 + v else if v ≤ 15 then z + 551 + v else if v = 16 then s0 else if v = 17 then s1 else if v = 18 then z + 567 else if v = 19 then s2 else if v < 80 then z + v - 36 else if v < 120 then z + v - 47 else if v < 160 then z + v - 58 else if v < 719 then z + 93 + 29 * ((v - 160) / 40) + (v - 160) % 40 else if v < 759 then z + v - 220 else z + v - 230
def lw_kd (v : Nat) : Nat := if v = 0 then 9 else if v = 1 then 8 else if v = 2 then 12 else if v = 3 then 11 else if v = 4 then 2 else if v = 5 then 14 else if v = 8 then 10 else if 9 ≤ v ∧ v ≤ 14 then 11 else if v = 15 then 13 else if v = 16 ∨ v = 17 then 20 else if v = 18 then 15 else if v = 719 ∨ v = 759 then 6 else if lw_n v < 29 then nkd (lw_n v) else 22
def lw_ln (v : Nat) : Nat := if v = 2 then 120 else if v = 3 then 5 else if v = 5 then 14 else if v = 9 then 120 else if v = 10 ∨ v = 11 ∨ v = 12 then 304 else if v = 13 then 4256 else if v = 14 then 608 else if v = 15 then 2 else if v = 16 ∨ v = 17 then 5 else if v = 18 then 1 else nln (lw_n v)
def lw_w (z s0 s1 s2 : Nat) (w : bW) : ab_W := (lw_ad z s0 s1 s2, lw_kd, lw_ln, w.1, w.2)
def lw_s : ab_H := fun v j => if v = 16 then nI (s_lo j) else if v = 17 then nI (s_hi j) else if v = 11 then n_new.1 j else if lw_n v = 28 then n_new.1 (12 + j) else 0
def lw_is (v : Nat) : Prop := v ≤ 5 ∨ (8 ≤ v ∧ v ≤ 18) ∨ (40 ≤ v ∧ v < 69) ∨ (80 ≤ v ∧ v < 109) ∨ (120 ≤ v ∧ v < 149) ∨ (160 ≤ v ∧ v < 719 ∧ (v - 160) % 40 < 29) ∨ (719 ≤ v ∧ v < 749) ∨ (759 ≤ v ∧ v < 789)
theorem lw_kd_is {v : Nat} (h : lw_kd v ≤ 21) : lw_is v := by
  by_cases hv : lw_is v
  · exact hv
  · exfalso
    unfold lw_is at hv
    have hn : ¬ lw_n v < 29 := by
      unfold lw_n
      by_cases g1 : 40 ≤ v ∧ v < 69
      · omega
      · rw [if_neg g1]
        by_cases g2 : 80 ≤ v ∧ v < 109
        · omega
        · rw [if_neg g2]
          by_cases g3 : 120 ≤ v ∧ v < 149
          · omega
          · rw [if_neg g3]
            by_cases g4 : 160 ≤ v ∧ v < 719
            · rw [if_pos g4]; omega
            · rw [if_neg g4]
              by_cases g5 : 720 ≤ v ∧ v < 749
              · omega
              · rw [if_neg g5]
                by_cases g6 : 760 ≤ v ∧ v < 789
                · omega
                · rw [if_neg g6]; omega
    have e : lw_kd v = 22 := by
      unfold lw_kd
      simp (disch := omega) only [if_neg]
    omega
theorem lw_n_b {b v k : Nat} (hb : b = 40 ∨ b = 80 ∨ b = 120 ∨ b = 720 ∨ b = 760 ∨ ∃ j, j < 14 ∧ b = 160 + 40 * j) (hk : k < 29) (hv : v = b + k) : lw_n v = k := by
  subst hv
  unfold lw_n
  rcases hb with rfl | rfl | rfl | rfl | rfl | ⟨j, hj, rfl⟩ <;> (repeat' split) <;> omega
theorem lw_kd_b {b v k : Nat} (hb : b = 40 ∨ b = 80 ∨ b = 120 ∨ b = 720 ∨ b = 760 ∨ ∃ j, j < 14 ∧ b = 160 + 40 * j) (hk : k < 29) (hv : v = b + k) : lw_kd v = nkd k := by
  have hn := lw_n_b hb hk hv
  have h1 : 40 ≤ v ∧ v ≠ 719 ∧ v ≠ 759 := by rcases hb with rfl | rfl | rfl | rfl | rfl | ⟨j, hj, rfl⟩ <;> omega
  unfold lw_kd
  rw [hn]
  simp (disch := omega) only [if_neg, if_pos]
theorem lw_ln_b {b v k : Nat} (hb : b = 40 ∨ b = 80 ∨ b = 120 ∨ b = 720 ∨ b = 760 ∨ ∃ j, j < 14 ∧ b = 160 + 40 * j) (hk : k < 29) (hv : v = b + k) : lw_ln v = nln k := by
  have hn := lw_n_b hb hk hv
  have h1 : 40 ≤ v := by rcases hb with rfl | rfl | rfl | rfl | rfl | ⟨j, hj, rfl⟩ <;> omega
  unfold lw_ln
  rw [hn]
  simp (disch := omega) only [if_neg]
theorem lw_ad_r (z s0 s1 s2 : Nat) {v : Nat} (h : lw_is v) : (v ≤ 3 ∧ lw_ad z s0 s1 s2 v = z + v) ∨ (4 ≤ v ∧ v ≤ 5 ∧ lw_ad z s0 s1 s2 v = z + 87 + v) ∨ (8 ≤ v ∧ v ≤ 15 ∧ lw_ad z s0 s1 s2 v = z + 551 + v) ∨ (v = 16 ∧ lw_ad z s0 s1 s2 v = s0) ∨ (v = 17 ∧ lw_ad z s0 s1 s2 v = s1) ∨ (v = 18 ∧ lw_ad z s0 s1 s2 v = z + 567) ∨ (40 ≤ v ∧ v < 69 ∧ lw_ad z s0 s1 s2 v = z + v - 36) ∨ (80 ≤ v ∧ v < 109 ∧ lw_ad z s0 s1 s2 v = z + v - 47) ∨ (120 ≤ v ∧ v < 149 ∧ lw_ad z s0 s1 s2 v = z + v - 58) ∨ (160 ≤ v ∧ v < 719 ∧ (v - 160) % 40 < 29 ∧ lw_ad z s0 s1 s2 v = z + 93 + 29 * ((v - 160) / 40) + (v - 160) % 40) ∨ (719 ≤ v ∧ v < 749 ∧ lw_ad z s0 s1 s2 v = z + v - 220) ∨ (759 ≤ v ∧ v < 789 ∧ lw_ad z s0 s1 s2 v = z + v - 230) := by
  unfold lw_is at h
  unfold lw_ad
  rcases h with h | h | h | h | h | h | h | h
  · by_cases g : v ≤ 3
    · exact Or.inl ⟨g, if_pos g⟩
    · refine Or.inr (Or.inl ⟨by omega, by omega, ?_⟩); simp (disch := omega) only [if_neg, if_pos]
  · by_cases g : v ≤ 15
    · refine Or.inr (Or.inr (Or.inl ⟨by omega, by omega, ?_⟩)); simp (disch := omega) only [if_neg, if_pos]
    · rcases (by omega : v = 16 ∨ v = 17 ∨ v = 18) with rfl | rfl | rfl
      · exact Or.inr (Or.inr (Or.inr (Or.inl ⟨rfl, rfl⟩)))
      · exact Or.inr (Or.inr (Or.inr (Or.inr (Or.inl ⟨rfl, rfl⟩))))
      · exact Or.inr (Or.inr (Or.inr (Or.inr (Or.inr (Or.inl ⟨rfl, rfl⟩)))))
  · refine Or.inr (Or.inr (Or.inr (Or.inr (Or.inr (Or.inr (Or.inl ⟨h.1, h.2, ?_⟩)))))); simp (disch := omega) only [if_neg, if_pos]
  · refine Or.inr (Or.inr (Or.inr (Or.inr (Or.inr (Or.inr (Or.inr (Or.inl ⟨h.1, h.2, ?_⟩))))))); simp (disch := omega) only [if_neg, if_pos]
  · refine Or.inr (Or.inr (Or.inr (Or.inr (Or.inr (Or.inr (Or.inr (Or.inr (Or.inl ⟨h.1, h.2, ?_⟩)))))))); simp (disch := omega) only [if_neg, if_pos]
  · refine Or.inr (Or.inr (Or.inr (Or.inr (Or.inr (Or.inr (Or.inr (Or.inr (Or.inr (Or.inl ⟨h.1, h.2.1, h.2.2, ?_⟩))))))))); simp (disch := omega) only [if_neg, if_pos]
  · refine Or.inr (Or.inr (Or.inr (Or.inr (Or.inr (Or.inr (Or.inr (Or.inr (Or.inr (Or.inr (Or.inl ⟨h.1, h.2, ?_⟩)))))))))); simp (disch := omega) only [if_neg, if_pos]
  · refine Or.inr (Or.inr (Or.inr (Or.inr (Or.inr (Or.inr (Or.inr (Or.inr (Or.inr (Or.inr (Or.inr ⟨h.1, h.2, ?_⟩)))))))))); simp (disch := omega) only [if_neg, if_pos]
theorem lw_ad_b {z s0 s1 s2 b k : Nat} (hb : b = 40 ∨ b = 80 ∨ b = 120 ∨ b = 720 ∨ b = 760 ∨ ∃ j, j < 14 ∧ b = 160 + 40 * j) (hk : k < 29) : lw_ad z s0 s1 s2 (b + k) = lw_ad z s0 s1 s2 b + k := by
  rcases hb with rfl | rfl | rfl | rfl | rfl | ⟨j, hj, rfl⟩
  · have h1 := lw_ad_r z s0 s1 s2 (v := 40 + k) (by unfold lw_is; omega)
    have h2 := lw_ad_r z s0 s1 s2 (v := 40) (by unfold lw_is; omega)
    omega
  · have h1 := lw_ad_r z s0 s1 s2 (v := 80 + k) (by unfold lw_is; omega)
    have h2 := lw_ad_r z s0 s1 s2 (v := 80) (by unfold lw_is; omega)
    omega
  · have h1 := lw_ad_r z s0 s1 s2 (v := 120 + k) (by unfold lw_is; omega)
    have h2 := lw_ad_r z s0 s1 s2 (v := 120) (by unfold lw_is; omega)
    omega
  · have h1 := lw_ad_r z s0 s1 s2 (v := 720 + k) (by unfold lw_is; omega)
    have h2 := lw_ad_r z s0 s1 s2 (v := 720) (by unfold lw_is; omega)
    omega
  · have h1 := lw_ad_r z s0 s1 s2 (v := 760 + k) (by unfold lw_is; omega)
    have h2 := lw_ad_r z s0 s1 s2 (v := 760) (by unfold lw_is; omega)
    omega
  · have h1 := lw_ad_r z s0 s1 s2 (v := 160 + 40 * j + k) (by unfold lw_is; omega)
    have h2 := lw_ad_r z s0 s1 s2 (v := 160 + 40 * j) (by unfold lw_is; omega)
    omega
theorem lw_inj {z s0 s1 s2 : Nat} {w : bW} (h0 : s0 < z) (h1 : s1 < z) (h01 : s0 ≠ s1) : ab_Inj (lw_w z s0 s1 s2 w) := by
  intro u v hu hv he
  have hu := lw_ad_r z s0 s1 s2 (lw_kd_is hu)
  have hv := lw_ad_r z s0 s1 s2 (lw_kd_is hv)
  have he : lw_ad z s0 s1 s2 u = lw_ad z s0 s1 s2 v := he
  rw [he] at hu
  generalize lw_ad z s0 s1 s2 v = q at hu hv
  clear he
  rcases hv with hv | hv | hv | hv | hv | hv | hv | hv | hv | hv | hv | hv <;> omega
theorem lw_wN {z s0 s1 s2 b : Nat} {w : bW} (hb : b = 40 ∨ b = 80 ∨ b = 120 ∨ b = 720 ∨ b = 760 ∨ ∃ j, j < 14 ∧ b = 160 + 40 * j) : wN (lw_w z s0 s1 s2 w) b := by
  have K : ∀ k, k < 29 → ∀ v, v = b + k → ab_kd (lw_w z s0 s1 s2 w) v = nkd k := fun k hk v hv => lw_kd_b hb hk hv
  have N : ∀ k, k < 29 → ∀ v, v = b + k → ab_ln (lw_w z s0 s1 s2 w) v = nln k := fun k hk v hv => lw_ln_b hb hk hv
  refine ⟨K 0 (by omega) _ rfl, ⟨K 1 (by omega) _ rfl, K 2 (by omega) _ rfl, K 3 (by omega) _ rfl, K 4 (by omega) _ rfl, K 5 (by omega) _ rfl, K 6 (by omega) _ rfl, K 7 (by omega) _ rfl, K 8 (by omega) _ rfl, N 2 (by omega) _ rfl, N 3 (by omega) _ rfl, N 4 (by omega) _ rfl, N 5 (by omega) _ rfl, N 6 (by omega) _ rfl, N 7 (by omega) _ rfl, N 8 (by omega) _ rfl⟩, ⟨K 9 (by omega) _ rfl, K 10 (by omega) _ rfl, K 11 (by omega) _ rfl, K 12 (by omega) _ rfl, K 13 (by omega) _ rfl, N 10 (by omega) _ rfl, N 11 (by omega) _ rfl, N 12 (by omega) _ rfl, N 13 (by omega) _ rfl⟩, ⟨K 14 (by omega) _ rfl, K 15 (by omega) _ rfl, K 16 (by omega) _ rfl, K 17 (by omega) _ rfl, K 18 (by omega) _ rfl, N 15 (by omega) _ rfl, N 16 (by omega) _ rfl, N 17 (by omega) _ rfl, N 18 (by omega) _ rfl⟩, ⟨K 19 (by omega) _ rfl, K 20 (by omega) _ rfl, K 21 (by omega) _ rfl, K 22 (by omega) _ rfl, N 20 (by omega) _ rfl, N 21 (by omega) _ rfl, N 22 (by omega) _ rfl⟩, ⟨K 23 (by omega) _ rfl, K 24 (by omega) _ rfl, K 25 (by omega) _ rfl, K 26 (by omega) _ rfl, N 24 (by omega) _ rfl, N 25 (by omega) _ rfl, N 26 (by omega) _ rfl⟩, K 27 (by omega) _ rfl, N 27 (by omega) _ rfl, K 28 (by omega) _ rfl, N 28 (by omega) _ rfl⟩
theorem lw_wA {z s0 s1 s2 : Nat} {w : bW} : wA (lw_w z s0 s1 s2 w) := by
  refine ⟨rfl, ⟨rfl, rfl, rfl, rfl, rfl⟩, ⟨rfl, rfl, rfl, fun k hk => lw_wN (Or.inr (Or.inr (Or.inr (Or.inr (Or.inr ⟨k, hk, rfl⟩)))))⟩, lw_wN (by omega), lw_wN (by omega), lw_wN (by omega), rfl, lw_wN (by omega), rfl, lw_wN (by omega)⟩
theorem lw_wD {z s0 s1 s2 : Nat} {w : bW} : wD (lw_w z s0 s1 s2 w) := ⟨rfl, rfl, rfl, ⟨rfl, rfl⟩, ⟨rfl, rfl⟩, ⟨rfl, rfl⟩, rfl, rfl, rfl, rfl, rfl, rfl⟩
