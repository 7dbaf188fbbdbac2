/-! THE WORLD OF ONE OF THE LAW'S OBJECTS: its cells from z on -/
def nkd (k : Nat) : Nat := if k = 0 then 3 else if k = 1 then 7 else if k = 9 then 0 else if k = 14 then 4 else if k = 19 then 5 else if k = 23 then 1 else 11
def nln (k : Nat) : Nat := if k ≤ 7 then 5 else if k = 8 then 25 else if k ≤ 13 then 6 else if k ≤ 18 then 8 else if k ≤ 22 then 150 else if k ≤ 26 then 12 else if k = 27 then 4 else 5
/-- the place of a cell in its net, if it lies in one -/
def lw_n (v : Nat) : Nat := if 40 ≤ v ∧ v < 69 then v - 40 else if 80 ≤ v ∧ v < 109 then v - 80 else if 120 ≤ v ∧ v < 149 then v - 120 else if 160 ≤ v ∧ v < 719 then (v - 160) % 40 else if 720 ≤ v ∧ v < 749 then v - 720 else if 760 ≤ v ∧ v < 789 then v - 760 else 40
def lw_ad (z s0 s1 : Nat) (v : Nat) : Nat := if v ≤ 3 then z + v else if v ≤ 5 then z + 87 + v else if v = 16 then s0 else if v = 17 then s1 else if v < 80 then z + v - 36 else if v < 120 then z + v - 47 else if v < 160 then z + v - 58 else if v < 719 then z + 93 + 29 * ((v - 160) / 40) + (v - 160) % 40 else if v < 759 then z + v - 220 else z + v - 230
def lw_kd (v : Nat) : Nat := if v = 0 then 9 else if v = 1 then 8 else if v = 2 then 12 else if v = 3 then 11 else if v = 4 then 2 else if v = 5 then 14 else if v = 16 ∨ v = 17 then 20 else if v = 719 ∨ v = 759 then 6 else if lw_n v < 29 then nkd (lw_n v) else 22
def lw_ln (v : Nat) : Nat := if v = 2 then 120 else if v = 3 then 5 else if v = 5 then 14 else if v = 16 ∨ v = 17 then 5 else nln (lw_n v)
def lw_w (z s0 s1 : Nat) (w : bW) : ab_W := (lw_ad z s0 s1, lw_kd, lw_ln, w.1, w.2)
def lw_s : ab_H := fun v j => if v = 16 then nI (s_lo j) else if v = 17 then nI (s_hi j) else if lw_n v = 28 then n_new.1 (12 + j) else 0
def lw_is (v : Nat) : Prop := v ≤ 5 ∨ (16 ≤ v ∧ v ≤ 17) ∨ (40 ≤ v ∧ v < 69) ∨ (80 ≤ v ∧ v < 109) ∨ (120 ≤ v ∧ v < 149) ∨ (160 ≤ v ∧ v < 719 ∧ (v - 160) % 40 < 29) ∨ (719 ≤ v ∧ v < 749) ∨ (759 ≤ v ∧ v < 789)
theorem lw_kd_is {v : Nat} (h : lw_kd v ≤ 21) : lw_is v := by
  by_cases hv : lw_is v
  · exact hv
  · exfalso
    unfold lw_is at hv
    have hn : ¬ lw_n v < 29 := by
      unfold lw_n
      by_cases g1 : 40 ≤ v ∧ v < 69
      · omega
      · rw [if_neg g1]
        by_cases g2 : 80 ≤ v ∧ v < 109
        · omega
        · rw [if_neg g2]
          by_cases g3 : 120 ≤ v ∧ v < 149
          · omega
          · rw [if_neg g3]
            by_cases g4 : 160 ≤ v ∧ v < 719
            · rw [if_pos g4]; omega
            · rw [if_neg g4]
              by_cases g5 : 720 ≤ v ∧ v < 749
              · omega
              · rw [if_neg g5]
                by_cases g6 : 760 ≤ v ∧ v < 789
                · omega
                · rw [if_neg g6]; omega
    have e : lw_kd v = 22 := by
      unfold lw_kd
      simp (disch := omega) only [if_neg]
    omega
theorem lw_n_b {b v k : Nat} (hb : b = 40 ∨ b = 80 ∨ b = 120 ∨ b = 720 ∨ b = 760 ∨ ∃ j, j < 14 ∧ b = 160 + 40 * j) (hk : k < 29) (hv : v = b + k) : lw_n v = k := by
  subst hv
  unfold lw_n
  rcases hb with rfl | rfl | rfl | rfl | rfl | ⟨j, hj, rfl⟩ <;> (repeat' split) <;> omega
theorem lw_kd_b {b v k : Nat} (hb : b = 40 ∨ b = 80 ∨ b = 120 ∨ b = 720 ∨ b = 760 ∨ ∃ j, j < 14 ∧ b = 160 + 40 * j) (hk : k < 29) (hv : v = b + k) : lw_kd v = nkd k := by
  have hn := lw_n_b hb hk hv
  have h1 : 40 ≤ v ∧ v ≠ 719 ∧ v ≠ 759 := by rcases hb with rfl | rfl | rfl | rfl | rfl | ⟨j, hj, rfl⟩ <;> omega
  unfold lw_kd
  rw [hn]
  simp (disch := omega) only [if_neg, if_pos]
theorem lw_ln_b {b v k : Nat} (hb : b = 40 ∨ b = 80 ∨ b = 120 ∨ b = 720 ∨ b = 760 ∨ ∃ j, j < 14 ∧ b = 160 + 40 * j) (hk : k < 29) (hv : v = b + k) : lw_ln v = nln k := by
  have hn := lw_n_b hb hk hv
  have h1 : 40 ≤ v := by rcases hb with rfl | rfl | rfl | rfl | rfl | ⟨j, hj, rfl⟩ <;> omega
  unfold lw_ln
  rw [hn]
  simp (disch := omega) only [if_neg]
theorem lw_ad_r (z s0 s1 : Nat) {v : Nat} (h : lw_is v) : (v ≤ 3 ∧ lw_ad z s0 s1 v = z + v) ∨ (4 ≤ v ∧ v ≤ 5 ∧ lw_ad z s0 s1 v = z + 87 + v) ∨ (v = 16 ∧ lw_ad z s0 s1 v = s0) ∨ (v = 17 ∧ lw_ad z s0 s1 v = s1) ∨ (40 ≤ v ∧ v < 69 ∧ lw_ad z s0 s1 v = z + v - 36) ∨ (80 ≤ v ∧ v < 109 ∧ lw_ad z s0 s1 v = z + v - 47) ∨ (120 ≤ v ∧ v < 149 ∧ lw_ad z s0 s1 v = z + v - 58) ∨ (160 ≤ v ∧ v < 719 ∧ (v - 160) % 40 < 29 ∧ lw_ad z s0 s1 v = z + 93 + 29 * ((v - 160) / 40) + (v - 160) % 40) ∨ (719 ≤ v ∧ v < 749 ∧ lw_ad z s0 s1 v = z + v - 220) ∨ (759 ≤ v ∧ v < 789 ∧ lw_ad z s0 s1 v = z + v - 230) := by
  unfold lw_is at h
  unfold lw_ad
  rcases h with h | h | h | h | h | h | h | h
  · by_cases g : v ≤ 3
    · exact Or.inl ⟨g, if_pos g⟩
    · refine Or.inr (Or.inl ⟨by omega, by omega, ?_⟩); simp (disch := omega) only [if_neg, if_pos]
  · rcases (by omega : v = 16 ∨ v = 17) with rfl | rfl
    · exact Or.inr (Or.inr (Or.inl ⟨rfl, rfl⟩))
    · exact Or.inr (Or.inr (Or.inr (Or.inl ⟨rfl, rfl⟩)))
  · refine Or.inr (Or.inr (Or.inr (Or.inr (Or.inl ⟨h.1, h.2, ?_⟩)))); simp (disch := omega) only [if_neg, if_pos]
  · refine Or.inr (Or.inr (Or.inr (Or.inr (Or.inr (Or.inl ⟨h.1, h.2, ?_⟩))))); simp (disch := omega) only [if_neg, if_pos]
  · refine Or.inr (Or.inr (Or.inr (Or.inr (Or.inr (Or.inr (Or.inl ⟨h.1, h.2, ?_⟩)))))); simp (disch := omega) only [if_neg, if_pos]
  · refine Or.inr (Or.inr (Or.inr (Or.inr (Or.inr (Or.inr (Or.inr (Or.inl ⟨h.1, h.2.1, h.2.2, ?_⟩))))))); simp (disch := omega) only [if_neg, if_pos]
  · refine Or.inr (Or.inr (Or.inr (Or.inr (Or.inr (Or.inr (Or.inr (Or.inr (Or.inl ⟨h.1, h.2, ?_⟩)))))))); simp (disch := omega) only [if_neg, if_pos]
  · refine Or.inr (Or.inr (Or.inr (Or.inr (Or.inr (Or.inr (Or.inr (Or.inr (Or.inr (⟨h.1, h.2, ?_⟩))))))))); simp (disch := omega) only [if_neg, if_pos]
theorem lw_ad_b {z s0 s1 b k : Nat} (hb : b = 40 ∨ b = 80 ∨ b = 120 ∨ b = 720 ∨ b = 760 ∨ ∃ j, j < 14 ∧ b = 160 + 40 * j) (hk : k < 29) : lw_ad z s0 s1 (b + k) = lw_ad z s0 s1 b + k := by
  rcases hb with rfl | rfl | rfl | rfl | rfl | ⟨j, hj, rfl⟩
  · have h1 := lw_ad_r z s0 s1 (v := 40 + k) (by unfold lw_is; omega)
    have h2 := lw_ad_r z s0 s1 (v := 40) (by unfold lw_is; omega)
    omega
  · have h1 := lw_ad_r z s0 s1 (v := 80 + k) (by unfold lw_is; omega)
    have h2 := lw_ad_r z s0 s1 (v := 80) (by unfold lw_is; omega)
    omega
  · have h1 := lw_ad_r z s0 s1 (v := 120 + k) (by unfold lw_is; omega)
    have h2 := lw_ad_r z s0 s1 (v := 120) (by unfold lw_is; omega)
    omega
  · have h1 := lw_ad_r z s0 s1 (v := 720 + k) (by unfold lw_is; omega)
    have h2 := lw_ad_r z s0 s1 (v := 720) (by unfold lw_is; omega)
    omega
  · have h1 := lw_ad_r z s0 s1 (v := 760 + k) (by unfold lw_is; omega)
    have h2 := lw_ad_r z s0 s1 (v := 760) (by unfold lw_is; omega)
    omega
  · have h1 := lw_ad_r z s0 s1 (v := 160 + 40 * j + k) (by unfold lw_is; omega)
    have h2 := lw_ad_r z s0 s1 (v := 160 + 40 * j) (by unfold lw_is; omega)
    omega
theorem lw_inj {z s0 s1 : Nat} {w : bW} (h0 : s0 < z) (h1 : s1 < z) (h01 : s0 ≠ s1) : ab_Inj (lw_w z s0 s1 w) := by
  intro u v hu hv he
  have hu := lw_ad_r z s0 s1 (lw_kd_is hu)
  have hv := lw_ad_r z s0 s1 (lw_kd_is hv)
  have he : lw_ad z s0 s1 u = lw_ad z s0 s1 v := he
  rw [he] at hu
  generalize lw_ad z s0 s1 v = q at hu hv
  clear he
  rcases hv with hv | hv | hv | hv | hv | hv | hv | hv | hv | hv <;> omega
theorem lw_wN {z s0 s1 b : Nat} {w : bW} (hb : b = 40 ∨ b = 80 ∨ b = 120 ∨ b = 720 ∨ b = 760 ∨ ∃ j, j < 14 ∧ b = 160 + 40 * j) : wN (lw_w z s0 s1 w) b := by
  have K : ∀ k, k < 29 → ∀ v, v = b + k → ab_kd (lw_w z s0 s1 w) v = nkd k := fun k hk v hv => lw_kd_b hb hk hv
  have N : ∀ k, k < 29 → ∀ v, v = b + k → ab_ln (lw_w z s0 s1 w) v = nln k := fun k hk v hv => lw_ln_b hb hk hv
  refine ⟨K 0 (by omega) _ rfl, ⟨K 1 (by omega) _ rfl, K 2 (by omega) _ rfl, K 3 (by omega) _ rfl, K 4 (by omega) _ rfl, K 5 (by omega) _ rfl, K 6 (by omega) _ rfl, K 7 (by omega) _ rfl, K 8 (by omega) _ rfl, N 2 (by omega) _ rfl, N 3 (by omega) _ rfl, N 4 (by omega) _ rfl, N 5 (by omega) _ rfl, N 6 (by omega) _ rfl, N 7 (by omega) _ rfl, N 8 (by omega) _ rfl⟩, ⟨K 9 (by omega) _ rfl, K 10 (by omega) _ rfl, K 11 (by omega) _ rfl, K 12 (by omega) _ rfl, K 13 (by omega) _ rfl, N 10 (by omega) _ rfl, N 11 (by omega) _ rfl, N 12 (by omega) _ rfl, N 13 (by omega) _ rfl⟩, ⟨K 14 (by omega) _ rfl, K 15 (by omega) _ rfl, K 16 (by omega) _ rfl, K 17 (by omega) _ rfl, K 18 (by omega) _ rfl, N 15 (by omega) _ rfl, N 16 (by omega) _ rfl, N 17 (by omega) _ rfl, N 18 (by omega) _ rfl⟩, ⟨K 19 (by omega) _ rfl, K 20 (by omega) _ rfl, K 21 (by omega) _ rfl, K 22 (by omega) _ rfl, N 20 (by omega) _ rfl, N 21 (by omega) _ rfl, N 22 (by omega) _ rfl⟩, ⟨K 23 (by omega) _ rfl, K 24 (by omega) _ rfl, K 25 (by omega) _ rfl, K 26 (by omega) _ rfl, N 24 (by omega) _ rfl, N 25 (by omega) _ rfl, N 26 (by omega) _ rfl⟩, K 27 (by omega) _ rfl, N 27 (by omega) _ rfl, K 28 (by omega) _ rfl, N 28 (by omega) _ rfl⟩
theorem lw_wA {z s0 s1 : Nat} {w : bW} : wA (lw_w z s0 s1 w) := by
  refine ⟨rfl, ⟨rfl, rfl, rfl, rfl, rfl⟩, ⟨rfl, rfl, rfl, fun k hk => lw_wN (Or.inr (Or.inr (Or.inr (Or.inr (Or.inr ⟨k, hk, rfl⟩)))))⟩, lw_wN (by omega), lw_wN (by omega), lw_wN (by omega), rfl, lw_wN (by omega), rfl, lw_wN (by omega)⟩

theorem arrV_cg {cI : ClassId} {N : Nat} {f g : Nat → Value} (h : ∀ j, j < N → f j = g j) : arrV cI N f = arrV cI N g := by
  unfold arrV
  have : (fun j : Fin N => f j.val) = fun j => g j.val := funext fun j => h j.val j.isLt
  rw [this]
abbrev bClean (cI : ClassId) (a sz : Nat) (f : Nat → Value) (U : State) : Prop := U.heap.size = sz ∧ U.heap[a]? = some (arrV cI 304 f) ∧ ArrOfT U cI .int

theorem app_l {α : Type} {l m : List α} {i : Nat} {x : α} (h : l[i]? = some x) : (l ++ m)[i]? = some x := by
  rw [List.getElem?_append_left (List.getElem?_eq_some_iff.mp h).1]; exact h
theorem get_sub {α : Type} {a c : List α} {x y : α} {k : Nat} (h : c[k]? = some y) : ((a ++ [x]) ++ c)[a.length + 1 + k]? = some y := by
  rw [List.getElem?_append_right (by rw [List.length_append, List.length_singleton]; omega), List.length_append, List.length_singleton, Nat.add_sub_cancel_left]; exact h
theorem ok_arr {W : ab_W} {σ : ab_H} {v n kd : Nat} {H : Heap} {f : Nat → Value} (hk : ab_kd W v = kd) (ha : ab_ai kd) (hl : ab_ln W v = n) (h : H[ab_ad W v]? = some (arrV (ab_ca W kd) n f)) (hf : ∀ j, j < n → f j = .int (σ v j)) : ab_ok W σ v H := by
  have h11 : 11 ≤ kd ∧ kd ≠ 14 ∧ kd ≠ 15 ∧ kd ≠ 20 := by unfold ab_ai at ha; omega
  refine ⟨fun q => by omega, fun _ => ?_, fun q => by omega, fun q => by omega, fun q => by omega⟩
  rw [hk, hl, h]
  exact congrArg some (arrV_cg hf)
theorem ok_obj {W : ab_W} {σ : ab_H} {v ci : Nat} {H : Heap} {fs : List Value} (hk : ab_kd W v = ci) (h10 : ci ≤ 10) (h : ∃ r : vw_C, vwCl[ci]? = some r ∧ t_OB (ab_ad W v) ((ab_dd W).1 ci) r.2.2 ((ab_dd W).2 ci) H (vp_V fs)) (r0 : vw_C) (hr0 : vwCl[ci]? = some r0) (hf : ∀ k, k < r0.2.2 → (∀ o, ab_fo ci k = some o → vp_V fs k = .ref (ab_ad W (v + o))) ∧ (ab_fo ci k = none → vp_V fs k = .int (σ v k))) : ab_ok W σ v H := by
  obtain ⟨r, hr, ht⟩ := h
  obtain rfl : r = r0 := Option.some.inj (hr.symm.trans hr0)
  refine ⟨fun _ => ⟨r, by rw [hk]; exact hr, ?_⟩, fun q => ?_, fun q => by omega, fun q => by omega, fun q => by omega⟩
  · rw [hk]
    refine ht.to (fun k hkk => ?_)
    unfold ab_fv
    rw [hk]
    cases hq : ab_fo ci k with
    | some o => exact (hf k hkk).1 o hq
    | none => exact (hf k hkk).2 hq
  · unfold ab_ai at q; omega
theorem ok_row {W : ab_W} {σ : ab_H} {v n : Nat} {H : Heap} {f : Nat → Int32} (hk : ab_kd W v = 20) (hl : ab_ln W v = n) (h : ∃ cell : Cell, H[ab_ad W v]? = some cell ∧ cell.cls = ab_ca W (ab_cr v) ∧ cell.vm ≠ .unknown ∧ (∀ k, cell.vm ≠ .statics k) ∧ n ≤ cell.slots.size ∧ ∀ j : Nat, j < n → cell.slots[j]? = some (.int (f j))) (hf : ∀ j, j < n → f j = σ v j) : ab_ok W σ v H := by
  refine ⟨fun q => by omega, fun q => by unfold ab_ai at q; omega, fun q => by omega, fun q => by omega, fun _ => ?_⟩
  obtain ⟨cell, h1, h2, h3, h4, h5, h6⟩ := h
  exact ⟨cell, h1, h2, h3, h4, by rw [hl]; exact h5, fun j hj => by rw [← hf j (by omega)]; exact h6 j (by omega)⟩
theorem f_ref {W : ab_W} {σ : ab_H} {v ci k : Nat} {V : Value} (o : Nat) (h : ab_fo ci k = some o) (e : V = .ref (ab_ad W (v + o))) : (∀ o, ab_fo ci k = some o → V = .ref (ab_ad W (v + o))) ∧ (ab_fo ci k = none → V = .int (σ v k)) :=
  ⟨fun o' h' => by rw [h] at h'; cases h'; exact e, fun h' => by rw [h] at h'; cases h'⟩
theorem f_int {W : ab_W} {σ : ab_H} {v ci k : Nat} {V : Value} (h : ab_fo ci k = none) (e : V = .int (σ v k)) : (∀ o, ab_fo ci k = some o → V = .ref (ab_ad W (v + o))) ∧ (ab_fo ci k = none → V = .int (σ v k)) :=
  ⟨fun o' h' => (by rw [h] at h'; cases h'), fun _ => e⟩
theorem lw_s_0 {v k : Nat} (h1 : v ≠ 16) (h2 : v ≠ 17) (h3 : v ≠ 11) (h4 : lw_n v ≠ 28) : lw_s v k = 0 := by
  unfold lw_s; rw [if_neg h1, if_neg h2, if_neg h4]
set_option maxRecDepth 20000 in
set_option maxHeartbeats 4000000 in
theorem lw_net {z s0 s1 b q : Nat} {w : bW} {H : Heap} (hb : b = 40 ∨ b = 80 ∨ b = 120 ∨ b = 720 ∨ b = 760 ∨ ∃ j, j < 14 ∧ b = 160 + 40 * j) (had : lw_ad z s0 s1 b = q) (ho : bAt w q (.inl (3, f1X3 w (q + 1))) H) (hc : ∀ i c, (c1X3 w (q + 1))[i]? = some c → bAt w (q + 1 + i) c H) : ∀ k, k < 29 → ab_ok (lw_w z s0 s1 w) lw_s (b + k) H := by
  have A : ∀ k, k < 29 → ab_ad (lw_w z s0 s1 w) (b + k) = q + k := fun k hk => by rw [← had]; exact lw_ad_b hb hk
  have K : ∀ k, k < 29 → ab_kd (lw_w z s0 s1 w) (b + k) = nkd k := fun k hk => lw_kd_b hb hk rfl
  have N : ∀ k, k < 29 → ab_ln (lw_w z s0 s1 w) (b + k) = nln k := fun k hk => lw_ln_b hb hk rfl
  have h40 : 40 ≤ b := by rcases hb with rfl | rfl | rfl | rfl | rfl | ⟨j, hj, rfl⟩ <;> omega
  have S : ∀ k i, k < 28 → lw_s (b + k) i = 0 := fun k i hk => lw_s_0 (by omega) (by omega) (by omega) (by rw [lw_n_b hb (by omega) rfl]; omega)
  have S28 : ∀ i, lw_s (b + 28) i = n_new.1 (12 + i) := fun i => by unfold lw_s; rw [if_neg (by omega), if_neg (by omega), if_pos (lw_n_b hb (by omega) rfl)]
  have arr : ∀ k n, k < 28 → nkd (k) = 11 → nln k = n → 1 ≤ k → (c1X3 w (q + 1))[k - 1]? = some (.inr (w.2 11, n, fun _ => .int 0)) → ab_ok (lw_w z s0 s1 w) lw_s (b + k) H := by
    intro k n hk h1 h2 h3 h4
    refine ok_arr (kd := 11) ((K k (by omega)).trans h1) (Or.inl rfl) ((N k (by omega)).trans h2) (f := fun _ => .int 0) ?_ (fun j _ => by rw [S k j hk])
    have := hc _ _ h4
    rw [show q + 1 + (k - 1) = q + k by omega] at this
    rw [A k (by omega)]
    exact this
  have obj : ∀ k ci fs, k < 28 → nkd k = ci → 1 ≤ k → (c1X3 w (q + 1))[k - 1]? = some (.inl (ci, fs)) → ∃ r : vw_C, vwCl[ci]? = some r ∧ t_OB (ab_ad (lw_w z s0 s1 w) (b + k)) ((ab_dd (lw_w z s0 s1 w)).1 ci) r.2.2 ((ab_dd (lw_w z s0 s1 w)).2 ci) H (vp_V fs) := by
    intro k ci fs hk h1 h3 h4
    have := hc _ _ h4
    rw [show q + 1 + (k - 1) = q + k by omega] at this
    rw [A k (by omega)]
    exact this
  have R : ∀ k o, k + o < 29 → ab_ad (lw_w z s0 s1 w) (b + k + o) = q + (k + o) := fun k o h => by rw [Nat.add_assoc]; exact A _ h
  intro k hk
  rcases (by omega : k = 0 ∨ k = 1 ∨ k = 9 ∨ k = 14 ∨ k = 19 ∨ k = 23 ∨ k = 28 ∨ (k < 28 ∧ nkd k = 11) ∨ ¬ (k = 0 ∨ k = 1 ∨ k = 9 ∨ k = 14 ∨ k = 19 ∨ k = 23 ∨ k = 28 ∨ (k < 28 ∧ nkd k = 11))) with rfl | rfl | rfl | rfl | rfl | rfl | rfl | h | h
  · refine ok_obj (ci := 3) (fs := f1X3 w (q + 1)) (K 0 (by omega)) (by omega) (by rw [A 0 (by omega)]; exact ho) (RX3, TX3, 13) rfl (fun i hi => ?_)
    have hi : i < 13 := hi
    rcases (by omega : i = 0 ∨ i = 1 ∨ i = 2 ∨ i = 3 ∨ i = 4 ∨ i = 5 ∨ i = 6 ∨ i = 7 ∨ i = 8 ∨ i = 9 ∨ i = 10 ∨ i = 11 ∨ i = 12) with rfl | rfl | rfl | rfl | rfl | rfl | rfl | rfl | rfl | rfl | rfl | rfl | rfl
    · exact f_ref 1 rfl (by rw [R 0 1 (by omega)]; rfl)
    · exact f_ref 9 rfl (by rw [R 0 9 (by omega)]; rfl)
    · exact f_ref 14 rfl (by rw [R 0 14 (by omega)]; rfl)
    · exact f_ref 19 rfl (by rw [R 0 19 (by omega)]; rfl)
    · exact f_ref 23 rfl (by rw [R 0 23 (by omega)]; rfl)
    · exact f_ref 27 rfl (by rw [R 0 27 (by omega)]; rfl)
    · exact f_ref 28 rfl (by rw [R 0 28 (by omega)]; rfl)
    · exact f_int rfl (by rw [S 0 7 (by omega)]; rfl)
    · exact f_int rfl (by rw [S 0 8 (by omega)]; rfl)
    · exact f_int rfl (by rw [S 0 9 (by omega)]; rfl)
    · exact f_int rfl (by rw [S 0 10 (by omega)]; rfl)
    · exact f_int rfl (by rw [S 0 11 (by omega)]; rfl)
    · exact f_int rfl (by rw [S 0 12 (by omega)]; rfl)
  · refine ok_obj (ci := 7) (fs := f1X7 w (q + 1 + 1)) (K 1 (by omega)) (by omega) (obj 1 7 _ (by omega) rfl (by omega) rfl) (RX7, TX7, 8) rfl (fun i hi => ?_)
    have hi : i < 8 := hi
    rcases (by omega : i = 0 ∨ i = 1 ∨ i = 2 ∨ i = 3 ∨ i = 4 ∨ i = 5 ∨ i = 6 ∨ i = 7) with rfl | rfl | rfl | rfl | rfl | rfl | rfl | rfl
    · exact f_int rfl (by rw [S 1 0 (by omega)]; rfl)
    · exact f_ref 1 rfl (by rw [R 1 1 (by omega)]; rfl)
    · exact f_ref 2 rfl (by rw [R 1 2 (by omega)]; rfl)
    · exact f_ref 3 rfl (by rw [R 1 3 (by omega)]; rfl)
    · exact f_ref 4 rfl (by rw [R 1 4 (by omega)]; rfl)
    · exact f_ref 5 rfl (by rw [R 1 5 (by omega)]; rfl)
    · exact f_ref 6 rfl (by rw [R 1 6 (by omega)]; rfl)
    · exact f_ref 7 rfl (by rw [R 1 7 (by omega)]; rfl)
  · refine ok_obj (ci := 0) (fs := f1X0 w (q + 1 + 9)) (K 9 (by omega)) (by omega) (obj 9 0 _ (by omega) rfl (by omega) rfl) (RX0, TX0, 5) rfl (fun i hi => ?_)
    have hi : i < 5 := hi
    rcases (by omega : i = 0 ∨ i = 1 ∨ i = 2 ∨ i = 3 ∨ i = 4) with rfl | rfl | rfl | rfl | rfl
    · exact f_int rfl (by rw [S 9 0 (by omega)]; rfl)
    · exact f_ref 1 rfl (by rw [R 9 1 (by omega)]; rfl)
    · exact f_ref 2 rfl (by rw [R 9 2 (by omega)]; rfl)
    · exact f_ref 3 rfl (by rw [R 9 3 (by omega)]; rfl)
    · exact f_ref 4 rfl (by rw [R 9 4 (by omega)]; rfl)
  · refine ok_obj (ci := 4) (fs := f1X4 w (q + 1 + 14)) (K 14 (by omega)) (by omega) (obj 14 4 _ (by omega) rfl (by omega) rfl) (RX4, TX4, 5) rfl (fun i hi => ?_)
    have hi : i < 5 := hi
    rcases (by omega : i = 0 ∨ i = 1 ∨ i = 2 ∨ i = 3 ∨ i = 4) with rfl | rfl | rfl | rfl | rfl
    · exact f_int rfl (by rw [S 14 0 (by omega)]; rfl)
    · exact f_ref 1 rfl (by rw [R 14 1 (by omega)]; rfl)
    · exact f_ref 2 rfl (by rw [R 14 2 (by omega)]; rfl)
    · exact f_ref 3 rfl (by rw [R 14 3 (by omega)]; rfl)
    · exact f_ref 4 rfl (by rw [R 14 4 (by omega)]; rfl)
  · refine ok_obj (ci := 5) (fs := f1X5 w (q + 1 + 19)) (K 19 (by omega)) (by omega) (obj 19 5 _ (by omega) rfl (by omega) rfl) (RX5, TX5, 4) rfl (fun i hi => ?_)
    have hi : i < 4 := hi
    rcases (by omega : i = 0 ∨ i = 1 ∨ i = 2 ∨ i = 3) with rfl | rfl | rfl | rfl
    · exact f_int rfl (by rw [S 19 0 (by omega)]; rfl)
    · exact f_ref 1 rfl (by rw [R 19 1 (by omega)]; rfl)
    · exact f_ref 2 rfl (by rw [R 19 2 (by omega)]; rfl)
    · exact f_ref 3 rfl (by rw [R 19 3 (by omega)]; rfl)
  · refine ok_obj (ci := 1) (fs := f1X1 w (q + 1 + 23)) (K 23 (by omega)) (by omega) (obj 23 1 _ (by omega) rfl (by omega) rfl) (RX1, TX1, 5) rfl (fun i hi => ?_)
    have hi : i < 5 := hi
    rcases (by omega : i = 0 ∨ i = 1 ∨ i = 2 ∨ i = 3 ∨ i = 4) with rfl | rfl | rfl | rfl | rfl
    · exact f_int rfl (by rw [S 23 0 (by omega)]; rfl)
    · exact f_int rfl (by rw [S 23 1 (by omega)]; rfl)
    · exact f_ref 1 rfl (by rw [R 23 1 (by omega)]; rfl)
    · exact f_ref 2 rfl (by rw [R 23 2 (by omega)]; rfl)
    · exact f_ref 3 rfl (by rw [R 23 3 (by omega)]; rfl)
  · refine ok_arr (kd := 11) (K 28 (by omega)) (Or.inl rfl) (N 28 (by omega)) (f := fun q => if q = 4 then .int (nI 5) else if q = 3 then .int (nI 20) else if q = 2 then .int (nI 2) else if q = 1 then .int (nI 3) else if q = 0 then .int (nI 4) else .int 0) ?_ (fun j hj => ?_)
    · have := hc 27 _ rfl
      rw [show q + 1 + 27 = q + 28 by omega] at this
      rw [A 28 (by omega)]
      exact this
    · rw [S28 j]
      have hj : j < 5 := hj
      rcases (by omega : j = 0 ∨ j = 1 ∨ j = 2 ∨ j = 3 ∨ j = 4) with rfl | rfl | rfl | rfl | rfl <;> rfl
  · obtain ⟨h1, h2⟩ := h
    have hne : k ≠ 0 ∧ k ≠ 1 ∧ k ≠ 9 ∧ k ≠ 14 ∧ k ≠ 19 ∧ k ≠ 23 := by
      refine ⟨?_, ?_, ?_, ?_, ?_, ?_⟩ <;> (rintro rfl; cases h2)
    rcases (by omega : k = 2 ∨ k = 3 ∨ k = 4 ∨ k = 5 ∨ k = 6 ∨ k = 7 ∨ k = 8 ∨ k = 10 ∨ k = 11 ∨ k = 12 ∨ k = 13 ∨ k = 15 ∨ k = 16 ∨ k = 17 ∨ k = 18 ∨ k = 20 ∨ k = 21 ∨ k = 22 ∨ k = 24 ∨ k = 25 ∨ k = 26 ∨ k = 27) with rfl | rfl | rfl | rfl | rfl | rfl | rfl | rfl | rfl | rfl | rfl | rfl | rfl | rfl | rfl | rfl | rfl | rfl | rfl | rfl | rfl | rfl
    all_goals exact arr _ _ (by omega) rfl rfl (by omega) rfl
  · exfalso
    have : nkd k = 11 := by unfold nkd; simp (disch := omega) only [if_neg]
    omega
