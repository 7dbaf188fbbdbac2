theorem app_l {α : Type} {l m : List α} {i : Nat} {x : α} (h : l[i]? = some x) : (l ++ m)[i]? = some x := by
  rw [List.getElem?_append_left (List.getElem?_eq_some_iff.mp h).1]; exact h
theorem get_sub {α : Type} {a c : List α} {x y : α} {k : Nat} (h : c[k]? = some y) : ((a ++ [x]) ++ c)[a.length + 1 + k]? = some y := by
  rw [List.getElem?_append_right (by rw [List.length_append, List.length_singleton]; omega), List.length_append, List.length_singleton, Nat.add_sub_cancel_left]; exact h
theorem ok_arr {W : ab_W} {σ : ab_H} {v n kd : Nat} {H : Heap} {f : Nat → Value} (hk : ab_kd W v = kd) (ha : ab_ai kd) (hl : ab_ln W v = n) (h : H[ab_ad W v]? = some (arrV (ab_ca W kd) n f)) (hf : ∀ j, j < n → f j = .int (σ v j)) : ab_ok W σ v H := by
  have h11 : 11 ≤ kd ∧ kd ≠ 14 ∧ kd ≠ 15 ∧ kd ≠ 20 := by unfold ab_ai at ha; omega
  refine ⟨fun q => by omega, fun _ => ?_, fun q => by omega, fun q => by omega, fun q => by omega⟩
  rw [hk, hl, h]
  exact congrArg some (arrV_cg hf)
theorem ok_obj {W : ab_W} {σ : ab_H} {v ci : Nat} {H : Heap} {fs : List Value} (hk : ab_kd W v = ci) (h10 : ci ≤ 10) (h : ∃ r : vw_C, vwCl[ci]? = some r ∧ t_OB (ab_ad W v) ((ab_dd W).1 ci) r.2.2 ((ab_dd W).2 ci) H (vp_V fs)) (r0 : vw_C) (hr0 : vwCl[ci]? = some r0) (hf : ∀ k, k < r0.2.2 → (∀ o, ab_fo ci k = some o → vp_V fs k = .ref (ab_ad W (v + o))) ∧ (ab_fo ci k = none → vp_V fs k = .int (σ v k))) : ab_ok W σ v H := by
  obtain ⟨r, hr, ht⟩ := h
  obtain rfl : r = r0 := Option.some.inj (hr.symm.trans hr0)
  refine ⟨fun _ => ⟨r, by rw [hk]; exact hr, ?_⟩, fun q => ?_, fun q => by omega, fun q => by omega, fun q => by omega⟩
  · rw [hk]
    refine ht.to (fun k hkk => ?_)
    unfold ab_fv
    rw [hk]
    cases hq : ab_fo ci k with
    | some o => exact (hf k hkk).1 o hq
    | none => exact (hf k hkk).2 hq
  · unfold ab_ai at q; omega
theorem ok_row {W : ab_W} {σ : ab_H} {v n : Nat} {H : Heap} {f : Nat → Int32} (hk : ab_kd W v = 20) (hl : ab_ln W v = n) (h : ∃ cell : Cell, H[ab_ad W v]? = some cell ∧ cell.cls = ab_ca W (ab_cr v) ∧ cell.vm ≠ .unknown ∧ (∀ k, cell.vm ≠ .statics k) ∧ n ≤ cell.slots.size ∧ ∀ j : Nat, j < n → cell.slots[j]? = some (.int (f j))) (hf : ∀ j, j < n → f j = σ v j) : ab_ok W σ v H := by
  refine ⟨fun q => by omega, fun q => by unfold ab_ai at q; omega, fun q => by omega, fun q => by omega, fun _ => ?_⟩
  obtain ⟨cell, h1, h2, h3, h4, h5, h6⟩ := h
  exact ⟨cell, h1, h2, h3, h4, by rw [hl]; exact h5, fun j hj => by rw [← hf j (by omega)]; exact h6 j (by omega)⟩
theorem f_ref {W : ab_W} {σ : ab_H} {v ci k : Nat} {V : Value} (o : Nat) (h : ab_fo ci k = some o) (e : V = .ref (ab_ad W (v + o))) : (∀ o, ab_fo ci k = some o → V = .ref (ab_ad W (v + o))) ∧ (ab_fo ci k = none → V = .int (σ v k)) :=
  ⟨fun o' h' => by rw [h] at h'; cases h'; exact e, fun h' => by rw [h] at h'; cases h'⟩
theorem f_int {W : ab_W} {σ : ab_H} {v ci k : Nat} {V : Value} (h : ab_fo ci k = none) (e : V = .int (σ v k)) : (∀ o, ab_fo ci k = some o → V = .ref (ab_ad W (v + o))) ∧ (ab_fo ci k = none → V = .int (σ v k)) :=
  ⟨fun o' h' => (by rw [h] at h'; cases h'), fun _ => e⟩
theorem lw_s_0 {v k : Nat} (h1 : v ≠ 16) (h2 : v ≠ 17) (h3 : v ≠ 11) (h4 : lw_n v ≠ 28) : lw_s v k = 0 := by
  unfold lw_s; rw [if_neg h1, if_neg h2, if_neg h3, if_neg h4]
set_option maxRecDepth 20000 in
set_option maxHeartbeats 4000000 in
theorem lw_net {z s0 s1 s2 b q : Nat} {w : bW} {H : Heap} (hb : b = 40 ∨ b = 80 ∨ b = 120 ∨ b = 720 ∨ b = 760 ∨ ∃ j, j < 14 ∧ b = 160 + 40 * j) (had : lw_ad z s0 s1 s2 b = q) (ho : bAt w q (.inl (3, f1X3 w (q + 1))) H) (hc : ∀ i c, (c1X3 w (q + 1))[i]? = some c → bAt w (q + 1 + i) c H) : ∀ k, k < 29 → ab_ok (lw_w z s0 s1 s2 w) lw_s (b + k) H := by
  have A : ∀ k, k < 29 → ab_ad (lw_w z s0 s1 s2 w) (b + k) = q + k := fun k hk => by rw [← had]; exact lw_ad_b hb hk
  have K : ∀ k, k < 29 → ab_kd (lw_w z s0 s1 s2 w) (b + k) = nkd k := fun k hk => lw_kd_b hb hk rfl
  have N : ∀ k, k < 29 → ab_ln (lw_w z s0 s1 s2 w) (b + k) = nln k := fun k hk => lw_ln_b hb hk rfl
  have h40 : 40 ≤ b := by rcases hb with rfl | rfl | rfl | rfl | rfl | ⟨j, hj, rfl⟩ <;> omega
  have S : ∀ k i, k < 28 → lw_s (b + k) i = 0 := fun k i hk => lw_s_0 (by omega) (by omega) (by omega) (by rw [lw_n_b hb (by omega) rfl]; omega)
  have S28 : ∀ i, lw_s (b + 28) i = n_new.1 (12 + i) := fun i => by unfold lw_s; rw [if_neg (by omega), if_neg (by omega), if_neg (by omega), if_pos (lw_n_b hb (by omega) rfl)]
  have arr : ∀ k n, k < 28 → nkd (k) = 11 → nln k = n → 1 ≤ k → (c1X3 w (q + 1))[k - 1]? = some (.inr (w.2 11, n, fun _ => .int 0)) → ab_ok (lw_w z s0 s1 s2 w) lw_s (b + k) H := by
    intro k n hk h1 h2 h3 h4
    refine ok_arr (kd := 11) ((K k (by omega)).trans h1) (Or.inl rfl) ((N k (by omega)).trans h2) (f := fun _ => .int 0) ?_ (fun j _ => by rw [S k j hk])
    have := hc _ _ h4
    rw [show q + 1 + (k - 1) = q + k by omega] at this
    rw [A k (by omega)]
    exact this
  have obj : ∀ k ci fs, k < 28 → nkd k = ci → 1 ≤ k → (c1X3 w (q + 1))[k - 1]? = some (.inl (ci, fs)) → ∃ r : vw_C, vwCl[ci]? = some r ∧ t_OB (ab_ad (lw_w z s0 s1 s2 w) (b + k)) ((ab_dd (lw_w z s0 s1 s2 w)).1 ci) r.2.2 ((ab_dd (lw_w z s0 s1 s2 w)).2 ci) H (vp_V fs) := by
    intro k ci fs hk h1 h3 h4
    have := hc _ _ h4
    rw [show q + 1 + (k - 1) = q + k by omega] at this
    rw [A k (by omega)]
    exact this
  have R : ∀ k o, k + o < 29 → ab_ad (lw_w z s0 s1 s2 w) (b + k + o) = q + (k + o) := fun k o h => by rw [Nat.add_assoc]; exact A _ h
  intro k hk
  rcases (by omega : k = 0 ∨ k = 1 ∨ k = 9 ∨ k = 14 ∨ k = 19 ∨ k = 23 ∨ k = 28 ∨ (k < 28 ∧ nkd k = 11) ∨ ¬ (k = 0 ∨ k = 1 ∨ k = 9 ∨ k = 14 ∨ k = 19 ∨ k = 23 ∨ k = 28 ∨ (k < 28 ∧ nkd k = 11))) with rfl | rfl | rfl | rfl | rfl | rfl | rfl | h | h
  · refine ok_obj (ci := 3) (fs := f1X3 w (q + 1)) (K 0 (by omega)) (by omega) (by rw [A 0 (by omega)]; exact ho) (RX3, TX3, 13) rfl (fun i hi => ?_)
    have hi : i < 13 := hi
    rcases (by omega : i = 0 ∨ i = 1 ∨ i = 2 ∨ i = 3 ∨ i = 4 ∨ i = 5 ∨ i = 6 ∨ i = 7 ∨ i = 8 ∨ i = 9 ∨ i = 10 ∨ i = 11 ∨ i = 12) with rfl | rfl | rfl | rfl | rfl | rfl | rfl | rfl | rfl | rfl | rfl | rfl | rfl
    · exact f_ref 1 rfl (by rw [R 0 1 (by omega)]; rfl)
    · exact f_ref 9 rfl (by rw [R 0 9 (by omega)]; rfl)
    · exact f_ref 14 rfl (by rw [R 0 14 (by omega)]; rfl)
    · exact f_ref 19 rfl (by rw [R 0 19 (by omega)]; rfl)
    · exact f_ref 23 rfl (by rw [R 0 23 (by omega)]; rfl)
    · exact f_ref 27 rfl (by rw [R 0 27 (by omega)]; rfl)
    · exact f_ref 28 rfl (by rw [R 0 28 (by omega)]; rfl)
    · exact f_int rfl (by rw [S 0 7 (by omega)]; rfl)
    · exact f_int rfl (by rw [S 0 8 (by omega)]; rfl)
    · exact f_int rfl (by rw [S 0 9 (by omega)]; rfl)
    · exact f_int rfl (by rw [S 0 10 (by omega)]; rfl)
    · exact f_int rfl (by rw [S 0 11 (by omega)]; rfl)
    · exact f_int rfl (by rw [S 0 12 (by omega)]; rfl)
  · refine ok_obj (ci := 7) (fs := f1X7 w (q + 1 + 1)) (K 1 (by omega)) (by omega) (obj 1 7 _ (by omega) rfl (by omega) rfl) (RX7, TX7, 8) rfl (fun i hi => ?_)
    have hi : i < 8 := hi
    rcases (by omega : i = 0 ∨ i = 1 ∨ i = 2 ∨ i = 3 ∨ i = 4 ∨ i = 5 ∨ i = 6 ∨ i = 7) with rfl | rfl | rfl | rfl | rfl | rfl | rfl | rfl
    · exact f_int rfl (by rw [S 1 0 (by omega)]; rfl)
    · exact f_ref 1 rfl (by rw [R 1 1 (by omega)]; rfl)
    · exact f_ref 2 rfl (by rw [R 1 2 (by omega)]; rfl)
    · exact f_ref 3 rfl (by rw [R 1 3 (by omega)]; rfl)
    · exact f_ref 4 rfl (by rw [R 1 4 (by omega)]; rfl)
    · exact f_ref 5 rfl (by rw [R 1 5 (by omega)]; rfl)
    · exact f_ref 6 rfl (by rw [R 1 6 (by omega)]; rfl)
    · exact f_ref 7 rfl (by rw [R 1 7 (by omega)]; rfl)
  · refine ok_obj (ci := 0) (fs := f1X0 w (q + 1 + 9)) (K 9 (by omega)) (by omega) (obj 9 0 _ (by omega) rfl (by omega) rfl) (RX0, TX0, 5) rfl (fun i hi => ?_)
    have hi : i < 5 := hi
    rcases (by omega : i = 0 ∨ i = 1 ∨ i = 2 ∨ i = 3 ∨ i = 4) with rfl | rfl | rfl | rfl | rfl
    · exact f_int rfl (by rw [S 9 0 (by omega)]; rfl)
    · exact f_ref 1 rfl (by rw [R 9 1 (by omega)]; rfl)
    · exact f_ref 2 rfl (by rw [R 9 2 (by omega)]; rfl)
    · exact f_ref 3 rfl (by rw [R 9 3 (by omega)]; rfl)
    · exact f_ref 4 rfl (by rw [R 9 4 (by omega)]; rfl)
  · refine ok_obj (ci := 4) (fs := f1X4 w (q + 1 + 14)) (K 14 (by omega)) (by omega) (obj 14 4 _ (by omega) rfl (by omega) rfl) (RX4, TX4, 5) rfl (fun i hi => ?_)
    have hi : i < 5 := hi
    rcases (by omega : i = 0 ∨ i = 1 ∨ i = 2 ∨ i = 3 ∨ i = 4) with rfl | rfl | rfl | rfl | rfl
    · exact f_int rfl (by rw [S 14 0 (by omega)]; rfl)
    · exact f_ref 1 rfl (by rw [R 14 1 (by omega)]; rfl)
    · exact f_ref 2 rfl (by rw [R 14 2 (by omega)]; rfl)
    · exact f_ref 3 rfl (by rw [R 14 3 (by omega)]; rfl)
    · exact f_ref 4 rfl (by rw [R 14 4 (by omega)]; rfl)
  · refine ok_obj (ci := 5) (fs := f1X5 w (q + 1 + 19)) (K 19 (by omega)) (by omega) (obj 19 5 _ (by omega) rfl (by omega) rfl) (RX5, TX5, 4) rfl (fun i hi => ?_)
    have hi : i < 4 := hi
    rcases (by omega : i = 0 ∨ i = 1 ∨ i = 2 ∨ i = 3) with rfl | rfl | rfl | rfl
    · exact f_int rfl (by rw [S 19 0 (by omega)]; rfl)
    · exact f_ref 1 rfl (by rw [R 19 1 (by omega)]; rfl)
    · exact f_ref 2 rfl (by rw [R 19 2 (by omega)]; rfl)
    · exact f_ref 3 rfl (by rw [R 19 3 (by omega)]; rfl)
  · refine ok_obj (ci := 1) (fs := f1X1 w (q + 1 + 23)) (K 23 (by omega)) (by omega) (obj 23 1 _ (by omega) rfl (by omega) rfl) (RX1, TX1, 5) rfl (fun i hi => ?_)
    have hi : i < 5 := hi
    rcases (by omega : i = 0 ∨ i = 1 ∨ i = 2 ∨ i = 3 ∨ i = 4) with rfl | rfl | rfl | rfl | rfl
    · exact f_int rfl (by rw [S 23 0 (by omega)]; rfl)
    · exact f_int rfl (by rw [S 23 1 (by omega)]; rfl)
    · exact f_ref 1 rfl (by rw [R 23 1 (by omega)]; rfl)
    · exact f_ref 2 rfl (by rw [R 23 2 (by omega)]; rfl)
    · exact f_ref 3 rfl (by rw [R 23 3 (by omega)]; rfl)
  · refine ok_arr (kd := 11) (K 28 (by omega)) (Or.inl rfl) (N 28 (by omega)) (f := fun q => if q = 4 then .int (nI 5) else if q = 3 then .int (nI 20) else if q = 2 then .int (nI 2) else if q = 1 then .int (nI 3) else if q = 0 then .int (nI 4) else .int 0) ?_ (fun j hj => ?_)
    · have := hc 27 _ rfl
      rw [show q + 1 + 27 = q + 28 by omega] at this
      rw [A 28 (by omega)]
      exact this
    · rw [S28 j]
      have hj : j < 5 := hj
      rcases (by omega : j = 0 ∨ j = 1 ∨ j = 2 ∨ j = 3 ∨ j = 4) with rfl | rfl | rfl | rfl | rfl <;> rfl
  · obtain ⟨h1, h2⟩ := h
    have hne : k ≠ 0 ∧ k ≠ 1 ∧ k ≠ 9 ∧ k ≠ 14 ∧ k ≠ 19 ∧ k ≠ 23 := by
      refine ⟨?_, ?_, ?_, ?_, ?_, ?_⟩ <;> (rintro rfl; cases h2)
    rcases (by omega : k = 2 ∨ k = 3 ∨ k = 4 ∨ k = 5 ∨ k = 6 ∨ k = 7 ∨ k = 8 ∨ k = 10 ∨ k = 11 ∨ k = 12 ∨ k = 13 ∨ k = 15 ∨ k = 16 ∨ k = 17 ∨ k = 18 ∨ k = 20 ∨ k = 21 ∨ k = 22 ∨ k = 24 ∨ k = 25 ∨ k = 26 ∨ k = 27) with rfl | rfl | rfl | rfl | rfl | rfl | rfl | rfl | rfl | rfl | rfl | rfl | rfl | rfl | rfl | rfl | rfl | rfl | rfl | rfl | rfl | rfl
    all_goals exact arr _ _ (by omega) rfl rfl (by omega) rfl
  · exfalso
    have : nkd k = 11 := by unfold nkd; simp (disch := omega) only [if_neg]
    omega
