theorem memN_obj (w : bW) (a : Nat) : ∀ i j, j < i → (memN w a i)[29 * j]? = some (.inl (3, f1X3 w (a + (1 + 29 * j) + 1)))
  | 0, j, h => absurd h (Nat.not_lt_zero _)
  | i + 1, j, h => by
    rw [memN]
    by_cases hj : j < i
    · exact app_l (app_l (memN_obj w a i j hj))
    · obtain rfl : j = i := by omega
      have := get_mid (a := memN w a j) (x := (Sum.inl (3, f1X3 w (a + (1 + 29 * j) + 1)) : bC)) (c := c1X3 w (a + (1 + 29 * j) + 1))
      rw [memN_len] at this
      exact this
theorem memN_sub (w : bW) (a : Nat) : ∀ i j k c, j < i → (c1X3 w (a + (1 + 29 * j) + 1))[k]? = some c → (memN w a i)[29 * j + 1 + k]? = some c
  | 0, j, _, _, h, _ => absurd h (Nat.not_lt_zero _)
  | i + 1, j, k, c, h, hc => by
    rw [memN]
    by_cases hj : j < i
    · exact app_l (app_l (memN_sub w a i j k c hj hc))
    · obtain rfl : j = i := by omega
      have := get_sub (a := memN w a j) (x := (Sum.inl (3, f1X3 w (a + (1 + 29 * j) + 1)) : bC)) hc
      rw [memN_len] at this
      exact this
set_option maxRecDepth 20000 in
set_option maxHeartbeats 4000000 in
theorem lw_rep {z s0 s1 : Nat} {w : bW} {H : Heap} (hx : bAt w z (.inl (9, f1X9 w (z + 1))) H) (hcx : ∀ i c, (c1X9_7 w (z + 1))[i]? = some c → bAt w (z + 1 + i) c H) (hs0 : ∃ cell : Cell, H[s0]? = some cell ∧ cell.cls = w.2 20 ∧ cell.vm ≠ .unknown ∧ (∀ k, cell.vm ≠ .statics k) ∧ 5 ≤ cell.slots.size ∧ ∀ j : Nat, j < 5 → cell.slots[j]? = some (.int (nI (s_lo j)))) (hs1 : ∃ cell : Cell, H[s1]? = some cell ∧ cell.cls = w.2 21 ∧ cell.vm ≠ .unknown ∧ (∀ k, cell.vm ≠ .statics k) ∧ 5 ≤ cell.slots.size ∧ ∀ j : Nat, j < 5 → cell.slots[j]? = some (.int (nI (s_hi j)))) : ab_Rep (lw_w z s0 s1 w) lw_s H := by
  have AD : ∀ v r, lw_is v → (lw_ad z s0 s1 v = r → ab_ad (lw_w z s0 s1 w) v = r) := fun v r _ h => h
  have P7 := hcx
  have P6 : ∀ i c, (c1X9_6 w (z + 1))[i]? = some c → bAt w (z + 1 + i) c H := fun i c h => P7 i c (by unfold c1X9_7; exact app_l (app_l h))
  have P5 : ∀ i c, (c1X9_5 w (z + 1))[i]? = some c → bAt w (z + 1 + i) c H := fun i c h => P6 i c (by unfold c1X9_6; exact app_l (app_l h))
  have P4 : ∀ i c, (c1X9_4 w (z + 1))[i]? = some c → bAt w (z + 1 + i) c H := fun i c h => P5 i c (by unfold c1X9_5; exact app_l (app_l h))
  have P3 : ∀ i c, (c1X9_3 w (z + 1))[i]? = some c → bAt w (z + 1 + i) c H := fun i c h => P4 i c (by unfold c1X9_4; exact app_l (app_l h))
  have P2 : ∀ i c, (c1X9_2 w (z + 1))[i]? = some c → bAt w (z + 1 + i) c H := fun i c h => P3 i c (by unfold c1X9_3; exact app_l (app_l h))
  have P1 : ∀ i c, (c1X9_1 w (z + 1))[i]? = some c → bAt w (z + 1 + i) c H := fun i c h => P2 i c (by unfold c1X9_2; exact app_l (app_l h))
  have O1 : bAt w (z + 1 + 0) (.inl (8, f1X8 w (z + 1 + 0 + 1))) H := P1 _ _ (by have := get_mid (a := ([] : List bC)) (x := (Sum.inl (8, f1X8 w (z + 1 + 0 + 1)) : bC)) (c := c1X8 w (z + 1 + 0 + 1)); unfold c1X9_1; exact this)
  have S1 : ∀ k c, (c1X8 w (z + 1 + 0 + 1))[k]? = some c → bAt w (z + 1 + 0 + 1 + k) c H := fun k c hc => by
    have := P1 (0 + 1 + k) c (by have := get_sub (a := ([] : List bC)) (x := (Sum.inl (8, f1X8 w (z + 1 + 0 + 1)) : bC)) hc; unfold c1X9_1; first | exact this | (rw [List.length_nil] at this; exact this))
    rw [show z + 1 + (0 + 1 + k) = z + 1 + 0 + 1 + k by omega] at this
    exact this
  have O2 : bAt w (z + 1 + 3) (.inl (3, f1X3 w (z + 1 + 3 + 1))) H := P2 _ _ (by have := get_mid (a := c1X9_1 w (z + 1)) (x := (Sum.inl (3, f1X3 w (z + 1 + 3 + 1)) : bC)) (c := c1X3 w (z + 1 + 3 + 1)); rw [len_X9_1] at this; unfold c1X9_2; exact this)
  have S2 : ∀ k c, (c1X3 w (z + 1 + 3 + 1))[k]? = some c → bAt w (z + 1 + 3 + 1 + k) c H := fun k c hc => by
    have := P2 (3 + 1 + k) c (by have := get_sub (a := c1X9_1 w (z + 1)) (x := (Sum.inl (3, f1X3 w (z + 1 + 3 + 1)) : bC)) hc; rw [len_X9_1] at this; unfold c1X9_2; first | exact this | (rw [List.length_nil] at this; exact this))
    rw [show z + 1 + (3 + 1 + k) = z + 1 + 3 + 1 + k by omega] at this
    exact this
  have O3 : bAt w (z + 1 + 32) (.inl (3, f1X3 w (z + 1 + 32 + 1))) H := P3 _ _ (by have := get_mid (a := c1X9_2 w (z + 1)) (x := (Sum.inl (3, f1X3 w (z + 1 + 32 + 1)) : bC)) (c := c1X3 w (z + 1 + 32 + 1)); rw [len_X9_2] at this; unfold c1X9_3; exact this)
  have S3 : ∀ k c, (c1X3 w (z + 1 + 32 + 1))[k]? = some c → bAt w (z + 1 + 32 + 1 + k) c H := fun k c hc => by
    have := P3 (32 + 1 + k) c (by have := get_sub (a := c1X9_2 w (z + 1)) (x := (Sum.inl (3, f1X3 w (z + 1 + 32 + 1)) : bC)) hc; rw [len_X9_2] at this; unfold c1X9_3; first | exact this | (rw [List.length_nil] at this; exact this))
    rw [show z + 1 + (32 + 1 + k) = z + 1 + 32 + 1 + k by omega] at this
    exact this
  have O4 : bAt w (z + 1 + 61) (.inl (3, f1X3 w (z + 1 + 61 + 1))) H := P4 _ _ (by have := get_mid (a := c1X9_3 w (z + 1)) (x := (Sum.inl (3, f1X3 w (z + 1 + 61 + 1)) : bC)) (c := c1X3 w (z + 1 + 61 + 1)); rw [len_X9_3] at this; unfold c1X9_4; exact this)
  have S4 : ∀ k c, (c1X3 w (z + 1 + 61 + 1))[k]? = some c → bAt w (z + 1 + 61 + 1 + k) c H := fun k c hc => by
    have := P4 (61 + 1 + k) c (by have := get_sub (a := c1X9_3 w (z + 1)) (x := (Sum.inl (3, f1X3 w (z + 1 + 61 + 1)) : bC)) hc; rw [len_X9_3] at this; unfold c1X9_4; first | exact this | (rw [List.length_nil] at this; exact this))
    rw [show z + 1 + (61 + 1 + k) = z + 1 + 61 + 1 + k by omega] at this
    exact this
  have O5 : bAt w (z + 1 + 90) (.inl (2, f1X2 w (z + 1 + 90 + 1))) H := P5 _ _ (by have := get_mid (a := c1X9_4 w (z + 1)) (x := (Sum.inl (2, f1X2 w (z + 1 + 90 + 1)) : bC)) (c := c1X2 w (z + 1 + 90 + 1)); rw [len_X9_4] at this; unfold c1X9_5; exact this)
  have S5 : ∀ k c, (c1X2 w (z + 1 + 90 + 1))[k]? = some c → bAt w (z + 1 + 90 + 1 + k) c H := fun k c hc => by
    have := P5 (90 + 1 + k) c (by have := get_sub (a := c1X9_4 w (z + 1)) (x := (Sum.inl (2, f1X2 w (z + 1 + 90 + 1)) : bC)) hc; rw [len_X9_4] at this; unfold c1X9_5; first | exact this | (rw [List.length_nil] at this; exact this))
    rw [show z + 1 + (90 + 1 + k) = z + 1 + 90 + 1 + k by omega] at this
    exact this
  have O6 : bAt w (z + 1 + 498) (.inl (6, f1X6 w (z + 1 + 498 + 1))) H := P6 _ _ (by have := get_mid (a := c1X9_5 w (z + 1)) (x := (Sum.inl (6, f1X6 w (z + 1 + 498 + 1)) : bC)) (c := c1X6 w (z + 1 + 498 + 1)); rw [len_X9_5] at this; unfold c1X9_6; exact this)
  have S6 : ∀ k c, (c1X6 w (z + 1 + 498 + 1))[k]? = some c → bAt w (z + 1 + 498 + 1 + k) c H := fun k c hc => by
    have := P6 (498 + 1 + k) c (by have := get_sub (a := c1X9_5 w (z + 1)) (x := (Sum.inl (6, f1X6 w (z + 1 + 498 + 1)) : bC)) hc; rw [len_X9_5] at this; unfold c1X9_6; first | exact this | (rw [List.length_nil] at this; exact this))
    rw [show z + 1 + (498 + 1 + k) = z + 1 + 498 + 1 + k by omega] at this
    exact this
  have O7 : bAt w (z + 1 + 528) (.inl (6, f1X6 w (z + 1 + 528 + 1))) H := P7 _ _ (by have := get_mid (a := c1X9_6 w (z + 1)) (x := (Sum.inl (6, f1X6 w (z + 1 + 528 + 1)) : bC)) (c := c1X6 w (z + 1 + 528 + 1)); rw [len_X9_6] at this; unfold c1X9_7; exact this)
  have S7 : ∀ k c, (c1X6 w (z + 1 + 528 + 1))[k]? = some c → bAt w (z + 1 + 528 + 1 + k) c H := fun k c hc => by
    have := P7 (528 + 1 + k) c (by have := get_sub (a := c1X9_6 w (z + 1)) (x := (Sum.inl (6, f1X6 w (z + 1 + 528 + 1)) : bC)) hc; rw [len_X9_6] at this; unfold c1X9_7; first | exact this | (rw [List.length_nil] at this; exact this))
    rw [show z + 1 + (528 + 1 + k) = z + 1 + 528 + 1 + k by omega] at this
    exact this
  have N40 := lw_net (z := z) (s0 := s0) (s1 := s1) (b := 40) (q := z + 1 + 3) (w := w) (H := H) (by omega) (by have := lw_ad_r z s0 s1 (v := 40) (by unfold lw_is; omega); omega) O2 S2
  have N80 := lw_net (z := z) (s0 := s0) (s1 := s1) (b := 80) (q := z + 1 + 32) (w := w) (H := H) (by omega) (by have := lw_ad_r z s0 s1 (v := 80) (by unfold lw_is; omega); omega) O3 S3
  have N120 := lw_net (z := z) (s0 := s0) (s1 := s1) (b := 120) (q := z + 1 + 61) (w := w) (H := H) (by omega) (by have := lw_ad_r z s0 s1 (v := 120) (by unfold lw_is; omega); omega) O4 S4
  have N720 := lw_net (z := z) (s0 := s0) (s1 := s1) (b := 720) (q := z + 1 + 498 + 1) (w := w) (H := H) (by omega) (by have := lw_ad_r z s0 s1 (v := 720) (by unfold lw_is; omega); omega) (S6 0 _ rfl) (fun i c h => by
    have := S6 (1 + i) c (by unfold c1X6; exact (by rw [List.getElem?_append_right (by rw [List.length_singleton]; omega), List.length_singleton, Nat.add_sub_cancel_left]; exact h))
    rw [show z + 1 + 498 + 1 + (1 + i) = z + 1 + 498 + 1 + 1 + i by omega] at this
    exact this)
  have N760 := lw_net (z := z) (s0 := s0) (s1 := s1) (b := 760) (q := z + 1 + 528 + 1) (w := w) (H := H) (by omega) (by have := lw_ad_r z s0 s1 (v := 760) (by unfold lw_is; omega); omega) (S7 0 _ rfl) (fun i c h => by
    have := S7 (1 + i) c (by unfold c1X6; exact (by rw [List.getElem?_append_right (by rw [List.length_singleton]; omega), List.length_singleton, Nat.add_sub_cancel_left]; exact h))
    rw [show z + 1 + 528 + 1 + (1 + i) = z + 1 + 528 + 1 + 1 + i by omega] at this
    exact this)
  have NM : ∀ j, j < 14 → ∀ k, k < 29 → ab_ok (lw_w z s0 s1 w) lw_s (160 + 40 * j + k) H := by
    intro j hj
    refine lw_net (q := z + 1 + 90 + 1 + (1 + 29 * j)) (Or.inr (Or.inr (Or.inr (Or.inr (Or.inr ⟨j, hj, rfl⟩))))) (by have := lw_ad_r z s0 s1 (v := 160 + 40 * j) (by unfold lw_is; omega); omega) ?_ (fun i c h => ?_)
    · have := S5 (1 + 29 * j) _ (by unfold c1X2; rw [List.getElem?_append_right (by rw [List.length_singleton]; omega), List.length_singleton, Nat.add_sub_cancel_left]; exact memN_obj w _ 14 j hj)
      exact this
    · have := S5 (1 + (29 * j + 1 + i)) c (by unfold c1X2; rw [List.getElem?_append_right (by rw [List.length_singleton]; omega), List.length_singleton, Nat.add_sub_cancel_left]; exact memN_sub w _ 14 j i c hj h)
      rw [show z + 1 + 90 + 1 + (1 + (29 * j + 1 + i)) = z + 1 + 90 + 1 + (1 + 29 * j) + 1 + i by omega] at this
      exact this
  intro v
  by_cases hv : lw_is v
  · unfold lw_is at hv
    rcases hv with hv | hv | hv | hv | hv | hv | hv | hv
    · rcases (by omega : v = 0 ∨ v = 1 ∨ v = 2 ∨ v = 3 ∨ v = 4 ∨ v = 5) with rfl | rfl | rfl | rfl | rfl | rfl
      · refine ok_obj (ci := 9) (fs := f1X9 w (z + 1)) rfl (by omega) (by rw [(show ab_ad (lw_w z s0 s1 w) (0) = z from by have := lw_ad_r z s0 s1 (v := 0) (by unfold lw_is; omega); show lw_ad z s0 s1 (0) = _; omega)]; exact hx) (RX9, TX9, 7) rfl (fun i hi => ?_)
        have hi : i < 7 := hi
        rcases (by omega : i = 0 ∨ i = 1 ∨ i = 2 ∨ i = 3 ∨ i = 4 ∨ i = 5 ∨ i = 6) with rfl | rfl | rfl | rfl | rfl | rfl | rfl
        · exact f_ref 1 rfl (by rw [(show ab_ad (lw_w z s0 s1 w) (0 + 1) = z + 1 from by have := lw_ad_r z s0 s1 (v := 0 + 1) (by unfold lw_is; omega); show lw_ad z s0 s1 (0 + 1) = _; omega)]; rfl)
        · exact f_ref 40 rfl (by rw [(show ab_ad (lw_w z s0 s1 w) (0 + 40) = z + 1 + 3 from by have := lw_ad_r z s0 s1 (v := 0 + 40) (by unfold lw_is; omega); show lw_ad z s0 s1 (0 + 40) = _; omega)]; rfl)
        · exact f_ref 80 rfl (by rw [(show ab_ad (lw_w z s0 s1 w) (0 + 80) = z + 1 + 32 from by have := lw_ad_r z s0 s1 (v := 0 + 80) (by unfold lw_is; omega); show lw_ad z s0 s1 (0 + 80) = _; omega)]; rfl)
        · exact f_ref 120 rfl (by rw [(show ab_ad (lw_w z s0 s1 w) (0 + 120) = z + 1 + 61 from by have := lw_ad_r z s0 s1 (v := 0 + 120) (by unfold lw_is; omega); show lw_ad z s0 s1 (0 + 120) = _; omega)]; rfl)
        · exact f_ref 4 rfl (by rw [(show ab_ad (lw_w z s0 s1 w) (0 + 4) = z + 1 + 90 from by have := lw_ad_r z s0 s1 (v := 0 + 4) (by unfold lw_is; omega); show lw_ad z s0 s1 (0 + 4) = _; omega)]; rfl)
        · exact f_ref 719 rfl (by rw [(show ab_ad (lw_w z s0 s1 w) (0 + 719) = z + 1 + 498 from by have := lw_ad_r z s0 s1 (v := 0 + 719) (by unfold lw_is; omega); show lw_ad z s0 s1 (0 + 719) = _; omega)]; rfl)
        · exact f_ref 759 rfl (by rw [(show ab_ad (lw_w z s0 s1 w) (0 + 759) = z + 1 + 528 from by have := lw_ad_r z s0 s1 (v := 0 + 759) (by unfold lw_is; omega); show lw_ad z s0 s1 (0 + 759) = _; omega)]; rfl)
      · refine ok_obj (ci := 8) (fs := f1X8 w (z + 1 + 0 + 1)) rfl (by omega) (by rw [(show ab_ad (lw_w z s0 s1 w) (1) = z + 1 + 0 from by have := lw_ad_r z s0 s1 (v := 1) (by unfold lw_is; omega); show lw_ad z s0 s1 (1) = _; omega)]; exact O1) (RX8, TX8, 5) rfl (fun i hi => ?_)
        have hi : i < 5 := hi
        rcases (by omega : i = 0 ∨ i = 1 ∨ i = 2 ∨ i = 3 ∨ i = 4) with rfl | rfl | rfl | rfl | rfl
        · exact f_ref 1 rfl (by rw [(show ab_ad (lw_w z s0 s1 w) (1 + 1) = z + 1 + 0 + 1 from by have := lw_ad_r z s0 s1 (v := 1 + 1) (by unfold lw_is; omega); show lw_ad z s0 s1 (1 + 1) = _; omega)]; rfl)
        · exact f_int rfl (by rw [lw_s_0 (by omega) (by omega) (by omega) (by decide)]; rfl)
        · exact f_int rfl (by rw [lw_s_0 (by omega) (by omega) (by omega) (by decide)]; rfl)
        · exact f_int rfl (by rw [lw_s_0 (by omega) (by omega) (by omega) (by decide)]; rfl)
        · exact f_ref 2 rfl (by rw [(show ab_ad (lw_w z s0 s1 w) (1 + 2) = z + 1 + 0 + 1 + 1 from by have := lw_ad_r z s0 s1 (v := 1 + 2) (by unfold lw_is; omega); show lw_ad z s0 s1 (1 + 2) = _; omega)]; rfl)
      · refine ok_arr (kd := 12) rfl (Or.inr (Or.inl rfl)) rfl (f := fun _ => .int 0) ?_ (fun j _ => by rw [lw_s_0 (by omega) (by omega) (by omega) (by decide)])
        exact S1 0 _ rfl
      · refine ok_arr (kd := 11) rfl (Or.inl rfl) rfl (f := fun _ => .int 0) ?_ (fun j _ => by rw [lw_s_0 (by omega) (by omega) (by omega) (by decide)])
        exact S1 1 _ rfl
      · refine ok_obj (ci := 2) (fs := f1X2 w (z + 1 + 90 + 1)) rfl (by omega) (by rw [(show ab_ad (lw_w z s0 s1 w) (4) = z + 1 + 90 from by have := lw_ad_r z s0 s1 (v := 4) (by unfold lw_is; omega); show lw_ad z s0 s1 (4) = _; omega)]; exact O5) (RX2, TX2, 3) rfl (fun i hi => ?_)
        have hi : i < 3 := hi
        rcases (by omega : i = 0 ∨ i = 1 ∨ i = 2) with rfl | rfl | rfl
        · exact f_int rfl (by rw [lw_s_0 (by omega) (by omega) (by omega) (by decide)]; rfl)
        · exact f_int rfl (by rw [lw_s_0 (by omega) (by omega) (by omega) (by decide)]; rfl)
        · exact f_ref 1 rfl (by rw [(show ab_ad (lw_w z s0 s1 w) (4 + 1) = z + 1 + 90 + 1 from by have := lw_ad_r z s0 s1 (v := 4 + 1) (by unfold lw_is; omega); show lw_ad z s0 s1 (4 + 1) = _; omega)]; rfl)
      · refine ⟨fun q => absurd q (by show ¬ 14 ≤ 10; omega), fun q => absurd q (by show ¬ ab_ai 14; unfold ab_ai; omega), fun _ => ?_, fun q => absurd q (by show ¬ 14 = 15; omega), fun q => absurd q (by show ¬ 14 = 20; omega)⟩
        have h5 : H[z + 1 + 90 + 1]? = some (arrV (w.2 14) 14 (memF (z + 1 + 90 + 1) 14)) := S5 0 _ rfl
        rw [(show ab_ad (lw_w z s0 s1 w) (5) = z + 1 + 90 + 1 from by have := lw_ad_r z s0 s1 (v := 5) (by unfold lw_is; omega); show lw_ad z s0 s1 (5) = _; omega), h5]
        refine congrArg some (arrV_cg (fun j hj => ?_))
        rw [(show ab_ad (lw_w z s0 s1 w) (160 + 40 * j) = z + 1 + 90 + 1 + (1 + 29 * j) from by have := lw_ad_r z s0 s1 (v := 160 + 40 * j) (by unfold lw_is; omega); show lw_ad z s0 s1 (160 + 40 * j) = _; omega)]
        unfold memF
        rw [if_pos hj]
    · rcases (by omega : v = 16 ∨ v = 17) with rfl | rfl
      · exact ok_row rfl rfl (f := fun j => nI (s_lo j)) hs0 (fun j _ => rfl)
      · exact ok_row rfl rfl (f := fun j => nI (s_hi j)) hs1 (fun j _ => rfl)
    · have := N40 (v - 40) (by omega); rw [show 40 + (v - 40) = v by omega] at this; exact this
    · have := N80 (v - 80) (by omega); rw [show 80 + (v - 80) = v by omega] at this; exact this
    · have := N120 (v - 120) (by omega); rw [show 120 + (v - 120) = v by omega] at this; exact this
    · have := NM ((v - 160) / 40) (by omega) ((v - 160) % 40) hv.2.2
      rw [show 160 + 40 * ((v - 160) / 40) + (v - 160) % 40 = v by omega] at this; exact this
    · by_cases h : v = 719
      · subst h
        refine ok_obj (ci := 6) (fs := f1X6 w (z + 1 + 498 + 1)) rfl (by omega) (by rw [(show ab_ad (lw_w z s0 s1 w) (719) = z + 1 + 498 from by have := lw_ad_r z s0 s1 (v := 719) (by unfold lw_is; omega); show lw_ad z s0 s1 (719) = _; omega)]; exact O6) (RX6, TX6, 2) rfl (fun i hi => ?_)
        have hi : i < 2 := hi
        rcases (by omega : i = 0 ∨ i = 1) with rfl | rfl
        · exact f_ref 1 rfl (by rw [(show ab_ad (lw_w z s0 s1 w) (719 + 1) = z + 1 + 498 + 1 from by have := lw_ad_r z s0 s1 (v := 719 + 1) (by unfold lw_is; omega); show lw_ad z s0 s1 (719 + 1) = _; omega)]; rfl)
        · exact f_int rfl (by rw [lw_s_0 (by omega) (by omega) (by omega) (by decide)]; rfl)
      · have := N720 (v - 720) (by omega); rw [show 720 + (v - 720) = v by omega] at this; exact this
    · by_cases h : v = 759
      · subst h
        refine ok_obj (ci := 6) (fs := f1X6 w (z + 1 + 528 + 1)) rfl (by omega) (by rw [(show ab_ad (lw_w z s0 s1 w) (759) = z + 1 + 528 from by have := lw_ad_r z s0 s1 (v := 759) (by unfold lw_is; omega); show lw_ad z s0 s1 (759) = _; omega)]; exact O7) (RX6, TX6, 2) rfl (fun i hi => ?_)
        have hi : i < 2 := hi
        rcases (by omega : i = 0 ∨ i = 1) with rfl | rfl
        · exact f_ref 1 rfl (by rw [(show ab_ad (lw_w z s0 s1 w) (759 + 1) = z + 1 + 528 + 1 from by have := lw_ad_r z s0 s1 (v := 759 + 1) (by unfold lw_is; omega); show lw_ad z s0 s1 (759 + 1) = _; omega)]; rfl)
        · exact f_int rfl (by rw [lw_s_0 (by omega) (by omega) (by omega) (by decide)]; rfl)
      · have := N760 (v - 760) (by omega); rw [show 760 + (v - 760) = v by omega] at this; exact this
  · have hk : 22 ≤ ab_kd (lw_w z s0 s1 w) v := Nat.not_lt.mp (fun q => hv (lw_kd_is (Nat.le_of_lt_succ q)))
    exact ⟨fun q => by omega, fun q => by unfold ab_ai at q; omega, fun q => by omega, fun q => by omega, fun q => by omega⟩

/-! THE STATE AT THE START -/
def lw_A0 : aS := (n_new, [], none, none, fun _ => 0, 0)
theorem lw_WA : WA 0 lw_A0 := ⟨WF_new, fun _ q => absurd q List.not_mem_nil, fun _ q => (by cases q), fun _ q => (by cases q)⟩
theorem lw_RC {b : Nat} (hb : b = 40 ∨ b = 80 ∨ b = 120 ∨ b = 720 ∨ b = 760 ∨ ∃ j, j < 14 ∧ b = 160 + 40 * j) : RC lw_s b n_new := by
  have h40 : 40 ≤ b := by rcases hb with rfl | rfl | rfl | rfl | rfl | ⟨j, hj, rfl⟩ <;> omega
  have S : ∀ v i, b ≤ v → v < b + 28 → lw_s v i = 0 := fun v i h1 h2 => lw_s_0 (by omega) (by omega) (by omega) (by rw [lw_n_b (k := v - b) hb (by omega) (by omega)]; omega)
  have S28 : ∀ i, lw_s (b + 28) i = n_new.1 (12 + i) := fun i => by unfold lw_s; rw [if_neg (by omega), if_neg (by omega), if_pos (lw_n_b hb (by omega) rfl)]
  have z : ∀ i, i < 12 ∨ 17 ≤ i → n_new.1 i = 0 := by
    intro i hi; unfold n_new; dsimp only; simp (disch := omega) only [if_neg]
  have c1 : cl (n_new.1 1) = 0 := by rw [z 1 (by omega)]; decide +kernel
  have c2 : cl (n_new.1 2) = 0 := by rw [z 2 (by omega)]; decide +kernel
  refine ⟨?_, ⟨?_, fun s hs => by rw [c1] at hs; omega, fun s _ _ => ⟨S _ _ (by omega) (by omega), S _ _ (by omega) (by omega), S _ _ (by omega) (by omega), fun k _ => S _ _ (by omega) (by omega)⟩⟩, ⟨?_, fun s hs => by rw [c2] at hs; omega, fun s _ _ => S _ _ (by omega) (by omega)⟩, ⟨?_, fun k x q => (by cases q)⟩, ⟨?_, fun k x q => (by cases q)⟩, ⟨?_, fun k x q => (by cases q), ?_⟩, fun h hh => ?_, fun h hh => S28 h⟩
  · exact ⟨(S _ _ (by omega) (by omega)).trans (z 0 (by omega)).symm, (S _ _ (by omega) (by omega)).trans (z 3 (by omega)).symm, (S _ _ (by omega) (by omega)).trans (z 4 (by omega)).symm, (S _ _ (by omega) (by omega)).trans (z 6 (by omega)).symm, (S _ _ (by omega) (by omega)).trans (z 7 (by omega)).symm, (S _ _ (by omega) (by omega)).trans (z 8 (by omega)).symm⟩
  · exact (S _ _ (by omega) (by omega)).trans (z 1 (by omega)).symm
  · exact (S _ _ (by omega) (by omega)).trans (z 2 (by omega)).symm
  · exact S _ _ (by omega) (by omega)
  · exact S _ _ (by omega) (by omega)
  · exact (S _ _ (by omega) (by omega)).trans (z 5 (by omega)).symm
  · exact (S _ _ (by omega) (by omega)).trans (by rw [z 5 (by omega)]; decide +kernel)
  · exact (S _ _ (by omega) (by omega)).trans (z (17 + h) (by omega)).symm
theorem lw_RA {z s0 s1 : Nat} {w : bW} : RA (lw_w z s0 s1 w) lw_s lw_A0 := by
  have o : ∀ v i, v ≠ 16 → v ≠ 17 → v ≠ 11 → lw_n v ≠ 28 → lw_s v i = 0 := fun v i h1 h2 h3 h4 => lw_s_0 h1 h2 h3 h4
  refine ⟨⟨rfl, rfl, rfl, rfl, fun i _ => ⟨rfl, rfl⟩⟩, lw_RC (by omega), lw_RC (by omega), ⟨0, by omega, by show 0 ≤ 14; omega, o 4 0 (by omega) (by omega) (by omega) (by decide), o 4 1 (by omega) (by omega) (by omega) (by decide), fun k x q => (by cases q)⟩, o 719 1 (by omega) (by omega) (by omega) (by decide), o 759 1 (by omega) (by omega) (by omega) (by decide), o 1 1 (by omega) (by omega) (by omega) (by decide), Nat.zero_le _, fun j hj => absurd hj (Nat.not_lt_zero _)⟩
