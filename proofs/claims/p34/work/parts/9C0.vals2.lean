/-! WHAT THE QUERIES SAY of a state that holds what it should -/
theorem lN_T {n : Nat} (h : n < 2 ^ 63) : (lN n).toInt = (n : Int) := pk_lT h
theorem lN_subT {a b : Nat} (ha : a < 2 ^ 31) (hb : b < 2 ^ 31) : (lN a - lN b).toInt = (a : Int) - b := by
  rw [Int64.toInt_sub, pk_lT (by omega), pk_lT (by omega)]
  exact Int.bmod_eq_of_le (by omega) (by omega)
theorem nI_subT {a b : Nat} (ha : a < 2 ^ 30) (hb : b < 2 ^ 30) : (nI a - nI b).toInt = (a : Int) - b := pk_sub_toInt ha hb
section VAL
variable {k s j f : Nat} {a : aS} {n : nT}
theorem GB.B (h : GB k a) (hk : k < 1000) : bK k < 2 ^ 30 := by unfold bK; omega
theorem GB.kn (h : GB k a) : KN (bK k) a.1 := h.2.1.1
theorem GB.T (h : GB k a) (hk : k < 1000) : a.1.1 0 = nI (cl (a.1.1 0)) ∧ cl (a.1.1 0) ≤ 41100 := ⟨h.WF.1.1, by have := h.WF.1.2.1; omega⟩
theorem v_ab_2 (h : GB k a) (hk : k < 1000) : v_about (nI 2) a.1 = lN (cl (a.1.1 0)) := by
  rw [v_about_i (by omega)]
  show (a.1.1 0).toInt64 = _
  rw [(h.T hk).1]
  rw [cl_nI (by have := (h.T hk).2; omega)]
  exact nI_l (by have := (h.T hk).2; omega)
theorem v_ab_x {x : Int32} (hx : isN x) (hc : cl x < 2 ^ 31) : x.toInt64 = lN (cl x) := by
  have : (nI (cl x)).toInt64 = lN (cl x) := nI_l hc
  rw [← hx] at this
  exact this
theorem v_ab_3 (h : GB k a) (hk : k < 1000) : v_about (nI 3) a.1 = lN (cl (a.1.1 3)) := by
  rw [v_about_i (by omega)]
  exact v_ab_x (x := a.1.1 3) h.kn.2.2.1.1 (by have := h.kn.2.2.2.1.1; have := h.B hk; omega)
theorem v_ab_4 (h : GB k a) (hk : k < 1000) : v_about (nI 4) a.1 = lN (cl (a.1.1 4)) := by
  rw [v_about_i (by omega)]
  exact v_ab_x (x := a.1.1 4) h.kn.2.2.1.2.1 (by have := h.kn.2.2.2.1.2.2; have := h.B hk; omega)
theorem GB.gp (h : GB k a) (hk : k < 1000) : isN (a.1.1 5) ∧ cl (a.1.1 5) ≤ 300000 ∧ a.1.2.2.2.length = min (cl (a.1.1 5)) 12 := by
  obtain ⟨q1, q2, q3, -⟩ := h.WF.2.2.2.2
  have := (h.T hk).2
  exact ⟨q1, by omega, q3⟩
theorem v_ab_5 (h : GB k a) (hk : k < 1000) : v_about (nI 5) a.1 = lN (cl (a.1.1 5)) := by
  rw [v_about_i (by omega)]
  exact v_ab_x (x := a.1.1 5) (h.gp hk).1 (by have := (h.gp hk).2.1; omega)
theorem v_ab_6 (h : GB k a) (hk : k < 1000) : v_about (nI 6) a.1 = lN (cl (a.1.1 6)) := by
  rw [v_about_i (by omega)]
  exact v_ab_x (x := a.1.1 6) h.kn.2.2.1.2.2.1 (by have := h.kn.2.2.2.1.2.2; have := h.kn.2.2.2.2.1.2.2.2; have := h.B hk; omega)
theorem GB.su79 (h : GB k a) (hk : k < 1000) : cl (a.1.1 7) < 2 ^ 30 ∧ cl (a.1.1 8) < 2 ^ 30 ∧ cl (a.1.1 6) < 2 ^ 30 ∧ su a.1.1 79 4 (cl (a.1.1 2)) < 2 ^ 30 ∧ cl (a.1.1 4) < 2 ^ 30 := by
  have h1 := h.kn.2.2.2.1.2.2
  obtain ⟨-, -, h2, h3⟩ := h.kn.2.2.2.2.1
  have := h.B hk
  omega
theorem v_ab_7 (h : GB k a) (hk : k < 1000) : v_about (nI 7) a.1 = lN (cl (a.1.1 7)) := by
  rw [v_about_i (by omega)]
  exact v_ab_x (x := a.1.1 7) h.kn.2.2.1.2.2.2.1 (by have := (h.su79 hk).1; omega)
theorem v_ab_8 (h : GB k a) (hk : k < 1000) : v_about (nI 8) a.1 = lN (cl (a.1.1 8)) := by
  rw [v_about_i (by omega)]
  exact v_ab_x (x := a.1.1 8) h.kn.2.2.1.2.2.2.2 (by have := (h.su79 hk).2.1; omega)
theorem GB.len (h : GB k a) : a.1.2.2.1.length ≤ 150 := WFb_len h.WF.2.2.2.1 (by omega)
theorem v_ab_9 (h : GB k a) : v_about (nI 9) a.1 = lN a.1.2.2.1.length := by
  rw [v_about_i (by omega)]
  exact nI_l (by have := h.len; omega)
theorem v_ab_10 (h : GB k a) : v_about (nI 10) a.1 = lN a.1.2.1.length := by
  rw [v_about_i (by omega)]
  exact nI_l (by have := h.WF.2.2.1.1; omega)
theorem n_all_tot {B : Nat} (h : KN B n) (hB : B < 2 ^ 30) : ∀ k, k ≤ cl (n.1 1) → n_all n.1 k = nI (tot n.1 k)
  | 0, _ => rfl
  | k + 1, hk => by
    rw [n_all, tot, n_all_tot h hB k (by omega), (h.st hB (show k < cl (n.1 1) by omega)).2.1, nI_add]
theorem v_ab_11 (h : GB k a) (hk : k < 1000) : v_about (nI 11) a.1 = lN (tot a.1.1 (cl (a.1.1 1))) := by
  rw [v_about_i (by omega)]
  show (n_all a.1.1 (cl (a.1.1 1))).toInt64 = _
  rw [n_all_tot h.kn (h.B hk) _ (Nat.le_refl _)]
  exact nI_l (by have := h.kn.2.2.2.1.2.1; have := h.B hk; omega)
theorem GB.vS (h : GB k a) (hs : s < cl (a.1.1 1)) : vS a.1.1 (nI s) := vS_ok h.WF.1.2.2.1 h.WF.1.2.2.2.1 hs
theorem GB.vF (h : GB k a) (hs : s < cl (a.1.1 2)) : vF a.1.1 (nI s) := vF_ok h.WF.1.2.2.2.2.1 h.WF.1.2.2.2.2.2.1 hs
theorem v_st_i (h : GB k a) (hs : s < cl (a.1.1 1)) (hj : j ≤ 7) : v_station (nI s) (nI j) a.1 = (n_st a.1 s j).toInt64 := by
  have h5 := h.WF.1.2.2.2.1
  unfold v_station
  have hb : ∀ j, j < 8 → bt2 (nI 0) (nI j) (nI 7) := by decide
  rw [if_pos (h.vS hs), if_pos (hb j (by omega)), cl_nI (by omega), cl_nI (by omega)]
theorem st_facts (h : GB k a) (hk : k < 1000) (hs : s < cl (a.1.1 1)) : ∃ p z hh g, p ≤ 99 ∧ 1 ≤ z ∧ z ≤ 5 ∧ hh ≤ 15 ∧ g < 2 ^ 30 ∧ a.1.1 (21 + 11 * s) = nI p ∧ a.1.1 (22 + 11 * s) = nI hh ∧ a.1.1 (23 + 11 * s) = nI z ∧ a.1.1 (24 + 11 * s) = nI g ∧
    v_station (nI s) (nI 0) a.1 = lN p ∧ v_station (nI s) (nI 1) a.1 = lN hh ∧ v_station (nI s) (nI 2) a.1 = lN z ∧ v_station (nI s) (nI 3) a.1 = lN g := by
  obtain ⟨⟨p, hp, ep⟩, z, hz1, hz2, ez⟩ := h.WF.1.2.2.2.2.2.2.1 s hs
  obtain ⟨hh, hh15, eh⟩ := (h.kn.1 s hs).1
  obtain ⟨g, hg, eg⟩ := h.WF.2.1 s hs
  refine ⟨p, z, hh, g, hp, hz1, hz2, hh15, by omega, ep, eh, ez, eg, ?_, ?_, ?_, ?_⟩
  · rw [v_st_i h hs (by omega)]; show (a.1.1 (21 + 11 * s + 0)).toInt64 = _; rw [Nat.add_zero, ep]; exact nI_l (by omega)
  · rw [v_st_i h hs (by omega)]; show (a.1.1 (21 + 11 * s + 1)).toInt64 = _; rw [ix21_1, eh]; exact nI_l (by omega)
  · rw [v_st_i h hs (by omega)]; show (a.1.1 (21 + 11 * s + 2)).toInt64 = _; rw [ix21_2, ez]; exact nI_l (by omega)
  · rw [v_st_i h hs (by omega)]; show (a.1.1 (21 + 11 * s + 3)).toInt64 = _; rw [ix21_3, eg]; exact nI_l (by omega)
theorem v_st_4 (h : GB k a) (hk : k < 1000) (hs : s < cl (a.1.1 1)) : v_station (nI s) (nI 4) a.1 = lN (su a.1.1 (25 + 11 * s) 1 5) ∧ su a.1.1 (25 + 11 * s) 1 5 < 2 ^ 30 := by
  obtain ⟨-, h2, h3⟩ := h.kn.st (h.B hk) hs
  have := h.B hk
  refine ⟨?_, by omega⟩
  rw [v_st_i h hs (by omega)]
  show (n_sondes a.1.1 s).toInt64 = _
  rw [h2]; exact nI_l (by omega)
theorem v_st_5 (h : GB k a) (hk : k < 1000) (hs : s < cl (a.1.1 1)) : v_station (nI s) (nI 5) a.1 = lN (cl (a.1.1 (30 + 11 * s))) := by
  have h1 := su_le (f := a.1.1) (b := 30) (d := 11) _ hs
  have h2 := h.kn.2.2.2.2.1.1
  have h3 := (h.su79 hk).2.2.2.2
  rw [v_st_i h hs (by omega)]
  show (a.1.1 (25 + 11 * s + 5)).toInt64 = _
  rw [show 25 + 11 * s + 5 = 30 + 11 * s by omega]
  exact v_ab_x (h.kn.1 s hs).2.2.1 (by omega)
theorem v_st_6 (h : GB k a) (hk : k < 1000) (hs : s < cl (a.1.1 1)) : v_station (nI s) (nI 6) a.1 = lN (cl (a.1.1 (31 + 11 * s))) := by
  have h1 := su_le (f := a.1.1) (b := 31) (d := 11) _ hs
  have h2 := h.kn.2.2.2.2.1.2.1
  have h3 := (h.gp hk).2.1
  rw [v_st_i h hs (by omega)]
  show (a.1.1 (25 + 11 * s + 6)).toInt64 = _
  rw [show 25 + 11 * s + 6 = 31 + 11 * s by omega]
  exact v_ab_x (h.kn.1 s hs).2.2.2 (by omega)
theorem v_st_7 (h : GB k a) (hs : s < cl (a.1.1 1)) : v_station (nI s) (nI 7) a.1 = lN (n_deed (n_arr a.1).1 s) := by
  rw [v_st_i h hs (by omega)]
  exact nI_l (by have := n_deed_lt (f := (n_arr a.1).1) (s := s); omega)
theorem v_stk (h : GB k a) (hk : k < 1000) (hs : s < cl (a.1.1 1)) (hj : j ≤ 4) : v_stock (nI s) (nI j) a.1 = lN (cl (a.1.1 (25 + 11 * s + j))) ∧ cl (a.1.1 (25 + 11 * s + j)) < 2 ^ 30 := by
  have h5 := h.WF.1.2.2.2.1
  obtain ⟨h1, -, -⟩ := h.kn.st (h.B hk) hs
  have := h.B hk
  have := (h1 j hj).2
  refine ⟨?_, by omega⟩
  unfold v_stock
  have hb : ∀ j, j < 5 → bt2 (nI 0) (nI j) (nI 4) := by decide
  rw [if_pos (h.vS hs), if_pos (hb j (by omega)), cl_nI (by omega), cl_nI (by omega)]
  exact v_ab_x (h1 j hj).1 (by omega)
theorem v_wnd (h : GB k a) (hj : j < 4) : ∃ v, v ≤ 40 ∧ a.1.1 (17 + j) = nI v - nI 20 ∧ v_windOf (nI j) a.1 = lN (80 + v) := by
  obtain ⟨v, hv, e⟩ := h.kn.2.2.2.2.2.1 j hj
  refine ⟨v, hv, e, ?_⟩
  unfold v_windOf
  have hb : ∀ j, j < 4 → bt2 (nI 0) (nI j) (nI 3) := by decide
  rw [if_pos (hb j hj), cl_nI (by omega), e, show nI 100 + (nI v - nI 20) = nI (80 + v) by rw [← nI_add, show (nI 80 : Int32) = nI 100 - nI 20 by decide]; simp only [Int32.sub_eq_add_neg]; ac_rfl]
  exact nI_l (by omega)
theorem v_set_i (h : GB k a) (hj : j ≤ 4) : v_setting (nI j) a.1 = (a.1.1 (12 + j)).toInt64 := by
  unfold v_setting
  have hb : ∀ j, j < 5 → bt2 (nI 0) (nI j) (nI 4) := by decide
  rw [if_pos (hb j (by omega)), cl_nI (by omega)]
theorem v_lnd (h : GB k a) (hs : s < cl (a.1.1 1)) (hj : j < 4) : v_landing (nI s) (nI j) a.1 = (n_land a.1.1 s j).toInt64 := by
  have h5 := h.WF.1.2.2.2.1
  unfold v_landing
  have hb : ∀ j, j < 4 → bt2 (nI 0) (nI j) (nI 3) := by decide
  rw [if_pos (h.vS hs), if_pos (hb j hj), cl_nI (by omega), cl_nI (by omega)]
/-- the place of a landing, as the law counts it -/
theorem land_eq (h : GB k a) (hk : k < 1000) (hs : s < cl (a.1.1 1)) (hj : j < 4) {p z v : Nat} (hp : p ≤ 99) (hz : z ≤ 5) (hv : v ≤ 40) (ep : a.1.1 (21 + 11 * s) = nI p) (ez : a.1.1 (23 + 11 * s) = nI z) (ev : a.1.1 (17 + j) = nI v - nI 20) :
    v_landing (nI s) (nI j) a.1 = (if lN 0 ≤ lN p + (lN (80 + v) - lN 100) * lN z ∧ lN p + (lN (80 + v) - lN 100) * lN z ≤ lN 99 then lN p + (lN (80 + v) - lN 100) * lN z else -1) := by
  have hm : v * z ≤ 40 * 5 := Nat.mul_le_mul hv hz
  have e64 : lN p + (lN (80 + v) - lN 100) * lN z = lN (p + v * z) - lN (20 * z) := by
    rw [← lN_add 80 v, ← lN_add p (v * z), ← lN_mul, ← lN_mul]
    have e : lN 80 + lN v - lN 100 = lN v - lN 20 := by
      rw [show (lN 100 : Int64) = lN 80 + lN 20 by decide]
      simp only [Int64.sub_eq_add_neg, Int64.neg_add]
      rw [show lN 80 + lN v + (-lN 80 + -lN 20) = lN v + -lN 20 + (lN 80 + -lN 80) by ac_rfl, Int64.add_right_neg, Int64.add_zero]
    rw [e, Int64.sub_mul]
    simp only [Int64.sub_eq_add_neg]
    ac_rfl
  have e32 : n_pl a.1.1 s j = nI (p + v * z) - nI (20 * z) := by
    unfold n_pl
    rw [ep, ez, ev, ← nI_add, ← pk_mul, ← pk_mul, Int32.sub_mul]
    simp only [Int32.sub_eq_add_neg]
    ac_rfl
  rw [v_lnd h hs hj, e64]
  unfold n_land
  rw [e32]
  have t32 := nI_subT (a := p + v * z) (b := 20 * z) (by omega) (by omega)
  have t64 := lN_subT (a := p + v * z) (b := 20 * z) (by omega) (by omega)
  have c0 : (0 ≤ nI (p + v * z) - nI (20 * z)) = (lN 0 ≤ lN (p + v * z) - lN (20 * z)) := by
    rw [Int32.le_iff_toInt_le, Int64.le_iff_toInt_le, t32, t64]; rfl
  have c1 : (nI (p + v * z) - nI (20 * z) ≤ nI 99) = (lN (p + v * z) - lN (20 * z) ≤ lN 99) := by
    rw [Int32.le_iff_toInt_le, Int64.le_iff_toInt_le, t32, t64]; rfl
  simp only [c0, c1]
  split
  · apply Int64.toInt_inj.mp
    rw [Int32.toInt_toInt64, t32, t64]
  · rfl
theorem hb_eq : ∀ h, h < 16 → ∀ t, t < 4 → (((nI h >>> (nI t &&& 31)) &&& nI 1 = 0) ↔ ((lN h >>> ((nI t).toInt64 &&& 63)) &&& lN 1 = lN 0)) := by decide +kernel
theorem deed_0 {f : nF} : n_deed f s = 0 ↔ n_hb f s (cl (f 0) % 4) = 0 := by
  unfold n_deed
  by_cases h : n_hb f s (cl (f 0) % 4) = 0
  · rw [if_pos h]; exact ⟨fun _ => h, fun _ => rfl⟩
  · rw [if_neg h]
    refine ⟨fun q => ?_, fun q => absurd q h⟩
    split at q
    · omega
    · split at q <;> omega
theorem hours_eq (h : GB k a) (hk : k < 1000) (hs : s < cl (a.1.1 1)) {hh : Nat} (h15 : hh ≤ 15) (eh : a.1.1 (22 + 11 * s) = nI hh) : (lN (n_deed (n_arr a.1).1 s) = lN 0) = ((lN hh >>> ((nI (cl (a.1.1 0) % 4)).toInt64 &&& 63)) &&& lN 1 = lN 0) := by
  have h5 := h.WF.1.2.2.2.1
  have e0 : (n_arr a.1).1 0 = a.1.1 0 := n_arr_i h.WF (Or.inl (by omega))
  have e22 : (n_arr a.1).1 (22 + 11 * s) = a.1.1 (22 + 11 * s) := n_arr_i h.WF (Or.inr (Or.inr ⟨s, by omega, Or.inr (Or.inl rfl)⟩))
  have hd := n_deed_lt (f := (n_arr a.1).1) (s := s)
  have q := hb_eq hh (by omega) (cl (a.1.1 0) % 4) (by omega)
  rw [pk_lEQ (by omega) (by omega)]
  refine propext ⟨fun e => q.mp ?_, fun e => deed_0.mpr ?_⟩
  · have := deed_0.mp e
    rw [e0] at this
    unfold n_hb at this
    rw [e22, eh] at this
    exact this
  · rw [e0]
    unfold n_hb
    rw [e22, eh]
    exact q.mpr e
/-! finders -/
theorem fi_facts (h : GB k a) (hf : f < cl (a.1.1 2)) : ∃ p, p ≤ 99 ∧ a.1.1 (76 + 4 * f) = nI p ∧ v_finder (nI f) (nI 0) a.1 = lN p ∧ v_finder (nI f) (nI 4) a.1 = (oI (n_near a.1.1 (nI p) (cl (a.1.1 1)))).toInt64 := by
  have h6 := h.WF.1.2.2.2.2.2.1
  obtain ⟨⟨p, hp, ep⟩, -⟩ := h.WF.1.2.2.2.2.2.2.2.1 f hf
  refine ⟨p, hp, ep, ?_, ?_⟩
  · unfold v_finder
    rw [if_pos (h.vF hf), if_pos (by decide), cl_nI (by omega), cl_nI (by omega), if_neg (by omega), Nat.add_zero, ep]
    exact nI_l (by omega)
  · unfold v_finder
    rw [if_pos (h.vF hf), if_pos (by decide), cl_nI (by omega), cl_nI (by omega), if_pos rfl, ep]
theorem v_fi_3 (h : GB k a) (hk : k < 1000) (hf : f < cl (a.1.1 2)) : v_finder (nI f) (nI 3) a.1 = lN (cl (a.1.1 (79 + 4 * f))) := by
  have h6 := h.WF.1.2.2.2.2.2.1
  have h1 := su_le (f := a.1.1) (b := 79) (d := 4) _ hf
  have h3 := (h.su79 hk).2.2.2.1
  unfold v_finder
  rw [if_pos (h.vF hf), if_pos (by decide), cl_nI (by omega), cl_nI (by omega), if_neg (by omega), ix76_3]
  exact v_ab_x (h.kn.2.1 f hf) (by omega)
theorem n_who_at {g : nF} {m p : Nat} (hp : p ≤ 99) (hpl : ∀ q, q < m → ∃ x, x ≤ 99 ∧ g (76 + 4 * q) = nI x) (hr : ∀ q, q < m → ∃ x, x ≤ 20 ∧ g (77 + 4 * q) = nI x) (hf : f < m) (ef : g (76 + 4 * f) = nI p) : ∀ d, f + 1 + d ≤ m → ∃ b, n_who g (nI p) (f + 1 + d) = some b ∧ b ≤ f ∧ g (76 + 4 * b) = nI p := by
  have h0 : n_apart (g (76 + 4 * f)) (nI p) = nI 0 := by
    rw [ef, n_apart_dst (by omega) (by omega)]; unfold dst; rw [if_neg (by omega), Nat.sub_self]
  have hz : ∀ b, b < m → ¬ n_apart (g (76 + 4 * f)) (nI p) < n_apart (g (76 + 4 * b)) (nI p) → g (76 + 4 * b) = nI p := fun b hb hn => by
    obtain ⟨x, hx, ex⟩ := hpl b hb
    rw [h0, ex, n_apart_dst (by omega) (by omega), nI_lt' (by omega) (by unfold dst; split <;> omega)] at hn
    rw [ex]
    congr 1
    unfold dst at hn
    split at hn <;> omega
  intro d
  induction d with
  | zero =>
    intro _
    show ∃ b, n_who g (nI p) (f + 1) = some b ∧ _
    rw [n_who]
    obtain ⟨r, hr20, er⟩ := hr f hf
    have hle : n_apart (g (76 + 4 * f)) (nI p) ≤ g (77 + 4 * f) := by rw [h0, er, nI_le' (by omega) (by omega)]; omega
    cases hw : n_who g (nI p) f with
    | none => dsimp only; rw [if_pos hle]; exact ⟨f, rfl, Nat.le_refl _, ef⟩
    | some b =>
      have hb := n_who_lt f b hw
      dsimp only
      by_cases q : n_apart (g (76 + 4 * f)) (nI p) < n_apart (g (76 + 4 * b)) (nI p)
      · rw [if_pos ⟨hle, q⟩]; exact ⟨f, rfl, Nat.le_refl _, ef⟩
      · rw [if_neg (fun c => q c.2)]; exact ⟨b, rfl, by omega, hz b (by omega) q⟩
  | succ d ih =>
    intro hd
    obtain ⟨b, h1, h2, h3⟩ := ih (by omega)
    refine ⟨b, ?_, h2, h3⟩
    show n_who g (nI p) (f + 1 + d + 1) = some b
    rw [n_who, h1]
    dsimp only
    obtain ⟨x, hx, ex⟩ := hpl (f + 1 + d) (by omega)
    rw [if_neg (fun c => ?_)]
    have c2 := c.2
    rw [h3, ex, n_apart_dst (by omega) (by omega), n_apart_dst (by omega) (by omega), nI_lt' (by unfold dst; split <;> omega) (by unfold dst; split <;> omega)] at c2
    unfold dst at c2
    (repeat' split at c2) <;> omega
theorem v_fds (h : GB k a) (hf : f < cl (a.1.1 2)) {p : Nat} (hp : p ≤ 99) (ep : a.1.1 (76 + 4 * f) = nI p) : ∃ b, v_finds (nI p) a.1 = lN b ∧ b ≤ f ∧ a.1.1 (76 + 4 * b) = nI p := by
  have h6 := h.WF.1.2.2.2.2.2.1
  have hq := h.WF.1.2.2.2.2.2.2.2.1
  obtain ⟨b, h1, h2, h3⟩ := n_who_at (m := cl (a.1.1 2)) hp (fun q hq' => (hq q hq').1) (fun q hq' => (hq q hq').2.1) hf ep (cl (a.1.1 2) - (f + 1)) (by omega)
  rw [show f + 1 + (cl (a.1.1 2) - (f + 1)) = cl (a.1.1 2) by omega] at h1
  refine ⟨b, ?_, h2, h3⟩
  unfold v_finds
  have hb : bt2 (nI 0) (nI p) (nI 99) := ⟨nI_pos' (by omega), by rw [nI_le' (by omega) (by omega)]; exact hp⟩
  rw [if_pos hb, h1]
  exact nI_l (by omega)
/-! sondes on the way, gaps -/
theorem v_bk (h : GB k a) (hk : k < 1000) {q : Nat} (hq : q < a.1.2.2.1.length) : ∃ w s m, a.1.2.2.1[q]? = some (w, s, m) ∧ cl (a.1.1 0) ≤ w ∧ w ≤ 50000 ∧ s < cl (a.1.1 1) ∧ 1 ≤ m ∧ m ≤ 4 ∧ v_back (nI q) (nI 0) a.1 = lN w ∧ v_back (nI q) (nI 1) a.1 = lN s ∧ v_back (nI q) (nI 2) a.1 = lN m := by
  have hl := h.len
  have hT := h.T hk
  have h5 := h.WF.1.2.2.2.1
  obtain ⟨w, s, m⟩ : nB := (a.1.2.2.1[q]'hq)
  have e : a.1.2.2.1[q]? = some (a.1.2.2.1[q]'hq) := List.getElem?_eq_getElem hq
  generalize a.1.2.2.1[q]'hq = x at e
  obtain ⟨w, s, m⟩ := x
  have hm := h.WF.2.2.2.1.1 _ (List.mem_of_getElem? e)
  dsimp only at hm
  have hb : 0 ≤ nI q ∧ nI q < nI a.1.2.2.1.length := ⟨nI_pos' (by omega), by rw [nI_lt' (by omega) (by omega)]; exact hq⟩
  have V : ∀ j, j ≤ 2 → v_back (nI q) (nI j) a.1 = (if j = 0 then nI w else if j = 1 then nI s else nI m).toInt64 := fun j hj => by
    unfold v_back n_num
    have hbt : ∀ j, j < 3 → bt2 (nI 0) (nI j) (nI 2) := by decide
    rw [if_pos ⟨nI_pos' (by omega), hbt j (by omega)⟩, if_pos hb, cl_nI (by omega), cl_nI (by omega), List.getD_eq_getElem?_getD, e, Option.getD_some]
  refine ⟨w, s, m, e, by omega, by omega, by omega, by omega, by omega, ?_, ?_, ?_⟩
  · rw [V 0 (by omega), if_pos rfl]; exact nI_l (by omega)
  · rw [V 1 (by omega), if_neg (by omega), if_pos rfl]; exact nI_l (by omega)
  · rw [V 2 (by omega), if_neg (by omega), if_neg (by omega)]; exact nI_l (by omega)
theorem v_bk_end (h : GB k a) : v_back (nI a.1.2.2.1.length) (nI 0) a.1 = -1 := by
  have hl := h.len
  unfold v_back n_num
  rw [if_pos ⟨nI_pos' (by omega), by decide⟩, if_neg (fun q => absurd q.2 Int32.lt_irrefl)]
  decide
theorem v_gp (h : GB k a) (hk : k < 1000) : (cl (a.1.1 5) = 0 ∧ v_gap (nI 0) (nI 0) a.1 = -1) ∨ (0 < cl (a.1.1 5) ∧ ∃ w, w < cl (a.1.1 0) ∧ v_gap (nI 0) (nI 0) a.1 = lN w) := by
  obtain ⟨q1, q2, q3⟩ := h.gp hk
  have hT := (h.T hk).2
  have e : v_gap (nI 0) (nI 0) a.1 = (n_gnum a.1.2.2.2 (nI 0) 0).toInt64 := by
    unfold v_gap
    rw [if_pos (by decide), cl_nI (by omega)]
  by_cases h0 : cl (a.1.1 5) = 0
  · refine Or.inl ⟨h0, ?_⟩
    rw [e]
    unfold n_gnum
    rw [if_neg (by rw [q3, h0, nI_lt' (by omega) (by omega)]; omega)]
    decide
  · refine Or.inr ⟨by omega, ?_⟩
    have hl : 0 < a.1.2.2.2.length := by rw [q3]; omega
    have hg : a.1.2.2.2[a.1.2.2.2.length - 1]? = some (a.1.2.2.2[a.1.2.2.2.length - 1]'(by omega)) := List.getElem?_eq_getElem _
    generalize (a.1.2.2.2[a.1.2.2.2.length - 1]'(by omega)) = x at hg
    have hw := h.2.1.2 x (List.mem_of_getElem? hg)
    refine ⟨x.1, hw, ?_⟩
    rw [e]
    unfold n_gnum
    rw [if_pos (by rw [nI_lt' (by omega) (by omega)]; exact hl), if_pos rfl, cl_nI (by omega), Nat.sub_zero, List.getD_eq_getElem?_getD, hg, Option.getD_some]
    exact nI_l (by omega)
end VAL
