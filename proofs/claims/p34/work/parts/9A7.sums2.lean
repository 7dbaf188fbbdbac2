/-! SUMS: the other changes keep them -/
theorem KNf.eq {B B' L e d : Nat} {f g : nF} (h : KNf B f L e d) (hB : B ≤ B') (E : ∀ i, (i = 1 ∨ i = 2 ∨ (4 ≤ i ∧ i ≤ 8)) → g i = f i) (E3 : isN (g 3) ∧ cl (g 3) ≤ B') (E22 : ∀ s, s < cl (f 1) → ∃ h, h ≤ 15 ∧ g (22 + 11 * s) = nI h) (Es : ∀ s, s < cl (f 1) → (∀ j, j ≤ 4 → g (25 + 11 * s + j) = f (25 + 11 * s + j)) ∧ g (30 + 11 * s) = f (30 + 11 * s) ∧ g (31 + 11 * s) = f (31 + 11 * s)) (E79 : ∀ k, k < cl (f 2) → g (79 + 4 * k) = f (79 + 4 * k)) (Ew : ∀ h, h < 4 → ∃ v, v ≤ 40 ∧ g (17 + h) = nI v - nI 20) (E14 : (∃ p, p ≤ 99 ∧ g 14 = nI p) ∧ (∃ p, p ≤ 99 ∧ g 15 = nI p) ∧ ∃ p, p ≤ 99 ∧ g 16 = nI p) : KNf B' g L e d := by
  obtain ⟨h1, h2, ⟨i3, i4, i6, i7, i8⟩, ⟨h4, h5, h6⟩, ⟨h7, h8, h9, h10⟩, h11⟩ := h
  have T := tot_of (f := f) (g := g) (cl (f 1)) (fun t ht j hj => (Es t ht).1 j hj)
  have S30 := su_of (f := f) (g := g) (b := 30) (d := 11) (cl (f 1)) (fun t ht => (Es t ht).2.1)
  have S31 := su_of (f := f) (g := g) (b := 31) (d := 11) (cl (f 1)) (fun t ht => (Es t ht).2.2)
  have S79 := su_of (f := f) (g := g) (b := 79) (d := 4) (cl (f 2)) (fun t ht => E79 t ht)
  unfold KNf
  rw [E 1 (by omega), E 2 (by omega), E 4 (by omega), E 5 (by omega), E 6 (by omega), E 7 (by omega), E 8 (by omega), T, S30, S31, S79]
  refine ⟨fun s hs => ⟨E22 s hs, fun j hj => by rw [(Es s hs).1 j hj]; exact (h1 s hs).2.1 j hj, by rw [(Es s hs).2.1]; exact (h1 s hs).2.2.1, by rw [(Es s hs).2.2]; exact (h1 s hs).2.2.2⟩, fun k hk => by rw [E79 k hk]; exact h2 k hk, ⟨E3.1, i4, i6, i7, i8⟩, ⟨E3.2, by omega, by omega⟩, ⟨h7, h8, h9, h10⟩, Ew, E14⟩
theorem wind_40 {v : Int32} (h : bt2 (-20) v (nI 20)) : ∃ x, x ≤ 40 ∧ v = nI x - nI 20 := by
  have h1 := Int32.le_iff_toInt_le.mp h.1
  have h2 := Int32.le_iff_toInt_le.mp h.2
  have e1 : (-20 : Int32).toInt = -20 := by decide
  rw [e1] at h1
  rw [nI_toInt (by decide)] at h2
  have hd : ∀ k : Nat, k ≤ 40 → Int32.ofInt ((k : Int) - 20) = nI k - nI 20 := by
    intro k hk
    have hq : ∀ k : Nat, k < 41 → Int32.ofInt ((k : Int) - 20) = nI k - nI 20 := by decide
    exact hq k (by omega)
  refine ⟨(v.toInt + 20).toNat, by omega, ?_⟩
  rw [← hd _ (by omega), show (((v.toInt + 20).toNat : Nat) : Int) - 20 = v.toInt by omega]
  simp
theorem KN_wind {B : Nat} {n : nT} (h : KN B n) {k : Nat} {v : Int32} (hk : k < 4) (hv : bt2 (-20) v (nI 20)) : KN B (n_wind n k v) := by
  have hh := h
  obtain ⟨h1, h2, ⟨i3, -⟩, ⟨h4, -⟩, -, h11, h14⟩ := hh
  have G : ∀ i, i ≠ 17 + k → (n_wind n k v).1 i = n.1 i := fun i hi => upd_nep hi
  have h1' := h1
  refine KNf.eq h (Nat.le_refl _) (fun i hi => G i (by omega)) (by rw [G 3 (by omega)]; exact ⟨i3, h4⟩) (fun s hs => by rw [G _ (by omega)]; exact (h1 s hs).1) (fun s hs => ⟨fun j hj => G _ (by omega), G _ (by omega), G _ (by omega)⟩) (fun j hj => G _ (by omega)) (fun hh hh4 => ?_) (by rw [G 14 (by omega), G 15 (by omega), G 16 (by omega)]; exact h14)
  by_cases q : hh = k
  · subst q; obtain ⟨x, hx, e⟩ := wind_40 hv; exact ⟨x, hx, by show upd _ _ _ _ = _; rw [upd_eqp rfl]; exact e⟩
  · rw [G _ (by omega)]; exact h11 hh hh4
theorem KN_set {B : Nat} {n : nT} (h : KN B n) {i v : Int32} (hr : rT i v = 0) : KN B (n_set n (cl i) v) := by
  have hok : okT i v := by
    by_cases h1 : okT i v
    · exact h1
    · unfold rT at hr; rw [if_neg h1] at hr; omega
  obtain ⟨a, -, ha, rfl⟩ := ab_lo (by omega) (by omega) hok.1.1 hok.1.2
  have hv := hok.2
  rw [cl_nI (by omega)] at hv ⊢
  have hhi : s_hi a ≤ 99 := by unfold s_hi; (repeat' split) <;> omega
  have hlo : s_lo a ≤ 99 := by unfold s_lo; split <;> omega
  obtain ⟨p, -, hp, rfl⟩ := ab_lo (by omega) (by omega) hv.1 hv.2
  have hh := h
  obtain ⟨h1, h2, ⟨i3, -⟩, ⟨h4, -⟩, -, h11, h14, h15, h16⟩ := hh
  have G : ∀ i, i ≠ 12 + a → (n_set n a (nI p)).1 i = n.1 i := fun i hi => upd_nep hi
  have Ga : (n_set n a (nI p)).1 (12 + a) = nI p := upd_eqp rfl
  have key : ∀ b, (∃ q, q ≤ 99 ∧ n.1 b = nI q) → ∃ q, q ≤ 99 ∧ (n_set n a (nI p)).1 b = nI q := fun b hb => by
    by_cases q : b = 12 + a
    · subst q; exact ⟨p, by omega, Ga⟩
    · rw [G b q]; exact hb
  exact KNf.eq h (Nat.le_refl _) (fun i hi => G i (by omega)) (by rw [G 3 (by omega)]; exact ⟨i3, h4⟩) (fun s hs => by rw [G _ (by omega)]; exact (h1 s hs).1) (fun s hs => ⟨fun j hj => G _ (by omega), G _ (by omega), G _ (by omega)⟩) (fun j hj => G _ (by omega)) (fun hh hh4 => by rw [G _ (by omega)]; exact h11 hh hh4) ⟨key 14 h14, key 15 h15, key 16 h16⟩
theorem KN_chg {B : Nat} {n : nT} (h : KN B n) {s : Nat} {p z : Int32} (hc : cl (n.1 1) ≤ 5) (hs : s < 5) (hp : bt2 (nI 0) p (nI 15)) : KN B (n_chg n s p z) := by
  obtain ⟨P, -, hP, rfl⟩ := ab_lo (by omega) (by omega) hp.1 hp.2
  have hh := h
  obtain ⟨h1, h2, ⟨i3, -⟩, ⟨h4, -⟩, -, h11, h14⟩ := hh
  have G : ∀ i, i ≠ 22 + 11 * s → i ≠ 23 + 11 * s → (n_chg n s (nI P) z).1 i = n.1 i := fun i hi h2 => by show upd (upd _ _ _) _ _ _ = _; rw [upd_nep h2, upd_nep hi]
  have Gs : (n_chg n s (nI P) z).1 (22 + 11 * s) = nI P := by show upd (upd _ _ _) _ _ _ = _; rw [upd_nep (by omega), upd_eqp rfl]
  refine KNf.eq h (Nat.le_refl _) (fun i hi => G i (by omega) (by omega)) (by rw [G 3 (by omega) (by omega)]; exact ⟨i3, h4⟩) (fun t ht => ?_) (fun s hs => ⟨fun j hj => G _ (by omega) (by omega), G _ (by omega) (by omega), G _ (by omega) (by omega)⟩) (fun j hj => G _ (by omega) (by omega)) (fun hh hh4 => by rw [G _ (by omega) (by omega)]; exact h11 hh hh4) (by rw [G 14 (by omega) (by omega), G 15 (by omega) (by omega), G 16 (by omega) (by omega)]; exact h14)
  by_cases q : t = s
  · subst q; exact ⟨P, hP, Gs⟩
  · rw [G _ (by omega) (by omega)]; exact (h1 t ht).1
theorem n_price_nI {f : nF} {g k a b : Nat} (ha : f 14 = nI a) (hb : f 15 = nI b) : n_price f (nI g) (nI k) = nI (g * a + k * b) := by
  unfold n_price
  rw [ha, hb, pk_mul, pk_mul, nI_add]
theorem KN_ord {B : Nat} {n : nT} (h : KN B n) {s g k : Nat} (hB : B + 200000 < 2 ^ 30) (hg : g ≤ 999) (hk : k ≤ 99) : KN (B + 110000) (n_ord n s g k) := by
  have hh := h
  obtain ⟨h1, h2, ⟨i3, -⟩, ⟨h4, -⟩, -, h11, ⟨a, ha, e14⟩, ⟨b, hb, e15⟩, h16⟩ := hh
  have G : ∀ i, i ≠ 3 → (n_ord n s g k).1 i = n.1 i := fun i hi => upd_nep hi
  have m1 : g * a ≤ 999 * 99 := Nat.mul_le_mul hg ha
  have m2 : k * b ≤ 99 * 99 := Nat.mul_le_mul hk hb
  have e3 : (n_ord n s g k).1 3 = n.1 3 + nI (g * a + k * b) := by
    have e : (n_ord n s g k).1 3 = n.1 3 + n_price n.1 (nI g) (nI k) := by
      show upd n.1 3 (n.1 3 + n_price n.1 (nI g) (nI k)) 3 = _
      exact upd_eqp rfl
    rw [e, n_price_nI e14 e15]
  have q3 := isN_add (k := g * a + k * b) i3 (by omega)
  exact KNf.eq h (by omega) (fun i hi => G i (by omega)) (by rw [e3]; exact ⟨q3.1, by omega⟩) (fun s hs => by rw [G _ (by omega)]; exact (h1 s hs).1) (fun s hs => ⟨fun j hj => G _ (by omega), G _ (by omega), G _ (by omega)⟩) (fun j hj => G _ (by omega)) (fun hh hh4 => by rw [G _ (by omega)]; exact h11 hh hh4) (by rw [G 14 (by omega), G 15 (by omega), G 16 (by omega)]; exact ⟨⟨a, ha, e14⟩, ⟨b, hb, e15⟩, h16⟩)
theorem KN_mov {B : Nat} {n : nT} (h : KN B n) {s t : Nat} (hB : B + 200 < 2 ^ 30) (hc : cl (n.1 1) ≤ 5) (hs : s < cl (n.1 1)) (ht : t < cl (n.1 1)) (hst : s ≠ t) (hm : n_most n.1 s ≠ none) : KN B (n_mov n s t) := by
  obtain ⟨m, hm⟩ : ∃ m, n_most n.1 s = some m := by cases hq : n_most n.1 s with | none => exact absurd hq hm | some m => exact ⟨m, rfl⟩
  have hm4 := n_most_lt hm
  have h0 := n_most_pos hm
  show KNf B (n_mov n s t).1 n.2.2.1.length 0 0
  have e : (n_mov n s t).1 = upd (upd n.1 (25 + 11 * s + m) (n.1 (25 + 11 * s + m) - 1)) (25 + 11 * t + m) (n.1 (25 + 11 * t + m) + 1) := by unfold n_mov; rw [hm]; rfl
  obtain ⟨h1, h2, h3, ⟨h4, h5, h6⟩, ⟨h7, h8, h9, h10⟩, h11⟩ := h
  have b1 := tot_le (f := n.1) (m := m) hm4 _ hs
  have b2 := tot_le (f := n.1) (m := m) hm4 _ ht
  have n1 := (h1 s hs).2.1 m hm4
  have q1 := isN_sub1 n1 (cl_pos n1 (by omega) h0) (by omega)
  have q2 := isN_add1 ((h1 t ht).2.1 m hm4) (by omega)
  have T1 := tot_up (f := n.1) (g := upd n.1 (25 + 11 * s + m) (n.1 (25 + 11 * s + m) - 1)) (s := s) (m := m) hm4 (cl (n.1 1)) hs (fun t ht j hj hn => upd_nep (by omega))
  rw [upd_eqp rfl] at T1
  have T2 := tot_up (f := upd n.1 (25 + 11 * s + m) (n.1 (25 + 11 * s + m) - 1)) (g := (n_mov n s t).1) (s := t) (m := m) hm4 (cl (n.1 1)) ht (fun t ht j hj hn => by rw [e]; exact upd_nep (by omega))
  have et : (n_mov n s t).1 (25 + 11 * t + m) = n.1 (25 + 11 * t + m) + 1 := by rw [e]; exact upd_eqp rfl
  have es : (n_mov n s t).1 (25 + 11 * s + m) = n.1 (25 + 11 * s + m) - 1 := by rw [e, upd_nep (by omega), upd_eqp rfl]
  rw [et, upd_nep (by omega)] at T2
  have G : ∀ i, i ≠ 25 + 11 * s + m → i ≠ 25 + 11 * t + m → (n_mov n s t).1 i = n.1 i := fun i a b => by rw [e, upd_nep b, upd_nep a]
  generalize (n_mov n s t).1 = g at *
  have S30 := su_of (f := n.1) (g := g) (b := 30) (d := 11) (cl (n.1 1)) (fun t ht => G _ (by omega) (by omega))
  have S31 := su_of (f := n.1) (g := g) (b := 31) (d := 11) (cl (n.1 1)) (fun t ht => G _ (by omega) (by omega))
  have S79 := su_of (f := n.1) (g := g) (b := 79) (d := 4) (cl (n.1 2)) (fun t ht => G _ (by omega) (by omega))
  unfold KNf
  rw [G 1 (by omega) (by omega), G 2 (by omega) (by omega), G 3 (by omega) (by omega), G 4 (by omega) (by omega), G 5 (by omega) (by omega), G 6 (by omega) (by omega), G 7 (by omega) (by omega), G 8 (by omega) (by omega), S30, S31, S79, G 14 (by omega) (by omega), G 15 (by omega) (by omega), G 16 (by omega) (by omega)]
  refine ⟨fun s' hs' => ?_, fun j hj => ?_, h3, ⟨h4, by omega, h6⟩, ⟨h7, h8, h9, h10⟩, fun hh h4' => ?_, h11.2⟩
  · obtain ⟨r1, r2, r3, r4⟩ := h1 s' hs'
    refine ⟨by rw [G _ (by omega) (by omega)]; exact r1, fun j hj => ?_, by rw [G _ (by omega) (by omega)]; exact r3, by rw [G _ (by omega) (by omega)]; exact r4⟩
    by_cases hq : s' = s ∧ j = m
    · obtain ⟨rfl, rfl⟩ := hq; rw [es]; exact q1.1
    · by_cases hq2 : s' = t ∧ j = m
      · obtain ⟨rfl, rfl⟩ := hq2; rw [et]; exact q2.1
      · rw [G _ (by omega) (by omega)]; exact r2 j hj
  · rw [G _ (by omega) (by omega)]; exact h2 j hj
  · rw [G _ (by omega) (by omega)]; exact h11.1 hh h4'
theorem KN_addS {B : Nat} {n : nT} (h : KN B n) (hc : cl (n.1 1) < 5) (e1 : isN (n.1 1)) {p hh z g k : Int32} (hok : okS p hh z g k) : KN (B + 99) (n_addS n p hh z g k) := by
  obtain ⟨k1, k2, k3, k4, k5⟩ := hok
  obtain ⟨HH, -, hH, rfl⟩ := ab_lo (by omega) (by omega) k2.1 k2.2
  obtain ⟨KK, -, hK, rfl⟩ := ab_lo (by omega) (by omega) k5.1 k5.2
  have hf : ∀ i, (n_addS n p (nI HH) z g (nI KK)).1 i = if i = 1 then n.1 1 + 1 else if i = 21 + 11 * cl (n.1 1) then p else if i = 22 + 11 * cl (n.1 1) then nI HH else if i = 23 + 11 * cl (n.1 1) then z else if i = 24 + 11 * cl (n.1 1) then g else if i = 25 + 11 * cl (n.1 1) then nI KK else if 26 + 11 * cl (n.1 1) ≤ i ∧ i < 32 + 11 * cl (n.1 1) then 0 else n.1 i := fun i => rfl
  have G : ∀ i, i ≠ 1 → (i < 21 + 11 * cl (n.1 1) ∨ 32 + 11 * cl (n.1 1) ≤ i) → (n_addS n p (nI HH) z g (nI KK)).1 i = n.1 i := by
    intro i h1 h2; rw [hf]; simp (disch := omega) only [if_neg]
  have f22 : (n_addS n p (nI HH) z g (nI KK)).1 (22 + 11 * cl (n.1 1)) = nI HH := by rw [hf]; simp (disch := omega) only [if_true, if_neg, if_pos]
  have f25 : (n_addS n p (nI HH) z g (nI KK)).1 (25 + 11 * cl (n.1 1)) = nI KK := by rw [hf]; simp (disch := omega) only [if_true, if_neg, if_pos]
  have f0 : ∀ i, 26 + 11 * cl (n.1 1) ≤ i → i < 32 + 11 * cl (n.1 1) → (n_addS n p (nI HH) z g (nI KK)).1 i = 0 := fun i a b => by rw [hf]; simp (disch := omega) only [if_true, if_neg, if_pos]
  have q1 := isN_add1 e1 (by omega)
  have ec : cl ((n_addS n p (nI HH) z g (nI KK)).1 1) = cl (n.1 1) + 1 := by rw [hf, if_pos rfl]; exact q1.2
  show KNf (B + 99) (n_addS n p (nI HH) z g (nI KK)).1 n.2.2.1.length 0 0
  generalize (n_addS n p (nI HH) z g (nI KK)).1 = F at *
  obtain ⟨h1, h2, h3, ⟨h4, h5, h6⟩, ⟨h7, h8, h9, h10⟩, h11⟩ := h
  have c0 : cl (0 : Int32) = 0 := by decide
  have T := tot_of (f := n.1) (g := F) (cl (n.1 1)) (fun t ht j hj => G _ (by omega) (by omega))
  have T2 : tot F (cl (n.1 1) + 1) = tot n.1 (cl (n.1 1)) + KK := by
    rw [tot, T]
    congr 1
    show 0 + cl (F (25 + 11 * cl (n.1 1) + 1 * 0)) + cl (F (25 + 11 * cl (n.1 1) + 1 * 1)) + cl (F (25 + 11 * cl (n.1 1) + 1 * 2)) + cl (F (25 + 11 * cl (n.1 1) + 1 * 3)) + cl (F (25 + 11 * cl (n.1 1) + 1 * 4)) = KK
    rw [show 25 + 11 * cl (n.1 1) + 1 * 0 = 25 + 11 * cl (n.1 1) by omega, f25, f0 _ (by omega) (by omega), f0 _ (by omega) (by omega), f0 _ (by omega) (by omega), f0 _ (by omega) (by omega), c0, cl_nI (by omega)]
    omega
  have S30 : su F 30 11 (cl (n.1 1) + 1) = su n.1 30 11 (cl (n.1 1)) := by rw [su, su_of (f := n.1) (g := F) _ (fun t ht => G _ (by omega) (by omega)), f0 _ (by omega) (by omega), c0, Nat.add_zero]
  have S31 : su F 31 11 (cl (n.1 1) + 1) = su n.1 31 11 (cl (n.1 1)) := by rw [su, su_of (f := n.1) (g := F) _ (fun t ht => G _ (by omega) (by omega)), f0 _ (by omega) (by omega), c0, Nat.add_zero]
  have S79 : su F 79 4 (cl (n.1 2)) = su n.1 79 4 (cl (n.1 2)) := su_of _ (fun t ht => G _ (by omega) (by omega))
  have z0 : isN (0 : Int32) := isN_nI (k := 0) (by omega)
  unfold KNf
  rw [ec, G 2 (by omega) (by omega), G 3 (by omega) (by omega), G 4 (by omega) (by omega), G 5 (by omega) (by omega), G 6 (by omega) (by omega), G 7 (by omega) (by omega), G 8 (by omega) (by omega), T2, S30, S31, S79, G 14 (by omega) (by omega), G 15 (by omega) (by omega), G 16 (by omega) (by omega)]
  refine ⟨fun s' hs' => ?_, fun j hj => ?_, h3, ⟨by omega, by omega, by omega⟩, ⟨h7, h8, h9, h10⟩, fun hh h4' => ?_, h11.2⟩
  · by_cases hq : s' = cl (n.1 1)
    · subst hq
      refine ⟨⟨HH, hH, f22⟩, fun j hj => ?_, by rw [f0 _ (by omega) (by omega)]; exact z0, by rw [f0 _ (by omega) (by omega)]; exact z0⟩
      by_cases j0 : j = 0
      · subst j0; rw [Nat.add_zero, f25]; exact isN_nI (by omega)
      · rw [f0 _ (by omega) (by omega)]; exact z0
    · obtain ⟨r1, r2, r3, r4⟩ := h1 s' (by omega)
      exact ⟨by rw [G _ (by omega) (by omega)]; exact r1, fun j hj => by rw [G _ (by omega) (by omega)]; exact r2 j hj, by rw [G _ (by omega) (by omega)]; exact r3, by rw [G _ (by omega) (by omega)]; exact r4⟩
  · rw [G _ (by omega) (by omega)]; exact h2 j hj
  · rw [G _ (by omega) (by omega)]; exact h11.1 hh h4'
theorem KN_addF {B : Nat} {n : nT} (h : KN B n) (hc : cl (n.1 1) ≤ 5) (hc2 : cl (n.1 2) < 6) (e2 : isN (n.1 2)) {p r d : Int32} : KN B (n_addF n p r d) := by
  have hf : ∀ i, (n_addF n p r d).1 i = if i = 2 then n.1 2 + 1 else if i = 76 + 4 * cl (n.1 2) then p else if i = 77 + 4 * cl (n.1 2) then r else if i = 78 + 4 * cl (n.1 2) then d else if i = 79 + 4 * cl (n.1 2) then 0 else n.1 i := fun i => rfl
  have G : ∀ i, i ≠ 2 → (i < 76 + 4 * cl (n.1 2) ∨ 80 + 4 * cl (n.1 2) ≤ i) → (n_addF n p r d).1 i = n.1 i := by
    intro i h1 h2; rw [hf]; simp (disch := omega) only [if_neg]
  have f79 : (n_addF n p r d).1 (79 + 4 * cl (n.1 2)) = 0 := by rw [hf]; simp (disch := omega) only [if_true, if_neg, if_pos]
  have q2 := isN_add1 e2 (by omega)
  have ec : cl ((n_addF n p r d).1 2) = cl (n.1 2) + 1 := by rw [hf]; simp (disch := omega) only [if_true, if_pos]; exact q2.2
  show KNf B (n_addF n p r d).1 n.2.2.1.length 0 0
  generalize (n_addF n p r d).1 = F at *
  obtain ⟨h1, h2, h3, ⟨h4, h5, h6⟩, ⟨h7, h8, h9, h10⟩, h11⟩ := h
  have c0 : cl (0 : Int32) = 0 := by decide
  have z0 : isN (0 : Int32) := isN_nI (k := 0) (by omega)
  have T := tot_of (f := n.1) (g := F) (cl (n.1 1)) (fun t ht j hj => G _ (by omega) (by omega))
  have S30 := su_of (f := n.1) (g := F) (b := 30) (d := 11) (cl (n.1 1)) (fun t ht => G _ (by omega) (by omega))
  have S31 := su_of (f := n.1) (g := F) (b := 31) (d := 11) (cl (n.1 1)) (fun t ht => G _ (by omega) (by omega))
  have S79 : su F 79 4 (cl (n.1 2) + 1) = su n.1 79 4 (cl (n.1 2)) := by rw [su, su_of (f := n.1) (g := F) _ (fun t ht => G _ (by omega) (by omega)), f79, c0, Nat.add_zero]
  unfold KNf
  rw [ec, G 1 (by omega) (by omega), G 3 (by omega) (by omega), G 4 (by omega) (by omega), G 5 (by omega) (by omega), G 6 (by omega) (by omega), G 7 (by omega) (by omega), G 8 (by omega) (by omega), T, S30, S31, S79, G 14 (by omega) (by omega), G 15 (by omega) (by omega), G 16 (by omega) (by omega)]
  refine ⟨fun s' hs' => ?_, fun j hj => ?_, h3, ⟨h4, h5, h6⟩, ⟨h7, h8, h9, h10⟩, fun hh h4' => ?_, h11.2⟩
  · obtain ⟨r1, r2, r3, r4⟩ := h1 s' hs'
    exact ⟨by rw [G _ (by omega) (by omega)]; exact r1, fun j hj => by rw [G _ (by omega) (by omega)]; exact r2 j hj, by rw [G _ (by omega) (by omega)]; exact r3, by rw [G _ (by omega) (by omega)]; exact r4⟩
  · by_cases hq : j = cl (n.1 2)
    · subst hq; rw [f79]; exact z0
    · rw [G _ (by omega) (by omega)]; exact h2 j (by omega)
  · rw [G _ (by omega) (by omega)]; exact h11.1 hh h4'
theorem KN_new : KN 0 n_new := by
  have c : ∀ i, i < 12 → n_new.1 i = 0 := fun i hi => by show (if i = 12 then _ else _) = _; simp (disch := omega) only [if_neg]
  have c0 : cl (0 : Int32) = 0 := by decide
  have z0 : isN (0 : Int32) := isN_nI (k := 0) (by omega)
  show KNf 0 n_new.1 0 0 0
  unfold KNf
  rw [c 1 (by omega), c 2 (by omega), c 3 (by omega), c 4 (by omega), c 5 (by omega), c 6 (by omega), c 7 (by omega), c 8 (by omega), c0]
  refine ⟨fun s hs => absurd hs (Nat.not_lt_zero _), fun s hs => absurd hs (Nat.not_lt_zero _), ⟨z0, z0, z0, z0, z0⟩, ⟨Nat.le_refl _, Nat.le_refl _, Nat.le_refl _⟩, ⟨rfl, rfl, rfl, rfl⟩, fun h hh => ⟨20, by omega, ?_⟩, ⟨2, by omega, rfl⟩, ⟨20, by omega, rfl⟩, 5, by omega, rfl⟩
  have : n_new.1 (17 + h) = 0 := by show (if 17 + h = 12 then _ else _) = _; simp (disch := omega) only [if_neg]
  rw [this]
  decide
/-- between watches every gap is of a watch that is over -/
def GL (n : nT) : Prop := ∀ b ∈ n.2.2.2, b.1 < cl (n.1 0)
theorem GL_watch {T : Nat} {n : nT} (h : WF T n) (hT : T < 100000) : GL (n_watch n) := by
  have hA := WF_arr h hT
  have h5 : cl ((n_arr n).1 1) ≤ 5 := hA.1.2.2.2.1
  obtain ⟨g1, g2, g3⟩ := n_loop_W hA hT _ (Nat.le_refl (cl ((n_arr n).1 1)))
  intro b hb
  have hW := WF_tick g1 h5 hT
  have hb2 : b ∈ (n_loop (cl ((n_arr n).1 1)) (n_arr n)).2.2.2 := hb
  have := (g1.2.2.2.2.2.2.2 b hb2).1
  have e0 : (n_watch n).1 0 = (n_loop (cl ((n_arr n).1 1)) (n_arr n)).1 0 + 1 := by
    show upd (n_loop (cl ((n_arr n).1 1)) (n_arr n)).1 0 ((n_loop (cl ((n_arr n).1 1)) (n_arr n)).1 0 + 1) 0 = _
    exact upd_eqp rfl
  have q := isN_add1 (x := (n_loop (cl ((n_arr n).1 1)) (n_arr n)).1 0) g1.1.1 (by have := g1.1.2.1; omega)
  rw [e0, q.2]
  omega
theorem GL_run {T : Nat} {n : nT} (h : WF T n) (hg : GL n) : ∀ k, T + k < 100000 → GL (n_run k n)
  | 0, _ => hg
  | k + 1, hT => GL_watch (WF_run h k (by omega)) (by omega)
