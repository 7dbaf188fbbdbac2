/-! SUMS: releases, gaps, sondes, finds -/
def isN (x : Int32) : Prop := x = nI (cl x)
theorem isN_nI {k : Nat} (h : k < 2 ^ 31) : isN (nI k) := by unfold isN; rw [cl_nI h]
theorem isN_add {x : Int32} {k : Nat} (h : isN x) (hk : cl x + k < 2 ^ 31) : isN (x + nI k) ∧ cl (x + nI k) = cl x + k := by
  have e : x + nI k = nI (cl x + k) := by rw [← nI_add, ← h]
  rw [e, cl_nI hk]
  exact ⟨isN_nI hk, rfl⟩
theorem isN_add1 {x : Int32} (h : isN x) (hk : cl x + 1 < 2 ^ 31) : isN (x + 1) ∧ cl (x + 1) = cl x + 1 := isN_add (k := 1) h hk
theorem isN_sub1 {x : Int32} (h : isN x) (h0 : 0 < cl x) (hk : cl x < 2 ^ 31) : isN (x - 1) ∧ cl (x - 1) + 1 = cl x := by
  have e : x - 1 = nI (cl x - 1) := by
    rw [h, cl_nI hk]
    show nI (cl x) - nI 1 = _
    rw [pk_sub h0]
  rw [e, cl_nI (by omega)]
  exact ⟨isN_nI (by omega), by omega⟩
theorem cl_pos {x : Int32} (h : isN x) (hk : cl x < 2 ^ 31) (h0 : 0 < x) : 0 < cl x := by
  have h1 : (nI 0) < nI (cl x) := by rw [← h]; exact h0
  rw [nI_lt' (by decide) hk] at h1
  exact h1
def su (f : nF) (b d : Nat) : Nat → Nat
  | 0 => 0
  | k + 1 => su f b d k + cl (f (b + d * k))
theorem su_of {f g : nF} {b d : Nat} : ∀ k, (∀ s, s < k → g (b + d * s) = f (b + d * s)) → su g b d k = su f b d k
  | 0, _ => rfl
  | k + 1, e => by rw [su, su, su_of k (fun s hs => e s (by omega)), e k (by omega)]
theorem su_up {f g : nF} {b d j : Nat} : ∀ k, j < k → (∀ s, s < k → s ≠ j → g (b + d * s) = f (b + d * s)) → su g b d k + cl (f (b + d * j)) = su f b d k + cl (g (b + d * j))
  | 0, hj, _ => absurd hj (Nat.not_lt_zero _)
  | k + 1, hj, e => by
    rw [su, su]
    by_cases h : j = k
    · subst h; rw [su_of j (fun s hs => e s (by omega) (by omega))]; omega
    · have := su_up k (by omega) (fun s hs h2 => e s (by omega) h2)
      rw [e k (by omega) (by omega)]
      omega
theorem su_le {f : nF} {b d j : Nat} : ∀ k, j < k → cl (f (b + d * j)) ≤ su f b d k
  | 0, hj => absurd hj (Nat.not_lt_zero _)
  | k + 1, hj => by
    rw [su]
    by_cases h : j = k
    · subst h; omega
    · have := su_le (f := f) (b := b) (d := d) k (show j < k by omega); omega
/-- all sondes at the first k stations -/
def tot (f : nF) : Nat → Nat
  | 0 => 0
  | k + 1 => tot f k + su f (25 + 11 * k) 1 5
theorem tot_of {f g : nF} : ∀ k, (∀ s, s < k → ∀ j, j ≤ 4 → g (25 + 11 * s + j) = f (25 + 11 * s + j)) → tot g k = tot f k
  | 0, _ => rfl
  | k + 1, e => by
    rw [tot, tot, tot_of k (fun s hs => e s (by omega)), su_of (f := f) (g := g) 5 (fun j hj => by rw [Nat.one_mul]; exact e k (by omega) j (by omega))]
theorem tot_up {f g : nF} {s m : Nat} (hm : m ≤ 4) : ∀ k, s < k → (∀ t, t < k → ∀ j, j ≤ 4 → ¬ (t = s ∧ j = m) → g (25 + 11 * t + j) = f (25 + 11 * t + j)) → tot g k + cl (f (25 + 11 * s + m)) = tot f k + cl (g (25 + 11 * s + m))
  | 0, hj, _ => absurd hj (Nat.not_lt_zero _)
  | k + 1, hj, e => by
    rw [tot, tot]
    by_cases h : s = k
    · subst h
      rw [tot_of s (fun t ht j hj => e t (by omega) j hj (by omega))]
      have := su_up (f := f) (g := g) (b := 25 + 11 * s) (d := 1) (j := m) 5 (by omega) (fun j hj h2 => by rw [Nat.one_mul]; exact e s (by omega) j (by omega) (by omega))
      rw [Nat.one_mul] at this
      omega
    · have := tot_up hm k (by omega) (fun t ht j hj h2 => e t (by omega) j hj h2)
      rw [su_of (f := f) (g := g) 5 (fun j hj => by rw [Nat.one_mul]; exact e k (by omega) j (by omega) (by omega))]
      omega
theorem tot_le {f : nF} {s m : Nat} (hm : m ≤ 4) : ∀ k, s < k → cl (f (25 + 11 * s + m)) ≤ tot f k
  | 0, hj => absurd hj (Nat.not_lt_zero _)
  | k + 1, hj => by
    rw [tot]
    by_cases h : s = k
    · subst h
      have := su_le (f := f) (b := 25 + 11 * s) (d := 1) (j := m) 5 (by omega)
      rw [Nat.one_mul] at this
      omega
    · have := tot_le (f := f) hm k (show s < k by omega); omega
/-- what adds up: L sondes on the way, e released and neither found nor lost, d found and not yet put anywhere -/
def KNf (B : Nat) (f : nF) (L e d : Nat) : Prop :=
  (∀ s, s < cl (f 1) → (∃ h, h ≤ 15 ∧ f (22 + 11 * s) = nI h) ∧ (∀ j, j ≤ 4 → isN (f (25 + 11 * s + j))) ∧ isN (f (30 + 11 * s)) ∧ isN (f (31 + 11 * s))) ∧
  (∀ k, k < cl (f 2) → isN (f (79 + 4 * k))) ∧
  (isN (f 3) ∧ isN (f 4) ∧ isN (f 6) ∧ isN (f 7) ∧ isN (f 8)) ∧
  (cl (f 3) ≤ B ∧ tot f (cl (f 1)) ≤ B ∧ cl (f 4) ≤ B) ∧
  (su f 30 11 (cl (f 1)) = cl (f 4) ∧ su f 31 11 (cl (f 1)) = cl (f 5) ∧ su f 79 4 (cl (f 2)) = cl (f 7) + cl (f 8) + L + d ∧ cl (f 4) = su f 79 4 (cl (f 2)) + cl (f 6) + e) ∧
  (∀ h, h < 4 → ∃ v, v ≤ 40 ∧ f (17 + h) = nI v - nI 20) ∧ (∃ p, p ≤ 99 ∧ f 14 = nI p) ∧ (∃ p, p ≤ 99 ∧ f 15 = nI p) ∧ ∃ p, p ≤ 99 ∧ f 16 = nI p
theorem KNf.mono {B B' L e d : Nat} {f : nF} (h : KNf B f L e d) (hB : B ≤ B') : KNf B' f L e d := ⟨h.1, h.2.1, h.2.2.1, ⟨Nat.le_trans h.2.2.2.1.1 hB, Nat.le_trans h.2.2.2.1.2.1 hB, Nat.le_trans h.2.2.2.1.2.2 hB⟩, h.2.2.2.2⟩
theorem KN_come {B L e d t : Nat} {f : nF} {o : nO} (h : KNf B f L e d) (hB : B + 99 < 2 ^ 30) (hc : cl (f 1) ≤ 5) (ho : o.2.1 < cl (f 1)) (hk : o.2.2.2 ≤ 99) : KNf (B + 99) (n_come t f o) L e d := by
  unfold n_come
  by_cases ht : o.1 = t
  · rw [if_pos ht]
    obtain ⟨t', s, g, k⟩ := o
    dsimp only at ho hk ⊢
    obtain ⟨h1, h2, h3, ⟨h4, h5, h6⟩, ⟨h7, h8, h9, h10⟩, h11, h12, h13, h14⟩ := h
    unfold n_addO
    dsimp only
    have hst := tot_le (f := f) (m := 0) (by omega) _ ho
    rw [Nat.add_zero] at hst
    have q := isN_add (k := k) ((h1 s ho).2.1 0 (by omega)) (by rw [Nat.add_zero]; omega)
    rw [Nat.add_zero] at q
    have T := tot_up (f := f) (g := upd (upd f (24 + 11 * s) (f (24 + 11 * s) + nI g)) (25 + 11 * s) (f (25 + 11 * s) + nI k)) (s := s) (m := 0) (by omega) (cl (f 1)) ho (fun t ht j hj hn => by simp (disch := omega) only [upd_nep])
    simp (disch := omega) only [Nat.add_zero, upd_eqp] at T
    refine ⟨fun s' hs' => ?_, fun j hj => ?_, ?_, ⟨?_, ?_, ?_⟩, ⟨?_, ?_, ?_, ?_⟩, ?_⟩
    · simp (disch := omega) only [upd_nep] at hs' ⊢
      obtain ⟨r1, r2, r3, r4⟩ := h1 s' hs'
      refine ⟨r1, fun j hj => ?_, r3, r4⟩
      by_cases hq : s' = s ∧ j = 0
      · obtain ⟨rfl, rfl⟩ := hq; simp (disch := omega) only [upd_eqp]; exact q.1
      · simp (disch := omega) only [upd_nep]; exact r2 j hj
    · simp (disch := omega) only [upd_nep] at hj ⊢; exact h2 j hj
    · simp (disch := omega) only [upd_nep]; exact h3
    · simp (disch := omega) only [upd_nep]; omega
    · simp (disch := omega) only [upd_nep]; omega
    · simp (disch := omega) only [upd_nep]; omega
    · rw [su_of (f := f) _ (fun j hj => by simp (disch := omega) only [upd_nep])]; simp (disch := omega) only [upd_nep]; exact h7
    · rw [su_of (f := f) _ (fun j hj => by simp (disch := omega) only [upd_nep])]; simp (disch := omega) only [upd_nep]; exact h8
    · rw [su_of (f := f) _ (fun j hj => by simp (disch := omega) only [upd_nep])]; simp (disch := omega) only [upd_nep]; exact h9
    · rw [su_of (f := f) _ (fun j hj => by simp (disch := omega) only [upd_nep])]; simp (disch := omega) only [upd_nep]; exact h10
    · refine ⟨fun hh h4' => ?_, ?_⟩
      · simp (disch := omega) only [upd_nep]; exact h11 hh h4'
      · simp (disch := omega) only [upd_nep]; exact ⟨h12, h13, h14⟩
  · rw [if_neg ht]; exact h.mono (by omega)
