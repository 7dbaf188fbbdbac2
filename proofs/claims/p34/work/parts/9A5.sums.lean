/-! SUMS: releases, gaps, sondes, finds -/
def isN (x : Int32) : Prop := x = nI (cl x)
theorem isN_nI {k : Nat} (h : k < 2 ^ 31) : isN (nI k) := by unfold isN; rw [cl_nI h]
theorem isN_add {x : Int32} {k : Nat} (h : isN x) (hk : cl x + k < 2 ^ 31) : isN (x + nI k) ∧ cl (x + nI k) = cl x + k := by
  have e : x + nI k = nI (cl x + k) := by rw [← nI_add, ← h]
  rw [e, cl_nI hk]
  exact ⟨isN_nI hk, rfl⟩
theorem isN_add1 {x : Int32} (h : isN x) (hk : cl x + 1 < 2 ^ 31) : isN (x + 1) ∧ cl (x + 1) = cl x + 1 := isN_add (k := 1) h hk
theorem isN_sub1 {x : Int32} (h : isN x) (h0 : 0 < cl x) (hk : cl x < 2 ^ 31) : isN (x - 1) ∧ cl (x - 1) + 1 = cl x := by
  have e : x - 1 = nI (cl x - 1) := by
    rw [h, cl_nI hk]
    show nI (cl x) - nI 1 = _
    rw [pk_sub h0]
  rw [e, cl_nI (by omega)]
  exact ⟨isN_nI (by omega), by omega⟩
theorem cl_pos {x : Int32} (h : isN x) (hk : cl x < 2 ^ 31) (h0 : 0 < x) : 0 < cl x := by
  have h1 : (nI 0) < nI (cl x) := by rw [← h]; exact h0
  rw [nI_lt' (by decide) hk] at h1
  exact h1
def su (f : nF) (b d : Nat) : Nat → Nat
  | 0 => 0
  | k + 1 => su f b d k + cl (f (b + d * k))
theorem su_of {f g : nF} {b d : Nat} : ∀ k, (∀ s, s < k → g (b + d * s) = f (b + d * s)) → su g b d k = su f b d k
  | 0, _ => rfl
  | k + 1, e => by rw [su, su, su_of k (fun s hs => e s (by omega)), e k (by omega)]
theorem su_up {f g : nF} {b d j : Nat} : ∀ k, j < k → (∀ s, s < k → s ≠ j → g (b + d * s) = f (b + d * s)) → su g b d k + cl (f (b + d * j)) = su f b d k + cl (g (b + d * j))
  | 0, hj, _ => absurd hj (Nat.not_lt_zero _)
  | k + 1, hj, e => by
    rw [su, su]
    by_cases h : j = k
    · subst h; rw [su_of j (fun s hs => e s (by omega) (by omega))]; omega
    · have := su_up k (by omega) (fun s hs h2 => e s (by omega) h2)
      rw [e k (by omega) (by omega)]
      omega
theorem su_le {f : nF} {b d j : Nat} : ∀ k, j < k → cl (f (b + d * j)) ≤ su f b d k
  | 0, hj => absurd hj (Nat.not_lt_zero _)
  | k + 1, hj => by
    rw [su]
    by_cases h : j = k
    · subst h; omega
    · have := su_le (f := f) (b := b) (d := d) k (show j < k by omega); omega
/-- all sondes at the first k stations -/
def tot (f : nF) : Nat → Nat
  | 0 => 0
  | k + 1 => tot f k + su f (25 + 11 * k) 1 5
theorem tot_of {f g : nF} : ∀ k, (∀ s, s < k → ∀ j, j ≤ 4 → g (25 + 11 * s + j) = f (25 + 11 * s + j)) → tot g k = tot f k
  | 0, _ => rfl
  | k + 1, e => by
    rw [tot, tot, tot_of k (fun s hs => e s (by omega)), su_of (f := f) (g := g) 5 (fun j hj => by rw [Nat.one_mul]; exact e k (by omega) j (by omega))]
theorem tot_up {f g : nF} {s m : Nat} (hm : m ≤ 4) : ∀ k, s < k → (∀ t, t < k → ∀ j, j ≤ 4 → ¬ (t = s ∧ j = m) → g (25 + 11 * t + j) = f (25 + 11 * t + j)) → tot g k + cl (f (25 + 11 * s + m)) = tot f k + cl (g (25 + 11 * s + m))
  | 0, hj, _ => absurd hj (Nat.not_lt_zero _)
  | k + 1, hj, e => by
    rw [tot, tot]
    by_cases h : s = k
    · subst h
      rw [tot_of s (fun t ht j hj => e t (by omega) j hj (by omega))]
      have := su_up (f := f) (g := g) (b := 25 + 11 * s) (d := 1) (j := m) 5 (by omega) (fun j hj h2 => by rw [Nat.one_mul]; exact e s (by omega) j (by omega) (by omega))
      rw [Nat.one_mul] at this
      omega
    · have := tot_up hm k (by omega) (fun t ht j hj h2 => e t (by omega) j hj h2)
      rw [su_of (f := f) (g := g) 5 (fun j hj => by rw [Nat.one_mul]; exact e k (by omega) j (by omega) (by omega))]
      omega
theorem tot_le {f : nF} {s m : Nat} (hm : m ≤ 4) : ∀ k, s < k → cl (f (25 + 11 * s + m)) ≤ tot f k
  | 0, hj => absurd hj (Nat.not_lt_zero _)
  | k + 1, hj => by
    rw [tot]
    by_cases h : s = k
    · subst h
      have := su_le (f := f) (b := 25 + 11 * s) (d := 1) (j := m) 5 (by omega)
      rw [Nat.one_mul] at this
      omega
    · have := tot_le (f := f) hm k (show s < k by omega); omega
/-- what adds up: L sondes on the way, e released and neither found nor lost, d found and not yet put anywhere -/
def KNf (B : Nat) (f : nF) (L e d : Nat) : Prop :=
  (∀ s, s < cl (f 1) → (∃ h, h ≤ 15 ∧ f (22 + 11 * s) = nI h) ∧ (∀ j, j ≤ 4 → isN (f (25 + 11 * s + j))) ∧ isN (f (30 + 11 * s)) ∧ isN (f (31 + 11 * s))) ∧
  (∀ k, k < cl (f 2) → isN (f (79 + 4 * k))) ∧
  (isN (f 3) ∧ isN (f 4) ∧ isN (f 6) ∧ isN (f 7) ∧ isN (f 8)) ∧
  (cl (f 3) ≤ B ∧ tot f (cl (f 1)) ≤ B ∧ cl (f 4) ≤ B) ∧
  (su f 30 11 (cl (f 1)) = cl (f 4) ∧ su f 31 11 (cl (f 1)) = cl (f 5) ∧ su f 79 4 (cl (f 2)) = cl (f 7) + cl (f 8) + L + d ∧ cl (f 4) = su f 79 4 (cl (f 2)) + cl (f 6) + e) ∧
  (∀ h, h < 4 → ∃ v, v ≤ 40 ∧ f (17 + h) = nI v - nI 20) ∧ (∃ p, p ≤ 99 ∧ f 14 = nI p) ∧ (∃ p, p ≤ 99 ∧ f 15 = nI p) ∧ ∃ p, p ≤ 99 ∧ f 16 = nI p
theorem KNf.mono {B B' L e d : Nat} {f : nF} (h : KNf B f L e d) (hB : B ≤ B') : KNf B' f L e d := ⟨h.1, h.2.1, h.2.2.1, ⟨Nat.le_trans h.2.2.2.1.1 hB, Nat.le_trans h.2.2.2.1.2.1 hB, Nat.le_trans h.2.2.2.1.2.2 hB⟩, h.2.2.2.2⟩
theorem KN_come {B L e d t : Nat} {f : nF} {o : nO} (h : KNf B f L e d) (hB : B + 99 < 2 ^ 30) (hc : cl (f 1) ≤ 5) (ho : o.2.1 < cl (f 1)) (hk : o.2.2.2 ≤ 99) : KNf (B + 99) (n_come t f o) L e d := by
  unfold n_come
  by_cases ht : o.1 = t
  · rw [if_pos ht]
    obtain ⟨t', s, g, k⟩ := o
    dsimp only at ho hk ⊢
    obtain ⟨h1, h2, h3, ⟨h4, h5, h6⟩, ⟨h7, h8, h9, h10⟩, h11, h12, h13, h14⟩ := h
    unfold n_addO
    dsimp only
    have hst := tot_le (f := f) (m := 0) (by omega) _ ho
    rw [Nat.add_zero] at hst
    have q := isN_add (k := k) ((h1 s ho).2.1 0 (by omega)) (by rw [Nat.add_zero]; omega)
    rw [Nat.add_zero] at q
    have T := tot_up (f := f) (g := upd (upd f (24 + 11 * s) (f (24 + 11 * s) + nI g)) (25 + 11 * s) (f (25 + 11 * s) + nI k)) (s := s) (m := 0) (by omega) (cl (f 1)) ho (fun t ht j hj hn => by simp (disch := omega) only [upd_nep])
    simp (disch := omega) only [Nat.add_zero, upd_eqp] at T
    refine ⟨fun s' hs' => ?_, fun j hj => ?_, ?_, ⟨?_, ?_, ?_⟩, ⟨?_, ?_, ?_, ?_⟩, ?_⟩
    · simp (disch := omega) only [upd_nep] at hs' ⊢
      obtain ⟨r1, r2, r3, r4⟩ := h1 s' hs'
      refine ⟨r1, fun j hj => ?_, r3, r4⟩
      by_cases hq : s' = s ∧ j = 0
      · obtain ⟨rfl, rfl⟩ := hq; simp (disch := omega) only [upd_eqp]; exact q.1
      · simp (disch := omega) only [upd_nep]; exact r2 j hj
    · simp (disch := omega) only [upd_nep] at hj ⊢; exact h2 j hj
    · simp (disch := omega) only [upd_nep]; exact h3
    · simp (disch := omega) only [upd_nep]; omega
    · simp (disch := omega) only [upd_nep]; omega
    · simp (disch := omega) only [upd_nep]; omega
    · rw [su_of (f := f) _ (fun j hj => by simp (disch := omega) only [upd_nep])]; simp (disch := omega) only [upd_nep]; exact h7
    · rw [su_of (f := f) _ (fun j hj => by simp (disch := omega) only [upd_nep])]; simp (disch := omega) only [upd_nep]; exact h8
    · rw [su_of (f := f) _ (fun j hj => by simp (disch := omega) only [upd_nep])]; simp (disch := omega) only [upd_nep]; exact h9
    · rw [su_of (f := f) _ (fun j hj => by simp (disch := omega) only [upd_nep])]; simp (disch := omega) only [upd_nep]; exact h10
    · refine ⟨fun hh h4' => ?_, ?_⟩
      · simp (disch := omega) only [upd_nep]; exact h11 hh h4'
      · simp (disch := omega) only [upd_nep]; exact ⟨h12, h13, h14⟩
  · rw [if_neg ht]; exact h.mono (by omega)
theorem KN_addB {B L e d : Nat} {f : nF} {b : nB} (h : KNf B f (L + 1) e d) (hB : B + 200 < 2 ^ 30) (hc : cl (f 1) ≤ 5) (hs : b.2.1 < cl (f 1)) (hm : b.2.2 ≤ 4) : KNf (B + 100) (n_addB f b) L e d := by
  obtain ⟨t, s, m⟩ := b
  dsimp only at hs hm
  obtain ⟨h1, h2, ⟨i3, i4, i6, i7, i8⟩, ⟨h4, h5, h6⟩, ⟨h7, h8, h9, h10⟩, h11, h12, h13, p6, hp6, e16⟩ := h
  unfold n_addB
  dsimp only
  have hst := tot_le (f := f) (m := m) hm _ hs
  have q := isN_add1 ((h1 s hs).2.1 m hm) (by omega)
  have q7 := isN_add1 i7 (by omega)
  have q3 : isN (f 3 + f 16) ∧ cl (f 3 + f 16) = cl (f 3) + p6 := by rw [e16]; exact isN_add i3 (by omega)
  have T := tot_up (f := f) (g := upd (upd (upd f (25 + 11 * s + m) (f (25 + 11 * s + m) + 1)) 7 (f 7 + 1)) 3 (f 3 + f 16)) (s := s) (m := m) hm (cl (f 1)) hs (fun t ht j hj hn => by simp (disch := omega) only [upd_nep])
  simp (disch := omega) only [upd_nep, upd_eqp] at T
  refine ⟨fun s' hs' => ?_, fun j hj => ?_, ⟨?_, ?_, ?_, ?_, ?_⟩, ⟨?_, ?_, ?_⟩, ⟨?_, ?_, ?_, ?_⟩, ?_⟩
  · simp (disch := omega) only [upd_nep] at hs' ⊢
    obtain ⟨r1, r2, r3, r4⟩ := h1 s' hs'
    refine ⟨r1, fun j hj => ?_, r3, r4⟩
    by_cases hq : s' = s ∧ j = m
    · obtain ⟨rfl, rfl⟩ := hq; simp (disch := omega) only [upd_nep, upd_eqp]; exact q.1
    · simp (disch := omega) only [upd_nep]; exact r2 j hj
  · simp (disch := omega) only [upd_nep] at hj ⊢; exact h2 j hj
  · simp (disch := omega) only [upd_nep, upd_eqp]; exact q3.1
  · simp (disch := omega) only [upd_nep]; exact i4
  · simp (disch := omega) only [upd_nep]; exact i6
  · simp (disch := omega) only [upd_nep, upd_eqp]; exact q7.1
  · simp (disch := omega) only [upd_nep]; exact i8
  · simp (disch := omega) only [upd_nep, upd_eqp]; omega
  · simp (disch := omega) only [upd_nep]; omega
  · simp (disch := omega) only [upd_nep]; omega
  · rw [su_of (f := f) _ (fun j hj => by simp (disch := omega) only [upd_nep])]; simp (disch := omega) only [upd_nep]; exact h7
  · rw [su_of (f := f) _ (fun j hj => by simp (disch := omega) only [upd_nep])]; simp (disch := omega) only [upd_nep]; exact h8
  · rw [su_of (f := f) _ (fun j hj => by simp (disch := omega) only [upd_nep])]; simp (disch := omega) only [upd_nep, upd_eqp]; omega
  · rw [su_of (f := f) _ (fun j hj => by simp (disch := omega) only [upd_nep])]; simp (disch := omega) only [upd_nep]; exact h10
  · refine ⟨fun hh h4' => ?_, ?_⟩
    · simp (disch := omega) only [upd_nep]; exact h11 hh h4'
    · simp (disch := omega) only [upd_nep]; exact ⟨h12, h13, p6, hp6, e16⟩
theorem KN_fold {t e d L : Nat} : ∀ (l : List nO) (B : Nat) (f : nF), KNf B f L e d → B + 99 * l.length + 99 < 2 ^ 30 → cl (f 1) ≤ 5 → (∀ o ∈ l, o.2.1 < cl (f 1) ∧ o.2.2.2 ≤ 99) → KNf (B + 99 * l.length) (l.foldl (n_come t) f) L e d
  | [], B, f, h, _, _, _ => h
  | o :: l, B, f, h, hB, hc, ho => by
    rw [List.length_cons] at hB
    have e1 : n_come t f o 1 = f 1 := n_come_i (by have := (ho o List.mem_cons_self).1; omega) (Or.inl (by decide))
    have q := KN_fold (t := t) l (B + 99) (n_come t f o) (KN_come h (by omega) hc (ho o List.mem_cons_self).1 (ho o List.mem_cons_self).2) (by omega) (by rw [e1]; exact hc) (fun o' h' => by rw [e1]; exact ho o' (List.mem_cons_of_mem _ h'))
    rw [List.length_cons]
    exact q.mono (by omega)
theorem KN_addBs {e d L : Nat} : ∀ (l : List nB) (B : Nat) (f : nF), KNf B f (L + l.length) e d → B + 100 * l.length + 200 < 2 ^ 30 → cl (f 1) ≤ 5 → (∀ b ∈ l, b.2.1 < cl (f 1) ∧ b.2.2 ≤ 4) → KNf (B + 100 * l.length) (n_addBs f l) L e d
  | [], B, f, h, _, _, _ => h
  | b :: l, B, f, h, hB, hc, hb => by
    rw [List.length_cons] at hB
    have e1 : n_addB f b 1 = f 1 := n_addB_1
    have q := KN_addBs l (B + 100) (n_addB f b) (KN_addB (by rw [show L + l.length + 1 = L + (b :: l).length by rw [List.length_cons]; omega]; exact h) (by omega) hc (hb b List.mem_cons_self).1 (hb b List.mem_cons_self).2) (by omega) (by rw [e1]; exact hc) (fun b' h' => by rw [e1]; exact hb b' (List.mem_cons_of_mem _ h'))
    rw [List.length_cons]
    exact q.mono (by omega)
/-- a net's numbers add up -/
def KN (B : Nat) (n : nT) : Prop := KNf B n.1 n.2.2.1.length 0 0
theorem WFb_len {f : nF} {l : List nB} {lo m : Nat} (h : WFb f l lo m) (hlo : lo ≤ 30) : l.length ≤ 5 * (30 - lo) + m := by
  have := h.2.2 lo (Nat.le_refl _) hlo
  unfold n_cnt at this
  rw [List.filter_eq_self.mpr (fun b hb => by have := (h.1 b hb).1; simpa using this)] at this
  exact this
theorem KN_arr {T B : Nat} {n : nT} (h : WF T n) (hk : KN B n) (hB : B + 17000 < 2 ^ 30) : KN (B + 16000) (n_arr n) := by
  have h5 : cl (n.1 1) ≤ 5 := h.1.2.2.2.1
  have hl := WFb_len h.2.2.2.1 (by omega)
  have hd := n_due_le (cl (n.1 0)) n.2.2.1
  rw [n_arr_eq]
  unfold KN
  dsimp only
  have e1 : (n.2.1.foldl (n_come (cl (n.1 0))) n.1) 1 = n.1 1 := n_fold_i (Or.inl (by decide)) _ _ (fun o ho => by have := (h.2.2.1.2 o ho).1; omega)
  have q1 := KN_fold (t := cl (n.1 0)) n.2.1 B n.1 hk (by have := h.2.2.1.1; omega) h5 (fun o ho => ⟨(h.2.2.1.2 o ho).1, (h.2.2.1.2 o ho).2.2.1⟩)
  have hlen : (n.2.2.1.take (n_due (cl (n.1 0)) n.2.2.1)).length = n_due (cl (n.1 0)) n.2.2.1 := by rw [List.length_take]; omega
  have q2 := KN_addBs (L := (n.2.2.1.drop (n_due (cl (n.1 0)) n.2.2.1)).length) (n.2.2.1.take (n_due (cl (n.1 0)) n.2.2.1)) (B + 99 * n.2.1.length) _ (by rw [List.length_drop, hlen, show n.2.2.1.length - n_due (cl (n.1 0)) n.2.2.1 + n_due (cl (n.1 0)) n.2.2.1 = n.2.2.1.length by omega]; exact q1) (by have := h.2.2.1.1; omega) (by rw [e1]; exact h5) (fun b hb => by have := h.2.2.2.1.1 b (List.mem_of_mem_take hb); rw [e1]; exact ⟨this.2.2.1, this.2.2.2.2⟩)
  exact q2.mono (by have := h.2.2.1.1; omega)
theorem KN_up1 {B L s m : Nat} {f : nF} (h : KNf B f L 0 0) (hB : B + 200 < 2 ^ 30) (hc : cl (f 1) ≤ 5) (hs : s < cl (f 1)) (hm : m ≤ 4) (h0 : 0 < f (25 + 11 * s + m)) : KNf (B + 1) (n_up1 f s m) L 1 0 := by
  obtain ⟨h1, h2, ⟨i3, i4, i6, i7, i8⟩, ⟨h4, h5, h6⟩, ⟨h7, h8, h9, h10⟩, h11⟩ := h
  unfold n_up1
  have hst := tot_le (f := f) (m := m) hm _ hs
  have hst9 := (h1 s hs).2.1 m hm
  have q := isN_sub1 hst9 (cl_pos hst9 (by omega) h0) (by omega)
  have q4 := isN_add1 i4 (by omega)
  have hr := su_le (f := f) (b := 30) (d := 11) _ hs
  have q30 := isN_add1 (h1 s hs).2.2.1 (by omega)
  generalize hg : upd (upd (upd (upd f (25 + 11 * s + m) (f (25 + 11 * s + m) - 1)) (24 + 11 * s) (f (24 + 11 * s) - f (23 + 11 * s))) (30 + 11 * s) (f (30 + 11 * s) + 1)) 4 (f 4 + 1) = g
  have G : ∀ i, i ≠ 25 + 11 * s + m → i ≠ 24 + 11 * s → i ≠ 30 + 11 * s → i ≠ 4 → g i = f i := fun i a b c d => by rw [← hg]; simp (disch := omega) only [upd_nep]
  have Gm : g (25 + 11 * s + m) = f (25 + 11 * s + m) - 1 := by rw [← hg]; simp (disch := omega) only [upd_nep, upd_eqp]
  have G30 : g (30 + 11 * s) = f (30 + 11 * s) + 1 := by rw [← hg]; simp (disch := omega) only [upd_nep, upd_eqp]
  have G4 : g 4 = f 4 + 1 := by rw [← hg]; simp (disch := omega) only [upd_eqp]
  have T := tot_up (f := f) (g := g) (s := s) (m := m) hm (cl (f 1)) hs (fun t ht j hj hn => G _ (by omega) (by omega) (by omega) (by omega))
  have S := su_up (f := f) (g := g) (b := 30) (d := 11) (j := s) (cl (f 1)) hs (fun t ht hn => G _ (by omega) (by omega) (by omega) (by omega))
  have S31 := su_of (f := f) (g := g) (b := 31) (d := 11) (cl (f 1)) (fun t ht => G _ (by omega) (by omega) (by omega) (by omega))
  have S79 := su_of (f := f) (g := g) (b := 79) (d := 4) (cl (f 2)) (fun t ht => G _ (by omega) (by omega) (by omega) (by omega))
  rw [Gm] at T; rw [G30] at S
  have g1 : g 1 = f 1 := G _ (by omega) (by omega) (by omega) (by omega)
  have g2 : g 2 = f 2 := G _ (by omega) (by omega) (by omega) (by omega)
  have g3 : g 3 = f 3 := G _ (by omega) (by omega) (by omega) (by omega)
  have g5 : g 5 = f 5 := G _ (by omega) (by omega) (by omega) (by omega)
  have g6 : g 6 = f 6 := G _ (by omega) (by omega) (by omega) (by omega)
  have g7 : g 7 = f 7 := G _ (by omega) (by omega) (by omega) (by omega)
  have g8 : g 8 = f 8 := G _ (by omega) (by omega) (by omega) (by omega)
  unfold KNf
  rw [g1, g2, g3, g5, g6, g7, g8, G4, S31, S79, G _ (by omega) (by omega) (by omega) (by omega), G 15 (by omega) (by omega) (by omega) (by omega), G 16 (by omega) (by omega) (by omega) (by omega)]
  refine ⟨fun s' hs' => ?_, fun j hj => ?_, ⟨i3, q4.1, i6, i7, i8⟩, ⟨by omega, by omega, by omega⟩, ⟨by omega, h8, h9, by omega⟩, fun hh h4' => ?_, h11.2⟩
  · obtain ⟨r1, r2, r3, r4⟩ := h1 s' hs'
    refine ⟨?_, fun j hj => ?_, ?_, ?_⟩
    · rw [G _ (by omega) (by omega) (by omega) (by omega)]; exact r1
    · by_cases hq : s' = s ∧ j = m
      · obtain ⟨rfl, rfl⟩ := hq; rw [Gm]; exact q.1
      · rw [G _ (by omega) (by omega) (by omega) (by omega)]; exact r2 j hj
    · by_cases hq : s' = s
      · subst hq; rw [G30]; exact q30.1
      · rw [G _ (by omega) (by omega) (by omega) (by omega)]; exact r3
    · rw [G _ (by omega) (by omega) (by omega) (by omega)]; exact r4
  · rw [G _ (by omega) (by omega) (by omega) (by omega)]; exact h2 j hj
  · rw [G _ (by omega) (by omega) (by omega) (by omega)]; exact h11.1 hh h4'
/-- a number of the net's own changes, that no sum but those speaks of -/
theorem KNf.num {B L e d L' e' d' i : Nat} {f : nF} {x : Int32} (h : KNf B f L e d) (hi : i = 6 ∨ i = 8) (hx : isN x) (hs : su f 79 4 (cl (f 2)) = cl (if i = 7 then x else f 7) + cl (if i = 8 then x else f 8) + L' + d') (hr : cl (f 4) = su f 79 4 (cl (f 2)) + cl (if i = 6 then x else f 6) + e') : KNf B (upd f i x) L' e' d' := by
  obtain ⟨h1, h2, ⟨i3, i4, i6, i7, i8⟩, ⟨h4, h5, h6⟩, ⟨h7, h8, h9, h10⟩, h11⟩ := h
  have G : ∀ j, j ≠ i → upd f i x j = f j := fun j hj => upd_nep hj
  have T := tot_of (f := f) (g := upd f i x) (cl (f 1)) (fun t ht j hj => G _ (by omega))
  have S30 := su_of (f := f) (g := upd f i x) (b := 30) (d := 11) (cl (f 1)) (fun t ht => G _ (by omega))
  have S31 := su_of (f := f) (g := upd f i x) (b := 31) (d := 11) (cl (f 1)) (fun t ht => G _ (by omega))
  have S79 := su_of (f := f) (g := upd f i x) (b := 79) (d := 4) (cl (f 2)) (fun t ht => G _ (by omega))
  unfold KNf
  rw [G 1 (by omega), G 2 (by omega), G 3 (by omega), G 4 (by omega), G 5 (by omega), T, S30, S31, S79, G 14 (by omega), G 15 (by omega), G 16 (by omega)]
  have g6 : upd f i x 6 = if i = 6 then x else f 6 := by unfold upd; by_cases q : i = 6 <;> simp [q, eq_comm]
  have g7 : upd f i x 7 = if i = 7 then x else f 7 := by unfold upd; by_cases q : i = 7 <;> simp [q, eq_comm]
  have g8 : upd f i x 8 = if i = 8 then x else f 8 := by unfold upd; by_cases q : i = 8 <;> simp [q, eq_comm]
  rw [g6, g7, g8]
  refine ⟨fun s' hs' => ?_, fun j hj => ?_, ⟨i3, i4, ?_, ?_, ?_⟩, ⟨h4, h5, h6⟩, ⟨h7, h8, hs, hr⟩, fun hh h4' => ?_, h11.2⟩
  · obtain ⟨r1, r2, r3, r4⟩ := h1 s' hs'
    exact ⟨by rw [G _ (by omega)]; exact r1, fun j hj => by rw [G _ (by omega)]; exact r2 j hj, by rw [G _ (by omega)]; exact r3, by rw [G _ (by omega)]; exact r4⟩
  · rw [G _ (by omega)]; exact h2 j hj
  · split <;> assumption
  · split <;> assumption
  · split <;> assumption
  · rw [G _ (by omega)]; exact h11.1 hh h4'
theorem KN_fnd {B L k : Nat} {f : nF} (h : KNf B f L 1 0) (hB : B + 200 < 2 ^ 30) (hk : k < cl (f 2)) (h6 : cl (f 2) ≤ 6) (hc : cl (f 1) ≤ 5) : KNf B (upd f (79 + 4 * k) (f (79 + 4 * k) + 1)) L 0 1 := by
  obtain ⟨h1, h2, ⟨i3, i4, i6, i7, i8⟩, ⟨h4, h5, h6'⟩, ⟨h7, h8, h9, h10⟩, h11⟩ := h
  have hr := su_le (f := f) (b := 79) (d := 4) _ hk
  have q := isN_add1 (h2 k hk) (by omega)
  generalize hg : upd f (79 + 4 * k) (f (79 + 4 * k) + 1) = g
  have G : ∀ i, i ≠ 79 + 4 * k → g i = f i := fun i a => by rw [← hg]; exact upd_nep a
  have Gk : g (79 + 4 * k) = f (79 + 4 * k) + 1 := by rw [← hg]; exact upd_eqp rfl
  have T := tot_of (f := f) (g := g) (cl (f 1)) (fun t ht j hj => G _ (by omega))
  have S30 := su_of (f := f) (g := g) (b := 30) (d := 11) (cl (f 1)) (fun t ht => G _ (by omega))
  have S31 := su_of (f := f) (g := g) (b := 31) (d := 11) (cl (f 1)) (fun t ht => G _ (by omega))
  have S79 := su_up (f := f) (g := g) (b := 79) (d := 4) (j := k) (cl (f 2)) hk (fun t ht hn => G _ (by omega))
  rw [Gk] at S79
  unfold KNf
  rw [G 1 (by omega), G 2 (by omega), G 3 (by omega), G 4 (by omega), G 5 (by omega), G 6 (by omega), G 7 (by omega), G 8 (by omega), T, S30, S31, G 14 (by omega), G 15 (by omega), G 16 (by omega)]
  refine ⟨fun s' hs' => ?_, fun j hj => ?_, ⟨i3, i4, i6, i7, i8⟩, ⟨h4, h5, h6'⟩, ⟨h7, h8, by omega, by omega⟩, fun hh h4' => ?_, h11.2⟩
  · obtain ⟨r1, r2, r3, r4⟩ := h1 s' hs'
    exact ⟨by rw [G _ (by omega)]; exact r1, fun j hj => by rw [G _ (by omega)]; exact r2 j hj, by rw [G _ (by omega)]; exact r3, by rw [G _ (by omega)]; exact r4⟩
  · by_cases hj9 : j = k
    · subst hj9; rw [Gk]; exact q.1
    · rw [G _ (by omega)]; exact h2 j hj
  · rw [G _ (by omega)]; exact h11.1 hh h4'
theorem n_most_pos {f : nF} {s m : Nat} (h : n_most f s = some m) : 0 < f (25 + 11 * s + m) := by
  unfold n_most at h
  split at h
  · next q => cases h; rw [show 25 + 11 * s + 4 = 29 + 11 * s by omega]; exact q
  · split at h
    · next q => cases h; rw [show 25 + 11 * s + 3 = 28 + 11 * s by omega]; exact q
    · split at h
      · next q => cases h; rw [show 25 + 11 * s + 2 = 27 + 11 * s by omega]; exact q
      · split at h
        · next q => cases h; rw [show 25 + 11 * s + 1 = 26 + 11 * s by omega]; exact q
        · split at h
          · next q => cases h; exact q
          · cases h
theorem KN_rel {B s : Nat} {n : nT} (h : KN B n) (hB : B + 300 < 2 ^ 30) (hc : cl (n.1 1) ≤ 5) (h6 : cl (n.1 2) ≤ 6) (hs : s < cl (n.1 1)) (hm : n_most n.1 s ≠ none) : KN (B + 1) (n_rel n s) := by
  obtain ⟨m, hm⟩ : ∃ m, n_most n.1 s = some m := by cases hq : n_most n.1 s with | none => exact absurd hq hm | some m => exact ⟨m, rfl⟩
  have hm4 := n_most_lt hm
  have u := KN_up1 h (by omega) hc hs hm4 (n_most_pos hm)
  unfold n_rel
  rw [hm]
  dsimp only [Option.getD_some]
  have e2 : n_up1 n.1 s m 2 = n.1 2 := n_up1_i (by omega) (by omega) (by omega) (by omega)
  have e1 : n_up1 n.1 s m 1 = n.1 1 := n_up1_i (by omega) (by omega) (by omega) (by omega)
  generalize hf : n_up1 n.1 s m = f at u e1 e2
  have uu := u
  obtain ⟨-, -, ⟨i3, i4, i6, i7, i8⟩, ⟨h4, h5, h6'⟩, ⟨-, -, h9, h10⟩, -⟩ := uu
  rcases hn : n_find f s with _ | k
  · dsimp only
    have q6 := isN_add1 i6 (by omega)
    exact KNf.num (i := 6) u (Or.inl rfl) q6.1 (by simpa using h9) (by simp only [if_true]; omega)
  · dsimp only
    have hk : k < cl (f 2) := n_find_lt hn
    have v := KN_fnd u (by omega) hk (by rw [e2]; exact h6) (by rw [e1]; exact hc)
    generalize hg : upd f (79 + 4 * k) (f (79 + 4 * k) + 1) = g at v
    have vv := v
    obtain ⟨-, -, ⟨i3, i4, i6, i7, i8⟩, ⟨h4, h5, h6'⟩, ⟨-, -, h9, h10⟩, -⟩ := vv
    split
    · have q8 := isN_add1 i8 (by omega)
      exact KNf.num (i := 8) v (Or.inr rfl) q8.1 (by simp only [if_true]; rw [if_neg (by omega)]; omega) (by rw [if_neg (by omega)]; omega)
    · show KNf (B + 1) g (n_ins _ n.2.2.1).length 0 0
      rw [n_ins_len]
      refine ⟨v.1, v.2.1, v.2.2.1, v.2.2.2.1, ⟨v.2.2.2.2.1.1, v.2.2.2.2.1.2.1, by omega, by omega⟩, v.2.2.2.2.2⟩
theorem KN_gap {B s r : Nat} {n : nT} (h : KN B n) (hB : B + 200 < 2 ^ 30) (hc : cl (n.1 1) ≤ 5) (hs : s < cl (n.1 1)) (i5 : isN (n.1 5)) (b5 : cl (n.1 5) < 2 ^ 30) : KN B (n_gap n s r) := by
  obtain ⟨h1, h2, ⟨i3, i4, i6, i7, i8⟩, ⟨h4, h5, h6⟩, ⟨h7, h8, h9, h10⟩, h11⟩ := h
  have hr := su_le (f := n.1) (b := 31) (d := 11) _ hs
  have q31 := isN_add1 (h1 s hs).2.2.2 (by omega)
  have q5 := isN_add1 i5 (by omega)
  show KNf B (upd (upd n.1 5 (n.1 5 + 1)) (31 + 11 * s) (n.1 (31 + 11 * s) + 1)) n.2.2.1.length 0 0
  generalize hg : upd (upd n.1 5 (n.1 5 + 1)) (31 + 11 * s) (n.1 (31 + 11 * s) + 1) = g
  have G : ∀ i, i ≠ 5 → i ≠ 31 + 11 * s → g i = n.1 i := fun i a b => by rw [← hg]; simp (disch := omega) only [upd_nep]
  have G5 : g 5 = n.1 5 + 1 := by rw [← hg]; simp (disch := omega) only [upd_nep, upd_eqp]
  have G31 : g (31 + 11 * s) = n.1 (31 + 11 * s) + 1 := by rw [← hg]; exact upd_eqp rfl
  have T := tot_of (f := n.1) (g := g) (cl (n.1 1)) (fun t ht j hj => G _ (by omega) (by omega))
  have S30 := su_of (f := n.1) (g := g) (b := 30) (d := 11) (cl (n.1 1)) (fun t ht => G _ (by omega) (by omega))
  have S31 := su_up (f := n.1) (g := g) (b := 31) (d := 11) (j := s) (cl (n.1 1)) hs (fun t ht hn => G _ (by omega) (by omega))
  have S79 := su_of (f := n.1) (g := g) (b := 79) (d := 4) (cl (n.1 2)) (fun t ht => G _ (by omega) (by omega))
  rw [G31] at S31
  unfold KNf
  rw [G 1 (by omega) (by omega), G 2 (by omega) (by omega), G 3 (by omega) (by omega), G 4 (by omega) (by omega), G5, G 6 (by omega) (by omega), G 7 (by omega) (by omega), G 8 (by omega) (by omega), T, S30, S79, G 14 (by omega) (by omega), G 15 (by omega) (by omega), G 16 (by omega) (by omega)]
  refine ⟨fun s' hs' => ?_, fun j hj => ?_, ⟨i3, i4, i6, i7, i8⟩, ⟨h4, h5, h6⟩, ⟨h7, by omega, h9, h10⟩, fun hh h4' => ?_, h11.2⟩
  · obtain ⟨r1, r2, r3, r4⟩ := h1 s' hs'
    refine ⟨by rw [G _ (by omega) (by omega)]; exact r1, fun j hj => by rw [G _ (by omega) (by omega)]; exact r2 j hj, by rw [G _ (by omega) (by omega)]; exact r3, ?_⟩
    by_cases hq : s' = s
    · subst hq; rw [G31]; exact q31.1
    · rw [G _ (by omega) (by omega)]; exact r4
  · rw [G _ (by omega) (by omega)]; exact h2 j hj
  · rw [G _ (by omega) (by omega)]; exact h11.1 hh h4'
theorem KN_step {T B m s : Nat} {n : nT} (hW : WFm T m n) (h : KN B n) (hB : B + 300 < 2 ^ 30) (hT : T < 100000) (hm : m ≤ 5) (hs : s < cl (n.1 1)) : KN (B + 1) (n_step n s) := by
  have hf := hW.1
  have hc : cl (n.1 1) ≤ 5 := hf.2.2.2.1
  unfold n_step
  split
  · exact KNf.mono h (by omega)
  · next h0 =>
    split
    · next h1 =>
      refine KN_rel h hB hc hf.2.2.2.2.2.1 hs (fun q => ?_)
      unfold n_deed at h1
      rw [q, if_pos rfl] at h1
      split at h1
      · omega
      · split at h1 <;> omega
    · have h5 := hW.2.2.2.2
      exact KNf.mono (KN_gap h (by omega) hc hs h5.1 (by have := h5.2.1; have := hf.2.1; omega)) (by omega)
theorem KN_loop {T B : Nat} {n : nT} (hW : WFm T 0 n) (h : KN B n) (hB : B + 400 < 2 ^ 30) (hT : T < 100000) : ∀ k, k ≤ cl (n.1 1) → KN (B + k) (n_loop k n)
  | 0, _ => h
  | k + 1, hk => by
    have h5 : cl (n.1 1) ≤ 5 := hW.1.2.2.2.1
    obtain ⟨g1, g2, -⟩ := n_loop_W hW hT k (by omega)
    exact KN_step (B := B + k) g1 (KN_loop hW h hB hT k (by omega)) (by omega) hT (by omega) (by rw [g2]; omega)
theorem KN_tick {B : Nat} {n : nT} (h : KN B n) : KN B (n_tick n) := by
  obtain ⟨h1, h2, h3, h4, ⟨h7, h8, h9, h10⟩, h11⟩ := h
  have G : ∀ i, i ≠ 0 → (n_tick n).1 i = n.1 i := fun i a => upd_nep a
  show KNf B (n_tick n).1 n.2.2.1.length 0 0
  have T := tot_of (f := n.1) (g := (n_tick n).1) (cl (n.1 1)) (fun t ht j hj => G _ (by omega))
  have S30 := su_of (f := n.1) (g := (n_tick n).1) (b := 30) (d := 11) (cl (n.1 1)) (fun t ht => G _ (by omega))
  have S31 := su_of (f := n.1) (g := (n_tick n).1) (b := 31) (d := 11) (cl (n.1 1)) (fun t ht => G _ (by omega))
  have S79 := su_of (f := n.1) (g := (n_tick n).1) (b := 79) (d := 4) (cl (n.1 2)) (fun t ht => G _ (by omega))
  unfold KNf
  rw [G 1 (by omega), G 2 (by omega), G 3 (by omega), G 4 (by omega), G 5 (by omega), G 6 (by omega), G 7 (by omega), G 8 (by omega), T, S30, S31, S79, G 14 (by omega), G 15 (by omega), G 16 (by omega)]
  refine ⟨fun s' hs' => ?_, fun j hj => ?_, h3, h4, ⟨h7, h8, h9, h10⟩, fun hh h4' => ?_, h11.2⟩
  · obtain ⟨r1, r2, r3, r4⟩ := h1 s' hs'
    exact ⟨by rw [G _ (by omega)]; exact r1, fun j hj => by rw [G _ (by omega)]; exact r2 j hj, by rw [G _ (by omega)]; exact r3, by rw [G _ (by omega)]; exact r4⟩
  · rw [G _ (by omega)]; exact h2 j hj
  · rw [G _ (by omega)]; exact h11.1 hh h4'
theorem KN_watch {T B : Nat} {n : nT} (h : WF T n) (hk : KN B n) (hT : T < 100000) (hB : B + 17000 < 2 ^ 30) : KN (B + 16010) (n_watch n) := by
  have hA := WF_arr h hT
  have h5 : cl ((n_arr n).1 1) ≤ 5 := hA.1.2.2.2.1
  exact KNf.mono (KN_tick (KN_loop hA (KN_arr h hk hB) (by omega) hT _ (Nat.le_refl _))) (by omega)
theorem KN_run {T B : Nat} {n : nT} (h : WF T n) (hk : KN B n) : ∀ k, T + k < 100000 → B + 16010 * k + 17000 < 2 ^ 30 → KN (B + 16010 * k) (n_run k n)
  | 0, _, _ => hk
  | k + 1, hT, hB => KNf.mono (KN_watch (WF_run h k (by omega)) (KN_run h hk k (by omega) (by omega)) (by omega) (by omega)) (by omega)
