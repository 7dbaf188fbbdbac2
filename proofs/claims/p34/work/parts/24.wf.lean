theorem n_near_lt {f : nF} {p : Int32} : ∀ (j b : Nat), n_near f p j = some b → b < j
  | 0, b, h => by cases h
  | j + 1, b, h => by
    rw [n_near] at h
    split at h
    · cases h; omega
    · next b' hb =>
      split at h
      · cases h; omega
      · cases h; have := n_near_lt j b hb; omega
theorem n_who_lt {f : nF} {p : Int32} : ∀ (j b : Nat), n_who f p j = some b → b < j
  | 0, b, h => by cases h
  | j + 1, b, h => by
    rw [n_who] at h
    split at h
    · split at h
      · cases h; omega
      · cases h
    · next b' hb =>
      split at h
      · cases h; omega
      · cases h; have := n_who_lt j b hb; omega
theorem n_pos_le (l : List nB) (x : Nat) : ∀ k, n_pos l x k ≤ k
  | 0 => Nat.le_refl _
  | k + 1 => by
    rw [n_pos]; split
    · have := n_pos_le l x k; omega
    · omega
theorem n_addB_1 {f : nF} {b : nB} : n_addB f b 1 = f 1 := by
  unfold n_addB; simp (disch := omega) only [upd_nep]
theorem n_back_1 {t : Nat} : ∀ (l : List nB) (f : nF), (n_back t l f).1 1 = f 1
  | [], _ => rfl
  | b :: l, f => by
    rw [n_back]; split
    · rw [n_back_1 l, n_addB_1]
    · rfl
/-- how many are due at the front -/
def n_due (t : Nat) : List nB → Nat
  | [] => 0
  | b :: l => if b.1 = t then n_due t l + 1 else 0
def n_addBs (f : nF) (l : List nB) : nF := l.foldl n_addB f
theorem n_due_le (t : Nat) : ∀ l : List nB, n_due t l ≤ l.length
  | [] => Nat.le_refl _
  | b :: l => by
    rw [n_due]; split
    · have := n_due_le t l; simp; omega
    · simp
theorem n_back_eq (t : Nat) : ∀ (l : List nB) (f : nF), n_back t l f = (n_addBs f (l.take (n_due t l)), l.drop (n_due t l))
  | [], f => rfl
  | b :: l, f => by
    rw [n_back, n_due]; split
    · rw [n_back_eq t l]; rfl
    · rfl
theorem n_due_at (t : Nat) : ∀ (l : List nB) (i : Nat) (x : nB), i < n_due t l → l[i]? = some x → x.1 = t
  | [], i, x, h, _ => by simp [n_due] at h
  | b :: l, i, x, h, hx => by
    rw [n_due] at h
    split at h
    · next hb =>
      cases i with
      | zero => cases hx; exact hb
      | succ i => exact n_due_at t l i x (by omega) hx
    · omega
theorem n_due_end (t : Nat) : ∀ (l : List nB) (x : nB), l[n_due t l]? = some x → ¬ x.1 = t
  | [], x, h => by simp [n_due] at h
  | b :: l, x, h => by
    rw [n_due] at h
    split at h
    · exact n_due_end t l x h
    · next hb => cases h; exact hb
theorem n_addBs_1 (f : nF) : ∀ l : List nB, n_addBs f l 1 = f 1 := by
  intro l
  induction l generalizing f with
  | nil => rfl
  | cons b l ih => show n_addBs (n_addB f b) l 1 = _; rw [ih, n_addB_1]
/-! what holds of a net goes on holding -/
theorem WFf.of {T : Nat} {f g : nF} (h : WFf T f) (e0 : g 0 = f 0) (e1 : g 1 = f 1) (e2 : g 2 = f 2) (e12 : g 12 = f 12) (e13 : g 13 = f 13) (es : ∀ s, s < 5 → g (21 + 11 * s) = f (21 + 11 * s) ∧ g (23 + 11 * s) = f (23 + 11 * s)) (ef : ∀ k, k < 6 → g (76 + 4 * k) = f (76 + 4 * k) ∧ g (77 + 4 * k) = f (77 + 4 * k) ∧ g (78 + 4 * k) = f (78 + 4 * k)) : WFf T g := by
  unfold WFf at h ⊢
  rw [e0, e1, e2, e12, e13]
  obtain ⟨h1, h2, h3, h4, h5, h6, h7, h8, h9⟩ := h
  refine ⟨h1, h2, h3, h4, h5, h6, fun s hs => ?_, fun k hk => ?_, h9⟩
  · rw [(es s (by omega)).1, (es s (by omega)).2]; exact h7 s hs
  · rw [(ef k (by omega)).1, (ef k (by omega)).2.1, (ef k (by omega)).2.2]; exact h8 k hk
theorem WFf.mono {T T' : Nat} {f : nF} (h : WFf T f) (hT : T ≤ T') : WFf T' f := ⟨h.1, Nat.le_trans h.2.1 hT, h.2.2⟩
theorem WF.mono {T T' : Nat} {n : nT} (h : WF T n) (hT : T ≤ T') : WF T' n := ⟨h.1.mono hT, fun s hs => (h.2.1 s hs).imp fun g q => ⟨by omega, q.2⟩, h.2.2⟩
/-- a list of sondes on the way, one more put in -/
theorem n_pos_gt (l : List nB) (x : Nat) : ∀ k, ∀ i, n_pos l x k ≤ i → i < k → x < (l.getD i (0, 0, 0)).1
  | 0, i, _, h => by omega
  | k + 1, i, h1, h2 => by
    rw [n_pos] at h1
    split at h1
    · next hlt =>
      by_cases hik : i = k
      · subst hik; exact hlt
      · exact n_pos_gt l x k i h1 (by omega)
    · omega
theorem n_pos_pr (l : List nB) (x : Nat) : ∀ k p, n_pos l x k = p + 1 → (l.getD p (0, 0, 0)).1 ≤ x
  | 0, p, h => by simp [n_pos] at h
  | k + 1, p, h => by
    rw [n_pos] at h
    split at h
    · exact n_pos_pr l x k p h
    · next hn =>
      have : p = k := by omega
      subst this; omega
theorem n_cnt_app (l m : List nB) (j : Nat) : n_cnt (l ++ m) j = n_cnt l j + n_cnt m j := by
  unfold n_cnt; rw [List.filter_append, List.length_append]
theorem n_cnt_cons (x : nB) (l : List nB) (j : Nat) : n_cnt (x :: l) j = (if j ≤ x.1 then 1 else 0) + n_cnt l j := by
  unfold n_cnt
  by_cases h : j ≤ x.1
  · rw [List.filter_cons_of_pos (by simpa using h), if_pos h, List.length_cons]; omega
  · rw [List.filter_cons_of_neg (by simpa using h), if_neg h]; omega
theorem n_cnt_ins (x : nB) (l : List nB) (j : Nat) : n_cnt (n_ins x l) j = n_cnt l j + (if j ≤ x.1 then 1 else 0) := by
  unfold n_ins
  rw [n_cnt_app, n_cnt_cons]
  have := n_cnt_app (l.take (n_pos l x.1 l.length)) (l.drop (n_pos l x.1 l.length)) j
  rw [List.take_append_drop] at this
  omega
theorem n_ins_mem {x b : nB} {l : List nB} (h : b ∈ n_ins x l) : b = x ∨ b ∈ l := by
  unfold n_ins at h
  rcases List.mem_append.mp h with h | h
  · exact Or.inr (List.mem_of_mem_take h)
  · rcases List.mem_cons.mp h with h | h
    · exact Or.inl h
    · exact Or.inr (List.mem_of_mem_drop h)
theorem n_ins_len (x : nB) (l : List nB) : (n_ins x l).length = l.length + 1 := by
  have := n_pos_le l x.1 l.length
  unfold n_ins
  rw [List.length_append, List.length_cons, List.length_take, List.length_drop]
  omega
theorem n_ins_srt {x : nB} {l : List nB} (h : l.Pairwise (fun a b => a.1 ≤ b.1)) : (n_ins x l).Pairwise (fun a b => a.1 ≤ b.1) := by
  have hp := n_pos_le l x.1 l.length
  have hgt := n_pos_gt l x.1 l.length
  have hpr := n_pos_pr l x.1 l.length
  unfold n_ins
  generalize n_pos l x.1 l.length = p at hp hgt hpr ⊢
  have h' := h
  rw [← List.take_append_drop p l] at h'
  obtain ⟨q1, q2, q3⟩ := List.pairwise_append.mp h'
  have hd : ∀ b ∈ l.drop p, x.1 ≤ b.1 := by
    intro b hb
    obtain ⟨i, hi⟩ := List.getElem?_of_mem hb
    rw [List.getElem?_drop] at hi
    have := hgt (p + i) (by omega) (getq hi)
    rw [List.getD_eq_getElem?_getD, hi, Option.getD_some] at this
    omega
  have ht : ∀ b ∈ l.take p, b.1 ≤ x.1 := by
    intro b hb
    cases p with
    | zero => simp at hb
    | succ p =>
      have h1 := hpr p rfl
      have hlt : p < l.length := by omega
      have hg : l[p]? = some l[p] := List.getElem?_eq_getElem hlt
      rw [List.getD_eq_getElem?_getD, hg, Option.getD_some] at h1
      obtain ⟨i, hi⟩ := List.getElem?_of_mem hb
      have hil := getq hi
      rw [List.length_take] at hil
      rw [List.getElem?_take_of_lt (by omega)] at hi
      by_cases hip : i = p
      · subst hip; rw [hg] at hi; cases hi; exact h1
      · have := List.pairwise_iff_getElem.mp h i p (getq hi) hlt (by omega)
        rw [List.getElem?_eq_getElem (getq hi)] at hi
        have hbi := Option.some.inj hi
        rw [← hbi]
        omega
  refine List.pairwise_append.mpr ⟨q1, List.pairwise_cons.mpr ⟨hd, q2⟩, fun a ha b hb => ?_⟩
  rcases List.mem_cons.mp hb with rfl | hb
  · exact ht a ha
  · exact q3 a ha b hb
/-- numbers that an arrival leaves alone -/
theorem n_come_i {t : Nat} {f : nF} {o : nO} {i : Nat} (ho : o.2.1 < 5) (h : i < 21 ∨ 76 ≤ i ∨ (∃ s, s < 5 ∧ (i = 21 + 11 * s ∨ i = 22 + 11 * s ∨ i = 23 + 11 * s ∨ i = 30 + 11 * s ∨ i = 31 + 11 * s))) : n_come t f o i = f i := by
  unfold n_come n_addO
  split
  · rcases h with h | h | ⟨s, hs, h⟩
    · simp (disch := omega) only [upd_nep]
    · simp (disch := omega) only [upd_nep]
    · rw [upd_nep (by omega), upd_nep (by omega)]
  · rfl
theorem n_fold_i {t : Nat} {i : Nat} (h : i < 21 ∨ 76 ≤ i ∨ (∃ s, s < 5 ∧ (i = 21 + 11 * s ∨ i = 22 + 11 * s ∨ i = 23 + 11 * s ∨ i = 30 + 11 * s ∨ i = 31 + 11 * s))) : ∀ (l : List nO) (f : nF), (∀ o ∈ l, o.2.1 < 5) → l.foldl (n_come t) f i = f i
  | [], _, _ => rfl
  | o :: l, f, ho => by
    rw [List.foldl_cons, n_fold_i h l _ (fun o h => ho o (List.mem_cons_of_mem _ h)), n_come_i (ho o List.mem_cons_self) h]
theorem n_addB_i {f : nF} {b : nB} {i : Nat} (hb : b.2.1 < 5 ∧ b.2.2 ≤ 4) (h : (i < 21 ∧ i ≠ 3 ∧ i ≠ 7) ∨ 76 ≤ i ∨ (∃ s, s < 5 ∧ (i = 21 + 11 * s ∨ i = 22 + 11 * s ∨ i = 23 + 11 * s ∨ i = 24 + 11 * s ∨ i = 30 + 11 * s ∨ i = 31 + 11 * s))) : n_addB f b i = f i := by
  unfold n_addB
  rcases h with h | h | ⟨s, hs, h⟩
  · simp (disch := omega) only [upd_nep]
  · simp (disch := omega) only [upd_nep]
  · rw [upd_nep (by omega), upd_nep (by omega), upd_nep (by omega)]
theorem n_addBs_i {i : Nat} (h : (i < 21 ∧ i ≠ 3 ∧ i ≠ 7) ∨ 76 ≤ i ∨ (∃ s, s < 5 ∧ (i = 21 + 11 * s ∨ i = 22 + 11 * s ∨ i = 23 + 11 * s ∨ i = 24 + 11 * s ∨ i = 30 + 11 * s ∨ i = 31 + 11 * s))) : ∀ (l : List nB) (f : nF), (∀ b ∈ l, b.2.1 < 5 ∧ b.2.2 ≤ 4) → n_addBs f l i = f i
  | [], _, _ => rfl
  | b :: l, f, hb => by
    show n_addBs (n_addB f b) l i = _
    rw [n_addBs_i h l _ (fun o h => hb o (List.mem_cons_of_mem _ h)), n_addB_i (hb b List.mem_cons_self) h]
theorem n_arr_eq (n : nT) : n_arr n = (n_addBs (n.2.1.foldl (n_come (cl (n.1 0))) n.1) (n.2.2.1.take (n_due (cl (n.1 0)) n.2.2.1)), n.2.1.filter (fun o => !(o.1 == cl (n.1 0))), n.2.2.1.drop (n_due (cl (n.1 0)) n.2.2.1), n.2.2.2) := by
  unfold n_arr; simp only [n_back_eq]
theorem n_gas {t B : Nat} : ∀ (l : List nO) (f : nF) (s g : Nat), (∀ o ∈ l, o.2.1 < 5 ∧ o.2.2.1 ≤ B) → f (24 + 11 * s) = nI g → ∃ g', l.foldl (n_come t) f (24 + 11 * s) = nI g' ∧ g' ≤ g + B * l.length
  | [], _, _, g, _, h => ⟨g, h, by simp⟩
  | o :: l, f, s, g, ho, h => by
    obtain ⟨h5, hB⟩ := ho o List.mem_cons_self
    rw [List.foldl_cons, List.length_cons]
    have h1 : ∃ g1, n_come t f o (24 + 11 * s) = nI g1 ∧ g1 ≤ g + B := by
      unfold n_come n_addO
      split
      · by_cases hs : o.2.1 = s
        · subst hs
          rw [upd_nep (by omega), upd_eqp rfl, h, nI_add]
          exact ⟨_, rfl, by omega⟩
        · rw [upd_nep (by omega), upd_nep (by omega)]; exact ⟨g, h, by omega⟩
      · exact ⟨g, h, by omega⟩
    obtain ⟨g1, q1, q2⟩ := h1
    obtain ⟨g2, q3, q4⟩ := n_gas l _ s g1 (fun o h => ho o (List.mem_cons_of_mem _ h)) q1
    exact ⟨g2, q3, by rw [Nat.mul_add, Nat.mul_one]; omega⟩
theorem n_cnt_drop (l : List nB) (k j : Nat) : n_cnt (l.drop k) j ≤ n_cnt l j := by
  have := n_cnt_app (l.take k) (l.drop k) j
  rw [List.take_append_drop] at this
  omega
theorem n_arr_i {T : Nat} {n : nT} (h : WF T n) {i : Nat} (hi : (i < 21 ∧ i ≠ 3 ∧ i ≠ 7) ∨ 76 ≤ i ∨ (∃ s, s < 5 ∧ (i = 21 + 11 * s ∨ i = 22 + 11 * s ∨ i = 23 + 11 * s ∨ i = 30 + 11 * s ∨ i = 31 + 11 * s))) : (n_arr n).1 i = n.1 i := by
  obtain ⟨hf, -, ho, hb, -⟩ := h
  rw [n_arr_eq]
  show n_addBs _ _ i = _
  have h5 : cl (n.1 1) ≤ 5 := hf.2.2.2.1
  rw [n_addBs_i (by rcases hi with h | h | ⟨s, h1, h2⟩; exact Or.inl h; exact Or.inr (Or.inl h); exact Or.inr (Or.inr ⟨s, h1, by omega⟩)) _ _ (fun b q => by have := hb.1 b (List.mem_of_mem_take q); omega)]
  exact n_fold_i (by rcases hi with h | h | h; exact Or.inl h.1; exact Or.inr (Or.inl h); exact Or.inr (Or.inr h)) _ _ (fun o q => by have := ho.2 o q; omega)
theorem WF_arr {T : Nat} {n : nT} (h : WF T n) (hT : T < 100000) : WFm T 0 (n_arr n) := by
  have hi := fun {i : Nat} => n_arr_i h (i := i)
  have h0 := hi (i := 0) (by omega)
  have h1 := hi (i := 1) (by omega)
  have h5 := hi (i := 5) (by omega)
  obtain ⟨hf, hg, ho, hb, hn⟩ := h
  have hc5 : cl (n.1 1) ≤ 5 := hf.2.2.2.1
  have hcT : cl (n.1 0) ≤ T := hf.2.1
  refine ⟨hf.of h0 h1 (hi (by omega)) (hi (by omega)) (hi (by omega)) (fun s hs => ⟨hi (Or.inr (Or.inr ⟨s, hs, by omega⟩)), hi (Or.inr (Or.inr ⟨s, hs, by omega⟩))⟩) (fun k hk => ⟨hi (by omega), hi (by omega), hi (by omega)⟩), ?_, ?_, ?_, ?_⟩
  · intro s hs
    rw [h1] at hs
    obtain ⟨g, q1, q2⟩ := hg s hs
    obtain ⟨g', q3, q4⟩ := n_gas (t := cl (n.1 0)) (B := 999) n.2.1 n.1 s g (fun o q => by have := ho.2 o q; omega) q2
    refine ⟨g', ?_, ?_⟩
    · have : 999 * n.2.1.length ≤ 999 * 8 := Nat.mul_le_mul_left _ ho.1
      omega
    · rw [n_arr_eq]
      show n_addBs _ _ _ = _
      rw [n_addBs_i (Or.inr (Or.inr ⟨s, by omega, by omega⟩)) _ _ (fun b q => by have := hb.1 b (List.mem_of_mem_take q); omega)]
      exact q3
  · unfold WFo
    rw [h0, h1, n_arr_eq]
    refine ⟨Nat.le_trans (List.length_filter_le _ _) ho.1, fun o q => ho.2 o (List.mem_filter.mp q).1⟩
  · unfold WFb
    rw [h0, h1, n_arr_eq]
    show (∀ b ∈ n.2.2.1.drop _, _) ∧ _
    have hdr : ∀ b ∈ n.2.2.1.drop (n_due (cl (n.1 0)) n.2.2.1), cl (n.1 0) + 1 ≤ b.1 := by
      intro b hb1
      obtain ⟨i, hi1⟩ := List.getElem?_of_mem hb1
      rw [List.getElem?_drop] at hi1
      have hfirst : ∀ x, n.2.2.1[n_due (cl (n.1 0)) n.2.2.1]? = some x → cl (n.1 0) + 1 ≤ x.1 := by
        intro x hx
        have h1 := n_due_end _ _ x hx
        have h2 := (hb.1 x (List.mem_of_getElem? hx)).1
        omega
      have hlt := getq hi1
      have hd : n_due (cl (n.1 0)) n.2.2.1 < n.2.2.1.length := by omega
      have h3 := hfirst _ (List.getElem?_eq_getElem hd)
      by_cases hi0 : i = 0
      · subst hi0
        rw [Nat.add_zero, List.getElem?_eq_getElem hd] at hi1
        cases hi1; exact h3
      · have := List.pairwise_iff_getElem.mp hb.2.1 _ (n_due (cl (n.1 0)) n.2.2.1 + i) hd hlt (by omega)
        rw [List.getElem?_eq_getElem hlt] at hi1
        cases hi1
        omega
    refine ⟨fun b q => ?_, List.Pairwise.sublist (List.drop_sublist _ _) hb.2.1, fun j h1 h2 => ?_⟩
    · have q2 := hb.1 b (List.mem_of_mem_drop q)
      have q3 := hdr b q
      omega
    · have := n_cnt_drop n.2.2.1 (n_due (cl (n.1 0)) n.2.2.1) (cl (n.1 0) + j)
      have h3 := hb.2.2 j (by omega) h2
      show n_cnt (n.2.2.1.drop (n_due (cl (n.1 0)) n.2.2.1)) _ ≤ _
      omega
  · unfold WFn
    rw [h0, h5, n_arr_eq]
    exact hn
/-- one station through -/
theorem n_most_lt {f : nF} {s m : Nat} (h : n_most f s = some m) : m ≤ 4 := by
  unfold n_most at h
  split at h
  · cases h; omega
  · split at h
    · cases h; omega
    · split at h
      · cases h; omega
      · split at h
        · cases h; omega
        · split at h
          · cases h; omega
          · cases h
theorem n_up1_i {f : nF} {s m i : Nat} (h1 : i ≠ 25 + 11 * s + m) (h2 : i ≠ 24 + 11 * s) (h3 : i ≠ 30 + 11 * s) (h4 : i ≠ 4) : n_up1 f s m i = f i := by
  unfold n_up1; rw [upd_nep h4, upd_nep h3, upd_nep h2, upd_nep h1]
theorem n_near_some {f : nF} {p : Int32} : ∀ k, 0 < k → ∃ b, n_near f p k = some b
  | k + 1, _ => by
    rw [n_near]
    split
    · exact ⟨_, rfl⟩
    · split <;> exact ⟨_, rfl⟩
theorem n_find_lt {f : nF} {s k : Nat} (h : n_find f s = some k) : k < cl (f 2) := by
  unfold n_find at h
  split at h
  · cases h
  · exact n_who_lt _ _ h
/-- the numbers that a release changes -/
theorem n_rel_i {T : Nat} {n : nT} {s i : Nat} (hf : WFf T n.1) (hs : s < 5) (h4 : i ≠ 4) (h6 : i ≠ 6) (h8 : i ≠ 8) (hg : i ≠ 24 + 11 * s) (hr : i ≠ 30 + 11 * s) (hst : ∀ m, m ≤ 4 → i ≠ 25 + 11 * s + m) (hfo : ∀ k, k < 6 → i ≠ 79 + 4 * k) : (n_rel n s).1 i = n.1 i := by
  have hm : (n_most n.1 s).getD 0 ≤ 4 := by
    cases h : n_most n.1 s with
    | none => simp
    | some m => exact n_most_lt h
  unfold n_rel
  dsimp only
  generalize (n_most n.1 s).getD 0 = m at hm ⊢
  have hu : n_up1 n.1 s m i = n.1 i := n_up1_i (hst m hm) hg hr h4
  split
  · show upd _ 6 _ i = _
    rw [upd_nep h6, hu]
  · next k hk =>
    have hk2 := n_find_lt hk
    have e2 : n_up1 n.1 s m 2 = n.1 2 := n_up1_i (by omega) (by omega) (by omega) (by omega)
    rw [e2] at hk2
    have h26 : cl (n.1 2) ≤ 6 := hf.2.2.2.2.2.1
    split
    · show upd _ 8 _ i = _
      rw [upd_nep h8, upd_nep (hfo k (by omega)), hu]
    · show upd _ (79 + 4 * k) _ i = _
      rw [upd_nep (hfo k (by omega)), hu]
theorem n_rel_O {n : nT} {s : Nat} : (n_rel n s).2.1 = n.2.1 := by
  unfold n_rel; dsimp only; split
  · rfl
  · split <;> rfl
theorem n_rel_G {n : nT} {s : Nat} : (n_rel n s).2.2.2 = n.2.2.2 := by
  unfold n_rel; dsimp only; split
  · rfl
  · split <;> rfl
theorem n_rel_gas {T : Nat} {n : nT} {s : Nat} (hf : WFf T n.1) (hs : s < 5) : (n_rel n s).1 (24 + 11 * s) = n.1 (24 + 11 * s) - n.1 (23 + 11 * s) := by
  have hm : (n_most n.1 s).getD 0 ≤ 4 := by
    cases h : n_most n.1 s with
    | none => simp
    | some m => exact n_most_lt h
  unfold n_rel
  dsimp only
  generalize (n_most n.1 s).getD 0 = m at hm ⊢
  have hu : n_up1 n.1 s m (24 + 11 * s) = n.1 (24 + 11 * s) - n.1 (23 + 11 * s) := by
    unfold n_up1; rw [upd_nep (by omega), upd_nep (by omega), upd_eqp rfl]
  split
  · show upd _ 6 _ _ = _
    rw [upd_nep (by omega), hu]
  · next k hk =>
    split
    · show upd _ 8 _ _ = _
      rw [upd_nep (by omega), upd_nep (by omega), hu]
    · show upd _ (79 + 4 * k) _ _ = _
      rw [upd_nep (by omega), hu]
theorem n_rel_B {T m0 : Nat} {n : nT} {s : Nat} (hW : WFm T m0 n) (hs : s < cl (n.1 1)) : (n_rel n s).2.2.1 = n.2.2.1 ∨ ∃ x : nB, (n_rel n s).2.2.1 = n_ins x n.2.2.1 ∧ cl (n.1 0) + 1 ≤ x.1 ∧ x.1 ≤ cl (n.1 0) + 30 ∧ x.2.1 < cl (n.1 1) ∧ 1 ≤ x.2.2 ∧ x.2.2 ≤ 4 := by
  have hf := hW.1
  have h5 : cl (n.1 1) ≤ 5 := hf.2.2.2.1
  have hm : (n_most n.1 s).getD 0 ≤ 4 := by
    cases h : n_most n.1 s with
    | none => simp
    | some m => exact n_most_lt h
  unfold n_rel
  dsimp only
  generalize (n_most n.1 s).getD 0 = m at hm ⊢
  have hu : ∀ i, i ≠ 25 + 11 * s + m → i ≠ 24 + 11 * s → i ≠ 30 + 11 * s → i ≠ 4 → n_up1 n.1 s m i = n.1 i := fun i q1 q2 q3 q4 => n_up1_i q1 q2 q3 q4
  split
  · exact Or.inl rfl
  · next k hk =>
    have hk2 := n_find_lt hk
    rw [hu 2 (by omega) (by omega) (by omega) (by omega)] at hk2
    have h26 : cl (n.1 2) ≤ 6 := hf.2.2.2.2.2.1
    obtain ⟨-, -, d, hd1, hd30, hd⟩ := hf.2.2.2.2.2.2.2.1 k hk2
    obtain ⟨p, hp1, hp5, hp⟩ := hf.2.2.2.2.2.2.2.2.2
    have e13 : upd (n_up1 n.1 s m) (79 + 4 * k) (n_up1 n.1 s m (79 + 4 * k) + 1) 13 = nI p := by
      rw [upd_nep (by omega), hu 13 (by omega) (by omega) (by omega) (by omega), hp]
    have e0 : upd (n_up1 n.1 s m) (79 + 4 * k) (n_up1 n.1 s m (79 + 4 * k) + 1) 0 = n.1 0 := by
      rw [upd_nep (by omega), hu 0 (by omega) (by omega) (by omega) (by omega)]
    have e1 : upd (n_up1 n.1 s m) (79 + 4 * k) (n_up1 n.1 s m (79 + 4 * k) + 1) 1 = n.1 1 := by
      rw [upd_nep (by omega), hu 1 (by omega) (by omega) (by omega) (by omega)]
    have ed : upd (n_up1 n.1 s m) (79 + 4 * k) (n_up1 n.1 s m (79 + 4 * k) + 1) (78 + 4 * k) = nI d := by
      rw [upd_nep (by omega), hu _ (by omega) (by omega) (by omega) (by omega), hd]
    rw [e13, e0, e1, ed, cl_nI (show d < 2 ^ 31 by omega)]
    split
    · exact Or.inl rfl
    · next hpm =>
      rw [nI_le' (by omega) (by omega)] at hpm
      refine Or.inr ⟨_, rfl, ?_, ?_, ?_, ?_, ?_⟩
      · show _ ≤ cl (n.1 0) + d; omega
      · show cl (n.1 0) + d ≤ _; omega
      · obtain ⟨b, hb⟩ := n_near_some (f := upd (n_up1 n.1 s m) (79 + 4 * k) (n_up1 n.1 s m (79 + 4 * k) + 1)) (p := upd (n_up1 n.1 s m) (79 + 4 * k) (n_up1 n.1 s m (79 + 4 * k) + 1) (76 + 4 * k)) (cl (n.1 1)) (by omega)
        rw [hb]
        exact n_near_lt _ _ hb
      · show 1 ≤ m + 1; omega
      · show m + 1 ≤ 4; omega
theorem n_gap_i {n : nT} {s r i : Nat} (h5 : i ≠ 5) (h : i ≠ 31 + 11 * s) : (n_gap n s r).1 i = n.1 i := by
  unfold n_gap; show upd _ _ _ i = _; rw [upd_nep h, upd_nep h5]
theorem n_deed_lt {f : nF} {s : Nat} : n_deed f s ≤ 3 := by
  unfold n_deed; split; omega; split; omega; split <;> omega
theorem n_step_i {T : Nat} {n : nT} {s i : Nat} (hf : WFf T n.1) (hs : s < 5) (h4 : i ≠ 4) (h5 : i ≠ 5) (h6 : i ≠ 6) (h8 : i ≠ 8) (hg : i ≠ 24 + 11 * s) (hr : i ≠ 30 + 11 * s) (hr2 : i ≠ 31 + 11 * s) (hst : ∀ m, m ≤ 4 → i ≠ 25 + 11 * s + m) (hfo : ∀ k, k < 6 → i ≠ 79 + 4 * k) : (n_step n s).1 i = n.1 i := by
  unfold n_step
  split
  · rfl
  · split
    · exact n_rel_i hf hs h4 h6 h8 hg hr hst hfo
    · exact n_gap_i h5 hr2
theorem WFm_step {T m : Nat} {n : nT} {s : Nat} (h : WFm T m n) (hs : s < cl (n.1 1)) (hT9 : T < 100000) (hm9 : m < 5) : WFm T (m + 1) (n_step n s) := by
  have hf := h.1
  have hc5 : cl (n.1 1) ≤ 5 := hf.2.2.2.1
  have hi := fun {i : Nat} => n_step_i (i := i) hf (show s < 5 by omega)
  have e0 := hi (i := 0) (by omega) (by omega) (by omega) (by omega) (by omega) (by omega) (by omega) (by omega) (by omega)
  have e1 := hi (i := 1) (by omega) (by omega) (by omega) (by omega) (by omega) (by omega) (by omega) (by omega) (by omega)
  refine ⟨hf.of e0 e1 (hi (by omega) (by omega) (by omega) (by omega) (by omega) (by omega) (by omega) (by omega) (by omega)) (hi (by omega) (by omega) (by omega) (by omega) (by omega) (by omega) (by omega) (by omega) (by omega)) (hi (by omega) (by omega) (by omega) (by omega) (by omega) (by omega) (by omega) (by omega) (by omega)) (fun s' hs' => ⟨?_, ?_⟩) (fun k hk => ⟨?_, ?_, ?_⟩), ?_, ?_, ?_, ?_⟩
  · exact hi (by omega) (by omega) (by omega) (by omega) (by omega) (by omega) (by omega) (by omega) (by omega)
  · exact hi (by omega) (by omega) (by omega) (by omega) (by omega) (by omega) (by omega) (by omega) (by omega)
  · exact hi (by omega) (by omega) (by omega) (by omega) (by omega) (by omega) (by omega) (by omega) (by omega)
  · exact hi (by omega) (by omega) (by omega) (by omega) (by omega) (by omega) (by omega) (by omega) (by omega)
  · exact hi (by omega) (by omega) (by omega) (by omega) (by omega) (by omega) (by omega) (by omega) (by omega)
  · intro s' hs'
    rw [e1] at hs'
    obtain ⟨g, q1, q2⟩ := h.2.1 s' hs'
    by_cases hss : s' = s
    · subst hss
      unfold n_step
      split
      · exact ⟨g, q1, q2⟩
      · next hd0 =>
        split
        · next hd1 =>
          rw [n_rel_gas hf (by omega), q2]
          obtain ⟨-, z, hz1, hz5, hz⟩ := hf.2.2.2.2.2.2.1 s' hs'
          have hge : z ≤ g := by
            refine Nat.le_of_not_lt fun hlt => ?_
            unfold n_deed at hd1
            split at hd1
            · omega
            · rw [if_pos (by rw [q2, hz]; exact nI_lt hlt (by omega))] at hd1; omega
          by_cases hgb : g < 2 ^ 31
          · rw [hz, pk_sub hge]; exact ⟨g - z, by omega, rfl⟩
          · rw [hz, pk_sub hge]; exact ⟨g - z, by omega, rfl⟩
        · rw [n_gap_i (by omega) (by omega)]; exact ⟨g, q1, q2⟩
    · refine ⟨g, q1, ?_⟩
      rw [hi (by omega) (by omega) (by omega) (by omega) (by omega) (by omega) (by omega) (by omega) (by omega)]; exact q2
  · have eO : (n_step n s).2.1 = n.2.1 := by
      unfold n_step; split; rfl; split; exact n_rel_O; rfl
    unfold WFo
    rw [e0, e1, eO]; exact h.2.2.1
  · obtain ⟨b1, b2, b3⟩ := h.2.2.2.1
    have hb : (n_step n s).2.2.1 = n.2.2.1 ∨ ∃ x : nB, (n_step n s).2.2.1 = n_ins x n.2.2.1 ∧ cl (n.1 0) + 1 ≤ x.1 ∧ x.1 ≤ cl (n.1 0) + 30 ∧ x.2.1 < cl (n.1 1) ∧ 1 ≤ x.2.2 ∧ x.2.2 ≤ 4 := by
      unfold n_step; split
      · exact Or.inl rfl
      · split
        · exact n_rel_B h hs
        · exact Or.inl rfl
    unfold WFb
    rw [e0, e1]
    rcases hb with hb | ⟨x, hb, x1, x2, x3, x4, x5⟩
    · rw [hb]
      exact ⟨b1, b2, fun j q1 q2 => by have := b3 j q1 q2; omega⟩
    · rw [hb]
      refine ⟨fun b q => ?_, n_ins_srt b2, fun j q1 q2 => ?_⟩
      · rcases n_ins_mem q with rfl | q
        · exact ⟨x1, by omega, x3, x4, x5⟩
        · exact b1 b q
      · rw [n_cnt_ins]
        have := b3 j q1 q2
        split <;> omega
  · obtain ⟨g1, g2, g3, g4⟩ := h.2.2.2.2
    unfold WFn
    rw [e0]
    unfold n_step
    split
    · exact ⟨g1, by omega, g3, g4⟩
    · next hd0 =>
      split
      · rw [n_rel_G, n_rel_i hf (by omega) (by omega) (by omega) (by omega) (by omega) (by omega) (by omega) (by omega)]
        exact ⟨g1, by omega, g3, g4⟩
      · next hd1 =>
        have hT := hf.2.1
        have hd3 : n_deed n.1 s ≤ 3 := n_deed_lt
        have ec : (n_gap n s (n_deed n.1 s - 1)).1 5 = n.1 5 + 1 := by
          unfold n_gap; show upd _ _ _ 5 = _; rw [upd_nep (by omega), upd_eqp rfl]
        have ec2 : n.1 5 + 1 = nI (cl (n.1 5) + 1) := by
          rw [nI_succ, ← g1]
        rw [ec, ec2]
        by_cases hbig : cl (n.1 5) + 1 < 2 ^ 31
        · rw [cl_nI hbig]
          refine ⟨rfl, by omega, ?_, ?_⟩
          · unfold n_gap
            show ((if n.2.2.2.length = 12 then n.2.2.2.drop 1 else n.2.2.2) ++ [_]).length = _
            rw [List.length_append, List.length_singleton]
            split
            · rw [List.length_drop]; omega
            · omega
          · intro b q
            unfold n_gap at q
            rcases List.mem_append.mp q with q | q
            · split at q
              · exact g4 b (List.mem_of_mem_drop q)
              · exact g4 b q
            · rw [List.mem_singleton] at q
              subst q
              refine ⟨Nat.le_refl _, ?_, ?_, ?_⟩
              · show s < 5; omega
              · show 1 ≤ n_deed n.1 s - 1; omega
              · show n_deed n.1 s - 1 ≤ 2; omega
        · omega
theorem WF_tick {T m : Nat} {n : nT} (h : WFm T m n) (hm : m ≤ 5) (hT : T < 100000) : WF (T + 1) (n_tick n) := by
  obtain ⟨hf, hg, ho, hb, hn⟩ := h
  have hcT := hf.2.1
  have e0 : (n_tick n).1 0 = nI (cl (n.1 0) + 1) := by
    unfold n_tick; dsimp only; rw [upd_eqp rfl, nI_succ, ← hf.1]
  have ei : ∀ i, i ≠ 0 → (n_tick n).1 i = n.1 i := fun i hi => upd_nep hi
  have ec : cl ((n_tick n).1 0) = cl (n.1 0) + 1 := by rw [e0, cl_nI (by omega)]
  refine ⟨?_, ?_, ?_, ?_, ?_⟩
  · unfold WFf at hf ⊢
    rw [ec, e0, ei 1 (by omega), ei 2 (by omega), ei 12 (by omega), ei 13 (by omega)]
    refine ⟨rfl, by omega, hf.2.2.1, hf.2.2.2.1, hf.2.2.2.2.1, hf.2.2.2.2.2.1, fun s hs => ?_, fun k hk => ?_, hf.2.2.2.2.2.2.2.2⟩
    · rw [ei _ (by omega), ei _ (by omega)]; exact hf.2.2.2.2.2.2.1 s hs
    · rw [ei _ (by omega), ei _ (by omega), ei _ (by omega)]; exact hf.2.2.2.2.2.2.2.1 k hk
  · intro s hs
    rw [ei 1 (by omega)] at hs
    rw [ei _ (by omega)]
    exact hg s hs
  · unfold WFo
    rw [ec, ei 1 (by omega)]
    exact ⟨ho.1, fun o q => by have := ho.2 o q; omega⟩
  · unfold WFb
    rw [ec, ei 1 (by omega)]
    refine ⟨fun b q => by have := hb.1 b q; omega, hb.2.1, fun j q1 q2 => ?_⟩
    by_cases h30 : j = 30
    · subst h30
      have hz : n_cnt n.2.2.1 (cl (n.1 0) + 1 + 30) = 0 := by
        unfold n_cnt
        rw [List.length_eq_zero_iff, List.filter_eq_nil_iff]
        intro b q
        have := hb.1 b q
        simp; omega
      show n_cnt n.2.2.1 _ ≤ _
      omega
    · have := hb.2.2 (j + 1) (by omega) (by omega)
      rw [show cl (n.1 0) + (j + 1) = cl (n.1 0) + 1 + j by omega] at this
      show n_cnt n.2.2.1 _ ≤ _
      omega
  · unfold WFn at hn ⊢
    rw [ec, ei 5 (by omega)]
    exact ⟨hn.1, by omega, hn.2.2.1, fun b q => by have := hn.2.2.2 b q; omega⟩
/-- the loop over the stations, and a whole watch -/
theorem n_loop_W {T : Nat} {n : nT} (h : WFm T 0 n) (hT : T < 100000) : ∀ k, k ≤ cl (n.1 1) → WFm T k (n_loop k n) ∧ (n_loop k n).1 1 = n.1 1 ∧ (n_loop k n).1 0 = n.1 0
  | 0, _ => ⟨h, rfl, rfl⟩
  | k + 1, hk => by
    have h5 : cl (n.1 1) ≤ 5 := h.1.2.2.2.1
    obtain ⟨h1, h2, h3⟩ := n_loop_W h hT k (by omega)
    have hs : k < cl ((n_loop k n).1 1) := by rw [h2]; omega
    refine ⟨WFm_step h1 hs hT (by omega), ?_, ?_⟩
    · show (n_step _ _).1 1 = _
      rw [n_step_i h1.1 (by omega) (by omega) (by omega) (by omega) (by omega) (by omega) (by omega) (by omega) (by omega) (by omega), h2]
    · show (n_step _ _).1 0 = _
      rw [n_step_i h1.1 (by omega) (by omega) (by omega) (by omega) (by omega) (by omega) (by omega) (by omega) (fun _ _ => by omega) (fun _ _ => by omega), h3]
theorem WF_watch {T : Nat} {n : nT} (h : WF T n) (hT : T < 100000) : WF (T + 1) (n_watch n) := by
  have h1 := WF_arr h hT
  have h5 : cl ((n_arr n).1 1) ≤ 5 := h1.1.2.2.2.1
  exact WF_tick (n_loop_W h1 hT _ (Nat.le_refl _)).1 h5 hT
theorem WF_run {T : Nat} {n : nT} (h : WF T n) : ∀ k, T + k < 100000 → WF (T + k) (n_run k n)
  | 0, _ => h
  | k + 1, hT => WF_watch (T := T + k) (WF_run h k (by omega)) (by omega)
