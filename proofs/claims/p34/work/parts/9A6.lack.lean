/-! MORE GAS AT A STATION: nothing else changes, as long as it lacks none -/
def mf (f : nF) (s : Nat) (G : Int32) : nF := upd f (24 + 11 * s) (f (24 + 11 * s) + G)
theorem more_mf {n : nT} {s : Nat} {G : Int32} : n_more n s G = (mf n.1 s G, n.2) := rfl
theorem mf_i {f : nF} {s i : Nat} {G : Int32} (h : i ≠ 24 + 11 * s) : mf f s G i = f i := upd_nep h
theorem mf_s {f : nF} {s : Nat} {G : Int32} : mf f s G (24 + 11 * s) = f (24 + 11 * s) + G := upd_eq
theorem upd_mf {f : nF} {s i : Nat} {G x : Int32} (h : i ≠ 24 + 11 * s) : upd (mf f s G) i x = mf (upd f i x) s G := by
  unfold mf
  rw [upd_comm (i := 24 + 11 * s) (j := i) (fun q => h q.symm), upd_nep (f := f) (j := 24 + 11 * s) (k := i) (fun q => h q.symm)]
theorem upd_mf_s {f : nF} {s : Nat} {G x y : Int32} (h : y = x + G) : upd (mf f s G) (24 + 11 * s) y = mf (upd f (24 + 11 * s) x) s G := by
  unfold mf
  rw [upd_upd, upd_upd, upd_eq, h]
theorem mf_mf {f : nF} {s : Nat} {G H : Int32} : mf (mf f s G) s H = mf f s (G + H) := by
  unfold mf
  rw [upd_upd, upd_eq, Int32.add_assoc]
theorem addO_mf {f : nF} {s : Nat} {G : Int32} {o : nO} : n_addO (mf f s G) o = mf (n_addO f o) s G := by
  unfold n_addO
  by_cases h : o.2.1 = s
  · subst h
    rw [mf_s, mf_i (show 25 + 11 * o.2.1 ≠ 24 + 11 * o.2.1 by omega), upd_mf_s (x := f (24 + 11 * o.2.1) + nI o.2.2.1) (by grind), upd_mf (by omega)]
  · rw [mf_i (show 24 + 11 * o.2.1 ≠ 24 + 11 * s by omega), mf_i (show 25 + 11 * o.2.1 ≠ 24 + 11 * s by omega), upd_mf (by omega), upd_mf (by omega)]
theorem fold_mf {t s : Nat} {G : Int32} : ∀ (l : List nO) (f : nF), l.foldl (n_come t) (mf f s G) = mf (l.foldl (n_come t) f) s G
  | [], _ => rfl
  | o :: l, f => by
    rw [List.foldl_cons, List.foldl_cons]
    have : n_come t (mf f s G) o = mf (n_come t f o) s G := by
      unfold n_come; split
      · exact addO_mf
      · rfl
    rw [this]
    exact fold_mf l _
theorem addB_mf {f : nF} {s : Nat} {G : Int32} {b : nB} (h : b.2.2 ≤ 4) : n_addB (mf f s G) b = mf (n_addB f b) s G := by
  unfold n_addB
  rw [mf_i (show 25 + 11 * b.2.1 + b.2.2 ≠ 24 + 11 * s by omega), mf_i (show 7 ≠ 24 + 11 * s by omega), mf_i (show 3 ≠ 24 + 11 * s by omega), mf_i (show 16 ≠ 24 + 11 * s by omega), upd_mf (by omega), upd_mf (by omega), upd_mf (by omega)]
theorem back_mf {t s : Nat} {G : Int32} : ∀ (l : List nB) (f : nF), (∀ b ∈ l, b.2.2 ≤ 4) → n_back t l (mf f s G) = (mf (n_back t l f).1 s G, (n_back t l f).2)
  | [], _, _ => rfl
  | b :: l, f, h => by
    unfold n_back
    split
    · rw [addB_mf (h b List.mem_cons_self)]
      exact back_mf l _ (fun x q => h x (List.mem_cons_of_mem _ q))
    · rfl
theorem arr_mf {n : nT} {s : Nat} {G : Int32} (h : ∀ b ∈ n.2.2.1, b.2.2 ≤ 4) : n_arr (n_more n s G) = n_more (n_arr n) s G := by
  rw [more_mf, more_mf]
  unfold n_arr
  dsimp only
  rw [mf_i (show 0 ≠ 24 + 11 * s by omega), fold_mf, back_mf _ _ h]
theorem who_mf {f : nF} {s : Nat} {G p : Int32} (hs : s < 5) : ∀ k, n_who (mf f s G) p k = n_who f p k
  | 0 => rfl
  | k + 1 => by
    have h1 := who_mf (f := f) (G := G) (p := p) hs k
    rw [n_who, n_who, h1, mf_i (show 76 + 4 * k ≠ 24 + 11 * s by omega), mf_i (show 77 + 4 * k ≠ 24 + 11 * s by omega)]
    cases n_who f p k with
    | none => rfl
    | some b => dsimp only; rw [mf_i (show 76 + 4 * b ≠ 24 + 11 * s by omega)]
theorem near_mf {f : nF} {s : Nat} {G p : Int32} : ∀ k, n_near (mf f s G) p k = n_near f p k
  | 0 => rfl
  | k + 1 => by
    have h1 := near_mf (f := f) (s := s) (G := G) (p := p) k
    rw [n_near, n_near, h1]
    cases n_near f p k with
    | none => rfl
    | some b => dsimp only; rw [mf_i (show 21 + 11 * b ≠ 24 + 11 * s by omega), mf_i (show 21 + 11 * k ≠ 24 + 11 * s by omega)]
theorem land_mf {f : nF} {s j h : Nat} {G : Int32} (hs : s < 5) (hh : h < 4) : n_land (mf f s G) j h = n_land f j h := by
  unfold n_land n_pl
  rw [mf_i (show 21 + 11 * j ≠ 24 + 11 * s by omega), mf_i (show 17 + h ≠ 24 + 11 * s by omega), mf_i (show 23 + 11 * j ≠ 24 + 11 * s by omega)]
theorem find_mf {f : nF} {s j : Nat} {G : Int32} (hs : s < 5) : n_find (mf f s G) j = n_find f j := by
  unfold n_find
  rw [mf_i (show 0 ≠ 24 + 11 * s by omega), mf_i (show 2 ≠ 24 + 11 * s by omega), land_mf hs (by omega), who_mf hs]
theorem most_mf {f : nF} {s j : Nat} {G : Int32} : n_most (mf f s G) j = n_most f j := by
  unfold n_most
  rw [mf_i (show 25 + 11 * j ≠ 24 + 11 * s by omega), mf_i (show 26 + 11 * j ≠ 24 + 11 * s by omega), mf_i (show 27 + 11 * j ≠ 24 + 11 * s by omega), mf_i (show 28 + 11 * j ≠ 24 + 11 * s by omega), mf_i (show 29 + 11 * j ≠ 24 + 11 * s by omega)]
theorem up1_mf {f : nF} {s j m : Nat} {G : Int32} (hm : m ≤ 4) : n_up1 (mf f s G) j m = mf (n_up1 f j m) s G := by
  unfold n_up1
  rw [mf_i (show 25 + 11 * j + m ≠ 24 + 11 * s by omega), mf_i (show 23 + 11 * j ≠ 24 + 11 * s by omega), mf_i (show 30 + 11 * j ≠ 24 + 11 * s by omega), mf_i (show 4 ≠ 24 + 11 * s by omega), upd_mf (by omega)]
  by_cases h : j = s
  · subst h
    rw [mf_s, upd_mf_s (x := f (24 + 11 * j) - f (23 + 11 * j)) (by grind), upd_mf (by omega), upd_mf (by omega)]
  · rw [mf_i (show 24 + 11 * j ≠ 24 + 11 * s by omega), upd_mf (by omega), upd_mf (by omega), upd_mf (by omega)]
theorem rel_mf {n : nT} {s j : Nat} {G : Int32} (hs : s < 5) : n_rel (n_more n s G) j = n_more (n_rel n j) s G := by
  rw [more_mf, more_mf]
  unfold n_rel
  dsimp only
  have hm : (n_most n.1 j).getD 0 ≤ 4 := by
    cases h : n_most n.1 j with
    | none => exact Nat.zero_le _
    | some m => exact n_most_lt h
  rw [most_mf, up1_mf hm, find_mf hs]
  generalize n_up1 n.1 j ((n_most n.1 j).getD 0) = F
  generalize (n_most n.1 j).getD 0 = m
  cases n_find F j with
  | none =>
    dsimp only
    rw [mf_i (show 6 ≠ 24 + 11 * s by omega), upd_mf (by omega)]
  | some k =>
    dsimp only
    rw [mf_i (show 79 + 4 * k ≠ 24 + 11 * s by omega), upd_mf (by omega)]
    generalize upd F (79 + 4 * k) (F (79 + 4 * k) + 1) = H
    rw [mf_i (show 13 ≠ 24 + 11 * s by omega), mf_i (show 8 ≠ 24 + 11 * s by omega), mf_i (show 0 ≠ 24 + 11 * s by omega), mf_i (show 78 + 4 * k ≠ 24 + 11 * s by omega), mf_i (show 76 + 4 * k ≠ 24 + 11 * s by omega), mf_i (show 1 ≠ 24 + 11 * s by omega), near_mf]
    split
    · dsimp only; rw [upd_mf (by omega)]
    · rfl
theorem deed_mf {f : nF} {s j : Nat} {G : Int32} (hg : j = s → ¬ f (24 + 11 * s) < f (23 + 11 * s) ∧ ¬ f (24 + 11 * s) + G < f (23 + 11 * s)) : n_deed (mf f s G) j = n_deed f j := by
  unfold n_deed n_hb
  rw [mf_i (show 0 ≠ 24 + 11 * s by omega), mf_i (show 22 + 11 * j ≠ 24 + 11 * s by omega), mf_i (show 23 + 11 * j ≠ 24 + 11 * s by omega), most_mf]
  by_cases h : j = s
  · subst h
    rw [mf_s, if_neg (hg rfl).1, if_neg (hg rfl).2]
  · rw [mf_i (show 24 + 11 * j ≠ 24 + 11 * s by omega)]
theorem step_mf {n : nT} {s j : Nat} {G : Int32} (hs : s < 5) (hg : j = s → ¬ n.1 (24 + 11 * s) < n.1 (23 + 11 * s) ∧ ¬ n.1 (24 + 11 * s) + G < n.1 (23 + 11 * s)) : n_step (n_more n s G) j = n_more (n_step n j) s G := by
  have hd : n_deed (n_more n s G).1 j = n_deed n.1 j := deed_mf hg
  unfold n_step
  rw [hd]
  split
  · rfl
  · split
    · exact rel_mf hs
    · rw [more_mf, more_mf]
      unfold n_gap
      dsimp only
      rw [mf_i (show 5 ≠ 24 + 11 * s by omega), mf_i (show 31 + 11 * j ≠ 24 + 11 * s by omega), mf_i (show 0 ≠ 24 + 11 * s by omega), upd_mf (by omega), upd_mf (by omega)]
theorem loop_mf {T : Nat} {n : nT} {s : Nat} {G : Int32} (h : WFm T 0 n) (hT : T < 100000) (hs : s < cl (n.1 1)) (hg : ¬ n.1 (24 + 11 * s) < n.1 (23 + 11 * s) ∧ ¬ n.1 (24 + 11 * s) + G < n.1 (23 + 11 * s)) : ∀ k, k ≤ cl (n.1 1) → n_loop k (n_more n s G) = n_more (n_loop k n) s G
  | 0, _ => rfl
  | k + 1, hk => by
    have h5 : cl (n.1 1) ≤ 5 := h.1.2.2.2.1
    show n_step (n_loop k (n_more n s G)) k = n_more (n_step (n_loop k n) k) s G
    rw [loop_mf h hT hs hg k (by omega)]
    refine step_mf (by omega) (fun q => ?_)
    subst q
    have e3 := n_loop_ge h hT k (by omega) k 3 (Nat.le_refl _) (by omega) (by omega)
    have e2 := n_loop_ge h hT k (by omega) k 2 (Nat.le_refl _) (by omega) (by omega)
    rw [ix21_3] at e3; rw [ix21_2] at e2
    rw [e3, e2]; exact hg
theorem watch_mf {T : Nat} {n : nT} {s : Nat} {G : Int32} (h : WF T n) (hT : T < 100000) (hs : s < cl (n.1 1)) (hg : ¬ (n_arr n).1 (24 + 11 * s) < (n_arr n).1 (23 + 11 * s) ∧ ¬ (n_arr n).1 (24 + 11 * s) + G < (n_arr n).1 (23 + 11 * s)) : n_watch (n_more n s G) = n_more (n_watch n) s G := by
  have h5 : cl (n.1 1) ≤ 5 := h.1.2.2.2.1
  have ha := WF_arr h hT
  have e1 : (n_arr n).1 1 = n.1 1 := n_arr_i h (by omega)
  unfold n_watch
  rw [arr_mf (fun b q => by have := (h.2.2.2.1.1 b q); omega)]
  have e1' : (n_more (n_arr n) s G).1 1 = (n_arr n).1 1 := mf_i (by omega)
  rw [e1', loop_mf ha hT (by rw [e1]; exact hs) hg _ (Nat.le_refl _)]
  generalize n_loop (cl ((n_arr n).1 1)) (n_arr n) = N
  rw [more_mf, more_mf]
  unfold n_tick
  dsimp only
  rw [mf_i (show 0 ≠ 24 + 11 * s by omega), upd_mf (by omega)]
/-- gas grows by what arrives, at most 999 a delivery -/
theorem arr_ge {t : Nat} : ∀ (l : List nO) (f : nF) (s g : Nat), (∀ o ∈ l, o.2.2.1 ≤ 999) → f (24 + 11 * s) = nI g → ∃ g', l.foldl (n_come t) f (24 + 11 * s) = nI g' ∧ g ≤ g' ∧ g' ≤ g + 999 * l.length
  | [], _, _, g, _, h => ⟨g, h, Nat.le_refl _, by simp only [List.length_nil]; omega⟩
  | o :: l, f, s, g, hl, h => by
    rw [List.foldl_cons]
    have ho : o.2.2.1 ≤ 999 := hl o List.mem_cons_self
    have h1 : ∃ g1, n_come t f o (24 + 11 * s) = nI g1 ∧ g ≤ g1 ∧ g1 ≤ g + 999 := by
      unfold n_come n_addO
      split
      · by_cases hs : o.2.1 = s
        · subst hs
          rw [upd_nep (by omega), upd_eqp rfl, h, nI_add]
          exact ⟨_, rfl, by omega, by omega⟩
        · rw [upd_nep (by omega), upd_nep (by omega)]; exact ⟨g, h, by omega, by omega⟩
      · exact ⟨g, h, by omega, by omega⟩
    obtain ⟨g1, q1, q2, q2'⟩ := h1
    obtain ⟨g2, q3, q4, q5⟩ := arr_ge l _ s g1 (fun o q => hl o (List.mem_cons_of_mem _ q)) q1
    refine ⟨g2, q3, by omega, ?_⟩
    rw [List.length_cons]; omega
theorem arr_gas {T : Nat} {n : nT} {s g : Nat} (h : WF T n) (hT : T < 100000) (hs : s < cl (n.1 1)) (hg : n.1 (24 + 11 * s) = nI g) : ∃ g', (n_arr n).1 (24 + 11 * s) = nI g' ∧ g ≤ g' ∧ g' ≤ g + 7992 := by
  have h5 : cl (n.1 1) ≤ 5 := h.1.2.2.2.1
  have hb := h.2.2.2.1
  obtain ⟨g', q1, q2, q3⟩ := arr_ge (t := cl (n.1 0)) n.2.1 n.1 s g (fun o q => by have := h.2.2.1.2 o q; omega) hg
  have e : (n_arr n).1 (24 + 11 * s) = nI g' := by
    rw [n_arr_eq]
    show n_addBs _ _ _ = _
    rw [n_addBs_i (Or.inr (Or.inr ⟨s, by omega, by omega⟩)) _ _ (fun b q => by have := hb.1 b (List.mem_of_mem_take q); omega)]
    exact q1
  have hl : 999 * n.2.1.length ≤ 999 * 8 := Nat.mul_le_mul_left _ h.2.2.1.1
  exact ⟨g', e, q2, by omega⟩
theorem watch_gas {T : Nat} {n : nT} {s g : Nat} (h : WF T n) (hT : T < 100000) (hs : s < cl (n.1 1)) (hg : (n_arr n).1 (24 + 11 * s) = nI g) (hg2 : g < 2 ^ 30) : ∃ g', (n_watch n).1 (24 + 11 * s) = nI g' ∧ g ≤ g' + 5 ∧ g' ≤ g := by
  have h5 : cl (n.1 1) ≤ 5 := h.1.2.2.2.1
  have ha := WF_arr h hT
  have e1 : (n_arr n).1 1 = n.1 1 := n_arr_i h (by omega)
  have hloop : ∀ k, k ≤ cl (n.1 1) → ∃ g', (n_loop k (n_arr n)).1 (24 + 11 * s) = nI g' ∧ g ≤ g' + 5 ∧ g' ≤ g ∧ (k ≤ s → g' = g) := by
    intro k
    induction k with
    | zero => intro _; exact ⟨g, hg, by omega, by omega, fun _ => rfl⟩
    | succ k ih =>
      intro hk
      obtain ⟨g', q1, q2, q3, q4⟩ := ih (by omega)
      obtain ⟨w1, w2, w3⟩ := n_loop_W ha hT k (by rw [e1]; omega)
      show ∃ g', (n_step (n_loop k (n_arr n)) k).1 (24 + 11 * s) = nI g' ∧ _
      by_cases hks : k = s
      · subst hks
        have hgg := q4 (Nat.le_refl _)
        unfold n_step
        split
        · exact ⟨g', q1, q2, q3, fun q => by omega⟩
        · next hd0 =>
          split
          · next hd1 =>
            rw [n_rel_gas w1.1 (by omega), q1]
            obtain ⟨-, z, hz1, hz5, hz⟩ := w1.1.2.2.2.2.2.2.1 k (by rw [w2, e1]; exact hs)
            have hge : z ≤ g' := by
              refine Nat.le_of_not_lt fun hlt => ?_
              unfold n_deed at hd1
              split at hd1
              · omega
              · rw [if_pos (by rw [q1, hz]; exact nI_lt hlt (by omega))] at hd1; omega
            rw [hz, pk_sub hge]
            exact ⟨g' - z, rfl, by omega, by omega, fun q => by omega⟩
          · rw [n_gap_i (by omega) (by omega)]; exact ⟨g', q1, q2, q3, fun q => by omega⟩
      · rw [n_step_i w1.1 (by omega) (by omega) (by omega) (by omega) (by omega) (by omega) (by omega) (by omega) (fun m hm => by omega) (fun j hj => by omega)]
        exact ⟨g', q1, q2, q3, fun q => q4 (by omega)⟩
  obtain ⟨g', q1, q2, q3, -⟩ := hloop (cl (n.1 1)) (Nat.le_refl _)
  refine ⟨g', ?_, q2, q3⟩
  unfold n_watch n_tick
  dsimp only
  rw [upd_nep (by omega), e1]
  exact q1
