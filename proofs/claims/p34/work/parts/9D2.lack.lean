/-! WHAT IS LACKING: its bound; none without hours; no more behind a delivery -/
theorem gas_run {T : Nat} {n : nT} {s : Nat} (h : WF T n) (hT : T + 60 < 100000) (hs : s < cl (n.1 1)) : ∀ j, j ≤ 60 → cl ((n_run j (n_more n s (nI 300))).1 1) = cl (n.1 1) ∧ n_run j (n_more n s (nI 1000)) = n_more (n_run j (n_more n s (nI 300))) s (nI 700) ∧ ∃ g, (n_run j (n_more n s (nI 300))).1 (24 + 11 * s) = nI g ∧ 300 ≤ g + 5 * j ∧ g < 2 ^ 30 := by
  have h5 : cl (n.1 1) ≤ 5 := h.1.2.2.2.1
  have hWM := WF_more h (s := s) (g := 300) (by omega) (by omega)
  intro j
  induction j with
  | zero =>
    intro _
    obtain ⟨g, hg1, hg⟩ := h.2.1 s hs
    refine ⟨?_, ?_, g + 300, ?_, by omega, by omega⟩
    · show cl (upd _ _ _ 1) = _
      rw [upd_nep (by omega)]
    · show n_more n s (nI 1000) = n_more (n_more n s (nI 300)) s (nI 700)
      rw [more_mf, more_mf, more_mf]
      dsimp only
      rw [mf_mf, nI_add]
    · show upd _ _ _ _ = _
      rw [upd_eqp rfl, hg, nI_add]
  | succ j ih =>
    intro hj
    obtain ⟨i1, i2, g, i3, i4, i5⟩ := ih (by omega)
    have hWj := WF_run hWM j (by omega)
    have hWa := WF_arr hWj (by omega)
    have e1 := n_arr_i hWj (i := 1) (by omega)
    show cl ((n_watch (n_run j (n_more n s (nI 300)))).1 1) = _ ∧ n_watch (n_run j (n_more n s (nI 1000))) = n_more (n_watch (n_run j (n_more n s (nI 300)))) s (nI 700) ∧ ∃ g, (n_watch (n_run j (n_more n s (nI 300)))).1 (24 + 11 * s) = nI g ∧ _
    rw [i2]
    generalize n_run j (n_more n s (nI 300)) = m at *
    obtain ⟨g1, p1, p2, p3⟩ := arr_gas hWj (by omega) (by omega) i3
    obtain ⟨g0, r1, r2⟩ := hWa.2.1 s (by rw [e1]; omega)
    have e01 : g1 = g0 := nI_inj (by omega) (by omega) (p1.symm.trans r2)
    obtain ⟨z, hz1, hz5, hz⟩ := (hWa.1.2.2.2.2.2.2.1 s (by rw [e1]; omega)).2
    refine ⟨?_, ?_, ?_⟩
    · unfold n_watch n_tick
      dsimp only
      rw [upd_nep (by omega), (n_loop_W hWa (by omega) _ (Nat.le_refl _)).2.1, e1, i1]
    · refine watch_mf hWj (by omega) (by omega) ⟨?_, ?_⟩
      · rw [p1, hz]; exact fun q => absurd ((nI_ltI (by omega) (by omega)).mp q) (by omega)
      · rw [p1, hz, nI_add]; exact fun q => absurd ((nI_ltI (by omega) (by omega)).mp q) (by omega)
    · obtain ⟨g2, q1, q2, q3⟩ := watch_gas hWj (by omega) (by omega) p1 (by omega)
      exact ⟨g2, q1, by omega, by omega⟩
theorem run_22 {T : Nat} {m : nT} (h : WF T m) {s : Nat} (hs : s < 5) : ∀ j, T + j < 100000 → (n_run j m).1 (22 + 11 * s) = m.1 (22 + 11 * s)
  | 0, _ => rfl
  | j + 1, hT => by
    have hj := WF_run h j (by omega)
    have hA := WF_arr hj (by omega)
    have h5 : cl ((n_arr (n_run j m)).1 1) ≤ 5 := hA.1.2.2.2.1
    have hl : ∀ k, k ≤ cl ((n_arr (n_run j m)).1 1) → (n_loop k (n_arr (n_run j m))).1 (22 + 11 * s) = (n_arr (n_run j m)).1 (22 + 11 * s) := fun k hk => by
      induction k with
      | zero => rfl
      | succ k ih =>
        obtain ⟨w1, w2, w3⟩ := n_loop_W hA (by omega) k (by omega)
        show (n_step _ _).1 _ = _
        rw [n_step_i w1.1 (by omega) (by omega) (by omega) (by omega) (by omega) (by omega) (by omega) (by omega) (fun q hq => by omega) (fun q hq => by omega)]
        exact ih (by omega)
    show (n_watch (n_run j m)).1 (22 + 11 * s) = _
    unfold n_watch n_tick
    dsimp only
    rw [upd_nep (by omega), hl _ (Nat.le_refl _), n_arr_i hj (Or.inr (Or.inr ⟨s, hs, Or.inr (Or.inl rfl)⟩)), run_22 h hs j (by omega)]
theorem deed_no {f : nF} {s : Nat} (h : f (22 + 11 * s) = nI 0) : n_deed f s = 0 := by
  have q : ∀ t, t < 4 → (nI 0 >>> (nI t &&& 31)) &&& nI 1 = 0 := by decide
  rw [deed_0]
  unfold n_hb
  rw [h]
  exact q _ (Nat.mod_lt _ (by omega))
theorem arr_no {T : Nat} {m : nT} (h : WF T m) {s : Nat} (hs : s < 5) (h0 : m.1 (22 + 11 * s) = nI 0) : n_deed (n_arr m).1 s = 0 :=
  deed_no (by rw [n_arr_i h (Or.inr (Or.inr ⟨s, hs, Or.inr (Or.inl rfl)⟩))]; exact h0)
theorem lack_0 {T : Nat} {n : nT} (h : WF T n) {s : Nat} (hs : s < 5) (h0 : n.1 (22 + 11 * s) = nI 0) : ∀ k, T + k + 1 < 100000 → n_lack n s 300 k = 0
  | 0, _ => rfl
  | k + 1, hT => by
    have hM := WF_more h (s := s) (g := 300) hs (by omega)
    have e : (n_run k (n_more n s (nI 300))).1 (22 + 11 * s) = nI 0 := by
      rw [run_22 hM hs k (by omega)]
      show upd _ _ _ _ = _
      rw [upd_nep (by omega)]; exact h0
    rw [n_lack, lack_0 h hs h0 k (by omega)]
    unfold n_lk
    rw [if_pos (arr_no (WF_run hM k (by omega)) hs e)]
    rfl
/-- the gas at a station of which much more is told -/
theorem gas_arr {T : Nat} {n : nT} {s : Nat} (h : WF T n) (hT : T + 60 < 100000) (hs : s < cl (n.1 1)) {j : Nat} (hj : j ≤ 59) : WF (T + 1 + j) (n_run j (n_more n s (nI 300))) ∧ cl ((n_run j (n_more n s (nI 300))).1 1) = cl (n.1 1) ∧ ∃ g z, (n_arr (n_run j (n_more n s (nI 300)))).1 (24 + 11 * s) = nI g ∧ (n_arr (n_run j (n_more n s (nI 300)))).1 (23 + 11 * s) = nI z ∧ 300 ≤ g + 5 * j ∧ g < 2 ^ 30 ∧ z ≤ 5 := by
  have h5 : cl (n.1 1) ≤ 5 := h.1.2.2.2.1
  have hWM := WF_more h (s := s) (g := 300) (by omega) (by omega)
  obtain ⟨i1, i2, g, i3, i4, i5⟩ := gas_run h hT hs j (by omega)
  have hWj := WF_run hWM j (by omega)
  have hWa := WF_arr hWj (by omega)
  have e1 := n_arr_i hWj (i := 1) (by omega)
  refine ⟨hWj, i1, ?_⟩
  generalize n_run j (n_more n s (nI 300)) = m at *
  obtain ⟨g1, p1, p2, p3⟩ := arr_gas hWj (by omega) (by omega) i3
  obtain ⟨g0, r1, r2⟩ := hWa.2.1 s (by rw [e1]; omega)
  have e01 : g1 = g0 := nI_inj (by omega) (by omega) (p1.symm.trans r2)
  obtain ⟨z, hz1, hz5, hz⟩ := (hWa.1.2.2.2.2.2.2.1 s (by rw [e1]; omega)).2
  exact ⟨g1, z, p1, hz, by omega, by omega, hz5⟩
theorem lack_le {T : Nat} {n : nT} {s : Nat} (h : WF T n) (hT : T + 60 < 100000) (hs : s < cl (n.1 1)) : ∀ k, k ≤ 60 → n_lack n s 300 k ≤ 5 * k
  | 0, _ => Nat.le_refl _
  | k + 1, hk => by
    have ih := lack_le h hT hs k (by omega)
    obtain ⟨-, -, g, z, q1, q2, q3, q4, q5⟩ := gas_arr h hT hs (show k ≤ 59 by omega)
    rw [n_lack]
    unfold n_lk
    split
    · omega
    · rw [q1, q2, cl_nI (by omega), cl_nI (by omega)]; omega
/-! more is paid: nothing else changes -/
def pf (f : nF) (c : Int32) : nF := upd f 3 (f 3 + c)
def pd (n : nT) (c : Int32) : nT := (pf n.1 c, n.2)
theorem pf_i {f : nF} {i : Nat} {c : Int32} (h : i ≠ 3) : pf f c i = f i := upd_nep h
theorem upd_pf {f : nF} {i : Nat} {c x : Int32} (h : i ≠ 3) : upd (pf f c) i x = pf (upd f i x) c := by
  unfold pf
  rw [upd_comm (i := 3) (j := i) (fun q => h q.symm), upd_nep (f := f) (j := 3) (k := i) (fun q => h q.symm)]
theorem come_pf {t : Nat} {f : nF} {c : Int32} {o : nO} : n_come t (pf f c) o = pf (n_come t f o) c := by
  unfold n_come
  split
  · unfold n_addO
    rw [pf_i (by omega), pf_i (by omega), upd_pf (by omega), upd_pf (by omega)]
  · rfl
theorem fold_pf {t : Nat} {c : Int32} : ∀ (l : List nO) (f : nF), l.foldl (n_come t) (pf f c) = pf (l.foldl (n_come t) f) c
  | [], _ => rfl
  | o :: l, f => by
    show l.foldl (n_come t) (n_come t (pf f c) o) = _
    rw [come_pf, fold_pf l]; rfl
theorem addB_pf {f : nF} {c : Int32} {b : nB} : n_addB (pf f c) b = pf (n_addB f b) c := by
  unfold n_addB
  have e3 : pf f c 3 + pf f c 16 = f 3 + f 16 + c := by
    rw [pf_i (show 16 ≠ 3 by omega)]
    show upd _ _ _ _ + _ = _
    rw [upd_eqp rfl]
    ac_rfl
  rw [e3, pf_i (by omega), pf_i (show 7 ≠ 3 by omega), upd_pf (by omega), upd_pf (by omega)]
  unfold pf
  rw [upd_upd, upd_upd, upd_eqp rfl]
theorem back_pf {t : Nat} {c : Int32} : ∀ (l : List nB) (f : nF), n_back t l (pf f c) = (pf (n_back t l f).1 c, (n_back t l f).2)
  | [], _ => rfl
  | b :: l, f => by
    rw [n_back, n_back]
    split
    · rw [addB_pf, back_pf l]
    · rfl
theorem arr_pf {n : nT} {c : Int32} : n_arr (pd n c) = pd (n_arr n) c := by
  unfold n_arr pd
  dsimp only
  rw [pf_i (show 0 ≠ 3 by omega), fold_pf, back_pf]
theorem who_pf {f : nF} {c p : Int32} : ∀ k, n_who (pf f c) p k = n_who f p k
  | 0 => rfl
  | k + 1 => by
    rw [n_who, n_who, who_pf k, pf_i (show 76 + 4 * k ≠ 3 by omega), pf_i (show 77 + 4 * k ≠ 3 by omega)]
    cases n_who f p k with
    | none => rfl
    | some b => dsimp only; rw [pf_i (show 76 + 4 * b ≠ 3 by omega)]
theorem near_pf {f : nF} {c p : Int32} : ∀ k, n_near (pf f c) p k = n_near f p k
  | 0 => rfl
  | k + 1 => by
    rw [n_near, n_near, near_pf k, pf_i (show 21 + 11 * k ≠ 3 by omega)]
    cases n_near f p k with
    | none => rfl
    | some b => dsimp only; rw [pf_i (show 21 + 11 * b ≠ 3 by omega)]
theorem land_pf {f : nF} {c : Int32} {j h : Nat} : n_land (pf f c) j h = n_land f j h := by
  unfold n_land n_pl
  rw [pf_i (show 21 + 11 * j ≠ 3 by omega), pf_i (show 17 + h ≠ 3 by omega), pf_i (show 23 + 11 * j ≠ 3 by omega)]
theorem find_pf {f : nF} {c : Int32} {j : Nat} : n_find (pf f c) j = n_find f j := by
  unfold n_find
  rw [land_pf, pf_i (show 0 ≠ 3 by omega), pf_i (show 2 ≠ 3 by omega), who_pf]
theorem most_pf {f : nF} {c : Int32} {j : Nat} : n_most (pf f c) j = n_most f j := by
  unfold n_most
  rw [pf_i (show 29 + 11 * j ≠ 3 by omega), pf_i (show 28 + 11 * j ≠ 3 by omega), pf_i (show 27 + 11 * j ≠ 3 by omega), pf_i (show 26 + 11 * j ≠ 3 by omega), pf_i (show 25 + 11 * j ≠ 3 by omega)]
theorem deed_pf {f : nF} {c : Int32} {j : Nat} : n_deed (pf f c) j = n_deed f j := by
  unfold n_deed n_hb
  rw [pf_i (show 0 ≠ 3 by omega), pf_i (show 22 + 11 * j ≠ 3 by omega), pf_i (show 23 + 11 * j ≠ 3 by omega), pf_i (show 24 + 11 * j ≠ 3 by omega), most_pf]
theorem up1_pf {f : nF} {c : Int32} {j m : Nat} : n_up1 (pf f c) j m = pf (n_up1 f j m) c := by
  unfold n_up1
  rw [pf_i (show 25 + 11 * j + m ≠ 3 by omega), pf_i (show 24 + 11 * j ≠ 3 by omega), pf_i (show 23 + 11 * j ≠ 3 by omega), pf_i (show 30 + 11 * j ≠ 3 by omega), pf_i (show 4 ≠ 3 by omega), upd_pf (by omega), upd_pf (by omega), upd_pf (by omega), upd_pf (by omega)]
theorem rel_pf {n : nT} {c : Int32} {j : Nat} : n_rel (pd n c) j = pd (n_rel n j) c := by
  unfold n_rel pd
  dsimp only
  rw [most_pf, up1_pf, find_pf]
  generalize n_up1 n.1 j ((n_most n.1 j).getD 0) = F
  generalize (n_most n.1 j).getD 0 = m
  cases n_find F j with
  | none =>
    dsimp only
    rw [pf_i (show 6 ≠ 3 by omega), upd_pf (by omega)]
  | some k =>
    dsimp only
    rw [pf_i (show 79 + 4 * k ≠ 3 by omega), upd_pf (by omega)]
    generalize upd F (79 + 4 * k) (F (79 + 4 * k) + 1) = H
    rw [pf_i (show 13 ≠ 3 by omega), pf_i (show 8 ≠ 3 by omega), pf_i (show 0 ≠ 3 by omega), pf_i (show 78 + 4 * k ≠ 3 by omega), pf_i (show 76 + 4 * k ≠ 3 by omega), pf_i (show 1 ≠ 3 by omega), near_pf]
    split
    · dsimp only; rw [upd_pf (by omega)]
    · rfl
theorem step_pf {n : nT} {c : Int32} {j : Nat} : n_step (pd n c) j = pd (n_step n j) c := by
  unfold n_step
  have hd : n_deed (pd n c).1 j = n_deed n.1 j := deed_pf
  rw [hd]
  split
  · rfl
  · split
    · exact rel_pf
    · unfold n_gap pd
      dsimp only
      rw [pf_i (show 5 ≠ 3 by omega), pf_i (show 31 + 11 * j ≠ 3 by omega), pf_i (show 0 ≠ 3 by omega), upd_pf (by omega), upd_pf (by omega)]
theorem loop_pf {n : nT} {c : Int32} : ∀ k, n_loop k (pd n c) = pd (n_loop k n) c
  | 0 => rfl
  | k + 1 => by
    show n_step (n_loop k (pd n c)) k = pd (n_step (n_loop k n) k) c
    rw [loop_pf k, step_pf]
theorem watch_pf {n : nT} {c : Int32} : n_watch (pd n c) = pd (n_watch n) c := by
  unfold n_watch
  rw [arr_pf]
  have e1 : (pd (n_arr n) c).1 1 = (n_arr n).1 1 := by
    show pf (n_arr n).1 c 1 = _
    exact pf_i (by omega)
  rw [e1, loop_pf]
  unfold n_tick pd
  dsimp only
  rw [pf_i (show 0 ≠ 3 by omega), upd_pf (by omega)]
/-! one more delivery that is still to come -/
def eo (n : nT) (o : nO) : nT := (n.1, n.2.1 ++ [o], n.2.2)
theorem arr_eo {n : nT} {o : nO} (h : o.1 ≠ cl (n.1 0)) : n_arr (eo n o) = eo (n_arr n) o := by
  unfold n_arr eo
  dsimp only
  rw [List.foldl_append, List.filter_append]
  have e : [o].foldl (n_come (cl (n.1 0))) (n.2.1.foldl (n_come (cl (n.1 0))) n.1) = n.2.1.foldl (n_come (cl (n.1 0))) n.1 := by
    show n_come _ _ _ = _
    unfold n_come
    rw [if_neg h]
  rw [e, List.filter_cons_of_pos (by simpa using h), List.filter_nil]
theorem rel_eo {n : nT} {o : nO} {j : Nat} : n_rel (eo n o) j = eo (n_rel n j) o := by
  unfold n_rel eo
  dsimp only
  generalize n_up1 n.1 j ((n_most n.1 j).getD 0) = F
  cases n_find F j with
  | none => rfl
  | some k => dsimp only; split <;> rfl
theorem step_eo {n : nT} {o : nO} {j : Nat} : n_step (eo n o) j = eo (n_step n j) o := by
  unfold n_step
  have hd : n_deed (eo n o).1 j = n_deed n.1 j := rfl
  rw [hd]
  split
  · rfl
  · split
    · exact rel_eo
    · rfl
theorem loop_eo {n : nT} {o : nO} : ∀ k, n_loop k (eo n o) = eo (n_loop k n) o
  | 0 => rfl
  | k + 1 => by
    show n_step (n_loop k (eo n o)) k = eo (n_step (n_loop k n) k) o
    rw [loop_eo k, step_eo]
theorem watch_eo {n : nT} {o : nO} (h : o.1 ≠ cl (n.1 0)) : n_watch (eo n o) = eo (n_watch n) o := by
  unfold n_watch
  rw [arr_eo h]
  show n_tick (n_loop (cl ((n_arr n).1 1)) (eo (n_arr n) o)) = _
  rw [loop_eo]
  rfl
/-- it comes: gas alone -/
theorem arr_eq {n : nT} {s g : Nat} (hb : ∀ b ∈ n.2.2.1, b.2.2 ≤ 4) : n_arr (eo n (cl (n.1 0), s, g, 0)) = n_more (n_arr n) s (nI g) := by
  unfold n_arr eo
  dsimp only
  rw [List.foldl_append, List.filter_append]
  have e : [(cl (n.1 0), s, g, 0)].foldl (n_come (cl (n.1 0))) (n.2.1.foldl (n_come (cl (n.1 0))) n.1) = mf (n.2.1.foldl (n_come (cl (n.1 0))) n.1) s (nI g) := by
    show n_come _ _ _ = _
    unfold n_come
    rw [if_pos rfl]
    unfold n_addO mf
    dsimp only
    rw [show ∀ x : Int32, x + nI 0 = x from fun x => Int32.add_zero x]
    rw [upd_comm (by omega)]
    congr 1
    exact upd_self rfl
  rw [e, back_mf _ _ hb]
  rw [show [(cl (n.1 0), s, g, 0)].filter (fun o : nO => !(o.1 == cl (n.1 0))) = [] by simp, List.append_nil]
  rfl
