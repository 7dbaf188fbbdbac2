/-! WHAT HOLDS OF A STATE BEHIND k CHANGES -/
theorem n_ord_i {n : nT} {s g k i : Nat} (h : i ≠ 3) : (n_ord n s g k).1 i = n.1 i := by
  show upd n.1 3 (n.1 3 + n_price n.1 (nI g) (nI k)) i = _
  exact upd_nep h
def bK (k : Nat) : Nat := 90000000 + 700000 * k
def KG (B : Nat) (n : nT) : Prop := KN B n ∧ GL n
theorem KG.mono {B B' : Nat} {n : nT} (h : KG B n) (hB : B ≤ B') : KG B' n := ⟨KNf.mono h.1 hB, h.2⟩
def GB (k : Nat) (a : aS) : Prop := WA (1100 + 40 * k) a ∧ KG (bK k) a.1 ∧ (∀ n ∈ a.2.1, KG (bK k) n) ∧ (∀ n, a.2.2.1 = some n → KG (bK k) n) ∧ (∀ n, a.2.2.2.1 = some n → KG (bK k) n) ∧ aM a ≤ 120 ∧ a.2.1.length ≤ 14
theorem bK_le {k k' : Nat} (h : k ≤ k') : bK k ≤ bK k' := by unfold bK; omega
theorem GB.mono {k k' : Nat} {a : aS} (h : GB k a) (hk : k ≤ k') : GB k' a :=
  ⟨h.1.mono (by omega), h.2.1.mono (bK_le hk), fun n q => (h.2.2.1 n q).mono (bK_le hk), fun n q => (h.2.2.2.1 n q).mono (bK_le hk), fun n q => (h.2.2.2.2.1 n q).mono (bK_le hk), h.2.2.2.2.2⟩
theorem GB.okA {k : Nat} {a : aS} (h : GB k a) (hk : k < 1000) : ∃ T, WA T a ∧ T < 60000 := ⟨_, h.1, by omega⟩
theorem GB.WF {k : Nat} {a : aS} (h : GB k a) : WF (1100 + 40 * k) a.1 := h.1.1
theorem n_keep_len {ms : List nT} {n : nT} (h : ms.length ≤ 14) : (n_keep ms n).length ≤ 14 := by
  unfold n_keep
  split
  · rw [List.length_append, List.length_drop, List.length_singleton]; omega
  · rw [List.length_append, List.length_singleton]; omega
/-- behind the call the state holds as much, one change on -/
def cG (c : aS → cR) : Prop := ∀ (k : Nat) (a : aS), GB k a → k < 1000 → GB (k + 1) (c a).2.2
theorem cG_act {k : Nat} {r : Nat} {v : Int32} {a : aS} {n : nT} (hW : WA (1100 + 40 * k + 40) (c_act r v n a).2.2) (h : GB k a) (hn : r = 0 → KG (bK (k + 1)) n) : GB (k + 1) (c_act r v n a).2.2 := by
  have h' := h.mono (show k ≤ k + 1 by omega)
  refine ⟨hW.mono (by omega), ?_⟩
  unfold c_act
  by_cases q : r = 0
  · rw [if_pos q]
    refine ⟨hn q, fun x hx => ?_, h'.2.2.2.1, h'.2.2.2.2.1, h'.2.2.2.2.2.1, n_keep_len h'.2.2.2.2.2.2⟩
    have hx : x ∈ n_keep a.2.1 a.1 := hx
    unfold n_keep at hx
    rcases List.mem_append.mp hx with hx | hx
    · split at hx
      · exact h'.2.2.1 x (List.mem_of_mem_drop hx)
      · exact h'.2.2.1 x hx
    · cases List.mem_singleton.mp hx; exact h'.2.1
  · rw [if_neg q]; exact h'.2
theorem cG_addStation (p h z g q : Int32) : cG (c_addStation p h z g q) := fun k a hk hlt => cG_act (cK_addStation p h z g q _ a hk.1 (by omega) (by omega)) hk (fun hr => by
  have hok : okS p h z g q ∧ cl (a.1.1 1) < 5 := by
    by_cases h1 : okS p h z g q
    · by_cases h2 : cl (a.1.1 1) < 5
      · exact ⟨h1, h2⟩
      · unfold rS at hr; rw [if_pos h1, if_neg h2] at hr; omega
    · unfold rS at hr; rw [if_neg h1] at hr; omega
  refine ⟨KNf.mono (KN_addS hk.2.1.1 hok.2 hk.WF.1.2.2.1 hok.1) (by unfold bK; omega), fun b hb => ?_⟩
  have e0 : (n_addS a.1 p h z g q).1 0 = a.1.1 0 := by unfold n_addS; simp (disch := omega) only [if_neg]
  rw [e0]
  exact hk.2.1.2 b hb)
theorem cG_addFinder (p r d : Int32) : cG (c_addFinder p r d) := fun k a hk hlt => cG_act (cK_addFinder p r d _ a hk.1 (by omega) (by omega)) hk (fun hr => by
  have hok : okF p r d ∧ cl (a.1.1 2) < 6 := by
    by_cases h1 : okF p r d
    · by_cases h2 : cl (a.1.1 2) < 6
      · exact ⟨h1, h2⟩
      · unfold rF at hr; rw [if_pos h1, if_neg h2] at hr; omega
    · unfold rF at hr; rw [if_neg h1] at hr; omega
  refine ⟨KNf.mono (KN_addF hk.2.1.1 hk.WF.1.2.2.2.1 hok.2 hk.WF.1.2.2.2.2.1) (by unfold bK; omega), fun b hb => ?_⟩
  have e0 : (n_addF a.1 p r d).1 0 = a.1.1 0 := by unfold n_addF; simp (disch := omega) only [if_neg]
  rw [e0]
  exact hk.2.1.2 b hb)
theorem cG_wind (h v : Int32) : cG (c_wind h v) := fun k a hk hlt => cG_act (cK_wind h v _ a hk.1 (by omega) (by omega)) hk (fun hr => by
  have hok : okW h v := by
    by_cases h1 : okW h v
    · exact h1
    · unfold rW at hr; rw [if_neg h1] at hr; omega
  obtain ⟨j, -, hj, rfl⟩ := ab_lo (a := 0) (b := 3) (by omega) (by omega) hok.1.1 hok.1.2
  rw [cl_nI (by omega)]
  refine ⟨KNf.mono (KN_wind hk.2.1.1 (by omega) hok.2) (bK_le (by omega)), fun b hb => ?_⟩
  have e0 : (n_wind a.1 j v).1 0 = a.1.1 0 := upd_nep (by omega)
  rw [e0]
  exact hk.2.1.2 b hb)
theorem cG_set (i v : Int32) : cG (c_set i v) := fun k a hk hlt => cG_act (cK_set i v _ a hk.1 (by omega) (by omega)) hk (fun hr => by
  have h0 : rT i v = 0 := by
    have : rT i v = 0 ∨ rT i v = 2 := by unfold rT; split <;> omega
    omega
  refine ⟨KNf.mono (KN_set hk.2.1.1 h0) (bK_le (by omega)), fun b hb => ?_⟩
  have e0 : (n_set a.1 (cl i) v).1 0 = a.1.1 0 := upd_nep (by omega)
  rw [e0]
  exact hk.2.1.2 b hb)
theorem vS_lt {f : nF} {s : Int32} (h1 : isN (f 1)) (h5 : cl (f 1) ≤ 5) (h : vS f s) : ∃ j, s = nI j ∧ j < cl (f 1) := by
  have h2 := h.2
  rw [h1] at h2
  obtain ⟨j, hj, e⟩ := ab_ix (n := cl (f 1)) (by omega) (Int32.not_lt.mpr h.1) h2
  exact ⟨j, e, hj⟩
theorem cG_change (s h z : Int32) : cG (c_change s h z) := fun k a hk hlt => cG_act (cK_change s h z _ a hk.1 (by omega) (by omega)) hk (fun hr => by
  have hok : vS a.1.1 s ∧ okH h z := by
    by_cases h1 : vS a.1.1 s
    · by_cases h2 : okH h z
      · exact ⟨h1, h2⟩
      · unfold rC at hr; rw [if_pos h1, if_neg h2] at hr; omega
    · unfold rC at hr; rw [if_neg h1] at hr; omega
  have h5 := hk.WF.1.2.2.2.1
  obtain ⟨j, rfl, hj⟩ := vS_lt hk.WF.1.2.2.1 h5 hok.1
  rw [cl_nI (by omega)]
  refine ⟨KNf.mono (KN_chg hk.2.1.1 h5 (by omega) hok.2.1) (bK_le (by omega)), fun b hb => ?_⟩
  have e0 : (n_chg a.1 j h z).1 0 = a.1.1 0 := by show upd (upd _ _ _) _ _ _ = _; rw [upd_nep (by omega), upd_nep (by omega)]
  rw [e0]
  exact hk.2.1.2 b hb)
theorem cG_deliver (s g q : Int32) : cG (c_deliver s g q) := fun k a hk hlt => cG_act (cK_deliver s g q _ a hk.1 (by omega) (by omega)) hk (fun hr => by
  obtain ⟨q1, q2, q3⟩ := rO_0 hk.WF.cOK hr
  obtain ⟨x, -, hx, rfl⟩ := ab_lo (by omega) (by omega) q2.1.1 q2.1.2
  obtain ⟨y, -, hy, rfl⟩ := ab_lo (by omega) (by omega) q2.2.1 q2.2.2
  rw [cl_nI (show x < 2 ^ 31 by omega), cl_nI (show y < 2 ^ 31 by omega)]
  refine ⟨KNf.mono (KN_ord hk.2.1.1 (by unfold bK; omega) hx hy) (by unfold bK; omega), fun b hb => ?_⟩
  have e0 : (n_ord a.1 (cl s) x y).1 0 = a.1.1 0 := n_ord_i (by omega)
  rw [e0]
  exact hk.2.1.2 b hb)
theorem rM_00 {f : nF} {s t : Int32} (h : rM f s t = 0) : vS f s ∧ vS f t ∧ s ≠ t ∧ n_most f (cl s) ≠ none := by
  by_cases h1 : vS f s ∧ vS f t
  · by_cases h2 : s = t ∨ n_most f (cl s) = none
    · unfold rM at h; rw [if_pos h1, if_pos h2] at h; omega
    · exact ⟨h1.1, h1.2, fun q => h2 (Or.inl q), fun q => h2 (Or.inr q)⟩
  · unfold rM at h; rw [if_neg h1] at h; omega
theorem cG_move (s t : Int32) : cG (c_move s t) := fun k a hk hlt => cG_act (cK_move s t _ a hk.1 (by omega) (by omega)) hk (fun hr => by
  have h0 : rM a.1.1 s t = 0 := by
    have h3 : rM a.1.1 s t = 0 ∨ rM a.1.1 s t = 1 ∨ rM a.1.1 s t = 3 := by unfold rM; (repeat' split); all_goals omega
    omega
  obtain ⟨q1, q2, q3, q4⟩ := rM_00 h0
  have h5 := hk.WF.1.2.2.2.1
  obtain ⟨i, rfl, hi⟩ := vS_lt hk.WF.1.2.2.1 h5 q1
  obtain ⟨j, rfl, hj⟩ := vS_lt hk.WF.1.2.2.1 h5 q2
  rw [cl_nI (show i < 2 ^ 31 by omega)] at q4 ⊢
  rw [cl_nI (show j < 2 ^ 31 by omega)]
  refine ⟨KNf.mono (KN_mov hk.2.1.1 (by unfold bK; omega) h5 hi hj (fun e => q3 (by rw [e])) q4) (bK_le (by omega)), fun b hb => ?_⟩
  have e0 : (n_mov a.1 i j).1 0 = a.1.1 0 := by
    have hm4 : (n_most a.1.1 i).getD 0 ≤ 4 := by
      cases hm : n_most a.1.1 i with
      | none => exact Nat.zero_le _
      | some m => exact n_most_lt hm
    show upd (upd _ _ _) _ _ _ = _
    rw [upd_nep (by omega), upd_nep (by omega)]
  rw [e0]
  exact hk.2.1.2 b hb)
theorem cG_run (m : Int32) : cG (c_run m) := fun k a hk hlt => cG_act (cK_run m _ a hk.1 (by omega) (by omega)) hk (fun hr => by
  have hb : bt2 (nI 1) m (nI 40) := by
    by_cases h1 : bt2 (nI 1) m (nI 40)
    · exact h1
    · rw [if_neg h1] at hr; omega
  obtain ⟨j, hj1, hj, rfl⟩ := ab_lo (a := 1) (b := 40) (by omega) (by omega) hb.1 hb.2
  rw [cl_nI (by omega)]
  exact ⟨KNf.mono (KN_run hk.WF hk.2.1.1 j (by omega) (by unfold bK; omega)) (by unfold bK; omega), GL_run hk.WF hk.2.1.2 j (by omega)⟩)
theorem cG_undo : cG c_undo := fun k a h hlt => by
  have h' := h.mono (show k ≤ k + 1 by omega)
  refine ⟨(cK_undo _ a h.1 (by omega) (by omega)).mono (by omega), ?_⟩
  unfold c_undo
  split
  · exact h'.2
  · next n q => exact ⟨h'.2.2.1 n (List.mem_of_getLast? q), fun x hx => h'.2.2.1 x (List.dropLast_subset _ hx), h'.2.2.2.1, h'.2.2.2.2.1, h'.2.2.2.2.2.1, by have := h'.2.2.2.2.2.2; show a.2.1.dropLast.length ≤ 14; rw [List.length_dropLast]; omega⟩
theorem cG_save (i : Int32) : cG (c_save i) := fun k a h hlt => by
  have h' := h.mono (show k ≤ k + 1 by omega)
  refine ⟨(cK_save i _ a h.1 (by omega) (by omega)).mono (by omega), ?_⟩
  unfold c_save
  by_cases hb : bt2 (nI 0) i (nI 1)
  · rw [if_pos hb]
    by_cases h0 : i = 0
    · dsimp only; rw [if_pos h0]; exact ⟨h'.2.1, h'.2.2.1, fun n q => by cases q; exact h'.2.1, h'.2.2.2.2⟩
    · dsimp only; rw [if_neg h0]; exact ⟨h'.2.1, h'.2.2.1, h'.2.2.2.1, fun n q => by cases q; exact h'.2.1, h'.2.2.2.2.2⟩
  · rw [if_neg hb]; exact h'.2
theorem cG_restore (i : Int32) : cG (c_restore i) := fun k a h hlt => by
  have h' := h.mono (show k ≤ k + 1 by omega)
  refine ⟨(cK_restore i _ a h.1 (by omega) (by omega)).mono (by omega), ?_⟩
  unfold c_restore
  by_cases hb : bt2 (nI 0) i (nI 1)
  · rw [if_pos hb]
    have hs : ∀ n, aSlot a i = some n → KG (bK (k + 1)) n := fun n q => by
      unfold aSlot at q
      split at q
      · exact h'.2.2.2.1 n q
      · exact h'.2.2.2.2.1 n q
    cases hq : aSlot a i with
    | none => exact h'.2
    | some n => exact ⟨hs n hq, fun _ q => absurd q List.not_mem_nil, h'.2.2.2.1, h'.2.2.2.2.1, h'.2.2.2.2.2.1, Nat.zero_le _⟩
  · rw [if_neg hb]; exact h'.2
theorem KG_xcmd {T B : Nat} {n n' : nT} {c : tC} (h : WF T n) (hk : KG B n) (hc : tOK2 c) (hT : T + 9 < 100000) (hB : B + 900000 < 2 ^ 30) (hx : x_cmd n c = some n') : KG (B + 700000) n' := by
  unfold x_cmd at hx
  split at hx
  · split at hx
    · next q =>
      cases hx
      have hok : okS (nI c.2.1) (nI c.2.2.1) (nI c.2.2.2.1) (nI c.2.2.2.2.1) (nI c.2.2.2.2.2) ∧ cl (n.1 1) < 5 := by
        unfold rS at q; split at q
        · split at q
          · exact ⟨by assumption, by assumption⟩
          · omega
        · omega
      refine ⟨KNf.mono (KN_addS hk.1 hok.2 h.1.2.2.1 hok.1) (by omega), fun b hb => ?_⟩
      have e0 : (n_addS n (nI c.2.1) (nI c.2.2.1) (nI c.2.2.2.1) (nI c.2.2.2.2.1) (nI c.2.2.2.2.2)).1 0 = n.1 0 := by unfold n_addS; simp (disch := omega) only [if_neg]
      rw [e0]; exact hk.2 b hb
    · cases hx
  · split at hx
    · split at hx
      · next q =>
        cases hx
        have hc2 : cl (n.1 2) < 6 := by
          unfold rF at q; split at q
          · split at q
            · assumption
            · omega
          · omega
        refine ⟨KNf.mono (KN_addF hk.1 h.1.2.2.2.1 hc2 h.1.2.2.2.2.1) (by omega), fun b hb => ?_⟩
        have e0 : (n_addF n (nI c.2.1) (nI c.2.2.1) (nI c.2.2.2.1)).1 0 = n.1 0 := by unfold n_addF; simp (disch := omega) only [if_neg]
        rw [e0]; exact hk.2 b hb
      · cases hx
    · split at hx
      · generalize (if c.2.2.1 = 1 then (-1 : Int32) else 1) * nI c.2.2.2.1 = v at hx
        split at hx
        · next q =>
          cases hx
          have hok : okW (nI c.2.1) v := by
            unfold rW at q; split at q
            · assumption
            · omega
          unfold tOK2 at hc
          have : c.2.1 ≤ 3 := by omega
          rw [cl_nI (by omega)]
          refine ⟨KNf.mono (KN_wind hk.1 (by omega) hok.2) (by omega), fun b hb => ?_⟩
          have e0 : (n_wind n c.2.1 v).1 0 = n.1 0 := upd_nep (by omega)
          rw [e0]; exact hk.2 b hb
        · cases hx
      · split at hx
        · split at hx
          · next q =>
            cases hx
            obtain ⟨q1, q2, q3⟩ := rO_0 h.cOK q
            obtain ⟨x, -, hx, ex⟩ := ab_lo (by omega) (by omega) q2.1.1 q2.1.2
            obtain ⟨y, -, hy, ey⟩ := ab_lo (by omega) (by omega) q2.2.1 q2.2.2
            rw [ex, ey, cl_nI (show x < 2 ^ 31 by omega), cl_nI (show y < 2 ^ 31 by omega)]
            refine ⟨KNf.mono (KN_ord hk.1 (by omega) hx hy) (by omega), fun b hb => ?_⟩
            have e0 : (n_ord n (cl (nI c.2.1)) x y).1 0 = n.1 0 := n_ord_i (by omega)
            rw [e0]; exact hk.2 b hb
          · cases hx
        · cases hx
          unfold tOK2 at hc
          have h9 : c.2.1 ≤ 9 ∧ 1 ≤ c.2.1 := by omega
          rw [cl_nI (by omega)]
          exact ⟨KNf.mono (KN_run h hk.1 c.2.1 (by omega) (by omega)) (by omega), GL_run h hk.2 c.2.1 (by omega)⟩
theorem KG_all {t : Nat → Nat} {m : Nat} : ∀ (k i : Nat) (n : nT) (q T B : Nat), WF T n → KG B n → T + 9 * k < 90000 → B + 700000 * k + 900000 < 2 ^ 30 → KG (B + 700000 * k) (x_all t m k i n q).1
  | 0, _, _, _, _, _, _, h, _, _ => h
  | k + 1, i, n, q, T, B, hW, h, hT, hB => by
    rw [x_all]
    split
    · rcases hc : (p_cmd t m i).2 with _ | c
      · exact h.mono (by omega)
      · dsimp only
        have hok := p_cmd_ok hc
        have hW' : WF (T + 9) ((x_cmd n c).getD n) := by
          rcases hx : x_cmd n c with _ | n'
          · exact hW.mono (by omega)
          · exact WF_xcmd hW hok (by omega) hx
        have : KG (B + 700000) ((x_cmd n c).getD n) := by
          rcases hx : x_cmd n c with _ | n'
          · exact h.mono (by omega)
          · exact KG_xcmd hW h hok (by omega) (by omega) hx
        exact (KG_all k _ _ _ (T + 9) (B + 700000) hW' this (by omega) (by omega)).mono (by omega)
    · exact h.mono (by omega)
theorem GL_new : GL n_new := fun b hb => absurd hb List.not_mem_nil
theorem cG_load : cG c_load := fun k a h hlt => by
  have h' := h.mono (show k ≤ k + 1 by omega)
  refine ⟨(cK_load _ a h.1 (by omega) (by omega)).mono (by omega), ?_⟩
  unfold c_load
  split
  · exact h'.2
  · exact ⟨(KG_all 120 1 n_new 0 0 0 WF_new ⟨KN_new, GL_new⟩ (by omega) (by omega)).mono (by unfold bK; omega), fun _ q => absurd q List.not_mem_nil, fun _ q => (by cases q), fun _ q => (by cases q), h'.2.2.2.2.2.1, Nat.zero_le _⟩
