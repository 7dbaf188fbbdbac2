/-! EVERY CALL KEEPS WHAT HOLDS OF THE STATE, forty watches on -/
theorem WA.mono {T T' : Nat} {A : aS} (h : WA T A) (hT : T ≤ T') : WA T' A := ⟨h.1.mono hT, fun n q => (h.2.1 n q).mono hT, fun n q => (h.2.2.1 n q).mono hT, fun n q => (h.2.2.2 n q).mono hT⟩
def cK (c : aS → cR) : Prop := ∀ (T : Nat) (A : aS), WA T A → 1100 ≤ T → T < 60000 → WA (T + 40) (c A).2.2
theorem cK_q {c : aS → cR} (h : ∀ A, (c A).2.2 = A) : cK c := fun T A hA _ _ => by rw [h A]; exact hA.mono (by omega)
theorem WA.net {T : Nat} {A : aS} {n : nT} (h : WA T A) (hn : WF (T + 40) n) : WA (T + 40) (aNet A n) := by
  have h' := h.mono (show T ≤ T + 40 by omega)
  refine ⟨hn, fun x q => ?_, h'.2.2⟩
  have q : x ∈ n_keep A.2.1 A.1 := q
  unfold n_keep at q
  rcases List.mem_append.mp q with q | q
  · split at q
    · exact h'.2.1 x (List.mem_of_mem_drop q)
    · exact h'.2.1 x q
  · cases List.mem_singleton.mp q; exact h'.1
theorem WA.act {T r : Nat} {v : Int32} {A : aS} {n : nT} (h : WA T A) (hn : r = 0 → WF (T + 40) n) : WA (T + 40) (c_act r v n A).2.2 := by
  unfold c_act
  split
  · next q => exact h.net (hn q)
  · exact h.mono (by omega)
theorem cK_append (c : Int32) : cK (c_append c) := fun T A h _ _ => by
  have h' := h.mono (show T ≤ T + 40 by omega)
  unfold c_append
  split
  · split
    · exact h'
    · exact h'
  · exact h'
theorem cK_clearText : cK c_clearText := fun T A h _ _ => h.mono (by omega)
theorem cK_errorPosition : cK c_errorPosition := cK_q (fun _ => rfl)
theorem cK_load : cK c_load := fun T A h h1 h2 => by
  unfold c_load
  split
  · exact h.mono (by omega)
  · exact ⟨(WF_all 120 1 n_new 0 0 WF_new (by omega)).mono (by omega), fun _ q => absurd q List.not_mem_nil, fun _ q => (by cases q), fun _ q => (by cases q)⟩
theorem cK_about (i : Int32) : cK (c_about i) := cK_q (fun A => by unfold c_about; split <;> rfl)
theorem cK_station (s i : Int32) : cK (c_station s i) := cK_q (fun A => by unfold c_station; (repeat' split); all_goals rfl)
theorem cK_stock (s i : Int32) : cK (c_stock s i) := cK_q (fun A => by unfold c_stock; (repeat' split); all_goals rfl)
theorem cK_finder (s i : Int32) : cK (c_finder s i) := cK_q (fun A => by
  unfold c_finder
  by_cases h1 : vF A.1.1 s
  · rw [if_pos h1]
    by_cases h2 : bt2 (nI 0) i (nI 4)
    · rw [if_pos h2]
    · rw [if_neg h2]
  · rw [if_neg h1])
theorem cK_back (k i : Int32) : cK (c_back k i) := cK_q (fun A => by unfold c_back; split <;> rfl)
theorem cK_gap (k i : Int32) : cK (c_gap k i) := cK_q (fun A => by unfold c_gap; split <;> rfl)
theorem cK_windOf (h : Int32) : cK (c_windOf h) := cK_q (fun A => by unfold c_windOf; split <;> rfl)
theorem cK_setting (h : Int32) : cK (c_setting h) := cK_q (fun A => by unfold c_setting; split <;> rfl)
theorem cK_landing (s i : Int32) : cK (c_landing s i) := cK_q (fun A => by unfold c_landing; (repeat' split); all_goals rfl)
theorem cK_finds (p : Int32) : cK (c_finds p) := cK_q (fun A => by unfold c_finds; split <;> rfl)
theorem cK_coming (n i : Int32) : cK (c_coming n i) := cK_q (fun A => by
  unfold c_coming
  by_cases h1 : bt2 (nI 1) n (nI 60) ∧ bt2 (nI 0) i (nI 3)
  · rw [if_pos h1]
  · rw [if_neg h1])
theorem cK_firstGap : cK c_firstGap := cK_q (fun _ => rfl)
theorem cK_lacks (s n : Int32) : cK (c_lacks s n) := cK_q (fun A => by unfold c_lacks; (repeat' split); all_goals rfl)
theorem cK_ifDelivered (s g k n : Int32) : cK (c_ifDelivered s g k n) := cK_q (fun A => by unfold c_ifDelivered; (repeat' split); all_goals rfl)
theorem cK_runScript (n : Int32) (z : Int64) : cK (c_runScript n z) := cK_q (fun A => by unfold c_runScript; split <;> rfl)
theorem cK_simulate (x : Int64) (m : Int32) : cK (c_simulate x m) := cK_q (fun A => by unfold c_simulate; split <;> rfl)
theorem cK_addStation (p h z g k : Int32) : cK (c_addStation p h z g k) := fun T A hA _ _ => hA.act (fun q => (WF_addS hA.1 (by
  have h3 : rS (cl (A.1.1 1)) p h z g k = 0 ∨ 2 ≤ rS (cl (A.1.1 1)) p h z g k := by unfold rS; (repeat' split); all_goals omega
  omega)).mono (by omega))
theorem cK_addFinder (p r d : Int32) : cK (c_addFinder p r d) := fun T A hA _ _ => hA.act (fun q => (WF_addF hA.1 (by
  have h3 : rF (cl (A.1.1 2)) p r d = 0 ∨ 2 ≤ rF (cl (A.1.1 2)) p r d := by unfold rF; (repeat' split); all_goals omega
  omega)).mono (by omega))
theorem cK_wind (h v : Int32) : cK (c_wind h v) := fun T A hA _ _ => hA.act (fun q => by
  have hok : okW h v := by
    by_cases h1 : okW h v
    · exact h1
    · unfold rW at q; rw [if_neg h1] at q; omega
  obtain ⟨k, -, hk, rfl⟩ := ab_lo (a := 0) (b := 3) (by omega) (by omega) hok.1.1 hok.1.2
  rw [cl_nI (by omega)]
  exact (WF_wind hA.1 (by omega) v).mono (by omega))
theorem cK_set (i v : Int32) : cK (c_set i v) := fun T A hA _ _ => hA.act (fun q => (WF_set hA.1 (by
    by_cases h1 : okT i v
    · exact if_pos h1
    · unfold rT at q; rw [if_neg h1] at q; omega)).mono (by omega))
theorem cK_change (s h z : Int32) : cK (c_change s h z) := fun T A hA _ _ => hA.act (fun q => (WF_chgI hA.1 q).mono (by omega))
theorem cK_deliver (s g k : Int32) : cK (c_deliver s g k) := fun T A hA _ _ => hA.act (fun q => (WF_ordI hA.1 q).mono (by omega))
theorem cK_move (s t : Int32) : cK (c_move s t) := fun T A hA _ _ => hA.act (fun q => (WF_movI hA.1 (by
    have h3 : rM A.1.1 s t = 0 ∨ rM A.1.1 s t = 1 ∨ rM A.1.1 s t = 3 := by unfold rM; (repeat' split); all_goals omega
    omega)).mono (by omega))
theorem cK_run (n : Int32) : cK (c_run n) := fun T A hA _ hT => hA.act (fun q => by
  have hb : bt2 (nI 1) n (nI 40) := by
    by_cases h1 : bt2 (nI 1) n (nI 40)
    · exact h1
    · rw [if_neg h1] at q; omega
  obtain ⟨k, hk1, hk, rfl⟩ := ab_lo (a := 1) (b := 40) (by omega) (by omega) hb.1 hb.2
  rw [cl_nI (by omega)]
  exact (WF_run hA.1 k (by omega)).mono (by omega))
theorem cK_undo : cK c_undo := fun T A h _ _ => by
  have h' := h.mono (show T ≤ T + 40 by omega)
  unfold c_undo
  split
  · exact h'
  · next n q => exact ⟨h'.2.1 n (List.mem_of_getLast? q), fun x hx => h'.2.1 x (List.dropLast_subset _ hx), h'.2.2⟩
theorem cK_save (i : Int32) : cK (c_save i) := fun T A h _ _ => by
  have h' := h.mono (show T ≤ T + 40 by omega)
  unfold c_save
  by_cases hb : bt2 (nI 0) i (nI 1)
  · rw [if_pos hb]
    by_cases h0 : i = 0
    · dsimp only; rw [if_pos h0]; exact ⟨h'.1, h'.2.1, fun n q => by cases q; exact h'.1, h'.2.2.2⟩
    · dsimp only; rw [if_neg h0]; exact ⟨h'.1, h'.2.1, h'.2.2.1, fun n q => by cases q; exact h'.1⟩
  · rw [if_neg hb]; exact h'
theorem cK_restore (i : Int32) : cK (c_restore i) := fun T A h _ _ => by
  have h' := h.mono (show T ≤ T + 40 by omega)
  unfold c_restore
  by_cases hb : bt2 (nI 0) i (nI 1)
  · rw [if_pos hb]
    have hs : ∀ n, aSlot A i = some n → WF (T + 40) n := fun n q => by
      unfold aSlot at q
      split at q
      · exact h'.2.2.1 n q
      · exact h'.2.2.2 n q
    cases hq : aSlot A i with
    | none => exact h'
    | some n => exact ⟨hs n hq, fun _ q => absurd q List.not_mem_nil, h'.2.2⟩
  · rw [if_neg hb]; exact h'
