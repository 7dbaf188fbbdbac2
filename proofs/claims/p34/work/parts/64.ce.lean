/-! a refused call leaves the state; each side's calls leave the other side's state -/
def cE (c : aS → cR) : Prop := ∀ A, (c A).1 ≠ 0 → (c A).2.2 = A
theorem cE_q {c : aS → cR} (h : ∀ A, (c A).2.2 = A) : cE c := fun A _ => h A
theorem cE_act {r : Nat} {v : Int32} {A : aS} {n : nT} (h : (c_act r v n A).1 ≠ 0) : (c_act r v n A).2.2 = A := by
  unfold c_act at h ⊢
  by_cases q : r = 0
  · rw [if_pos q] at h; exact absurd rfl h
  · rw [if_neg q]
theorem cE_append (c : Int32) : cE (c_append c) := fun A h => by
  unfold c_append at h ⊢
  by_cases h1 : bt2 (nI 0) c (nI 255)
  · rw [if_pos h1] at h ⊢
    by_cases h2 : aM A = 120
    · rw [if_pos h2]
    · rw [if_neg h2] at h; exact absurd rfl h
  · rw [if_neg h1]
theorem cE_clearText : cE c_clearText := fun A h => absurd rfl h
theorem cE_errorPosition : cE c_errorPosition := fun A h => absurd rfl h
theorem cE_load : cE c_load := fun A h => by
  unfold c_load at h ⊢
  cases hp : p_text (aT A) (aM A) with
  | some _ => rfl
  | none => rw [hp] at h; exact absurd rfl h
theorem cE_undo : cE c_undo := fun A h => by
  unfold c_undo at h ⊢
  cases hp : A.2.1.getLast? with
  | none => rfl
  | some n => rw [hp] at h; exact absurd rfl h
theorem cE_save (i : Int32) : cE (c_save i) := fun A h => by
  unfold c_save at h ⊢
  by_cases h1 : bt2 (nI 0) i (nI 1)
  · rw [if_pos h1] at h; exact absurd rfl h
  · rw [if_neg h1]
theorem cE_restore (i : Int32) : cE (c_restore i) := fun A h => by
  unfold c_restore at h ⊢
  by_cases h1 : bt2 (nI 0) i (nI 1)
  · rw [if_pos h1] at h ⊢
    cases hp : aSlot A i with
    | none => rfl
    | some n => rw [hp] at h; exact absurd rfl h
  · rw [if_neg h1]
theorem cE_addStation (p h z g k : Int32) : cE (c_addStation p h z g k) := fun A q => cE_act q
theorem cE_addFinder (p r d : Int32) : cE (c_addFinder p r d) := fun A q => cE_act q
theorem cE_wind (h v : Int32) : cE (c_wind h v) := fun A q => cE_act q
theorem cE_set (i v : Int32) : cE (c_set i v) := fun A q => cE_act q
theorem cE_change (s h z : Int32) : cE (c_change s h z) := fun A q => cE_act q
theorem cE_deliver (s g k : Int32) : cE (c_deliver s g k) := fun A q => cE_act q
theorem cE_move (s t : Int32) : cE (c_move s t) := fun A q => cE_act q
theorem cE_run (n : Int32) : cE (c_run n) := fun A q => cE_act q
