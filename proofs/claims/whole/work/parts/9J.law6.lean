/-! THE LAW'S START: the two rows that are there before, the classes' numbers -/
abbrev lw_st (nm : String) : Term := .static "SondeStations" nm "[I"
/-- a row that is there before: where it lies, what it holds -/
def lw_row (args : Array Value) (s : State) (nm : String) (t : Nat) (f : Nat → Nat) : Prop := (lw_st nm).eval args s none [] s = some (.ref t) ∧ t < s.heap.size ∧ ∃ cell : Cell, s.heap[t]? = some cell ∧ (∃ k, s.vm.classes[cell.cls]? = some k ∧ ∃ comp, k.kind = .array comp .int) ∧ cell.vm ≠ .unknown ∧ (∀ k, cell.vm ≠ .statics k) ∧ 5 ≤ cell.slots.size ∧ ∀ j : Nat, j < 5 → cell.slots[j]? = some (.int (nI (f j)))
theorem lw_rowOf {args : Array Value} {s : State} {nm : String} {f : Nat → Nat} (h1 : (Cond.arrayOf (lw_st nm) .int).before args s = true) (h2 : (Cond.eq (.length (lw_st nm)) (.int 5)).before args s = true) (h3 : ∀ j : Nat, j < 5 → (Cond.eq (.elem (lw_st nm) (.int (Int32.ofNat j))) (.int (nI (f j)))).before args s = true) : ∃ t, lw_row args s nm t f := by
  obtain ⟨t, ht, cell, g1, g2, g3, g4, -, g6, -⟩ := va_Tof (tm := lw_st nm) (ty := .int) (N := 5) (f := fun j => .int (nI (f j))) (A := fun q => s.heap.size ≤ q) (by decide) h1 (va_eqt h2) (fun j hj => va_eqt (h3 j hj)) (fun a ha => Nat.not_le.mpr ha)
  exact ⟨t, ht, (Array.getElem?_eq_some_iff.mp g1).1, cell, g1, g2.2, g3, g2.1, g4, g6⟩
theorem lw_rows {b : Nat} {s : State} (h : (Jvm.Cond.and given_1 narrow_1).before #[Value.ref b] s = true) : (∃ t, lw_row #[Value.ref b] s "LOWEST_SETTINGS" t s_lo) ∧ ∃ t, lw_row #[Value.ref b] s "HIGHEST_SETTINGS" t s_hi := by
  have hs := flat_of_before _ h
  refine ⟨lw_rowOf (hs _ (by decide +kernel)) (hs _ (by decide +kernel)) (fun j hj => ?_), lw_rowOf (hs _ (by decide +kernel)) (hs _ (by decide +kernel)) (fun j hj => ?_)⟩
  · match j, hj with
    | 0, _ => exact hs _ (by decide +kernel)
    | 1, _ => exact hs _ (by decide +kernel)
    | 2, _ => exact hs _ (by decide +kernel)
    | 3, _ => exact hs _ (by decide +kernel)
    | 4, _ => exact hs _ (by decide +kernel)
    | j + 5, hj => exact absurd hj (by omega)
  · match j, hj with
    | 0, _ => exact hs _ (by decide +kernel)
    | 1, _ => exact hs _ (by decide +kernel)
    | 2, _ => exact hs _ (by decide +kernel)
    | 3, _ => exact hs _ (by decide +kernel)
    | 4, _ => exact hs _ (by decide +kernel)
    | j + 5, hj => exact absurd hj (by omega)
theorem lw_apart {b : Nat} {s : State} {t0 t1 : Nat} (h0 : lw_row #[Value.ref b] s "LOWEST_SETTINGS" t0 s_lo) (h1 : lw_row #[Value.ref b] s "HIGHEST_SETTINGS" t1 s_hi) : t0 ≠ t1 := by
  rintro rfl
  obtain ⟨-, -, cell, g1, -, -, -, -, g6⟩ := h0
  obtain ⟨-, -, cell', k1, -, -, -, -, k6⟩ := h1
  obtain rfl : cell = cell' := Option.some.inj (g1.symm.trans k1)
  have := (g6 0 (by omega)).symm.trans (k6 0 (by omega))
  exact absurd this (by decide +kernel)
theorem lw_inZ : Cond.laysStatic "SondeStations" "LOWEST_SETTINGS" "[I" ∈ lw_tbl ∧ Cond.laysStatic "SondeStations" "HIGHEST_SETTINGS" "[I" ∈ lw_tbl ∧ Cond.initialized "SondeStations" ∈ lw_tbl ∧ Cond.laysStatic Bundle.tN "UNASSIGNED_STACK" Bundle.steD ∈ lw_tbl ∧ Cond.laysStatic Bundle.tN "SUPPRESSED_SENTINEL" Bundle.listD ∈ lw_tbl ∧ Cond.initialized Bundle.tN ∈ lw_tbl :=
  ⟨List.mem_append_right _ (by decide +kernel), List.mem_append_right _ (by decide +kernel), List.mem_append_right _ (by decide +kernel), List.mem_append_right _ (by decide +kernel), List.mem_append_right _ (by decide +kernel), List.mem_append_right _ (by decide +kernel)⟩
theorem lw_Zs {b : Nat} {s : State} {W : ab_W} {w : bW} (hts : ∀ x ∈ lw_tbl, x.before #[Value.ref b] s = true) (h : (Jvm.Cond.and given_1 narrow_1).before #[Value.ref b] s = true) (hK : bKw w s) (h0 : lw_row #[Value.ref b] s "LOWEST_SETTINGS" (ab_ad W 16) s_lo) (h1 : lw_row #[Value.ref b] s "HIGHEST_SETTINGS" (ab_ad W 17) s_hi) (hA : ∀ a : Nat, a < s.heap.size → ¬ ab_A W s.heap.size a) : ab_Zs W s.heap.size s s.heap := by
  have hs := flat_of_before _ h
  obtain ⟨i1, i2, i3, i4, i5, i6⟩ := lw_inZ
  exact ⟨fun _ => va_Zref (hts _ i1) (hts _ i3) h0.1 hA, fun _ => va_Zref (hts _ i2) (hts _ i3) h1.1 hA, vx_Zqof (hts _ i4) (hts _ i6) (hs _ (by decide +kernel)) hA, vx_Zqof (hts _ i5) (hts _ i6) (hs _ (by decide +kernel)) hA, lw_strs hts hK, (lw_bZ hts).1⟩
theorem lw_arrIn : Cond.arrayClass .int ∈ lw_tbl ∧ Cond.arrayClass .char ∈ lw_tbl ∧ Cond.arrayClass .boolean ∈ lw_tbl ∧ Cond.arrayClass .long ∈ lw_tbl :=
  ⟨List.mem_append_right _ (by decide +kernel), List.mem_append_right _ (by decide +kernel), List.mem_append_right _ (by decide +kernel), List.mem_append_right _ (by decide +kernel)⟩
theorem lw_insts : ∀ r ∈ vwCl, Cond.instantiable r.1 r.2.2 ∈ lw_tbl := by
  have h : (vwCl.all fun r => decide (Cond.instantiable r.1 r.2.2 ∈ tables_1)) = true := by decide +kernel
  exact fun r hr => List.mem_append_right _ (of_decide_eq_true (List.all_eq_true.mp h r hr))
theorem lw_arr {s : State} {args : Array Value} {ty : FieldType} (hno : ∀ q, ty ≠ .object q) (h : (Cond.arrayClass ty).before args s = true) : ∃ cA, ArrOfT s cA ty ∧ va_RA s cA ty := by
  obtain ⟨cA, kA, comp, h1, h2, h3⟩ := Cond.arrayClass_spec h
  refine ⟨cA, fun n z => ⟨fun k h => (by cases h), kA, h2, comp, h3⟩, ?_⟩
  cases ty <;> first | exact h1 | exact absurd rfl (hno _)
theorem lw_know {args : Array Value} {s : State} (hts : ∀ x ∈ lw_tbl, x.before args s = true) (c0 c1 : ClassId) : ∃ w : bW, bKw w s ∧ w.2 20 = c0 ∧ w.2 21 = c1 := by
  obtain ⟨i1, i2, i3, i4⟩ := lw_arrIn
  obtain ⟨a1, e1⟩ := lw_arr (fun q h => by cases h) (hts _ i1)
  obtain ⟨a2, e2⟩ := lw_arr (fun q h => by cases h) (hts _ i2)
  obtain ⟨a3, e3⟩ := lw_arr (fun q h => by cases h) (hts _ i3)
  obtain ⟨a5, e5⟩ := lw_arr (fun q h => by cases h) (hts _ i4)
  obtain ⟨comp, a4, kA, f4, -, f2, f3, f1⟩ := Cond.arrayOver_spec (hts _ lw_AOin)
  have hk : ∀ k : Nat, ∃ x : ClassId × (Nat → Nat), ∀ q : vw_C, vwCl[k]? = some q → u_Kn s q.1 q.2.1 q.2.2 x.1 x.2 := by
    intro k
    cases hq : vwCl[k]? with
    | none => exact ⟨(0, fun _ => 0), fun q h => by cases h⟩
    | some r =>
      have hm := List.mem_of_getElem? hq
      obtain ⟨cC, iS, hu⟩ := u_known (lw_T hts) (ab_lay r hm) (hts _ (lw_insts r hm))
      exact ⟨(cC, iS), fun q h => by cases h; exact hu⟩
  obtain ⟨g, hg⟩ := Classical.axiomOfChoice hk
  refine ⟨((fun k => (g k).1, fun k => (g k).2), fun k => if k = 11 then a1 else if k = 12 then a2 else if k = 13 then a3 else if k = 14 then a4 else if k = 15 then a5 else if k = 20 then c0 else c1), ⟨fun c q hq => hg c q hq, fun k q hq => ?_⟩, rfl, rfl⟩
  have hq : [(a1, FieldType.int), (a2, .char), (a3, .boolean), (a4, .object "SondeStations$Net"), (a5, .long)][k]? = some q := hq
  match k, hq with
  | 0, hq => cases hq; exact e1
  | 1, hq => cases hq; exact e2
  | 2, hq => cases hq; exact e3
  | 3, hq => cases hq; exact ⟨fun n z => ⟨fun k h => (by cases h), kA, f2, comp, f3⟩, kA, comp, f2, f3, f4, f1⟩
  | 4, hq => cases hq; exact e5
  | k + 5, hq => exact absurd (List.getElem?_eq_some_iff.mp hq).1 (by simp only [List.length_cons, List.length_nil]; omega)
