theorem lw_Kw {z s0 s1 : Nat} {w : bW} {U : State} (h : bKw w U) (h20 : ArrOfT U (w.2 20) .int) (h21 : ArrOfT U (w.2 21) .int) : ab_Kw (lw_w z s0 s1 w) U := by
  refine ⟨fun c q hq => h.1 c q hq, fun q hq => ?_⟩
  have A : ∀ (j : Nat) (q : ClassId × FieldType), (bTys w)[j]? = some q → ArrOfT U q.1 q.2 := fun j q hj => (h.2 j q hj).1
  have hq : q ∈ [(w.2 11, FieldType.int), (w.2 12, .char), (w.2 13, .int), (w.2 14, .object "SondeStations$Net"), (w.2 15, .int), (w.2 20, .int), (w.2 21, .int)] := hq
  simp only [List.mem_cons, List.not_mem_nil, or_false] at hq
  rcases hq with rfl | rfl | rfl | rfl | rfl | rfl | rfl
  · exact A 0 _ rfl
  · exact A 1 _ rfl
  · exact A 2 _ rfl
  · exact A 3 _ rfl
  · exact A 4 _ rfl
  · exact h20
  · exact h21
theorem lw_T {args : Array Value} {s : State} (h : ∀ x ∈ lw_tbl, x.before args s = true) : ∀ x ∈ ab_T, x.before args s = true := fun x hx => h x (List.mem_filter.mp hx).1
theorem lw_Nx {args : Array Value} {s : State} (h : ∀ x ∈ lw_tbl, x.before args s = true) : ∀ x ∈ ab_N, x.before args s = true := fun x hx => h x (List.mem_append_right _ (List.mem_filter.mp hx).1)
theorem lw_AOin : Cond.arrayOver (.object "SondeStations$Net") ∈ lw_tbl := List.mem_append_right _ (by decide +kernel)
theorem lw_bZ {args : Array Value} {s : State} (h : ∀ x ∈ lw_tbl, x.before args s = true) : (∀ x ∈ ab_N, va_Nw x s) ∧ bZ s :=
  have h1 : ∀ x ∈ ab_N, va_Nw x s := fun x hx => va_Nw.of (ab_NwOn (List.mem_filter.mp hx).2) (lw_Nx h x hx)
  ⟨h1, h1, va_AO.of (h _ lw_AOin)⟩
theorem lw_strin : ∀ q ∈ ab_strs, q.1 = RX9 ∧ Cond.stringRef q.1 q.2.1 q.2.2 ∈ tables_1 := by decide +kernel
theorem lw_strs {args : Array Value} {s : State} {w : bW} (h : ∀ x ∈ lw_tbl, x.before args s = true) (hK : bKw w s) : ∀ q ∈ ab_strs, ∃ sa, vk_R q.1 q.2.1 q.2.2 sa s := by
  intro q hq
  obtain ⟨h1, h2⟩ := lw_strin q hq
  have h3 := h _ (List.mem_append_right _ h2)
  have hc : s.vm.findClass q.1 = some (w.1.1 9) := by rw [h1]; exact (hK.1 9 (RX9, TX9, 7) rfl).2.1
  obtain ⟨k, cf, i, a, -, -, -, -, -, e⟩ := Cond.stringRef_spec hc h3
  exact ⟨a, vk_R.of h3 e⟩
theorem lw_Xof {b : Nat} {s : State} (h : (Jvm.Cond.and given_1 narrow_1).before #[Value.ref b] s = true) : lw_X s := by
  have hs := flat_of_before _ h
  exact ⟨va_Nc.of (hs _ (by decide +kernel)), va_Nc.of (hs _ (by decide +kernel)), va_Nc.of (hs _ (by decide +kernel)), va_Nc.of (hs _ (by decide +kernel))⟩

/-! THE LAW'S START: the two rows that are there before, the classes' numbers -/
abbrev lw_st (nm : String) : Term := .static "SondeStations" nm "[I"
/-- a row that is there before: where it lies, what it holds -/
def lw_row (args : Array Value) (s : State) (nm : String) (t : Nat) (f : Nat → Nat) : Prop := (lw_st nm).eval args s none [] s = some (.ref t) ∧ t < s.heap.size ∧ ∃ cell : Cell, s.heap[t]? = some cell ∧ (∃ k, s.vm.classes[cell.cls]? = some k ∧ ∃ comp, k.kind = .array comp .int) ∧ cell.vm ≠ .unknown ∧ (∀ k, cell.vm ≠ .statics k) ∧ 5 ≤ cell.slots.size ∧ ∀ j : Nat, j < 5 → cell.slots[j]? = some (.int (nI (f j)))
theorem lw_rowOf {args : Array Value} {s : State} {nm : String} {f : Nat → Nat} (h1 : (Cond.arrayOf (lw_st nm) .int).before args s = true) (h2 : (Cond.eq (.length (lw_st nm)) (.int 5)).before args s = true) (h3 : ∀ j : Nat, j < 5 → (Cond.eq (.elem (lw_st nm) (.int (Int32.ofNat j))) (.int (nI (f j)))).before args s = true) : ∃ t, lw_row args s nm t f := by
  obtain ⟨t, ht, cell, g1, g2, g3, g4, -, g6, -⟩ := va_Tof (tm := lw_st nm) (ty := .int) (N := 5) (f := fun j => .int (nI (f j))) (A := fun q => s.heap.size ≤ q) (by decide) h1 (va_eqt h2) (fun j hj => va_eqt (h3 j hj)) (fun a ha => Nat.not_le.mpr ha)
  exact ⟨t, ht, (Array.getElem?_eq_some_iff.mp g1).1, cell, g1, g2.2, g3, g2.1, g4, g6⟩
theorem lw_rows {b : Nat} {s : State} (h : (Jvm.Cond.and given_1 narrow_1).before #[Value.ref b] s = true) : (∃ t, lw_row #[Value.ref b] s "LOWEST_SETTINGS" t s_lo) ∧ ∃ t, lw_row #[Value.ref b] s "HIGHEST_SETTINGS" t s_hi := by
  have hs := flat_of_before _ h
  refine ⟨lw_rowOf (hs _ (by decide +kernel)) (hs _ (by decide +kernel)) (fun j hj => ?_), lw_rowOf (hs _ (by decide +kernel)) (hs _ (by decide +kernel)) (fun j hj => ?_)⟩
  · match j, hj with
    | 0, _ => exact hs _ (by decide +kernel)
    | 1, _ => exact hs _ (by decide +kernel)
    | 2, _ => exact hs _ (by decide +kernel)
    | 3, _ => exact hs _ (by decide +kernel)
    | 4, _ => exact hs _ (by decide +kernel)
    | j + 5, hj => exact absurd hj (by omega)
  · match j, hj with
    | 0, _ => exact hs _ (by decide +kernel)
    | 1, _ => exact hs _ (by decide +kernel)
    | 2, _ => exact hs _ (by decide +kernel)
    | 3, _ => exact hs _ (by decide +kernel)
    | 4, _ => exact hs _ (by decide +kernel)
    | j + 5, hj => exact absurd hj (by omega)
theorem lw_apart {b : Nat} {s : State} {t0 t1 : Nat} (h0 : lw_row #[Value.ref b] s "LOWEST_SETTINGS" t0 s_lo) (h1 : lw_row #[Value.ref b] s "HIGHEST_SETTINGS" t1 s_hi) : t0 ≠ t1 := by
  rintro rfl
  obtain ⟨-, -, cell, g1, -, -, -, -, g6⟩ := h0
  obtain ⟨-, -, cell', k1, -, -, -, -, k6⟩ := h1
  obtain rfl : cell = cell' := Option.some.inj (g1.symm.trans k1)
  have := (g6 0 (by omega)).symm.trans (k6 0 (by omega))
  exact absurd this (by decide +kernel)
theorem lw_inZ : Cond.laysStatic "SondeStations" "LOWEST_SETTINGS" "[I" ∈ lw_tbl ∧ Cond.laysStatic "SondeStations" "HIGHEST_SETTINGS" "[I" ∈ lw_tbl ∧ Cond.initialized "SondeStations" ∈ lw_tbl ∧ Cond.laysStatic Bundle.tN "UNASSIGNED_STACK" Bundle.steD ∈ lw_tbl ∧ Cond.laysStatic Bundle.tN "SUPPRESSED_SENTINEL" Bundle.listD ∈ lw_tbl ∧ Cond.initialized Bundle.tN ∈ lw_tbl :=
  ⟨List.mem_append_right _ (by decide +kernel), List.mem_append_right _ (by decide +kernel), List.mem_append_right _ (by decide +kernel), List.mem_append_right _ (by decide +kernel), List.mem_append_right _ (by decide +kernel), List.mem_append_right _ (by decide +kernel)⟩
theorem lw_Zs {b : Nat} {s : State} {W : ab_W} {w : bW} (hts : ∀ x ∈ lw_tbl, x.before #[Value.ref b] s = true) (h : (Jvm.Cond.and given_1 narrow_1).before #[Value.ref b] s = true) (hK : bKw w s) (h0 : lw_row #[Value.ref b] s "LOWEST_SETTINGS" (ab_ad W 16) s_lo) (h1 : lw_row #[Value.ref b] s "HIGHEST_SETTINGS" (ab_ad W 17) s_hi) {A : Nat → Prop} (hA : ∀ a : Nat, a < s.heap.size → ¬ A a) : lZs W A s s.heap := by
  have hs := flat_of_before _ h
  obtain ⟨i1, i2, i3, i4, i5, i6⟩ := lw_inZ
  exact ⟨fun _ => va_Zref (hts _ i1) (hts _ i3) h0.1 hA, fun _ => va_Zref (hts _ i2) (hts _ i3) h1.1 hA, vx_Zqof (hts _ i4) (hts _ i6) (hs _ (by decide +kernel)) hA, vx_Zqof (hts _ i5) (hts _ i6) (hs _ (by decide +kernel)) hA, lw_strs hts hK, (lw_bZ hts).1⟩
theorem lw_arrIn : Cond.arrayClass .int ∈ lw_tbl ∧ Cond.arrayClass .char ∈ lw_tbl :=
  ⟨List.mem_append_right _ (by decide +kernel), List.mem_append_right _ (by decide +kernel)⟩
theorem lw_insts : ∀ r ∈ vwCl, Cond.instantiable r.1 r.2.2 ∈ lw_tbl := by
  have h : (vwCl.all fun r => decide (Cond.instantiable r.1 r.2.2 ∈ tables_1)) = true := by decide +kernel
  exact fun r hr => List.mem_append_right _ (of_decide_eq_true (List.all_eq_true.mp h r hr))
theorem lw_arr {s : State} {args : Array Value} {ty : FieldType} (hno : ∀ q, ty ≠ .object q) (h : (Cond.arrayClass ty).before args s = true) : ∃ cA, ArrOfT s cA ty ∧ va_RA s cA ty := by
  obtain ⟨cA, kA, comp, h1, h2, h3⟩ := Cond.arrayClass_spec h
  refine ⟨cA, fun n z => ⟨fun k h => (by cases h), kA, h2, comp, h3⟩, ?_⟩
  cases ty <;> first | exact h1 | exact absurd rfl (hno _)
theorem lw_know {args : Array Value} {s : State} (hts : ∀ x ∈ lw_tbl, x.before args s = true) (c0 c1 : ClassId) : ∃ w : bW, bKw w s ∧ w.2 20 = c0 ∧ w.2 21 = c1 := by
  obtain ⟨i1, i2⟩ := lw_arrIn
  obtain ⟨a1, e1⟩ := lw_arr (fun q h => by cases h) (hts _ i1)
  obtain ⟨a2, e2⟩ := lw_arr (fun q h => by cases h) (hts _ i2)
  obtain ⟨comp, a4, kA, f4, -, f2, f3, f1⟩ := Cond.arrayOver_spec (hts _ lw_AOin)
  have hk : ∀ k : Nat, ∃ x : ClassId × (Nat → Nat), ∀ q : vw_C, vwCl[k]? = some q → u_Kn s q.1 q.2.1 q.2.2 x.1 x.2 := by
    intro k
    cases hq : vwCl[k]? with
    | none => exact ⟨(0, fun _ => 0), fun q h => by cases h⟩
    | some r =>
      have hm := List.mem_of_getElem? hq
      obtain ⟨cC, iS, hu⟩ := u_known (lw_T hts) (ab_lay r hm) (hts _ (lw_insts r hm))
      exact ⟨(cC, iS), fun q h => by cases h; exact hu⟩
  obtain ⟨g, hg⟩ := Classical.axiomOfChoice hk
  refine ⟨((fun k => (g k).1, fun k => (g k).2), fun k => if k = 11 then a1 else if k = 12 then a2 else if k = 13 then a1 else if k = 14 then a4 else if k = 15 then a1 else if k = 20 then c0 else c1), ⟨fun c q hq => hg c q hq, fun k q hq => ?_⟩, rfl, rfl⟩
  have hq : [(a1, FieldType.int), (a2, .char), (a1, .int), (a4, .object "SondeStations$Net"), (a1, .int)][k]? = some q := hq
  match k, hq with
  | 0, hq => cases hq; exact e1
  | 1, hq => cases hq; exact e2
  | 2, hq => cases hq; exact e1
  | 3, hq => cases hq; exact ⟨fun n z => ⟨fun k h => (by cases h), kA, f2, comp, f3⟩, kA, comp, f2, f3, f4, f1⟩
  | 4, hq => cases hq; exact e1
  | k + 5, hq => exact absurd (List.getElem?_eq_some_iff.mp hq).1 (by simp only [List.length_cons, List.length_nil]; omega)
