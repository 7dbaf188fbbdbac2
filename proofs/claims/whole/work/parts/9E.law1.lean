theorem lw_Kw {z s0 s1 s2 : Nat} {w : bW} {U : State} (h : bKw w U) (h20 : ArrOfT U (w.2 20) .int) (h21 : ArrOfT U (w.2 21) .int) : ab_Kw (lw_w z s0 s1 s2 w) U := by
  refine ⟨fun c q hq => h.1 c q hq, fun q hq => ?_⟩
  have A : ∀ (j : Nat) (q : ClassId × FieldType), (bTys w)[j]? = some q → ArrOfT U q.1 q.2 := fun j q hj => (h.2 j q hj).1
  have hq : q ∈ [(w.2 11, FieldType.int), (w.2 12, .char), (w.2 13, .boolean), (w.2 14, .object "SondeStations$Net"), (w.2 15, .long), (w.2 20, .int), (w.2 21, .int)] := hq
  simp only [List.mem_cons, List.not_mem_nil, or_false] at hq
  rcases hq with rfl | rfl | rfl | rfl | rfl | rfl | rfl
  · exact A 0 _ rfl
  · exact A 1 _ rfl
  · exact A 2 _ rfl
  · exact A 3 _ rfl
  · exact A 4 _ rfl
  · exact h20
  · exact h21
theorem lw_T {args : Array Value} {s : State} (h : ∀ x ∈ lw_tbl, x.before args s = true) : ∀ x ∈ ab_T, x.before args s = true := fun x hx => h x (List.mem_filter.mp hx).1
theorem lw_Nx {args : Array Value} {s : State} (h : ∀ x ∈ lw_tbl, x.before args s = true) : ∀ x ∈ ab_N, x.before args s = true := fun x hx => h x (List.mem_append_right _ (List.mem_filter.mp hx).1)
theorem lw_AOin : Cond.arrayOver (.object "SondeStations$Net") ∈ lw_tbl := List.mem_append_right _ (by decide +kernel)
theorem lw_bZ {args : Array Value} {s : State} (h : ∀ x ∈ lw_tbl, x.before args s = true) : (∀ x ∈ ab_N, va_Nw x s) ∧ bZ s :=
  have h1 : ∀ x ∈ ab_N, va_Nw x s := fun x hx => va_Nw.of (ab_NwOn (List.mem_filter.mp hx).2) (lw_Nx h x hx)
  ⟨h1, h1, va_AO.of (h _ lw_AOin)⟩
theorem lw_strin : ∀ q ∈ ab_strs, q.1 = RX9 ∧ Cond.stringRef q.1 q.2.1 q.2.2 ∈ tables_1 := by decide +kernel
theorem lw_strs {args : Array Value} {s : State} {w : bW} (h : ∀ x ∈ lw_tbl, x.before args s = true) (hK : bKw w s) : ∀ q ∈ ab_strs, ∃ sa, vk_R q.1 q.2.1 q.2.2 sa s := by
  intro q hq
  obtain ⟨h1, h2⟩ := lw_strin q hq
  have h3 := h _ (List.mem_append_right _ h2)
  have hc : s.vm.findClass q.1 = some (w.1.1 9) := by rw [h1]; exact (hK.1 9 (RX9, TX9, 7) rfl).2.1
  obtain ⟨k, cf, i, a, -, -, -, -, -, e⟩ := Cond.stringRef_spec hc h3
  exact ⟨a, vk_R.of h3 e⟩
theorem lw_Xof {b : Nat} {s : State} (h : (Jvm.Cond.and given_1 narrow_1).before #[Value.ref b] s = true) : lw_X s := by
  have hs := flat_of_before _ h
  exact ⟨va_Nc.of (hs _ (by decide +kernel)), va_Nc.of (hs _ (by decide +kernel)), va_Nc.of (hs _ (by decide +kernel)), va_Nc.of (hs _ (by decide +kernel))⟩
