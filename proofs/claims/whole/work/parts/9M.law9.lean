theorem lw_ad_at {z s0 s1 s2 : Nat} : lw_ad z s0 s1 s2 0 = z ∧ lw_ad z s0 s1 s2 8 = z + 559 ∧ lw_ad z s0 s1 s2 16 = s0 ∧ lw_ad z s0 s1 s2 17 = s1 ∧ lw_ad z s0 s1 s2 18 = z + 567 ∧ lw_ad z s0 s1 s2 19 = s2 := by
  unfold lw_ad
  refine ⟨?_, ?_, ?_, ?_, ?_, ?_⟩ <;> simp
theorem lw_A_ge {z s0 s1 s2 : Nat} {w : bW} {q : Nat} (h : ab_A (lw_w z s0 s1 s2 w) z q) : z ≤ q := by
  rcases h with ⟨v, hv, rfl⟩ | h
  · have hv : lw_kd v ≤ 15 := hv
    have hr := lw_ad_r z s0 s1 s2 (lw_kd_is (Nat.le_trans hv (by omega)))
    show z ≤ lw_ad z s0 s1 s2 v
    have h16 : v ≠ 16 := by rintro rfl; exact absurd hv (by decide)
    have h17 : v ≠ 17 := by rintro rfl; exact absurd hv (by decide)
    omega
  · exact h
theorem lw_sT {l : Launch} (h : l.flags = flags0) : l.stackTraces = false := by
  unfold Launch.stackTraces
  rw [h]
  decide +kernel
def R_law : String := "SondeStationsLaw"
def lwe_P (b : Addr) (xs : List Int32) (args : Array Value) (s : State) : Prop := args = #[.ref b] ∧ s.IntsAt b xs ∧ xs.length ≤ 3072 ∧ (Jvm.Cond.and given_1 narrow_1).before args s = true
def lwe_Q (_ : Array Value) (s : State) (o : Outcome) (t : State) : Prop := o = .returned (some (.int 1)) ∧ Framed s o t [] 601024 7293034
def lwe_Z (below : List Frame) (a : Array Value) (s : State) : State → Prop := fun t => ∃ o, t.status = .running ∧ Ended t below o ∧ lwe_Q a s o t
/-- the law's own end, with 1 on the stack, nothing written that was there before, its room as the claim has it -/
theorem lw_ret {p : Program} {l : Launch} {e : Env} {s : State} {m : MethodId} {below : List Frame} {meth : Method} {c : Code} {b : Nat} (hx : p.tables.exec = Jvm.exec) (hb : c.code = code) (hr : meth.sig.returnType = ret) (hlocks : meth.locks = false) {pc : Nat} {H : Heap} {ls : Array Slot} (hdg : decode code pc = .ok (.ireturn, 1)) : W p l e room_1 s m #[Value.ref b] below meth c H [] 601024 7293034 (lwe_Z below #[Value.ref b] s) (F0 m pc ls [.int 1]) := by
  intro T hT X
  obtain ⟨fs, hret, hrun, hended, hW, hframe⟩ := X.leave (v := some (.int 1)) (hlocks := hlocks) (fun h => by rw [hr] at h; cases h)
  have hmeth' : T.vm.method? m = some meth := X.method'
  refine ⟨T.setFrames fs, ?_, .returned (some (.int 1)), hrun, hended, rfl, ⟨_, rfl⟩, hW, hframe⟩
  jvm_step X.here [X.here.top, hx, hb, hdg, hmeth', hr, ret, narrow_b1]
  (try refine ⟨rfl, ?_⟩); (try refine ⟨rfl, ?_⟩)
  first | (intro acts; rw [hret _ acts rfl rfl rfl]) | rw [hret _ _ rfl rfl rfl]
  exact Steps.refl _
/-- what holds at the law's entry: the machine, the code, the tables' words (any of lw_tbl by 'hts w (by decide +kernel)'), the script of L ints xs at the cell b, what the Statement gives of the start (any of its parts by flat_of_before) -/
def lw_At (p : Program) (s : State) (m : MethodId) (meth : Method) (c : Code) (b L : Nat) (xs : Nat → Int32) : Prop :=
  p.tables.exec = Jvm.exec ∧ c.code = code ∧ meth.sig.returnType = ret ∧ c.maxLocals = 7 ∧ s.vm.findClass R_law = some m.cls ∧ (∀ w ∈ lw_tbl, w.before #[Value.ref b] s = true) ∧ va_X b L xs s s.heap ∧ b < s.heap.size ∧ meth.locks = false ∧ (Jvm.Cond.and given_1 narrow_1).before #[Value.ref b] s = true
section LWS
variable {p : Program} {l : Launch} {e : Env} {s : State} {m : MethodId} {below : List Frame} {meth : Method} {c : Code} {w : bW} {b L s0 s1 : Nat} {xs : Nat → Int32}
/-- the world behind the making -/
theorem lw_made {H : Heap} {locs : List Loc} {ls : Array Slot} (h0 : lw_row #[Value.ref b] s "LOWEST_SETTINGS" s0 s_lo) (h1 : lw_row #[Value.ref b] s "HIGHEST_SETTINGS" s1 s_hi) (e0 : ∀ cell, s.heap[s0]? = some cell → cell.cls = w.2 20) (e1 : ∀ cell, s.heap[s1]? = some cell → cell.cls = w.2 21) (hR : lq_R w s.heap.size (lq_c2 w s.heap.size ++ [.inr (w.2 15, 1, fun _ => .long 0)]) H) (hS : va_S (lq_A s.heap.size) s.heap H locs) (hL : lv_has ls 7 [(4, .int 0), (3, .ref (s.heap.size + (lq_c2 w s.heap.size).length)), (2, .ref (s.heap.size + (lq_c1 w s.heap.size).length)), (1, .ref (s.heap.size + ([] : List bC).length)), (0, .ref b)]) :
    ab_Rep (lw_w s.heap.size s0 s1 b w) lw_s H ∧ va_S (ab_A (lw_w s.heap.size s0 s1 b w) s.heap.size) s.heap H locs ∧ ab_Lk (lw_w s.heap.size s0 s1 b w) ls 7 (lw_L 0 .null .null) := by
  obtain ⟨a0, a8, a16, a17, a18, a19⟩ := lw_ad_at (z := s.heap.size) (s0 := s0) (s1 := s1) (s2 := b)
  have row : ∀ t : Nat, t < s.heap.size → H[t]? = s.heap[t]? := fun t ht => hS.2.1 t ht (Nat.not_le.mpr ht)
  refine ⟨lw_rep ?_ ?_ ?_ ?_ ?_ ?_ ?_, ⟨hS.1, fun q h1 h2 => hS.2.1 q h1 (Nat.not_le.mpr h1), fun q hq => Or.inr (hS.2.2 q hq)⟩, hL.1, hL.2.1, fun i v hv hn => ?_⟩
  · have := hR.2 ([] : List bC).length _ (app_l (app_l (app_l (get_mid (a := ([] : List bC)) (x := (Sum.inl (9, f1X9 w (s.heap.size + ([] : List bC).length + 1)) : bC)) (c := c1X9_7 w (s.heap.size + ([] : List bC).length + 1))))))
    exact this
  · intro i x hx
    have := hR.2 (([] : List bC).length + 1 + i) x (app_l (app_l (app_l (get_sub (a := ([] : List bC)) (x := (Sum.inl (9, f1X9 w (s.heap.size + ([] : List bC).length + 1)) : bC)) hx))))
    rw [show s.heap.size + (([] : List bC).length + 1 + i) = s.heap.size + 1 + i by rw [List.length_nil]; omega] at this
    exact this
  · have := hR.2 (lq_c1 w s.heap.size).length _ (app_l (get_mid (a := lq_c1 w s.heap.size) (x := (Sum.inl (10, f1X10 w (s.heap.size + (lq_c1 w s.heap.size).length + 1)) : bC)) (c := c1X10 w (s.heap.size + (lq_c1 w s.heap.size).length + 1))))
    rw [lq_len1] at this
    exact this
  · intro i x hx
    have := hR.2 ((lq_c1 w s.heap.size).length + 1 + i) x (app_l (get_sub (a := lq_c1 w s.heap.size) (x := (Sum.inl (10, f1X10 w (s.heap.size + (lq_c1 w s.heap.size).length + 1)) : bC)) (c := c1X10 w (s.heap.size + (lq_c1 w s.heap.size).length + 1)) (by rw [lq_len1]; exact hx)))
    rw [lq_len1, show s.heap.size + (559 + 1 + i) = s.heap.size + 560 + i by omega] at this
    exact this
  · have := hR.2 (lq_c2 w s.heap.size).length (.inr (w.2 15, 1, fun _ => .long 0)) (by rw [List.getElem?_append_right (Nat.le_refl _), Nat.sub_self]; rfl)
    rw [lq_len2] at this
    exact this
  · obtain ⟨-, hlt, cell, g1, -, g3, g4, g5, g6⟩ := h0
    exact ⟨cell, (row _ hlt).trans g1, e0 _ g1, g3, g4, g5, g6⟩
  · obtain ⟨-, hlt, cell, g1, -, g3, g4, g5, g6⟩ := h1
    exact ⟨cell, (row _ hlt).trans g1, e1 _ g1, g3, g4, g5, g6⟩
  · match i, hv with
    | 0, hv => subst hv; exact (hL.2.2 (0, .ref b) (by simp)).trans (congrArg (fun x => some (Slot.val (.ref x))) a19.symm)
    | 1, hv => subst hv; exact (hL.2.2 (1, .ref (s.heap.size + ([] : List bC).length)) (by simp)).trans (congrArg (fun x => some (Slot.val (.ref x))) a0.symm)
    | 2, hv => subst hv; exact (hL.2.2 (2, .ref (s.heap.size + (lq_c1 w s.heap.size).length)) (by simp)).trans (congrArg (fun x => some (Slot.val (.ref x))) (show s.heap.size + (lq_c1 w s.heap.size).length = lw_ad s.heap.size s0 s1 b 8 by rw [a8, lq_len1]))
    | 3, hv => subst hv; exact (hL.2.2 (3, .ref (s.heap.size + (lq_c2 w s.heap.size).length)) (by simp)).trans (congrArg (fun x => some (Slot.val (.ref x))) (show s.heap.size + (lq_c2 w s.heap.size).length = lw_ad s.heap.size s0 s1 b 18 by rw [a18, lq_len2]))
    | 4, hv => subst hv; exact (hL.2.2 (4, .int 0) (by simp)).trans (congrArg (fun x => some (Slot.val (.int x))) nI_0.symm)
    | 5, hv => exact absurd hv.symm hn
    | 6, hv => exact absurd hv.symm hn
    | i + 7, hv => exact absurd hv.symm hn
end LWS
set_option maxRecDepth 20000 in
set_option maxHeartbeats 4000000 in
/-- from the entry, for every script of at most 3072 ints, the law comes to its end with true -/
theorem whole_start {p : Program} {e : Env} {s : State} {m : MethodId} {below : List Frame} {meth : Method} {c : Code} (l : Launch) (hflags : l.flags = flags0) {b L : Nat} {xs : Nat → Int32} (hL : L ≤ 3072) (C0 : lw_At p s m meth c b L xs) : W p l e room_1 s m #[Value.ref b] below meth c s.heap [] 0 0 (lwe_Z below #[Value.ref b] s) (entryFrame m ([Value.ref b] : List Value).toArray 7) := by
  obtain ⟨hx, hb, hr, hml, hown, hts, hX, hbl, hlocks, hgv⟩ := id C0
  obtain ⟨⟨s0, r0⟩, ⟨s1, r1⟩⟩ := lw_rows hgv
  have h01 := lw_apart r0 r1
  obtain ⟨-, l0, cell0, g0, k0, -⟩ := id r0
  obtain ⟨-, l1, cell1, g1, k1, -⟩ := id r1
  obtain ⟨w, hK, w20, w21⟩ := lw_know hts cell0.cls cell1.cls
  obtain ⟨a0, a8, a16, a17, a18, a19⟩ := lw_ad_at (z := s.heap.size) (s0 := s0) (s1 := s1) (s2 := b)
  have e0 : ∀ cell, s.heap[s0]? = some cell → cell.cls = w.2 20 := fun cell h => by rw [w20, Option.some.inj (h.symm.trans g0)]
  have e1 : ∀ cell, s.heap[s1]? = some cell → cell.cls = w.2 21 := fun cell h => by rw [w21, Option.some.inj (h.symm.trans g1)]
  have h20 : ArrOfT s (w.2 20) .int := fun n z => ⟨fun k h => (by cases h), by rw [w20]; exact k0⟩
  have h21 : ArrOfT s (w.2 21) .int := fun n z => ⟨fun k h => (by cases h), by rw [w21]; exact k1⟩
  have hA : ∀ a : Nat, a < s.heap.size → ¬ ab_A (lw_w s.heap.size s0 s1 b w) s.heap.size a := fun a ha q => absurd (lw_A_ge q) (Nat.not_le.mpr ha)
  have C : lw_Cx p l s m #[Value.ref b] meth c (lw_w s.heap.size s0 s1 b w) L xs := ⟨hx, hb, hml, hown, lw_T hts, hlocks, lw_Kw hK h20 h21, lw_Zs hts hgv hK (a16.symm ▸ r0 : lw_row #[Value.ref b] s "LOWEST_SETTINGS" (lw_ad s.heap.size s0 s1 b 16) s_lo) (a17.symm ▸ r1 : lw_row #[Value.ref b] s "HIGHEST_SETTINGS" (lw_ad s.heap.size s0 s1 b 17) s_hi) hA, lw_inj l0 l1 h01, lw_sT hflags, lw_Xof hgv, (by show va_X (lw_ad s.heap.size s0 s1 b 19) _ _ _ _; rw [a19]; exact hX), (by show lw_ad s.heap.size s0 s1 b 19 < _; rw [a19]; exact hbl), (by show ¬ ab_A _ _ (lw_ad s.heap.size s0 s1 b 19); rw [a19]; exact hA b hbl), hL, lw_wA, lw_wD, rfl, rfl⟩
  have hl := lv_entry ([.ref b]) (n := 7) (Nat.le_of_ble_eq_true rfl)
  rw [lg_entry_eq]
  generalize (lg_sl ([.ref b]) ++ List.replicate (7 - (lg_sl ([.ref b])).length) Slot.unset).toArray = ls at hl ⊢
  have hl : lv_has ls 7 [(0, .ref b)] := hl
  refine lq_make (w := w) (l := l) (e := e) (below := below) ⟨hx, hb, hml, hown, lw_T hts, hlocks, hK, (lw_bZ hts).2⟩ (b := b) ?_ s.heap [] ls ⟨rfl, fun i c h => by cases h⟩ va_S.rf hl
  intro H locs ls hR hS hL2
  obtain ⟨q1, q2, q3⟩ := lw_made r0 r1 e0 e1 hR hS hL2
  refine lr_loop C (N := 0 + 1 + 558 + 1 + 7 + 1) (S := 0 + 7 + 12425 + 15 + 5898 + 1) (by omega) (by omega) ?_ 512 0 lw_s lw_A0 (by omega) (by omega) lw_RA lw_RD (lw_WA.mono (by omega)) H locs ls q1 q2 q3
  intro σ i nc ns h1 h2 H locs ls hR hS hL
  refine lv_iconst (v := 1) hx hb dL_law_2145 (by decide) ?_
  refine va_forget (fun q hq => lw_A_ge (hS.2.2 q hq)) (W.widen h1 h2 ?_)
  exact lw_ret hx hb hr hlocks dL_law_2146
