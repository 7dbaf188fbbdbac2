/-! THE START -/
theorem lw_ad_in {z s0 s1 v : Nat} (hv : lw_kd v ≤ 15) : z ≤ lw_ad z s0 s1 v ∧ lw_ad z s0 s1 v < z + 559 := by
  have hr := lw_ad_r z s0 s1 (lw_kd_is (Nat.le_trans hv (by omega)))
  have h16 : v ≠ 16 := by rintro rfl; exact absurd hv (by decide)
  have h17 : v ≠ 17 := by rintro rfl; exact absurd hv (by decide)
  omega
theorem lw_ad_old {z s0 s1 v : Nat} (hv : lw_kd v ≤ 21) : (z ≤ lw_ad z s0 s1 v ∧ lw_ad z s0 s1 v < z + 559) ∨ lw_ad z s0 s1 v = s0 ∨ lw_ad z s0 s1 v = s1 := by
  have hr := lw_ad_r z s0 s1 (lw_kd_is hv)
  omega
/-- the law's two objects: the addresses, the worlds -/
def lY (z s0 s1 b : Nat) (w : bW) : lW := ((fun v => if v = 0 then z else if v = 1 then z + 559 else b, fun _ => 22, fun _ => 0, w.1, w.2), fun i => lw_w (z + 559 * i) s0 s1 w)
theorem lY_A {z s0 s1 b q : Nat} {w : bW} (h : lA (lY z s0 s1 b w) z q) : z ≤ q := by
  obtain ⟨i, hi, ⟨v, hv, rfl⟩ | h⟩ := h
  · have := lw_ad_in (z := z + 559 * i) (s0 := s0) (s1 := s1) (v := v) hv
    show z ≤ lw_ad (z + 559 * i) s0 s1 v
    omega
  · exact h
theorem lY_wo {z s0 s1 b : Nat} {w : bW} (h0 : s0 < z) (h1 : s1 < z) (h01 : s0 ≠ s1) : lWo (lY z s0 s1 b w) := by
  refine ⟨fun i hi => ⟨?_, lw_inj (by omega) (by omega) h01, lw_wA⟩, fun i j hi hj hij u v hu hv => ?_⟩
  · have hz := lw_ad_r (z + 559 * i) s0 s1 (v := 0) (by unfold lw_is; omega)
    show (if i = 0 then z else if i = 1 then z + 559 else b) = lw_ad (z + 559 * i) s0 s1 0
    rcases (by omega : i = 0 ∨ i = 1) with rfl | rfl
    · rw [if_pos rfl]; omega
    · rw [if_neg (by omega), if_pos rfl]; omega
  · have a := lw_ad_old (z := z + 559 * i) (s0 := s0) (s1 := s1) (v := u) hu
    have b := lw_ad_in (z := z + 559 * j) (s0 := s0) (s1 := s1) (v := v) hv
    show lw_ad (z + 559 * i) s0 s1 u ≠ lw_ad (z + 559 * j) s0 s1 v
    rcases (by omega : (i = 0 ∧ j = 1) ∨ (i = 1 ∧ j = 0)) with ⟨rfl, rfl⟩ | ⟨rfl, rfl⟩ <;> omega
theorem lw_sT {l : Launch} (h : l.flags = flags0) : l.stackTraces = false := by
  unfold Launch.stackTraces
  rw [h]
  decide +kernel
def R_law : String := "SondeStationsLaw"
def lwe_P (b : Addr) (xs : List Int32) (args : Array Value) (s : State) : Prop := args = #[.ref b] ∧ s.IntsAt b xs ∧ xs.length ≤ 260 ∧ (Jvm.Cond.and given_1 narrow_1).before args s = true
def lwe_Q (_ : Array Value) (s : State) (o : Outcome) (t : State) : Prop := o = .returned (some (.int 1)) ∧ Framed s o t [] 600086 7301442
def lwe_Z (below : List Frame) (a : Array Value) (s : State) : State → Prop := fun t => ∃ o, t.status = .running ∧ Ended t below o ∧ lwe_Q a s o t
/-- the law's own end, with 1 on the stack, nothing written that was there before, its room as the claim has it -/
theorem lw_ret {R : Room} {p : Program} {l : Launch} {e : Env} {s : State} {m : MethodId} {below : List Frame} {meth : Method} {c : Code} {b : Nat} (hx : p.tables.exec = Jvm.exec) (hb : c.code = code) (hr : meth.sig.returnType = ret) (hlocks : meth.locks = false) {pc : Nat} {H : Heap} {ls : Array Slot} (hdg : decode code pc = .ok (.ireturn, 1)) : W p l e R s m #[Value.ref b] below meth c H [] 600086 7301442 (lwe_Z below #[Value.ref b] s) (F0 m pc ls [.int 1]) := by
  intro T hT X
  obtain ⟨fs, hret, hrun, hended, hW, hframe⟩ := X.leave (v := some (.int 1)) (hlocks := hlocks) (fun h => by rw [hr] at h; cases h)
  have hmeth' : T.vm.method? m = some meth := X.method'
  refine ⟨T.setFrames fs, ?_, .returned (some (.int 1)), hrun, hended, rfl, ⟨_, rfl⟩, hW, hframe⟩
  jvm_step X.here [X.here.top, hx, hb, hdg, hmeth', hr, ret, narrow_b1]
  (try refine ⟨rfl, ?_⟩); (try refine ⟨rfl, ?_⟩)
  first | (intro acts; rw [hret _ acts rfl rfl rfl]) | rw [hret _ _ rfl rfl rfl]
  exact Steps.refl _
/-- what holds at the law's entry: the machine, the code, the tables' words (any of lw_tbl by 'hts w (by decide +kernel)'), the script of L ints xs at the cell b, what the Statement gives of the start (any of its parts by flat_of_before) -/
def lw_At (p : Program) (s : State) (m : MethodId) (meth : Method) (c : Code) (b L : Nat) (xs : Nat → Int32) : Prop :=
  p.tables.exec = Jvm.exec ∧ c.code = code ∧ meth.sig.returnType = ret ∧ c.maxLocals = 7 ∧ s.vm.findClass R_law = some m.cls ∧ (∀ w ∈ lw_tbl, w.before #[Value.ref b] s = true) ∧ va_X b L xs s s.heap ∧ b < s.heap.size ∧ meth.locks = false ∧ (Jvm.Cond.and given_1 narrow_1).before #[Value.ref b] s = true
theorem W.inRoom {p : Program} {l : Launch} {e : Env} {R R2 : Room} {s : State} {m : MethodId} {args : Array Value} {below : List Frame} {meth : Method} {c : Code} {H : Heap} {locs : List Loc} {nc ns : Nat} {Q : State → Prop} {g : JFrame} (h1 : R2.frames ≤ R.frames) (h2 : R2.cells ≤ R.cells) (h3 : R2.slots ≤ R.slots) (h4 : R2.locals ≤ R.locals) (k : W p l e R2 s m args below meth c H locs nc ns Q g) : W p l e R s m args below meth c H locs nc ns Q g := by
  intro T hT X
  have hr : s.hasRoom e.platform R2 = true := by
    have h := X.room
    simp only [State.hasRoom, Bool.and_eq_true, decide_eq_true_eq] at h ⊢
    obtain ⟨⟨⟨⟨q1, q2, q3, q4, q5, q6⟩, q7⟩, q8⟩, q9⟩ := h
    exact ⟨⟨⟨⟨by omega, by omega, by omega, by omega, by omega, q6⟩, by omega⟩, by omega⟩, q9⟩
  exact k T hT ⟨X.admits, X.cas, X.clock, X.frames, hr, X.hears, X.method, X.code, X.here, X.tail, X.warmed, X.limits, X.bytes, X.same⟩
theorem lw_GB : GB 0 lw_A0 := ⟨lw_WA.mono (by omega), KG.mono ⟨KN_new, GL_new⟩ (Nat.zero_le _), fun _ q => absurd q List.not_mem_nil, fun _ q => (by cases q), fun _ q => (by cases q), Nat.zero_le _, Nat.zero_le _⟩
/-- the world behind the making -/
theorem lw_made1 {s : State} {args : Array Value} {w : bW} {s0 s1 z : Nat} {H : Heap} {locs : List Loc} (h0 : lw_row args s "LOWEST_SETTINGS" s0 s_lo) (h1 : lw_row args s "HIGHEST_SETTINGS" s1 s_hi) (e0 : ∀ cell, s.heap[s0]? = some cell → cell.cls = w.2 20) (e1 : ∀ cell, s.heap[s1]? = some cell → cell.cls = w.2 21) (hS : va_S (lq_A s.heap.size) s.heap H locs) (ho : bAt w z (.inl (9, f1X9 w (z + 1))) H) (hc : ∀ i c, (c1X9_7 w (z + 1))[i]? = some c → bAt w (z + 1 + i) c H) : ab_Rep (lw_w z s0 s1 w) lw_s H := by
  have row : ∀ t : Nat, t < s.heap.size → H[t]? = s.heap[t]? := fun t ht => hS.2.1 t ht (Nat.not_le.mpr ht)
  refine lw_rep ho hc ?_ ?_
  · obtain ⟨-, hlt, cell, g1, -, g3, g4, g5, g6⟩ := h0
    exact ⟨cell, (row _ hlt).trans g1, e0 _ g1, g3, g4, g5, g6⟩
  · obtain ⟨-, hlt, cell, g1, -, g3, g4, g5, g6⟩ := h1
    exact ⟨cell, (row _ hlt).trans g1, e1 _ g1, g3, g4, g5, g6⟩
theorem lw_made {s : State} {args : Array Value} {w : bW} {s0 s1 : Nat} {H : Heap} {locs : List Loc} (h0 : lw_row args s "LOWEST_SETTINGS" s0 s_lo) (h1 : lw_row args s "HIGHEST_SETTINGS" s1 s_hi) (e0 : ∀ cell, s.heap[s0]? = some cell → cell.cls = w.2 20) (e1 : ∀ cell, s.heap[s1]? = some cell → cell.cls = w.2 21) (hS : va_S (lq_A s.heap.size) s.heap H locs) (hR : lq_R w s.heap.size (lq_c2 w s.heap.size) H) : ∀ i, i < 2 → ab_Rep (lw_w (s.heap.size + 559 * i) s0 s1 w) lw_s H := by
  intro i hi
  rcases (by omega : i = 0 ∨ i = 1) with rfl | rfl
  · refine lw_made1 h0 h1 e0 e1 hS ?_ (fun i x hx => ?_)
    · have := hR.2 ([] : List bC).length _ (app_l (app_l (app_l (get_mid (a := ([] : List bC)) (x := (Sum.inl (9, f1X9 w (s.heap.size + ([] : List bC).length + 1)) : bC)) (c := c1X9_7 w (s.heap.size + ([] : List bC).length + 1))))))
      exact this
    · have := hR.2 (([] : List bC).length + 1 + i) x (app_l (app_l (get_sub (a := ([] : List bC)) (x := (Sum.inl (9, f1X9 w (s.heap.size + ([] : List bC).length + 1)) : bC)) hx)))
      rw [show s.heap.size + (([] : List bC).length + 1 + i) = s.heap.size + 559 * 0 + 1 + i by rw [List.length_nil]; omega] at this
      exact this
  · refine lw_made1 h0 h1 e0 e1 hS ?_ (fun i x hx => ?_)
    · have := hR.2 (lq_c1 w s.heap.size).length _ (get_mid (a := lq_c1 w s.heap.size) (x := (Sum.inl (9, f1X9 w (s.heap.size + (lq_c1 w s.heap.size).length + 1)) : bC)) (c := c1X9_7 w (s.heap.size + (lq_c1 w s.heap.size).length + 1)))
      rw [lq_len1] at this
      exact this
    · have := hR.2 ((lq_c1 w s.heap.size).length + 1 + i) x (get_sub (a := lq_c1 w s.heap.size) (x := (Sum.inl (9, f1X9 w (s.heap.size + (lq_c1 w s.heap.size).length + 1)) : bC)) (c := c1X9_7 w (s.heap.size + (lq_c1 w s.heap.size).length + 1)) (by rw [lq_len1]; exact hx))
      rw [lq_len1, show s.heap.size + (559 + 1 + i) = s.heap.size + 559 * 1 + 1 + i by omega] at this
      exact this
set_option maxRecDepth 20000 in
set_option maxHeartbeats 4000000 in
/-- from the entry, for every script of at most 260 ints, the law comes to its end with true -/
theorem whole_start {p : Program} {e : Env} {s : State} {m : MethodId} {below : List Frame} {meth : Method} {c : Code} (l : Launch) (hflags : l.flags = flags0) {b L : Nat} {xs : Nat → Int32} (hL : L ≤ 260) (C0 : lw_At p s m meth c b L xs) : W p l e room_1 s m #[Value.ref b] below meth c s.heap [] 0 0 (lwe_Z below #[Value.ref b] s) (entryFrame m ([Value.ref b] : List Value).toArray 7) := by
  obtain ⟨hx, hb, hr, hml, hown, hts, hX, hbl, hlocks, hgv⟩ := id C0
  obtain ⟨⟨s0, r0⟩, ⟨s1, r1⟩⟩ := lw_rows hgv
  have h01 := lw_apart r0 r1
  obtain ⟨-, l0, cell0, g0, k0, -⟩ := id r0
  obtain ⟨-, l1, cell1, g1, k1, -⟩ := id r1
  obtain ⟨w, hK, w20, w21⟩ := lw_know hts cell0.cls cell1.cls
  have e0 : ∀ cell, s.heap[s0]? = some cell → cell.cls = w.2 20 := fun cell h => by rw [w20, Option.some.inj (h.symm.trans g0)]
  have e1 : ∀ cell, s.heap[s1]? = some cell → cell.cls = w.2 21 := fun cell h => by rw [w21, Option.some.inj (h.symm.trans g1)]
  have h20 : ArrOfT s (w.2 20) .int := fun n z => ⟨fun k h => (by cases h), by rw [w20]; exact k0⟩
  have h21 : ArrOfT s (w.2 21) .int := fun n z => ⟨fun k h => (by cases h), by rw [w21]; exact k1⟩
  have hA : ∀ a : Nat, a < s.heap.size → ¬ lA (lY s.heap.size s0 s1 b w) s.heap.size a := fun a ha q => absurd (lY_A q) (Nat.not_le.mpr ha)
  have a16 : ∀ z, lw_ad z s0 s1 16 = s0 := fun z => by unfold lw_ad; simp
  have a17 : ∀ z, lw_ad z s0 s1 17 = s1 := fun z => by unfold lw_ad; simp
  have hlK : lK (lY s.heap.size s0 s1 b w) s.heap.size s s.heap := by
    refine ⟨fun i hi => ⟨lw_Kw hK h20 h21, lw_Zs (W := lw_w (s.heap.size + 559 * i) s0 s1 w) hts hgv hK ((a16 (s.heap.size + 559 * i)).symm ▸ r0 : lw_row #[Value.ref b] s "LOWEST_SETTINGS" (lw_ad (s.heap.size + 559 * i) s0 s1 16) s_lo) ((a17 (s.heap.size + 559 * i)).symm ▸ r1 : lw_row #[Value.ref b] s "HIGHEST_SETTINGS" (lw_ad (s.heap.size + 559 * i) s0 s1 17) s_hi) hA⟩, lw_Xof hgv, hbl, hA b hbl, L, xs, hL, hX⟩
  have hwo := lY_wo (b := b) (w := w) l0 l1 h01
  have C : la_Cx p l (la_rm 13 554 600086) s m #[Value.ref b] meth c (lY s.heap.size s0 s1 b w) 7 cL_law RL 13 554 600086 := ⟨hx, hb, hml, hown, lw_T hts, hlocks, hlK, hwo, lw_sT hflags, rfl⟩
  have hl := lv_entry ([.ref b]) (n := 7) (Nat.le_of_ble_eq_true rfl)
  rw [lg_entry_eq]
  generalize (lg_sl ([.ref b]) ++ List.replicate (7 - (lg_sl ([.ref b])).length) Slot.unset).toArray = ls at hl ⊢
  have hl : lv_has ls 7 [(0, .ref b)] := hl
  refine lq_make (w := w) (l := l) (e := e) (below := below) ⟨hx, hb, hml, hown, lw_T hts, hlocks, hK, (lw_bZ hts).2⟩ (b := b) ?_ s.heap [] ls ⟨rfl, fun i c h => by cases h⟩ va_S.rf hl
  intro H locs ls hR hS hL2
  have hrep := lw_made r0 r1 e0 e1 hS hR
  refine W.inRoom (R2 := la_rm 13 554 600086) (Nat.le_refl _) (Nat.le_refl _) (by show 6 * 600086 ≤ 7301442; omega) (Nat.le_refl _) (W.widen (show 0 + 1 + 558 + 1 + 558 ≤ 4200 by omega) (show 0 + 7 + 12425 + 7 + 12425 ≤ 6 * 4200 by omega) ?_)
  refine lt_16 (A := fun _ => lw_A0) (n := 4200) (lw_sT hflags) hwo C ?_ lw_GB rfl (by omega) H locs ls (fun i hi => ⟨lw_s, hrep i hi, lw_RA⟩) ⟨hS.1, fun q g1 g2 => hS.2.1 q g1 (Nat.not_le.mpr g1), fun q hq => lA.of (i := 0) (by omega) (Or.inr (hS.2.2 q hq))⟩ ⟨hL2.1, hL2.2.1, fun i v hv hn => ?_⟩
  · intro L st X hX H locs ls hR hS hL
    obtain ⟨h1, rfl⟩ := hX
    refine va_forget (fun q hq => lY_A (hS.2.2 q hq)) (W.widen h1 (show 6 * X.2 ≤ 7301442 by omega) ?_)
    exact lw_ret hx hb hr hlocks dL_law_298
  · match i, hv with
    | 0, hv => subst hv; exact hL2.2.2 (0, .ref b) (by simp)
    | 1, hv => subst hv; exact hL2.2.2 (1, .ref (s.heap.size + ([] : List bC).length)) (by simp)
    | 2, hv => subst hv; exact (hL2.2.2 (2, .ref (s.heap.size + (lq_c1 w s.heap.size).length)) (by simp)).trans (congrArg (fun x => some (Slot.val (.ref x))) (show s.heap.size + (lq_c1 w s.heap.size).length = s.heap.size + 559 by rw [lq_len1]))
    | 3, hv => exact absurd hv.symm hn
    | 4, hv => exact absurd hv.symm hn
    | 5, hv => exact absurd hv.symm hn
    | 6, hv => exact absurd hv.symm hn
    | i + 7, hv => exact absurd hv.symm hn
