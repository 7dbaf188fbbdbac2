theorem wz_20 : Cond.classLink RL 10 RX9 ∈ ab_T := ab_in 19 (by decide +kernel) rfl
theorem wz_21 : Cond.instantiable RX9 7 ∈ ab_T := ab_in 20 (by decide +kernel) rfl
theorem wz_1 : Cond.initialized RX9 ∈ ab_T := ab_in 1 (by decide +kernel) rfl
theorem wz_22 : Cond.methodLink RL 230 yX9_init ∈ ab_T := ab_in 21 (by decide +kernel) rfl
theorem wz_23 : Cond.instanceMethod yX9_init ∈ ab_T := ab_in 22 (by decide +kernel) rfl
theorem wz_24 : Cond.code yX9_init cX9_init 1 none ∈ ab_T := ab_in 23 (by decide +kernel) rfl
/-! THE LAW MAKES ITS TWO OBJECTS -/
def lq_R (w : bW) (sz : Nat) (cs : List bC) (H : Heap) : Prop := H.size = sz + cs.length ∧ ∀ i c, cs[i]? = some c → bAt w (sz + i) c H
def lq_A (sz : Nat) : Nat → Prop := fun q => sz ≤ q
def lq_Cx (p : Program) (s : State) (m : MethodId) (args : Array Value) (meth : Method) (c : Code) (w : bW) : Prop := p.tables.exec = Jvm.exec ∧ c.code = cL_law ∧ c.maxLocals = 7 ∧ s.vm.findClass RL = some m.cls ∧ (∀ x ∈ ab_T, x.before args s = true) ∧ meth.locks = false ∧ bKw w s ∧ bZ s
section LQ
variable {p : Program} {l : Launch} {e : Env} {s : State} {m : MethodId} {args : Array Value} {below : List Frame} {meth : Method} {c : Code} {Q : State → Prop} {pc : Nat} {w : bW} {lv : List (Nat × Value)} {st : List Value} {cs : List bC} {k n : Nat}
def lq_M (p : Program) (l : Launch) (e : Env) (s : State) (m : MethodId) (args : Array Value) (below : List Frame) (meth : Method) (c : Code) (w : bW) (Q : State → Prop) (lv : List (Nat × Value)) (st : List Value) (cs : List bC) (k n pc : Nat) : Prop := ∀ (H : Heap) (locs : List Loc) (ls : Array Slot), lq_R w s.heap.size cs H → va_S (lq_A s.heap.size) s.heap H locs → lv_has ls 7 lv → W p l e room_1 s m args below meth c H locs k n Q (F0 m pc ls st)
theorem lq_R.push {H H1 : Heap} {sz : Nat} {x : bC} (hR : lq_R w sz cs H) (z1 : H1.size = sz + cs.length + 1) (o1 : ∀ q, q < sz + cs.length → H1[q]? = H[q]?) (e1 : bAt w (sz + cs.length) x H1) : lq_R w sz (cs ++ [x]) H1 := by
  refine ⟨by rw [List.length_append]; exact z1, fun i y hi => ?_⟩
  by_cases hlt : i < cs.length
  · rw [List.getElem?_append_left hlt] at hi
    exact (hR.2 i y hi).kept (o1 _ (by omega))
  · have hle := (List.getElem?_eq_some_iff.mp hi).1
    rw [List.length_append, List.length_singleton] at hle
    have hie : i = cs.length := by omega
    subst hie
    rw [List.getElem?_append_right (Nat.le_refl _), Nat.sub_self] at hi
    cases hi
    exact e1
theorem lq_S {H H1 : Heap} {sz j : Nat} {H0 : Heap} {locs : List Loc} (hS : va_S (lq_A sz) H0 H locs) (hz : H.size = j) (z1 : H1.size = j + 1) (o1 : ∀ q, q < j → H1[q]? = H[q]?) : va_S (lq_A sz) H0 H1 locs :=
  ⟨Nat.le_trans hS.1 (by omega), fun x h1 h2 => (o1 x (by have := hS.1; omega)).trans (hS.2.1 x h1 h2), hS.2.2⟩
theorem lq_dup (C : lq_Cx p s m args meth c w) {v : Value} (dg : decode cL_law pc = .ok (.dup, 1)) (hv : v.category = 1) (kk : lq_M p l e s m args below meth c w Q lv (v :: v :: st) cs k n (pc + 1)) : lq_M p l e s m args below meth c w Q lv (v :: st) cs k n pc := fun H locs ls hR hS hL =>
  lv_dup C.1 C.2.1 dg hv (kk H locs ls hR hS hL)
theorem lq_ast (C : lq_Cx p s m args meth c w) {kf : Fin 4} {i x : Nat} {lv' : List (Nat × Value)} (dg : decode cL_law pc = .ok (.astore_n kf, 1)) (hi : (kf : Nat) = i) (hn : i < 7) (hl : (i, Value.ref x) :: lv.filter (fun q => !(q.1 == i) && !(q.1 + 1 == i && q.2.category == 2)) = lv') (kk : lq_M p l e s m args below meth c w Q lv' st cs k n (pc + 1)) : lq_M p l e s m args below meth c w Q lv (.ref x :: st) cs k n pc := fun H locs ls hR hS hL =>
  lv_astore_n C.1 C.2.1 dg hi hL hn hl (fun ls' hl' => kk H locs ls' hR hS hl')
theorem lq_new (C : lq_Cx p s m args meth c w) {ci' index : Nat} {r : vw_C} {fs0 : List Value} (hr : vwCl[ci']? = some r) (dg : decode cL_law pc = .ok (.new index, 3)) (ty : Nat → FieldType) (hty : ∀ k, k < r.2.2 → parseFieldDescriptor (r.2.1 k).2.2.1 = some (ty k)) (hcl : Cond.classLink RL index r.1 ∈ ab_T) (hinst : Cond.instantiable r.1 r.2.2 ∈ ab_T) (hini : Cond.initialized r.1 ∈ ab_T) (hfs : ∀ j, j < r.2.2 → defaultValue (ty j) = vp_V fs0 j) (hk : k + 1 ≤ 600086) (hs : n + r.2.2 ≤ 7301442) (kk : lq_M p l e s m args below meth c w Q lv (.ref (s.heap.size + cs.length) :: st) (cs ++ [.inl (ci', fs0)]) (k + 1) (n + r.2.2) (pc + 3)) : lq_M p l e s m args below meth c w Q lv st cs k n pc := by
  intro H locs ls hR hS hL
  have hz := hR.1
  have hts := C.2.2.2.2.1
  have hKn := C.2.2.2.2.2.2.1.1 ci' _ hr
  refine W.newcK C.1 C.2.1 C.2.2.2.1 (hts _ hcl) (hts _ hinst) (hts _ hini) rfl dg hk hs hKn.2.1 hz fun H1 kC hkC e1 z1 o1 => ?_
  exact kk H1 locs ls (hR.push z1 o1 ⟨r, hr, (u_born ty hts (ab_lay _ (List.mem_of_getElem? hr)) hKn hkC e1 hty).to hfs⟩) (lq_S hS hz z1 o1) hL
theorem lq_call (C : lq_Cx p s m args meth c w) {ci' k' n' d' idx maxL : Nat} {y : MethodName} {bytes : ByteArray} {fs0 : List Value} {f1 : bW → Nat → List Value} {c1 : bW → Nat → List bC} {cs0 : List bC} (hC : bCon l y (Cond.code y bytes maxL none) d' k' n' ci' fs0 f1 c1) (hB : bCB 13 d' y bytes maxL) (hlink : Cond.methodLink RL idx y ∈ ab_T) (dg : decode cL_law pc = .ok (.invokespecial idx, 3)) (hsh : (st.map fun v => v.category).sum ≤ 8) (hk : k + k' ≤ 600086) (hs : n + n' ≤ 7301442)
    (kk : lq_M p l e s m args below meth c w Q lv st ((cs0 ++ [.inl (ci', f1 w (s.heap.size + cs0.length + 1))]) ++ c1 w (s.heap.size + cs0.length + 1)) (k + k') (n + n') (pc + 3)) : lq_M p l e s m args below meth c w Q lv (.ref (s.heap.size + cs0.length) :: st) (cs0 ++ [.inl (ci', fs0)]) k n pc := by
  intro H locs ls hR hS hL
  obtain ⟨g1, g2, g3, g4, g5, g6, g7⟩ := hB
  have hz := hR.1
  rw [List.length_append, List.length_singleton] at hz
  have hpay : ∀ x ∈ (Cond.code y bytes maxL none :: ab_T), ∀ (a' : Array Value) (U : State), s.WarmedH U.vm → x.before a' U = true := by
    intro x hx a' U hW
    have hm : x ∈ ab_T := (List.mem_cons.mp hx).elim (fun e => e ▸ g3) id
    exact word_at hW (ab_good hm) (C.2.2.2.2.1 x hm)
  have hat : ∀ U : State, U.heap = H → s.WarmedH U.vm → va_Pc [.ref (s.heap.size + cs0.length)] (bPre w (s.heap.size + cs0.length) (s.heap.size + cs0.length + 1) ci' fs0) #[Value.ref (s.heap.size + cs0.length)] U := by
    intro U hU hW
    refine ⟨rfl, by rw [hU]; omega, by omega, ?_, va_K.moved hW.alike C.2.2.2.2.2.2.1, bZ.warm hW C.2.2.2.2.2.2.2⟩
    rw [hU]
    exact hR.2 _ _ (by rw [List.getElem?_append_right (Nat.le_refl _), Nat.sub_self]; rfl)
  have hA : ∀ q, bA (s.heap.size + cs0.length) (s.heap.size + cs0.length + 1) q → lq_A s.heap.size q := fun q h => by
    show s.heap.size ≤ q
    rcases h with h | h <;> omega
  refine va_callv (va_runI (As := []) ⟨C.1, C.2.1, C.2.2.1, C.2.2.2.1, C.2.2.2.2.1⟩ (hC w _ _) ⟨⟨rfl, rfl, ?_, ?_, hpay, List.mem_cons_self, C.2.2.2.2.1 _ g3, C.2.2.2.2.1 _ g4, ⟨g5.1, g5.2.1⟩, fun sig h => ?_, C.2.2.2.2.1 _ hlink⟩, g6, C.2.2.2.2.1 _ g7⟩ ⟨bPre_blind _ _ _ _ _, hat⟩ rfl rfl hL.1 rfl (lv_room hsh) dg ⟨hk, hs⟩) hS (fun q _ h => hA q h) hA (fun u t H1 locs1 ht hvm hw hB hz1 hk1 hS1 => ?_)
  · show d' + 1 ≤ 13
    omega
  · show 8 + (maxL + 11) + 30 * d' ≤ 554
    omega
  · have h7 := g5.2.2
    rw [h] at h7
    exact (Option.some.inj h7).symm
  rw [ht] at hB
  obtain ⟨b1, b2, b3⟩ := hB
  have old : ∀ q, q < s.heap.size + cs0.length → H1[q]? = H[q]? := fun q hq => hk1 q (by omega) (fun h => by rcases h with h | h <;> omega)
  refine kk H1 locs1 ls ⟨by rw [List.length_append, List.length_append, List.length_singleton]; omega, fun i x hi => ?_⟩ hS1 hL
  by_cases h1 : i < cs0.length
  · rw [List.getElem?_append_left (by rw [List.length_append]; omega), List.getElem?_append_left h1] at hi
    exact (hR.2 i x (by rw [List.getElem?_append_left h1]; exact hi)).kept (old _ (by omega))
  · by_cases h2 : i = cs0.length
    · subst h2
      rw [List.getElem?_append_left (by rw [List.length_append, List.length_singleton]; omega), List.getElem?_append_right (Nat.le_refl _), Nat.sub_self] at hi
      cases hi
      exact b1
    · rw [List.getElem?_append_right (by rw [List.length_append, List.length_singleton]; omega), List.length_append, List.length_singleton] at hi
      have := b3 _ x hi
      rw [show s.heap.size + cs0.length + 1 + (i - (cs0.length + 1)) = s.heap.size + i by omega] at this
      exact this
/-- all that is made ahead of the loop -/
abbrev lq_c1 (w : bW) (z : Nat) : List bC := (([] : List bC) ++ [.inl (9, f1X9 w (z + ([] : List bC).length + 1))]) ++ c1X9_7 w (z + ([] : List bC).length + 1)
abbrev lq_c2 (w : bW) (z : Nat) : List bC := (lq_c1 w z ++ [.inl (9, f1X9 w (z + (lq_c1 w z).length + 1))]) ++ c1X9_7 w (z + (lq_c1 w z).length + 1)
theorem lq_len1 (w : bW) (z : Nat) : (lq_c1 w z).length = 559 := by
  unfold lq_c1; rw [List.length_append, List.length_append, len_X9_7]; rfl
set_option maxRecDepth 20000 in
theorem lq_make (C : lq_Cx p s m args meth c w) {b : Nat} (kk : lq_M p l e s m args below meth c w Q [(2, .ref (s.heap.size + (lq_c1 w s.heap.size).length)), (1, .ref (s.heap.size + ([] : List bC).length)), (0, .ref b)] [] (lq_c2 w s.heap.size) (0 + 1 + 558 + 1 + 558) (0 + 7 + 12425 + 7 + 12425) 16) : lq_M p l e s m args below meth c w Q [(0, .ref b)] [] [] 0 0 0 := by
  refine lq_new C (ci' := 9) (r := (RX9, TX9, 7)) (fs0 := f0X9) rfl dL_law_0 tyX9 tyX9_ok wz_20 wz_21 wz_1 f0X9_ok (by omega) (by show 0 + 7 ≤ 7301442; omega) ?_
  refine lq_dup C dL_law_3 rfl ?_
  refine lq_call C (cs0 := []) mk_X9 ⟨by omega, by omega, wz_24, wz_1, by decide +kernel, rfl, wz_23⟩ wz_22 dL_law_4 (by show 1 ≤ 8; omega) (by omega) (by show 0 + 7 + 12425 ≤ 7301442; omega) ?_
  refine lq_ast C dL_law_7 rfl (by omega) rfl ?_
  refine lq_new C (ci' := 9) (r := (RX9, TX9, 7)) (fs0 := f0X9) rfl dL_law_8 tyX9 tyX9_ok wz_20 wz_21 wz_1 f0X9_ok (by omega) (by show 0 + 7 + 12425 + 7 ≤ 7301442; omega) ?_
  refine lq_dup C dL_law_11 rfl ?_
  refine lq_call C (cs0 := lq_c1 w s.heap.size) mk_X9 ⟨by omega, by omega, wz_24, wz_1, by decide +kernel, rfl, wz_23⟩ wz_22 dL_law_12 (by show 1 ≤ 8; omega) (by omega) (by show 0 + 7 + 12425 + 7 + 12425 ≤ 7301442; omega) ?_
  exact lq_ast C dL_law_15 rfl (by omega) rfl kk
end LQ
