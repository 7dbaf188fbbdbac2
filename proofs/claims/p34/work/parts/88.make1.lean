/-! MAKING THE OBJECTS: cells are made one behind another, so their addresses are known -/
abbrev bC : Type := (Nat × List Value) ⊕ (ClassId × Nat × (Nat → Value))
abbrev bW : Type := va_G × (Nat → ClassId)
def bAt (w : bW) (a : Nat) (c : bC) (H : Heap) : Prop := match c with
  | .inl o => ∃ r : vw_C, vwCl[o.1]? = some r ∧ t_OB a (w.1.1 o.1) r.2.2 (w.1.2 o.1) H (vp_V o.2)
  | .inr q => H[a]? = some (arrV q.1 q.2.1 q.2.2)
theorem bAt.kept {w : bW} {a : Nat} {c : bC} {H H1 : Heap} (h : bAt w a c H) (hq : H1[a]? = H[a]?) : bAt w a c H1 := by
  cases c with
  | inl o => obtain ⟨r, h1, h2⟩ := h; exact ⟨r, h1, h2.kept hq⟩
  | inr q => exact hq.trans h
theorem bAt.lt {w : bW} {a : Nat} {c : bC} {H : Heap} (h : bAt w a c H) : a < H.size := by
  cases c with
  | inl o => obtain ⟨r, h1, cell, h2, -⟩ := h; exact (Array.getElem?_eq_some_iff.mp h2).1
  | inr q => exact (Array.getElem?_eq_some_iff.mp h).1
def bTys (w : bW) : List (ClassId × FieldType) := [(w.2 11, .int), (w.2 12, .char), (w.2 13, .int), (w.2 14, .object "SondeStations$Net"), (w.2 15, .int)]
def bKw (w : bW) (U : State) : Prop := va_K w.1 vwCl (bTys w) U
def bZ (U : State) : Prop := (∀ x ∈ ab_N, va_Nw x U) ∧ va_AO "SondeStations$Net" U
theorem bZ.warm {s U : State} (hW : s.WarmedH U.vm) (h : bZ s) : bZ U := ⟨fun x hx => ab_Nw (List.mem_filter.mp hx).2 hW (h.1 x hx), h.2.moved hW.alike⟩
theorem bZ.same {s U : State} (hvm : s.vm = U.vm) (h : bZ s) : bZ U := ⟨fun x hx => (h.1 x hx).same (ab_NwOn (List.mem_filter.mp hx).2) hvm, h.2.moved (by rw [← hvm]; exact Vm.Alike.refl _)⟩
def bR (w : bW) (h0 sz ci : Nat) (fs : List Value) (cs : List bC) (H : Heap) : Prop := bAt w h0 (.inl (ci, fs)) H ∧ H.size = sz + cs.length ∧ ∀ i c, cs[i]? = some c → bAt w (sz + i) c H
def bA (h0 sz : Nat) : Nat → Prop := fun q => q = h0 ∨ sz ≤ q
def bPre (w : bW) (h0 sz ci : Nat) (fs : List Value) (U : State) : Prop := U.heap.size = sz ∧ h0 < sz ∧ bAt w h0 (.inl (ci, fs)) U.heap ∧ bKw w U ∧ bZ U
abbrev bPost (w : bW) (h0 sz ci : Nat) (fs : List Value) (cs : List bC) : Array Value → State → Outcome → State → Prop := va_Qv (fun _ : Nat => True) (fun _ t => bR w h0 sz ci fs cs t.heap) (bA h0 sz)
def bRm (d k n : Nat) : Room := { frames := d, cells := k, slots := n, locals := 30 * d }
def bCon (l : Launch) (y : MethodName) (cy : Cond) (d k n ci : Nat) (fs0 : List Value) (fs1 : bW → Nat → List Value) (cs : bW → Nat → List bC) : Prop := ∀ (w : bW) (h0 sz : Nat), Met l y (cy :: ab_T) (bRm d k n) (va_Pc [.ref h0] (bPre w h0 sz ci fs0)) (bPost w h0 sz ci (fs1 w sz) (cs w sz)) k n (bA h0 sz)
theorem bPre_blind (w : bW) (h0 sz ci : Nat) (fs : List Value) : FrameBlind (va_Pc [.ref h0] (bPre w h0 sz ci fs)) := fun a U g mk q =>
  ⟨q.1, q.2.1, q.2.2.1, q.2.2.2.1, va_K.moved (u := U) (U := U.calling g mk a) (Vm.Alike.refl U.vm) q.2.2.2.2.1, bZ.same (s := U) (U := U.calling g mk a) rfl q.2.2.2.2.2⟩
section BLD
variable {p : Program} {l : Launch} {e : Env} {R : Room} {s : State} {m : MethodId} {args : Array Value} {below : List Frame} {meth : Method} {c : Code} {nL : Nat} {cc : ByteArray} {own : String} {Q : State → Prop} {pc : Nat} {w : bW} {h0 ci : Nat} {lv : List (Nat × Value)} {st : List Value} {fs : List Value} {cs : List bC} {k n d mc ms : Nat}
def bCx (p : Program) (R : Room) (s : State) (m : MethodId) (args : Array Value) (meth : Method) (c : Code) (w : bW) (nL : Nat) (cc : ByteArray) (own : String) (h0 d mc ms : Nat) : Prop := p.tables.exec = Jvm.exec ∧ c.code = cc ∧ c.maxLocals = nL ∧ s.vm.findClass own = some m.cls ∧ (∀ x ∈ ab_T, x.before args s = true) ∧ meth.locks = false ∧ bKw w s ∧ bZ s ∧ h0 < s.heap.size ∧ meth.name = "<init>" ∧ R = bRm d mc ms ∧ 1 ≤ d
def bM (p : Program) (l : Launch) (e : Env) (R : Room) (s : State) (m : MethodId) (args : Array Value) (below : List Frame) (meth : Method) (c : Code) (w : bW) (nL : Nat) (Q : State → Prop) (h0 ci : Nat) (lv : List (Nat × Value)) (st fs : List Value) (cs : List bC) (k n pc : Nat) : Prop := ∀ (H : Heap) (locs : List Loc) (ls : Array Slot), bR w h0 s.heap.size ci fs cs H → va_S (bA h0 s.heap.size) s.heap H locs → lv_has ls nL lv → W p l e R s m args below meth c H locs k n Q (F0 m pc ls st)
theorem bs_ald (C : bCx p R s m args meth c w nL cc own h0 d mc ms) (q : Nat) {kf : Fin 4} {i x : Nat} (dg : decode cc pc = .ok (.aload_n kf, 1)) (hi : (kf : Nat) = i) (hl : lv[q]? = some (i, .ref x)) (kk : bM p l e R s m args below meth c w nL Q h0 ci lv (.ref x :: st) fs cs k n (pc + 1)) : bM p l e R s m args below meth c w nL Q h0 ci lv st fs cs k n pc :=
  fun H locs ls hR hS hL => lv_aload_n C.1 C.2.1 dg hi (lv_at hL q hl) (kk H locs ls hR hS hL)
theorem bs_iconst (C : bCx p R s m args meth c w nL cc own h0 d mc ms) {v : Int} {x : Int32} (dg : decode cc pc = .ok (.iconst v, 1)) (hv : Int32.ofInt v = x) (kk : bM p l e R s m args below meth c w nL Q h0 ci lv (.int x :: st) fs cs k n (pc + 1)) : bM p l e R s m args below meth c w nL Q h0 ci lv st fs cs k n pc :=
  fun H locs ls hR hS hL => lv_iconst C.1 C.2.1 dg hv (kk H locs ls hR hS hL)
theorem bs_bipush (C : bCx p R s m args meth c w nL cc own h0 d mc ms) {v : Int} {x : Int32} (dg : decode cc pc = .ok (.bipush v, 2)) (hv : (Int8.ofInt v).toInt32 = x) (kk : bM p l e R s m args below meth c w nL Q h0 ci lv (.int x :: st) fs cs k n (pc + 2)) : bM p l e R s m args below meth c w nL Q h0 ci lv st fs cs k n pc :=
  fun H locs ls hR hS hL => lv_bipush C.1 C.2.1 dg hv (kk H locs ls hR hS hL)
theorem bs_sipush (C : bCx p R s m args meth c w nL cc own h0 d mc ms) {v : Int} {x : Int32} (dg : decode cc pc = .ok (.sipush v, 3)) (hv : (Int16.ofInt v).toInt32 = x) (kk : bM p l e R s m args below meth c w nL Q h0 ci lv (.int x :: st) fs cs k n (pc + 3)) : bM p l e R s m args below meth c w nL Q h0 ci lv st fs cs k n pc :=
  fun H locs ls hR hS hL => lv_sipush C.1 C.2.1 dg hv (kk H locs ls hR hS hL)
theorem bs_dup (C : bCx p R s m args meth c w nL cc own h0 d mc ms) {v : Value} (dg : decode cc pc = .ok (.dup, 1)) (hv : v.category = 1) (kk : bM p l e R s m args below meth c w nL Q h0 ci lv (v :: v :: st) fs cs k n (pc + 1)) : bM p l e R s m args below meth c w nL Q h0 ci lv (v :: st) fs cs k n pc :=
  fun H locs ls hR hS hL => lv_dup C.1 C.2.1 dg hv (kk H locs ls hR hS hL)
theorem bR.push {H H1 : Heap} {sz : Nat} {x : bC} (hR : bR w h0 sz ci fs cs H) (z1 : H1.size = sz + cs.length + 1) (o1 : ∀ q, q < sz + cs.length → H1[q]? = H[q]?) (e1 : bAt w (sz + cs.length) x H1) : bR w h0 sz ci fs (cs ++ [x]) H1 := by
  have hz := hR.2.1
  have hl := hR.1.lt
  refine ⟨hR.1.kept (o1 h0 (by omega)), by rw [List.length_append]; exact z1, fun i y hi => ?_⟩
  by_cases hlt : i < cs.length
  · rw [List.getElem?_append_left hlt] at hi
    exact (hR.2.2 i y hi).kept (o1 _ (by omega))
  · have hle := (List.getElem?_eq_some_iff.mp hi).1
    rw [List.length_append, List.length_singleton] at hle
    have hie : i = cs.length := by omega
    subst hie
    rw [List.getElem?_append_right (Nat.le_refl _), Nat.sub_self] at hi
    cases hi
    exact e1
theorem bS_push {H H1 : Heap} {sz j : Nat} {H0 : Heap} {locs : List Loc} (hS : va_S (bA h0 sz) H0 H locs) (hz : H.size = j) (z1 : H1.size = j + 1) (o1 : ∀ q, q < j → H1[q]? = H[q]?) : va_S (bA h0 sz) H0 H1 locs :=
  ⟨Nat.le_trans hS.1 (by omega), fun x h1 h2 => (o1 x (by have := hS.1; omega)).trans (hS.2.1 x h1 h2), hS.2.2⟩
theorem bs_newa (C : bCx p R s m args meth c w nL cc own h0 d mc ms) {atype : ArrayType} {ty : FieldType} {cA : ClassId} (j : Nat) {x : Int32} {N : Nat} (dg : decode cc pc = .ok (.newarray atype, 2)) (hty : newarray.typeOf atype = ty) (hno : ∀ q, ty ≠ .object q) (hj : (bTys w)[j]? = some (cA, ty)) (harr : Cond.arrayClass ty ∈ ab_T) (hn : ¬ x < 0) (hN : x.toNatClampNeg = N) (hby : N * componentBytes ty ≤ 536870912) (hk : k + 1 ≤ mc) (hs : n + N ≤ ms) {v0 : Value} (hv : defaultValue ty = v0) (kk : bM p l e R s m args below meth c w nL Q h0 ci lv (.ref (s.heap.size + cs.length) :: st) fs (cs ++ [.inr (cA, N, fun _ => v0)]) (k + 1) (n + N) (pc + 2)) : bM p l e R s m args below meth c w nL Q h0 ci lv (.int x :: st) fs cs k n pc := by
  intro H locs ls hR hS hL
  subst hty
  have hRR := C.2.2.2.2.2.2.2.2.2.2.1
  subst hRR
  have hz := hR.2.1
  refine va_newaK C.1 C.2.1 (C.2.2.2.2.1 _ harr) rfl dg rfl hn hN hby hk hs hz fun H1 cA' e1 z1 o1 hAr hNm => ?_
  have hRA := (C.2.2.2.2.2.2.1.2 j _ hj).2
  have hcA : cA' = cA := by
    have hRA' : s.vm.findClass ("[" ++ (newarray.typeOf atype).toString) = some cA := by
      revert hRA hno
      generalize newarray.typeOf atype = t
      intro hno hRA
      cases t <;> first | exact hRA | exact absurd rfl (hno _)
    exact Option.some.inj (hNm.symm.trans hRA')
  subst hcA
  rw [hv] at e1
  exact kk H1 locs ls (hR.push z1 o1 e1) (bS_push hS hz z1 o1) hL
theorem bs_new (C : bCx p R s m args meth c w nL cc own h0 d mc ms) {ci' index : Nat} {r : vw_C} {fs0 : List Value} (hr : vwCl[ci']? = some r) (dg : decode cc pc = .ok (.new index, 3)) (ty : Nat → FieldType) (hty : ∀ k, k < r.2.2 → parseFieldDescriptor (r.2.1 k).2.2.1 = some (ty k)) (hcl : Cond.classLink own index r.1 ∈ ab_T) (hinst : Cond.instantiable r.1 r.2.2 ∈ ab_T) (hini : Cond.initialized r.1 ∈ ab_T) (hfs : ∀ j, j < r.2.2 → defaultValue (ty j) = vp_V fs0 j) (hk : k + 1 ≤ mc) (hs : n + r.2.2 ≤ ms) (kk : bM p l e R s m args below meth c w nL Q h0 ci lv (.ref (s.heap.size + cs.length) :: st) fs (cs ++ [.inl (ci', fs0)]) (k + 1) (n + r.2.2) (pc + 3)) : bM p l e R s m args below meth c w nL Q h0 ci lv st fs cs k n pc := by
  intro H locs ls hR hS hL
  have hRR := C.2.2.2.2.2.2.2.2.2.2.1
  subst hRR
  have hz := hR.2.1
  have hts := C.2.2.2.2.1
  have hKn := C.2.2.2.2.2.2.1.1 ci' _ hr
  refine W.newcK C.1 C.2.1 C.2.2.2.1 (hts _ hcl) (hts _ hinst) (hts _ hini) rfl dg hk hs hKn.2.1 hz fun H1 kC hkC e1 z1 o1 => ?_
  exact kk H1 locs ls (hR.push z1 o1 ⟨r, hr, (u_born ty hts (ab_lay _ (List.mem_of_getElem? hr)) hKn hkC e1 hty).to hfs⟩) (bS_push hS hz z1 o1) hL
theorem bs_putF (C : bCx p R s m args meth c w nL cc own h0 d mc ms) {f index : Nat} {r : vw_C} {v : Value} {ty : FieldType} (hr : vwCl[ci]? = some r) (dg : decode cc pc = .ok (.putfield index, 3)) (hf : f < r.2.2) (hfin : (r.2.1 f).2.2.2 = true) (hdecl : (r.2.1 f).1 = own) (hlink : Cond.fieldLink own index (r.2.1 f).1 (r.2.1 f).2.1 (r.2.1 f).2.2.1 ∈ ab_T) (hd : parseFieldDescriptor (r.2.1 f).2.2.1 = some ty) (hn : narrow ty v = v) (hfit : fits ty v = true) (hl : f < fs.length) (kk : bM p l e R s m args below meth c w nL Q h0 ci lv st (fs.set f v) cs k n (pc + 3)) : bM p l e R s m args below meth c w nL Q h0 ci lv (v :: .ref h0 :: st) fs cs k n pc := by
  intro H locs ls hR hS hL
  have hts := C.2.2.2.2.1
  have hmem := List.mem_of_getElem? hr
  have hap := va_apart (own := own) (args := args) hts (ab_lay _ hmem) (ab_tyc r) (ab_tyok _ hmem) (ab_nmok _ hmem) C.2.2.2.2.2.2.1 hr
  obtain ⟨r', h1, cell, q1, q2, q3, q4⟩ := hR.1
  obtain rfl : r' = r := Option.some.inj (h1.symm.trans hr)
  obtain ⟨hSl, hfc, kC, hkC, hkind⟩ := C.2.2.2.2.2.2.1.1 ci _ hr
  obtain ⟨cf, kf, fi, fd, hi, hsl⟩ := hSl f hf
  have hlay := hts _ (ab_lay _ hmem _ (u_in_lay hf))
  unfold u_lay at hlay
  rw [if_pos hfin] at hlay
  have hst := (u_facts hfc hkC (u_lays hts (ab_lay _ hmem) hf) hi).1
  have hcf : m.cls = cf := by
    obtain ⟨_, _, c', _, _, _, -, -, hf', -, -, -, hown2, -⟩ := Cond.laysFinal_spec hlay
    have e1 : c' = cf := by have := hi.symm.trans hf'; simp at this; exact this.1.symm
    rw [hdecl] at hown2
    rw [← e1]; exact Option.some.inj (C.2.2.2.1.symm.trans hown2)
  have h6 := u_fits hfc hkC hkind (Or.inr hlay) hi hd hn hfit
  refine W.putFinK C.1 C.2.1 C.2.2.2.1 (hts _ hlink) hi hst hcf C.2.2.2.2.2.2.2.2.2.1 (by rw [q2]; exact h6) q1 q3 (by rw [hsl]; exact k2_hasslot (q4 f hf)) rfl rfl dg fun H' e1 e2 e3 => ?_
  rw [hsl] at e1 ⊢
  have hh0 := C.2.2.2.2.2.2.2.2.1
  refine kk H' _ ls ⟨⟨r', hr, t_OB.to (V := updV (vp_V fs) f v) ⟨_, e1, q2, q3, t_set q4 hap hf v⟩ (fun j _ => vp_updV_set hl v j)⟩, e2.trans hR.2.1, fun i x hx => (hR.2.2 i x hx).kept (e3 _ (Nat.ne_of_gt (Nat.lt_of_lt_of_le hh0 (Nat.le_add_right _ _))))⟩ (hS.put e2 e3 (Or.inl rfl)) hL
theorem bs_ret (C : bCx p R s m args meth c w nL cc own h0 d mc ms) (hr : meth.sig.returnType = none) (dg : decode cc pc = .ok (.return_, 1)) : bM p l e R s m args below meth c w nL (MQ below (bPost w h0 s.heap.size ci fs cs) args s k n (bA h0 s.heap.size)) h0 ci lv [] fs cs k n pc := by
  intro H locs ls hR hS hL
  have hlocks := C.2.2.2.2.2.1
  exact W.vret C.1 C.2.1 hr (fun t ht hW => ⟨⟨0, rfl, trivial, by show bR _ _ _ _ _ _ t.heap; rw [ht]; exact hR⟩, hS.F ht⟩) hS.2.2 dg
theorem bs_init (C : bCx p R s m args meth c w nL cc own h0 d mc ms) {idx a : Nat} (dg : decode cc pc = .ok (.invokespecial idx, 3)) (hlink : Cond.methodLink own idx objectInit ∈ ab_T) (hinst : Cond.instanceMethod objectInit ∈ ab_T) (hcode : Cond.code objectInit ⟨#[0xb1]⟩ 1 none ∈ ab_T) (kk : bM p l e R s m args below meth c w nL Q h0 ci lv [] fs cs k n (pc + 3)) : bM p l e R s m args below meth c w nL Q h0 ci lv [.ref a] fs cs k n pc := by
  intro H locs ls hR hS hL
  have hRR := C.2.2.2.2.2.2.2.2.2.2.1
  have hd := C.2.2.2.2.2.2.2.2.2.2.2
  subst hRR
  have hts := C.2.2.2.2.1
  refine W.objInit C.1 C.2.1 C.2.2.2.1 (hts _ hlink) (hts _ hinst) (hts _ hcode) rfl (by rw [C.2.2.1]; exact hL.1) rfl dg hd ?_ ?_
  · show 2 * (F0 m pc ls [.ref a]).monitorRoom + _ + 12 ≤ 30 * d
    have : 2 * (F0 m pc ls [Value.ref a]).monitorRoom + (([] : List Value).map fun v => v.category).sum = 0 := rfl
    omega
  · exact W.eq (g2 := F0 m (pc + 3) ls []) rfl (kk H locs ls hR hS hL)
theorem bs_call0 (C : bCx p R s m args meth c w nL cc own h0 d mc ms) {ci' k' n' : Nat} {fs0 f1 : List Value} {cs0 c1 : List bC} {H : Heap} {locs : List Loc} {ls : Array Slot} {av : Array Value} (hR : bR w h0 s.heap.size ci fs (cs0 ++ [.inl (ci', fs0)]) H) (hS : va_S (bA h0 s.heap.size) s.heap H locs) (hL : lv_has ls nL lv)
    (hr : va_Run p l e R s m args below meth c H locs k n k' n' (F0 m pc ls (.ref (s.heap.size + cs0.length) :: st)) st (bPost w (s.heap.size + cs0.length) (s.heap.size + cs0.length + 1) ci' f1 c1 av) (bA (s.heap.size + cs0.length) (s.heap.size + cs0.length + 1)))
    (kk : bM p l e R s m args below meth c w nL Q h0 ci lv st fs ((cs0 ++ [.inl (ci', f1)]) ++ c1) (k + k') (n + n') (pc + 3)) : W p l e R s m args below meth c H locs k n Q (F0 m pc ls (.ref (s.heap.size + cs0.length) :: st)) := by
  have hz := hR.2.1
  rw [List.length_append, List.length_singleton] at hz
  have hh0 := C.2.2.2.2.2.2.2.2.1
  have hA : ∀ q, bA (s.heap.size + cs0.length) (s.heap.size + cs0.length + 1) q → bA h0 s.heap.size q := fun q h => Or.inr (by rcases h with h | h <;> omega)
  refine va_callv hr hS (fun q _ h => hA q h) hA (fun u t H1 locs1 ht hvm hw hB hz1 hk1 hS1 => ?_)
  rw [ht] at hB
  obtain ⟨b1, b2, b3⟩ := hB
  have old : ∀ q, q < s.heap.size + cs0.length → H1[q]? = H[q]? := fun q hq => hk1 q (by omega) (fun h => by rcases h with h | h <;> omega)
  refine kk H1 locs1 ls ⟨hR.1.kept (old h0 (by omega)), by rw [List.length_append, List.length_append, List.length_singleton]; omega, fun i x hi => ?_⟩ hS1 hL
  by_cases h1 : i < cs0.length
  · rw [List.getElem?_append_left (by rw [List.length_append]; omega), List.getElem?_append_left h1] at hi
    exact (hR.2.2 i x (by rw [List.getElem?_append_left h1]; exact hi)).kept (old _ (by omega))
  · by_cases h2 : i = cs0.length
    · subst h2
      rw [List.getElem?_append_left (by rw [List.length_append, List.length_singleton]; omega), List.getElem?_append_right (Nat.le_refl _), Nat.sub_self] at hi
      cases hi
      exact b1
    · rw [List.getElem?_append_right (by rw [List.length_append, List.length_singleton]; omega), List.length_append, List.length_singleton] at hi
      have := b3 _ x hi
      rw [show s.heap.size + cs0.length + 1 + (i - (cs0.length + 1)) = s.heap.size + i by omega] at this
      exact this
theorem bPre_at (C : bCx p R s m args meth c w nL cc own h0 d mc ms) {ci' : Nat} {fs0 : List Value} {cs0 : List bC} {H : Heap} (hR : bR w h0 s.heap.size ci fs (cs0 ++ [.inl (ci', fs0)]) H) : ∀ U : State, U.heap = H → s.WarmedH U.vm → va_Pc [.ref (s.heap.size + cs0.length)] (bPre w (s.heap.size + cs0.length) (s.heap.size + cs0.length + 1) ci' fs0) #[Value.ref (s.heap.size + cs0.length)] U := by
  intro U hU hW
  have hz := hR.2.1
  rw [List.length_append, List.length_singleton] at hz
  refine ⟨rfl, by rw [hU]; omega, by omega, ?_, va_K.moved hW.alike C.2.2.2.2.2.2.1, bZ.warm hW C.2.2.2.2.2.2.2.1⟩
  rw [hU]
  exact hR.2.2 _ _ (by rw [List.getElem?_append_right (Nat.le_refl _), Nat.sub_self]; rfl)
theorem bPay (C : bCx p R s m args meth c w nL cc own h0 d mc ms) {cy : Cond} (h : cy ∈ ab_T) : ∀ x ∈ (cy :: ab_T), ∀ (a' : Array Value) (U : State), s.WarmedH U.vm → x.before a' U = true := by
  intro x hx a' U hW
  have hm : x ∈ ab_T := (List.mem_cons.mp hx).elim (fun e => e ▸ h) id
  exact word_at hW (ab_good hm) (C.2.2.2.2.1 x hm)
abbrev bCB (d d' : Nat) (y : MethodName) (bytes : ByteArray) (maxL : Nat) : Prop :=
  d' + 1 ≤ d ∧ maxL ≤ 11 ∧ Cond.code y bytes maxL none ∈ ab_T ∧ Cond.initialized y.cls ∈ ab_T ∧ (y.cls ≠ "java/lang/invoke/MethodHandle" ∧ y.cls ≠ "java/lang/invoke/VarHandle" ∧ (parseMethodDescriptor y.desc).map (fun d => d.parameters.length) = some 0) ∧ y.name = "<init>" ∧ Cond.instanceMethod y ∈ ab_T
theorem bs_call (C : bCx p R s m args meth c w nL cc own h0 d mc ms) {ci' k' n' d' idx maxL : Nat} {y : MethodName} {bytes : ByteArray} {fs0 : List Value} {f1 : bW → Nat → List Value} {c1 : bW → Nat → List bC} {cs0 : List bC} (hC : bCon l y (Cond.code y bytes maxL none) d' k' n' ci' fs0 f1 c1) (hB : bCB d d' y bytes maxL) (hlink : Cond.methodLink own idx y ∈ ab_T) (dg : decode cc pc = .ok (.invokespecial idx, 3)) (hsh : (st.map fun v => v.category).sum ≤ 8) (hk : k + k' ≤ mc) (hs : n + n' ≤ ms)
    (kk : bM p l e R s m args below meth c w nL Q h0 ci lv st fs ((cs0 ++ [.inl (ci', f1 w (s.heap.size + cs0.length + 1))]) ++ c1 w (s.heap.size + cs0.length + 1)) (k + k') (n + n') (pc + 3)) : bM p l e R s m args below meth c w nL Q h0 ci lv (.ref (s.heap.size + cs0.length) :: st) fs (cs0 ++ [.inl (ci', fs0)]) k n pc := by
  intro H locs ls hR hS hL
  have hRR := C.2.2.2.2.2.2.2.2.2.2.1
  subst hRR
  obtain ⟨g1, g2, g3, g4, g5, g6, g7⟩ := hB
  refine bs_call0 C hR hS hL (va_runI (As := []) ⟨C.1, C.2.1, C.2.2.1, C.2.2.2.1, C.2.2.2.2.1⟩ (hC w _ _) ⟨⟨rfl, rfl, g1, ?_, bPay C g3, List.mem_cons_self, C.2.2.2.2.1 _ g3, C.2.2.2.2.1 _ g4, ⟨g5.1, g5.2.1⟩, fun sig h => ?_, C.2.2.2.2.1 _ hlink⟩, g6, C.2.2.2.2.1 _ g7⟩ ⟨bPre_blind _ _ _ _ _, bPre_at C hR⟩ rfl rfl hL.1 rfl (lv_room hsh) dg ⟨hk, hs⟩) kk
  · show 8 + (maxL + 11) + 30 * d' ≤ 30 * d
    omega
  · have h7 := g5.2.2
    rw [h] at h7
    exact (Option.some.inj h7).symm
theorem bs_callN (C : bCx p R s m args meth c w nL cc own h0 d mc ms) {ci' k' n' d' idx maxL : Nat} {y : MethodName} {bytes : ByteArray} {host : String} {fs0 : List Value} {f1 : bW → Nat → List Value} {c1 : bW → Nat → List bC} {cs0 : List bC} (hC : bCon l y (Cond.code y bytes maxL none) d' k' n' ci' fs0 f1 c1) (hB : bCB d d' y bytes maxL) (hlink : Cond.methodLinkNest own idx y host ∈ ab_N) (dg : decode cc pc = .ok (.invokespecial idx, 3)) (hsh : (st.map fun v => v.category).sum ≤ 8) (hk : k + k' ≤ mc) (hs : n + n' ≤ ms)
    (kk : bM p l e R s m args below meth c w nL Q h0 ci lv st fs ((cs0 ++ [.inl (ci', f1 w (s.heap.size + cs0.length + 1))]) ++ c1 w (s.heap.size + cs0.length + 1)) (k + k') (n + n') (pc + 3)) : bM p l e R s m args below meth c w nL Q h0 ci lv (.ref (s.heap.size + cs0.length) :: st) fs (cs0 ++ [.inl (ci', fs0)]) k n pc := by
  intro H locs ls hR hS hL
  have hRR := C.2.2.2.2.2.2.2.2.2.2.1
  subst hRR
  obtain ⟨g1, g2, g3, g4, g5, g6, g7⟩ := hB
  refine bs_call0 C hR hS hL (va_runIN (As := []) ⟨C.1, C.2.1, C.2.2.1, C.2.2.2.1, C.2.2.2.2.1⟩ (hC w _ _) ⟨⟨⟨rfl, rfl, g1, ?_, bPay C g3, List.mem_cons_self⟩, C.2.2.2.2.1 _ g3, C.2.2.2.2.1 _ g4, ⟨g5.1, g5.2.1⟩, fun sig h => ?_, (C.2.2.2.2.2.2.2.1.1 _ hlink).use rfl⟩, g6, C.2.2.2.2.1 _ g7⟩ ⟨bPre_blind _ _ _ _ _, bPre_at C hR⟩ rfl rfl hL.1 rfl (lv_room hsh) dg ⟨hk, hs⟩) kk
  · show 8 + (maxL + 11) + 30 * d' ≤ 30 * d
    omega
  · have h7 := g5.2.2
    rw [h] at h7
    exact (Option.some.inj h7).symm
end BLD
section BLD2
variable {p : Program} {l : Launch} {e : Env} {R : Room} {s : State} {m : MethodId} {args : Array Value} {below : List Frame} {meth : Method} {c : Code} {nL : Nat} {cc : ByteArray} {own : String} {Q : State → Prop} {pc : Nat} {w : bW} {h0 ci : Nat} {lv : List (Nat × Value)} {st : List Value} {fs : List Value} {cs : List bC} {k n d mc ms : Nat}
theorem bR.set {H H1 : Heap} {sz j : Nat} {x : bC} (hR : bR w h0 sz ci fs cs H) (hh0 : h0 < sz) (hj : j < cs.length) (z1 : H1.size = H.size) (o1 : ∀ q, q ≠ sz + j → H1[q]? = H[q]?) (e1 : bAt w (sz + j) x H1) : bR w h0 sz ci fs (cs.set j x) H1 := by
  refine ⟨hR.1.kept (o1 h0 (Nat.ne_of_lt (Nat.lt_of_lt_of_le hh0 (Nat.le_add_right _ _)))), by rw [List.length_set]; exact z1.trans hR.2.1, fun i y hi => ?_⟩
  by_cases h : i = j
  · subst h
    rw [List.getElem?_set_self hj] at hi
    cases hi; exact e1
  · rw [List.getElem?_set_ne (fun q => h q.symm)] at hi
    exact (hR.2.2 i y hi).kept (o1 _ (fun q => h (Nat.add_left_cancel q)))
theorem bs_ias (C : bCx p R s m args meth c w nL cc own h0 d mc ms) {x : Int32} {i j N : Nat} {f : Nat → Value} (hj : cs[j]? = some (.inr (w.2 11, N, f))) (hi : i < N) (hi2 : i < 2 ^ 31) (dg : decode cc pc = .ok (.iastore, 1)) (kk : bM p l e R s m args below meth c w nL Q h0 ci lv st fs (cs.set j (.inr (w.2 11, N, fun q => if q = i then .int x else f q))) k n (pc + 1)) : bM p l e R s m args below meth c w nL Q h0 ci lv (.int x :: .int (nI i) :: .ref (s.heap.size + j) :: st) fs cs k n pc := by
  intro H locs ls hR hS hL
  have hc := hR.2.2 _ _ hj
  have hn : (nI i).toNatClampNeg = i := cl_nI hi2
  refine W.iast C.1 C.2.1 hc ((C.2.2.2.2.2.2.1.2 0 _ rfl).1 _ _) (fun q => by cases q) (by rw [hn, arrV_size]; exact fun q => q.elim (nI_pos hi2) (fun q => absurd q (Nat.not_le.mpr hi))) rfl rfl dg fun H1 e1 z oq => ?_
  rw [hn, arrV_store] at e1
  exact kk H1 _ ls (hR.set C.2.2.2.2.2.2.2.2.1 (List.getElem?_eq_some_iff.mp hj).1 z oq e1) (hS.put z oq (Or.inr (Nat.le_add_right _ _))) hL
end BLD2
theorem bEnter {l : Launch} {y : MethodName} {bytes : ByteArray} {maxL d mc ms ci : Nat} {fs0 : List Value} {f1 : bW → Nat → List Value} {c1 : bW → Nat → List bC} (hy : plainName y.cls = true) (hin : y.name = "<init>") (hm1 : 1 ≤ maxL) (hd : 1 ≤ d)
    (h : ∀ (p : Program) (e : Env) (R : Room) (s : State) (m : MethodId) (args : Array Value) (below : List Frame) (meth : Method) (c : Code) (w : bW) (h0 : Nat), bCx p R s m args meth c w maxL bytes y.cls h0 d mc ms → meth.sig.returnType = none →
      bM p l e R s m args below meth c w maxL (MQ below (bPost w h0 s.heap.size ci (f1 w s.heap.size) (c1 w s.heap.size)) args s mc ms (bA h0 s.heap.size)) h0 ci [(0, .ref h0)] [] fs0 [] 0 0 0) : bCon l y (Cond.code y bytes maxL none) d mc ms ci fs0 f1 c1 := by
  intro w h0 sz
  refine Met.ofW (cc := bytes) (maxL := maxL) (ret := none) hy rfl ?_
  intro p e s m args below meth c s₁ B hml hv
  obtain ⟨rfl, rfl, hh0, hat, hKw, hbZ⟩ := hv
  have hts := atoms_spec (ws := Cond.code y bytes maxL none :: ab_T) B.pre
  have hC : bCx p (headSpec (Cond.code y bytes maxL none :: ab_T) (bRm d mc ms)).room s m ([Value.ref h0] : List Value).toArray meth c w maxL bytes y.cls h0 d mc ms := ⟨B.exec, B.bytes, hml, findClass_of_methodNamed B.named, fun x hx => hts x (List.mem_cons_of_mem _ hx), B.notSynchronized, hKw, hbZ, hh0, (name_of_methodNamed B.named B.method).1.trans hin, rfl, hd⟩
  have hlv := lv_entry ([.ref h0]) (n := maxL) hm1
  rw [lg_entry_eq]
  exact h p e _ s m _ below meth c w h0 hC B.returns s.heap [] _ ⟨hat, rfl, fun i c h => by cases h⟩ va_S.rf hlv
