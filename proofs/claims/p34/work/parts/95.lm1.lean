/-! THE LAW'S MACHINE: two objects of the class, 0 and 1, in one heap. Its state: what each of them stands for, and how many cells have been made -/
abbrev lW : Type := ab_W × (Nat → ab_W)
abbrev lX : Type := (Nat → aS) × Nat
abbrev la_P : Type := List Value → List Value → lX → Prop
abbrev la_S : Type := List Value → (Nat → aS) → (Option Value → (Nat → aS) → Prop) → Prop
/-- one object's state is another -/
def lup (A : Nat → aS) (i : Nat) (a : aS) : Nat → aS := fun j => if j = i then a else A j
theorem lup_eq {A : Nat → aS} {i : Nat} {a : aS} : lup A i a i = a := if_pos rfl
theorem lup_ne {A : Nat → aS} {i j : Nat} {a : aS} (h : j ≠ i) : lup A i a j = A j := if_neg h
theorem lup_up {A : Nat → aS} {i : Nat} {a b : aS} : lup (lup A i a) i b = lup A i b := by
  funext j; unfold lup; by_cases h : j = i <;> simp [h]
theorem lup_self {A : Nat → aS} {i : Nat} : lup A i (A i) = A := by
  funext j; unfold lup; by_cases h : j = i <;> simp [h]
def lA (Y : lW) (sz : Nat) : Nat → Prop := fun q => ∃ i, i < 2 ∧ ab_A (Y.2 i) sz q
theorem lA.mono {Y : lW} {a b q : Nat} (h : a ≤ b) (hq : lA Y b q) : lA Y a q := hq.elim fun i h1 => ⟨i, h1.1, ab_A.mono h h1.2⟩
theorem lA.of {Y : lW} {i sz q : Nat} (hi : i < 2) (h : ab_A (Y.2 i) sz q) : lA Y sz q := ⟨i, hi, h⟩
def lRep (Y : lW) (A : Nat → aS) (H : Heap) : Prop := ∀ i, i < 2 → ∃ σ, ab_Rep (Y.2 i) σ H ∧ RA (Y.2 i) σ (A i)
def lWo (Y : lW) : Prop := (∀ i, i < 2 → ab_ad Y.1 i = ab_ad (Y.2 i) 0 ∧ ab_Inj (Y.2 i) ∧ wA (Y.2 i)) ∧ ∀ i j, i < 2 → j < 2 → i ≠ j → ∀ u v, ab_kd (Y.2 i) u ≤ 21 → ab_kd (Y.2 j) v ≤ 15 → ab_ad (Y.2 i) u ≠ ab_ad (Y.2 j) v
/-- what ab_Zs says, with the cells that may change as A -/
def lZs (w : ab_W) (A : Nat → Prop) (U : State) (H : Heap) : Prop :=
  (ab_kd w 16 = 20 → va_Z "SondeStations" "LOWEST_SETTINGS" "[I" (.ref (ab_ad w 16)) A U H) ∧ (ab_kd w 17 = 20 → va_Z "SondeStations" "HIGHEST_SETTINGS" "[I" (.ref (ab_ad w 17)) A U H) ∧
  vx_Zq Bundle.tN "UNASSIGNED_STACK" Bundle.steD A U H ∧ vx_Zq Bundle.tN "SUPPRESSED_SENTINEL" Bundle.listD A U H ∧
  (∀ q ∈ ab_strs, ∃ sa, vk_R q.1 q.2.1 q.2.2 sa U) ∧ ∀ x ∈ ab_N, va_Nw x U
theorem lZs.warm {w : ab_W} {A : Nat → Prop} {s U : State} {H : Heap} (hW : s.WarmedH U.vm) (h : lZs w A s H) : lZs w A U H := by
  obtain ⟨h1, h2, h3, h4, h5, h6⟩ := h
  exact ⟨fun k => (h1 k).moved hW.alike, fun k => (h2 k).moved hW.alike, h3.moved hW.alike, h4.moved hW.alike, fun q hq => (h5 q hq).imp fun sa h => h.warm hW, fun x hx => ab_Nw (List.mem_filter.mp hx).2 hW (h6 x hx)⟩
theorem lZs.same {w : ab_W} {A : Nat → Prop} {u U : State} {H : Heap} (hvm : u.vm = U.vm) (h : lZs w A u H) : lZs w A U H := by
  obtain ⟨h1, h2, h3, h4, h5, h6⟩ := h
  have hal : u.vm.Alike U.vm := hvm ▸ Vm.Alike.refl _
  exact ⟨fun k => (h1 k).moved hal, fun k => (h2 k).moved hal, h3.moved hal, h4.moved hal, fun q hq => (h5 q hq).imp fun sa h => h.same hvm.symm, fun x hx => (h6 x hx).same (ab_NwOn (List.mem_filter.mp hx).2) hvm⟩
theorem lZs.kept {w : ab_W} {A B : Nat → Prop} {U : State} {H H1 : Heap} (hn : ∀ q, B q → A q) (hq : ∀ a : Nat, a < H.size → ¬ A a → H1[a]? = H[a]?) (h : lZs w A U H) : lZs w B U H1 := by
  obtain ⟨h1, h2, h3, h4, h5, h6⟩ := h
  exact ⟨fun k => ((h1 k).kept hq).narrow hn, fun k => ((h2 k).kept hq).narrow hn, (h3.kept hq).narrow hn, (h4.kept hq).narrow hn, h5, h6⟩
/-- the exceptions that the law catches are no kinds of one another -/
def lw_X (U : State) : Prop := va_Nc "java/lang/IllegalArgumentException" "java/lang/IllegalStateException" U ∧ va_Nc "java/lang/IllegalArgumentException" "java/lang/IndexOutOfBoundsException" U ∧ va_Nc "java/lang/IllegalStateException" "java/lang/IllegalArgumentException" U ∧ va_Nc "java/lang/IllegalStateException" "java/lang/IndexOutOfBoundsException" U
theorem lw_X.moved {u U : State} (hvm : u.vm.Alike U.vm) (h : lw_X u) : lw_X U := ⟨h.1.moved hvm, h.2.1.moved hvm, h.2.2.1.moved hvm, h.2.2.2.moved hvm⟩
/-- the script lies at the address 2, and is no cell of the two objects -/
def lSc (Y : lW) (sz : Nat) (U : State) (H : Heap) : Prop := ab_ad Y.1 2 < H.size ∧ ¬ lA Y sz (ab_ad Y.1 2) ∧ ∃ sl xs, sl ≤ 260 ∧ va_X (ab_ad Y.1 2) sl xs U H
theorem lSc.moved {Y : lW} {sz : Nat} {u U : State} {H : Heap} (hvm : u.vm.Alike U.vm) (h : lSc Y sz u H) : lSc Y sz U H :=
  ⟨h.1, h.2.1, h.2.2.imp fun sl q => q.imp fun xs r => ⟨r.1, r.2.moved hvm⟩⟩
theorem lSc.kept {Y : lW} {sz sz' : Nat} {U : State} {H H1 : Heap} (hsz : sz ≤ sz') (hq : ∀ a : Nat, a < H.size → ¬ lA Y sz a → H1[a]? = H[a]?) (h : lSc Y sz U H) : lSc Y sz' U H1 := by
  obtain ⟨h1, h2, sl, xs, h3, h4⟩ := h
  have e := hq _ h1 h2
  obtain ⟨scr, g, -⟩ := id h4
  exact ⟨(Array.getElem?_eq_some_iff.mp (e.trans g)).1, fun q => h2 (lA.mono hsz q), sl, xs, h3, h4.kept e⟩
/-- what stands throughout -/
def lK (Y : lW) (sz : Nat) (U : State) (H : Heap) : Prop := (∀ i, i < 2 → ab_Kw (Y.2 i) U ∧ lZs (Y.2 i) (lA Y sz) U H) ∧ lw_X U ∧ lSc Y sz U H
theorem lK.warm {Y : lW} {sz : Nat} {s U : State} {H : Heap} (hW : s.WarmedH U.vm) (h : lK Y sz s H) : lK Y sz U H :=
  ⟨fun i hi => ⟨(h.1 i hi).1.moved hW.alike, (h.1 i hi).2.warm hW⟩, h.2.1.moved hW.alike, h.2.2.moved hW.alike⟩
theorem lK.same {Y : lW} {sz : Nat} {u U : State} {H : Heap} (hvm : u.vm = U.vm) (h : lK Y sz u H) : lK Y sz U H :=
  ⟨fun i hi => ⟨(h.1 i hi).1.moved (hvm ▸ Vm.Alike.refl _), (h.1 i hi).2.same hvm⟩, h.2.1.moved (hvm ▸ Vm.Alike.refl _), h.2.2.moved (hvm ▸ Vm.Alike.refl _)⟩
theorem lK.kept {Y : lW} {sz sz' : Nat} {U : State} {H H1 : Heap} (hsz : sz ≤ sz') (hq : ∀ a : Nat, a < H.size → ¬ lA Y sz a → H1[a]? = H[a]?) (h : lK Y sz U H) : lK Y sz' U H1 :=
  ⟨fun i hi => ⟨(h.1 i hi).1, (h.1 i hi).2.kept (fun q => lA.mono hsz) hq⟩, h.2.1, h.2.2.kept hsz hq⟩
def lPre (Y : lW) (sz : Nat) (A : Nat → aS) (U : State) : Prop := U.heap.size = sz ∧ lRep Y A U.heap ∧ lK Y sz U U.heap
def la_rm (d lo mc : Nat) : Room := { frames := d, cells := mc, slots := 6 * mc, locals := lo }
def la_Qc (Y : lW) (sz : Nat) (K : Option Value → (Nat → aS) → Prop) : Array Value → State → Outcome → State → Prop := fun _ st oc t => (∃ (v : Option Value) (A' : Nat → aS), oc = .returned (v.map (ab_rv Y.1)) ∧ K v A' ∧ lRep Y A' t.heap) ∧ va_F (lA Y sz) st t
def la_Xc : String → State → State → Prop := fun _ _ _ => False
/-- the contract of a method of the law -/
def la_Met (l : Launch) (y : MethodName) (cy : Cond) (d lo mc : Nat) (Y : lW) (A : Nat → aS) (As : List Value) (K : Option Value → (Nat → aS) → Prop) : Prop :=
  ∀ sz : Nat, vx_Met l y (cy :: ab_T) (la_rm d lo mc) (va_Pc (As.map (ab_rv Y.1)) (lPre Y sz A)) (la_Qc Y sz K) la_Xc mc (6 * mc) (lA Y sz)
def la_Ok (l : Launch) (y : MethodName) (cy : Cond) (d lo mc : Nat) (S : la_S) : Prop := ∀ (Y : lW) (A : Nat → aS) (As : List Value) (K : Option Value → (Nat → aS) → Prop), lWo Y → S As A K → la_Met l y cy d lo mc Y A As K
section LAM
variable {p : Program} {l : Launch} {e : Env} {R : Room} {s : State} {m : MethodId} {args : Array Value} {below : List Frame} {meth : Method} {c : Code} {Y : lW} {nL d lo mc : Nat} {cc : ByteArray} {own : String} {Q : State → Prop} {pc : Nat} {K : Option Value → (Nat → aS) → Prop}
def la_Cx (p : Program) (l : Launch) (R : Room) (s : State) (m : MethodId) (args : Array Value) (meth : Method) (c : Code) (Y : lW) (nL : Nat) (cc : ByteArray) (own : String) (d lo mc : Nat) : Prop :=
  p.tables.exec = Jvm.exec ∧ c.code = cc ∧ c.maxLocals = nL ∧ s.vm.findClass own = some m.cls ∧ (∀ x ∈ ab_T, x.before args s = true) ∧ meth.locks = false ∧ lK Y s.heap.size s s.heap ∧ lWo Y ∧ l.stackTraces = false ∧ R = la_rm d lo mc
def la_M (p : Program) (l : Launch) (e : Env) (R : Room) (s : State) (m : MethodId) (args : Array Value) (below : List Frame) (meth : Method) (c : Code) (Y : lW) (nL : Nat) (Q : State → Prop) (pc : Nat) : la_P := fun L st X =>
  ∀ (H : Heap) (locs : List Loc) (ls : Array Slot), lRep Y X.1 H → va_S (lA Y s.heap.size) s.heap H locs → ab_Lk Y.1 ls nL L → W p l e R s m args below meth c H locs X.2 (6 * X.2) Q (F0 m pc ls (st.map (ab_rv Y.1)))
abbrev la_Q (below : List Frame) (Y : lW) (s : State) (args : Array Value) (mc : Nat) (K : Option Value → (Nat → aS) → Prop) : State → Prop := vx_MQ below (la_Qc Y s.heap.size K) la_Xc args s mc (6 * mc) (lA Y s.heap.size)
theorem la_enter {y : MethodName} {bytes : ByteArray} {maxL : Nat} {ret : Option FieldType} {A : Nat → aS} {As : List Value} (hy : plainName y.cls = true) (hl : l.stackTraces = false) (hI : lWo Y) (hlen : (ab_xl As).length ≤ maxL)
    (h : ∀ (p : Program) (e : Env) (R : Room) (s : State) (m : MethodId) (args : Array Value) (below : List Frame) (meth : Method) (c : Code), la_Cx p l R s m args meth c Y maxL bytes y.cls d lo mc → meth.sig.returnType = ret →
      la_M p l e R s m args below meth c Y maxL (la_Q below Y s args mc K) 0 (ab_pd maxL (ab_xl As)) [] (A, 0)) : la_Met l y (Cond.code y bytes maxL ret) d lo mc Y A As K := by
  intro sz
  refine vx_ofW (cc := bytes) (maxL := maxL) (ret := ret) hy rfl ?_
  intro p e s m args below meth c s₁ B hml hno hv
  obtain ⟨rfl, hsz, hR, hK⟩ := hv
  have hts := atoms_spec (ws := Cond.code y bytes maxL ret :: ab_T) B.pre
  subst hsz
  have hC : la_Cx p l (headSpec (Cond.code y bytes maxL ret :: ab_T) (la_rm d lo mc)).room s m (As.map (ab_rv Y.1)).toArray meth c Y maxL bytes y.cls d lo mc := ⟨B.exec, B.bytes, hml, findClass_of_methodNamed B.named, fun x hx => hts x (List.mem_cons_of_mem _ hx), B.notSynchronized, hK, hI, hl, rfl⟩
  have hle : (lg_sl (As.map (ab_rv Y.1))).length ≤ maxL := by rw [ab_sl_len]; exact hlen
  have hlv := lv_entry (As.map (ab_rv Y.1)) hle
  rw [lg_entry_eq]
  refine h p e _ s m _ below meth c hC B.returns s.heap [] _ hR va_S.rf ⟨hlv.1, hlv.2.1, fun i v hv hn => ?_⟩
  have h1 : ab_gl (ab_xl As) i = v := by rw [← ab_gl_pd maxL (ab_xl As) i (by rw [hv]; exact hn)]; exact hv
  have h2 := ab_xl_args (w := Y.1) As 0 i v h1 hn
  rw [Nat.zero_add] at h2
  exact hlv.2.2 _ h2
theorem la_enterH {y : MethodName} {bytes : ByteArray} {maxL : Nat} {ret : Option FieldType} {hh : List (Nat × Nat × Nat × Nat)} {A : Nat → aS} {As : List Value} (hy : plainName y.cls = true) (hl : l.stackTraces = false) (hI : lWo Y) (hlen : (ab_xl As).length ≤ maxL)
    (h : ∀ (p : Program) (e : Env) (R : Room) (s : State) (m : MethodId) (args : Array Value) (below : List Frame) (meth : Method) (c : Code), la_Cx p l R s m args meth c Y maxL bytes y.cls d lo mc → c.exceptionTable.toList = tableOf hh → meth.sig.returnType = ret →
      la_M p l e R s m args below meth c Y maxL (la_Q below Y s args mc K) 0 (ab_pd maxL (ab_xl As)) [] (A, 0)) : la_Met l y (Cond.codeWith y bytes maxL ret hh) d lo mc Y A As K := by
  intro sz
  refine vx_ofWH (cc := bytes) (maxL := maxL) (ret := ret) (hh := hh) hy rfl ?_
  intro p e s m args below meth c s₁ B hml hv
  obtain ⟨rfl, hsz, hR, hK⟩ := hv
  have hts := atoms_spec (ws := Cond.codeWith y bytes maxL ret hh :: ab_T) B.pre
  have htab := vx_table (x := y) B (hts _ List.mem_cons_self)
  subst hsz
  have hC : la_Cx p l (headSpec (Cond.codeWith y bytes maxL ret hh :: ab_T) (la_rm d lo mc)).room s m (As.map (ab_rv Y.1)).toArray meth c Y maxL bytes y.cls d lo mc := ⟨B.exec, B.bytes, hml, findClass_of_methodNamed B.named, fun x hx => hts x (List.mem_cons_of_mem _ hx), B.notSynchronized, hK, hI, hl, rfl⟩
  have hle : (lg_sl (As.map (ab_rv Y.1))).length ≤ maxL := by rw [ab_sl_len]; exact hlen
  have hlv := lv_entry (As.map (ab_rv Y.1)) hle
  rw [lg_entry_eq]
  refine h p e _ s m _ below meth c hC htab B.returns s.heap [] _ hR va_S.rf ⟨hlv.1, hlv.2.1, fun i v hv hn => ?_⟩
  have h1 : ab_gl (ab_xl As) i = v := by rw [← ab_gl_pd maxL (ab_xl As) i (by rw [hv]; exact hn)]; exact hv
  have h2 := ab_xl_args (w := Y.1) As 0 i v h1 hn
  rw [Nat.zero_add] at h2
  exact hlv.2.2 _ h2
theorem lPre_blind (Y : lW) (sz : Nat) (A : Nat → aS) (As : List Value) : FrameBlind (va_Pc As (lPre Y sz A)) := fun a U g mk q =>
  ⟨q.1, q.2.1, q.2.2.1, lK.same (u := U) (U := U.calling g mk a) rfl q.2.2.2⟩
theorem lPre_at (C : la_Cx p l R s m args meth c Y nL cc own d lo mc) {H : Heap} {locs : List Loc} {A : Nat → aS} (hR : lRep Y A H) (hS : va_S (lA Y s.heap.size) s.heap H locs) (As : List Value) : ∀ U : State, U.heap = H → s.WarmedH U.vm → va_Pc (As.map (ab_rv Y.1)) (lPre Y H.size A) (As.map (ab_rv Y.1)).toArray U := by
  intro U hU hW
  refine ⟨rfl, by rw [hU], by rw [hU]; exact hR, ?_⟩
  rw [hU]
  exact (C.2.2.2.2.2.2.1.kept hS.1 hS.2.1).warm hW
theorem la_pay (C : la_Cx p l R s m args meth c Y nL cc own d lo mc) {cy : Cond} (h : cy ∈ ab_T) : ∀ x ∈ (cy :: ab_T), ∀ (a' : Array Value) (U : State), s.WarmedH U.vm → x.before a' U = true := by
  intro x hx a' U hW
  have hm : x ∈ ab_T := (List.mem_cons.mp hx).elim (fun e => e ▸ h) id
  exact word_at hW (ab_good hm) (C.2.2.2.2.1 x hm)
theorem la_fix (C : la_Cx p l R s m args meth c Y nL cc own d lo mc) : CallFix p m c cc nL s args ab_T own := ⟨C.1, C.2.1, C.2.2.1, C.2.2.2.1, C.2.2.2.2.1⟩
abbrev la_CB (d lo d' lo' n : Nat) (y : MethodName) (cy : Cond) (maxL : Nat) : Prop :=
  d' + 1 ≤ d ∧ 8 + (maxL + 11) + lo' ≤ lo ∧ cy ∈ ab_T ∧ Cond.initialized y.cls ∈ ab_T ∧ (y.cls ≠ "java/lang/invoke/MethodHandle" ∧ y.cls ≠ "java/lang/invoke/VarHandle" ∧ (parseMethodDescriptor y.desc).map (fun d => d.parameters.length) = some n)
/-- behind a call that cannot throw -/
theorem la_after {mcy nc : Nat} {H : Heap} {locs : List Loc} {ls : Array Slot} {L r : List Value} {st0 : List Value} {a : Array Value} (hr : vx_Run p l e R s m args below meth c H locs nc (6 * nc) mcy (6 * mcy) (F0 m pc ls st0) (r.map (ab_rv Y.1)) (la_Qc Y H.size K a) la_Xc (lA Y H.size)) (hS : va_S (lA Y s.heap.size) s.heap H locs) (hL : ab_Lk Y.1 ls nL L)
    (kk : ∀ (v : Option Value) (A' : Nat → aS), K v A' → la_M p l e R s m args below meth c Y nL Q (pc + 3) L (v.toList ++ r) (A', nc + mcy)) : W p l e R s m args below meth c H locs nc (6 * nc) Q (F0 m pc ls st0) := by
  intro T hT X
  rcases hr T hT X with ⟨v, st₀, t, T', L2, h0, X', hL2, e1, e2, ⟨⟨v', σ', hv, hk, hrep⟩, hF⟩, st⟩ | ⟨q, st₀, t, T', L2, E, ce, h0, X', hL2, e1, e2, hf, -⟩
  · cases hv
    obtain ⟨-, -, k3⟩ := vx_keep h0 e1 hS (fun q _ h => lA.mono hS.1 h) (fun q h => lA.mono hS.1 h) hL2 hF
    have := kk v' σ' hk T'.heap (locs ++ L2) ls (by rw [e1]; exact hrep) k3 hL
    rw [← ab_stk] at this
    obtain ⟨t2, a1, b1⟩ := this T' rfl (by rw [show 6 * (nc + mcy) = 6 * nc + 6 * mcy by omega]; exact X')
    exact ⟨t2, st t2 a1, b1⟩
  · exact hf.elim
def la_cN (mc mcy n : Nat) (S : la_S) (P : la_P) : la_P := fun L st X => match ab_tk n st [] with
  | some (As, r) => ab_sh r = true ∧ X.2 + mcy ≤ mc ∧ S As X.1 (fun v A' => P L (v.toList ++ r) (A', X.2 + mcy))
  | none => False
theorem sl_cN {P : la_P} (C : la_Cx p l R s m args meth c Y nL cc own d lo mc) {d' lo' mcy n idx : Nat} {y : MethodName} {bytes : ByteArray} {maxL : Nat} {ret : Option FieldType} {S : la_S} (hok : la_Ok l y (Cond.code y bytes maxL ret) d' lo' mcy S) (hB : la_CB d lo d' lo' n y (Cond.code y bytes maxL ret) maxL) (hlink : Cond.methodLink own idx y ∈ ab_T) (hstat : Cond.static y ∈ ab_T) (dg : decode cc pc = .ok (.invokestatic idx, 3))
    (kk : ∀ L st σ, P L st σ → la_M p l e R s m args below meth c Y nL Q (pc + 3) L st σ) : ∀ L st σ, la_cN mc mcy n S P L st σ → la_M p l e R s m args below meth c Y nL Q pc L st σ := by
  intro L st X h H locs ls hR hS hL
  unfold la_cN at h
  split at h
  · next As r htk =>
    obtain ⟨h1, h2⟩ := ab_tk_0 htk
    subst h2
    obtain ⟨g1, g2, g3, g4, g5, g6, g7⟩ := hB
    have hRR := C.2.2.2.2.2.2.2.2.2
    subst hRR
    have hcb : CallB (la_rm d lo mc) s args own idx y bytes maxL ret (Cond.code y bytes maxL ret :: ab_T) (la_rm d' lo' mcy) mcy (6 * mcy) n := by
      refine ⟨rfl, rfl, g1, g2, la_pay C g3, List.mem_cons_self, C.2.2.2.2.1 _ g3, C.2.2.2.2.1 _ g4, ⟨g5, g6⟩, fun sig h => ?_, C.2.2.2.2.1 _ hlink⟩
      rw [h] at g7
      exact (Option.some.inj g7).symm
    have hr := vx_runS (p := p) (l := l) (e := e) (below := below) (meth := meth) (locs := locs) (cells := X.2) (slots := 6 * X.2) (As := As.map (ab_rv Y.1)) (rest := r.map (ab_rv Y.1)) (g := F0 m pc ls ((As.reverse ++ r).map (ab_rv Y.1))) (la_fix C) (hok Y X.1 As _ C.2.2.2.2.2.2.2.1 h.2.2 H.size) ⟨hcb, C.2.2.2.2.1 _ hstat⟩ ⟨lPre_blind _ _ _ _, lPre_at C hR hS As⟩ rfl (by simpa using h1) hL.1 (by show ((As.reverse ++ r).map (ab_rv Y.1)) = _; simp) (lv_room (ab_sh_cat h.1)) dg (by show X.2 + mcy ≤ mc ∧ 6 * X.2 + 6 * mcy ≤ 6 * mc; have := h.2.1; omega)
    exact la_after hr hS hL (fun v σ' hk => kk _ _ _ hk)
  · exact h.elim
theorem sl_cW {P : la_P} (C : la_Cx p l R s m args meth c Y nL cc own d lo mc) {d' lo' mcy n idx : Nat} {y : MethodName} {bytes : ByteArray} {maxL : Nat} {ret : Option FieldType} {hh : List (Nat × Nat × Nat × Nat)} {S : la_S} (hok : la_Ok l y (Cond.codeWith y bytes maxL ret hh) d' lo' mcy S) (hB : la_CB d lo d' lo' n y (Cond.codeWith y bytes maxL ret hh) maxL) (hlink : Cond.methodLink own idx y ∈ ab_T) (hstat : Cond.static y ∈ ab_T) (dg : decode cc pc = .ok (.invokestatic idx, 3))
    (kk : ∀ L st σ, P L st σ → la_M p l e R s m args below meth c Y nL Q (pc + 3) L st σ) : ∀ L st σ, la_cN mc mcy n S P L st σ → la_M p l e R s m args below meth c Y nL Q pc L st σ := by
  intro L st X h H locs ls hR hS hL
  unfold la_cN at h
  split at h
  · next As r htk =>
    obtain ⟨h1, h2⟩ := ab_tk_0 htk
    subst h2
    obtain ⟨g1, g2, g3, g4, g5, g6, g7⟩ := hB
    have hRR := C.2.2.2.2.2.2.2.2.2
    subst hRR
    have hcb : vx_CSW (la_rm d lo mc) s args own idx y bytes maxL ret hh (Cond.codeWith y bytes maxL ret hh :: ab_T) (la_rm d' lo' mcy) mcy (6 * mcy) n := by
      refine ⟨⟨rfl, rfl, g1, g2, la_pay C g3, List.mem_cons_self⟩, C.2.2.2.2.1 _ g3, C.2.2.2.2.1 _ g4, ⟨g5, g6⟩, fun sig h => ?_, C.2.2.2.2.1 _ hlink, C.2.2.2.2.1 _ hstat⟩
      rw [h] at g7
      exact (Option.some.inj g7).symm
    have hr := vx_runSX (p := p) (l := l) (e := e) (below := below) (meth := meth) (locs := locs) (cells := X.2) (slots := 6 * X.2) (As := As.map (ab_rv Y.1)) (rest := r.map (ab_rv Y.1)) (g := F0 m pc ls ((As.reverse ++ r).map (ab_rv Y.1))) (la_fix C) (hok Y X.1 As _ C.2.2.2.2.2.2.2.1 h.2.2 H.size) hcb ⟨lPre_blind _ _ _ _, lPre_at C hR hS As⟩ rfl (by simpa using h1) hL.1 (by show ((As.reverse ++ r).map (ab_rv Y.1)) = _; simp) (lv_room (ab_sh_cat h.1)) dg (by show X.2 + mcy ≤ mc ∧ 6 * X.2 + 6 * mcy ≤ 6 * mc; have := h.2.1; omega)
    exact la_after hr hS hL (fun v σ' hk => kk _ _ _ hk)
  · exact h.elim
/-! returns -/
def la_ir (mc : Nat) (K : Option Value → (Nat → aS) → Prop) : la_P := fun _ st X => match st with
  | [.int v] => X.2 ≤ mc ∧ K (some (.int v)) X.1
  | _ => False
def la_zr (mc : Nat) (K : Option Value → (Nat → aS) → Prop) : la_P := fun _ st X => match st with
  | [.int v] => X.2 ≤ mc ∧ (v = 0 ∨ v = 1) ∧ K (some (.int v)) X.1
  | _ => False
def la_lr (mc : Nat) (K : Option Value → (Nat → aS) → Prop) : la_P := fun _ st X => match st with
  | [.long v] => X.2 ≤ mc ∧ K (some (.long v)) X.1
  | _ => False
theorem sl_ir (C : la_Cx p l R s m args meth c Y nL cc own d lo mc) (hr : meth.sig.returnType = some .int) (dg : decode cc pc = .ok (.ireturn, 1)) : ∀ L st σ, la_ir mc K L st σ → la_M p l e R s m args below meth c Y nL (la_Q below Y s args mc K) pc L st σ := by
  intro L st X h H locs ls hR hS hL
  unfold la_ir at h
  split at h
  · next v =>
    exact W.widen h.1 (Nat.mul_le_mul_left 6 h.1) (vx_ret (W.iret (v := v) C.1 C.2.1 hr (fun t ht hW => ⟨⟨some (.int v), X.1, rfl, h.2, by rw [ht]; exact hR⟩, hS.F ht⟩) hS.2.2 dg C.2.2.2.2.2.1))
  · exact h.elim
theorem sl_zr (C : la_Cx p l R s m args meth c Y nL cc own d lo mc) (hr : meth.sig.returnType = some .boolean) (dg : decode cc pc = .ok (.ireturn, 1)) : ∀ L st σ, la_zr mc K L st σ → la_M p l e R s m args below meth c Y nL (la_Q below Y s args mc K) pc L st σ := by
  intro L st X h H locs ls hR hS hL
  unfold la_zr at h
  split at h
  · next v =>
    exact W.widen h.1 (Nat.mul_le_mul_left 6 h.1) (vx_ret (W.zret (v := v) C.1 C.2.1 hr (ab_nz h.2.1).1 (fun t ht hW => ⟨⟨some (.int v), X.1, rfl, h.2.2, by rw [ht]; exact hR⟩, hS.F ht⟩) hS.2.2 dg C.2.2.2.2.2.1))
  · exact h.elim
theorem sl_lr (C : la_Cx p l R s m args meth c Y nL cc own d lo mc) (hr : meth.sig.returnType = some .long) (dg : decode cc pc = .ok (.lreturn, 1)) : ∀ L st σ, la_lr mc K L st σ → la_M p l e R s m args below meth c Y nL (la_Q below Y s args mc K) pc L st σ := by
  intro L st X h H locs ls hR hS hL
  unfold la_lr at h
  split at h
  · next v =>
    exact W.widen h.1 (Nat.mul_le_mul_left 6 h.1) (vx_ret (W.lret (v := v) C.1 C.2.1 hr (fun t ht hW => ⟨⟨some (.long v), X.1, rfl, h.2, by rw [ht]; exact hR⟩, hS.F ht⟩) hS.2.2 dg C.2.2.2.2.2.1))
  · exact h.elim
end LAM
