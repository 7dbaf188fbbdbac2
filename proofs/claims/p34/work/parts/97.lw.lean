/-! THE WRAPPERS of the law: each gives the answer as a long, or the number of the exception -/
def okA (a : aS) : Prop := ∃ T, WA T a ∧ T < 60000
def lEx (E : String) : Int64 := if E = x_ix then -9000000000000000001 else if E = x_ar then -9000000000000000002 else -9000000000000000003
def lr (xs : List String) (r : cR) : Int64 := if r.1 = 0 then r.2.1.toInt64 else match xs[r.1 - 1]? with
  | some E => lEx E
  | none => 0
theorem ab_Rep.keep {w : ab_W} {σ : ab_H} {H H1 : Heap} (h : ab_Rep w σ H) (e : ∀ v, ab_kd w v ≤ 21 → ∀ cell, H[ab_ad w v]? = some cell → H1[ab_ad w v]? = some cell) : ab_Rep w σ H1 := by
  intro v
  obtain ⟨h1, h2, h3, h4, h5⟩ := h v
  refine ⟨fun hk => ?_, fun hk => e v (by rcases hk with q | q | q <;> omega) _ (h2 hk), fun hk => e v (by omega) _ (h3 hk), fun hk => e v (by omega) _ (h4 hk), fun hk => ?_⟩
  · obtain ⟨r, q1, q2⟩ := h1 hk
    refine ⟨r, q1, q2.kept ?_⟩
    obtain ⟨cell, g1, -⟩ := q2
    rw [e v (by omega) _ g1, g1]
  · obtain ⟨cell, g1, g2⟩ := h5 hk
    exact ⟨cell, e v (by omega) _ g1, g2⟩
section LAW2
variable {p : Program} {l : Launch} {e : Env} {R : Room} {s : State} {m : MethodId} {args : Array Value} {below : List Frame} {meth : Method} {c : Code} {Y : lW} {nL d lo mc nc : Nat} {cc : ByteArray} {own : String} {Q : State → Prop} {pc : Nat} {K : Option Value → (Nat → aS) → Prop} {A : Nat → aS} {i : Nat} {hh : List (Nat × Nat × Nat × Nat)}
/-- the other object is left -/
theorem la_other {H H1 : Heap} (hw : lWo Y) (hi : i < 2) (hR : lRep Y A H) (hq : ∀ q : Nat, q < H.size → ¬ ab_A (Y.2 i) H.size q → H1[q]? = H[q]?) : ∀ (A' : Nat → aS) (σ' : ab_H), (∀ j, j < 2 → j ≠ i → A' j = A j) → ab_Rep (Y.2 i) σ' H1 → RA (Y.2 i) σ' (A' i) → lRep Y A' H1 := by
  intro A' σ' hA h1 h2 j hj
  by_cases hji : j = i
  · subst hji; exact ⟨σ', h1, h2⟩
  · obtain ⟨σ, g1, g2⟩ := hR j hj
    refine ⟨σ, g1.keep (fun v hv cell hc => ?_), by rw [hA j hj hji]; exact g2⟩
    have hlt := (Array.getElem?_eq_some_iff.mp hc).1
    rw [hq _ hlt (fun q => ?_)]
    · exact hc
    · rcases q with ⟨u, hu, hau⟩ | q
      · exact hw.2 j i hj hi hji v u hv hu hau.symm
      · exact absurd hlt (Nat.not_lt.mpr q)
theorem la_Pre1 (C : la_Cx p l R s m args meth c Y nL cc own d lo mc) (hi : i < 2) {H : Heap} {locs : List Loc} {σ : ab_H} (hR : ab_Rep (Y.2 i) σ H) (hS : va_S (lA Y s.heap.size) s.heap H locs) (As : List Value) : ∀ U : State, U.heap = H → s.WarmedH U.vm → va_Pc (As.map (ab_rv (Y.2 i))) (ab_Pre (Y.2 i) H.size σ) (As.map (ab_rv (Y.2 i))).toArray U := by
  intro U hU hW
  have hK := C.2.2.2.2.2.2.1.1 i hi
  refine ⟨rfl, by rw [hU], by rw [hU]; exact hR, hK.1.moved hW.alike, ?_⟩
  rw [hU]
  exact (hK.2.kept (B := ab_A (Y.2 i) H.size) (fun q hq => lA.mono hS.1 (lA.of hi hq)) hS.2.1).warm hW
theorem la_recv (C : la_Cx p l R s m args meth c Y nL cc own d lo mc) (hi : i < 2) {H : Heap} {σ : ab_H} (hR : ab_Rep (Y.2 i) σ H) : ∃ cellB : Cell, H[ab_ad (Y.2 i) 0]? = some cellB ∧ cellB.vm.isStatics = false ∧ s.vm.findClass RX9 = some cellB.cls := by
  have hk0 : ab_kd (Y.2 i) 0 = 9 := (C.2.2.2.2.2.2.2.1.1 i hi).2.2.1
  obtain ⟨r', q1, ⟨cell, g1, g2, g3, -⟩⟩ := (hR 0).1 (by omega)
  rw [hk0] at q1
  obtain rfl : (RX9, TX9, 7) = r' := Option.some.inj q1
  exact ⟨cell, g1, by rw [g3]; rfl, by rw [g2, hk0]; exact ((C.2.2.2.2.2.2.1.1 i hi).1.1 9 _ rfl).2.1⟩
/-- a call of the class, on object i -/
theorem la_runV (C : la_Cx p l R s m args meth c Y nL cc own d lo mc) (hi : i < 2) {d' n idx : Nat} {y : MethodName} {bytes : ByteArray} {maxL : Nat} {ret : Option FieldType} {Kn : Option Value → ab_H → Prop} {Kx : String → ab_H → Prop} (hy : y.cls = RX9) (hB : la_CB d lo d' (30 * d') n y (Cond.code y bytes maxL ret) maxL) (hlink : Cond.methodLink own idx y ∈ ab_T) (hinst : Cond.instanceMethod y ∈ ab_T) (hsel : Cond.selects y.cls y y ∈ ab_T) (dg : decode cc pc = .ok (.invokevirtual idx, 3))
    {H : Heap} {locs : List Loc} {ls : Array Slot} {L As r : List Value} {σ : ab_H} (hR : ab_Rep (Y.2 i) σ H) (hS : va_S (lA Y s.heap.size) s.heap H locs) (hL : ab_Lk Y.1 ls nL L) (hn : As.length = n) (hAs : As.map (ab_rv (Y.2 i)) = As.map (ab_rv Y.1)) (hsh : ab_sh r = true) (hmc : nc + 1 ≤ mc) (hM : ab_Met l y (Cond.code y bytes maxL ret) d' 1 (Y.2 i) σ (.ref 0 :: As) Kn Kx) :
    vx_Run p l e R s m args below meth c H locs nc (6 * nc) 1 (6 * 1) (F0 m pc ls (((.ref i :: As).reverse ++ r).map (ab_rv Y.1))) (r.map (ab_rv Y.1)) (ab_Qc (Y.2 i) H.size Kn ((Value.ref 0 :: As).map (ab_rv (Y.2 i))).toArray) (ab_Xc (Y.2 i) H.size Kx) (ab_A (Y.2 i) H.size) := by
  obtain ⟨g1, g2, g3, g4, g5, g6, g7⟩ := hB
  have hRR := C.2.2.2.2.2.2.2.2.2
  subst hRR
  have hcb : CallB (la_rm d lo mc) s args own idx y bytes maxL ret (Cond.code y bytes maxL ret :: ab_T) (ab_rm d' 1) 1 (6 * 1) n := by
    refine ⟨rfl, rfl, g1, g2, la_pay C g3, List.mem_cons_self, C.2.2.2.2.1 _ g3, C.2.2.2.2.1 _ g4, ⟨g5, g6⟩, fun sig h => ?_, C.2.2.2.2.1 _ hlink⟩
    rw [h] at g7
    exact (Option.some.inj g7).symm
  refine vx_runV (As := As.map (ab_rv (Y.2 i))) (b := ab_ad (Y.2 i) 0) (C := y.cls) (la_fix C) (hM H.size) ⟨hcb, C.2.2.2.2.1 _ hinst, C.2.2.2.2.1 _ hsel⟩ ⟨ab_Pre_blind _ _ _ _, by rw [hy]; exact la_recv C hi hR, la_Pre1 C hi hR hS (.ref 0 :: As)⟩ rfl (by simpa using hn) hL.1 ?_ (lv_room (ab_sh_cat hsh)) dg ?_
  · show (((Value.ref i :: As).reverse ++ r).map (ab_rv Y.1)) = _
    rw [hAs]
    simp [ab_rv, (C.2.2.2.2.2.2.2.1.1 i hi).1]
  · show nc + 1 ≤ mc ∧ 6 * nc + 6 * 1 ≤ 6 * mc
    omega
theorem la_afterB (C : la_Cx p l R s m args meth c Y nL cc own d lo mc) (hi : i < 2) {H : Heap} {locs : List Loc} {ls : Array Slot} {r : List Value} {st0 : List Value} {a : Array Value} {Kn : Option Value → ab_H → Prop} {Kx : String → ab_H → Prop} (hR : lRep Y A H) (hr : vx_Run p l e R s m args below meth c H locs nc (6 * nc) 1 (6 * 1) (F0 m pc ls st0) (r.map (ab_rv Y.1)) (ab_Qc (Y.2 i) H.size Kn a) (ab_Xc (Y.2 i) H.size Kx) (ab_A (Y.2 i) H.size)) (hS : va_S (lA Y s.heap.size) s.heap H locs)
    (kn : ∀ (v : Option Value) (σ' : ab_H), Kn v σ' → ∀ (H1 : Heap) (locs1 : List Loc), (∀ A' : Nat → aS, (∀ j, j < 2 → j ≠ i → A' j = A j) → RA (Y.2 i) σ' (A' i) → lRep Y A' H1) → va_S (lA Y s.heap.size) s.heap H1 locs1 → W p l e R s m args below meth c H1 locs1 (nc + 1) (6 * (nc + 1)) Q (F0 m (pc + 3) ls ((v.map (ab_rv (Y.2 i))).toList ++ r.map (ab_rv Y.1))))
    (kx : ∀ (E : String) (σ' : ab_H), Kx E σ' → ∀ (H1 : Heap) (locs1 : List Loc) (q : Addr) (ce : Cell), (∀ A' : Nat → aS, (∀ j, j < 2 → j ≠ i → A' j = A j) → RA (Y.2 i) σ' (A' i) → lRep Y A' H1) → va_S (lA Y s.heap.size) s.heap H1 locs1 → H1[q]? = some ce → ce.vm = .none → s.vm.findClass E = some ce.cls → vx_W p l e R s m args below meth c H1 locs1 (nc + 1) (6 * (nc + 1)) Q (F0 m pc ls (r.map (ab_rv Y.1))) q) : W p l e R s m args below meth c H locs nc (6 * nc) Q (F0 m pc ls st0) := by
  have hw := C.2.2.2.2.2.2.2.1
  have hf : ∀ q, ab_A (Y.2 i) H.size q → H.size ≥ s.heap.size → lA Y s.heap.size q := fun q h g => lA.mono g (lA.of hi h)
  intro T hT X
  rcases hr T hT X with ⟨v, st₀, t, T', L2, h0, X', hL2, e1, e2, ⟨⟨v', σ', hv, hk, hrep⟩, hF⟩, st⟩ | ⟨q, st₀, t, T', L2, E, ce, h0, X', hL2, e1, e2, ⟨⟨σ', hk, hrep⟩, hF⟩, hce, hcv, hcl, st⟩
  · cases hv
    obtain ⟨-, k2, k3⟩ := vx_keep h0 e1 hS (fun q _ h => hf q h hS.1) (fun q h => hf q h hS.1) hL2 hF
    obtain ⟨t2, a1, b1⟩ := kn v' σ' hk T'.heap (locs ++ L2) (fun A' g1 g2 => la_other hw hi hR k2 A' σ' g1 (by rw [e1]; exact hrep) g2) k3 T' rfl X'
    exact ⟨t2, st t2 a1, b1⟩
  · obtain ⟨-, k2, k3⟩ := vx_keep h0 e1 hS (fun q _ h => hf q h hS.1) (fun q h => hf q h hS.1) hL2 hF
    obtain ⟨t2, a1, b1⟩ := kx E σ' hk T'.heap (locs ++ L2) q ce (fun A' g1 g2 => la_other hw hi hR k2 A' σ' g1 (by rw [e1]; exact hrep) g2) k3 (by rw [e1]; exact hce) hcv hcl T' rfl X'
    exact ⟨t2, st.trans a1, b1⟩
def la_rt (cc : ByteArray) (own : String) (pc : Nat) (x : Int64) : Prop := ∃ i : Nat, decode cc pc = .ok (.ldc2_w i, 3) ∧ Cond.constantLong own i x ∈ ab_T ∧ decode cc (pc + 3) = .ok (.lreturn, 1)
theorem la_lret (C : la_Cx p l R s m args meth c Y nL cc own d lo 1) (hr : meth.sig.returnType = some .long) {x : Int64} {H1 : Heap} {locs1 : List Loc} {ls : Array Slot} {A' : Nat → aS} (dg : decode cc pc = .ok (.lreturn, 1)) (hRep : lRep Y A' H1) (hS1 : va_S (lA Y s.heap.size) s.heap H1 locs1) (hK : K (some (.long x)) A') : W p l e R s m args below meth c H1 locs1 (0 + 1) (6 * (0 + 1)) (la_Q below Y s args 1 K) (F0 m pc ls [.long x]) :=
  vx_ret (W.lret (v := x) C.1 C.2.1 hr (fun t ht hW => ⟨⟨some (.long x), A', rfl, hK, by rw [ht]; exact hRep⟩, hS1.F ht⟩) hS1.2.2 dg C.2.2.2.2.2.1)
/-- the handler of an exception at pc: which row takes it, and what is returned there -/
def la_Hd (cc : ByteArray) (own : String) (hh : List (Nat × Nat × Nat × Nat)) (pc nL : Nat) (E : String) (x : Int64) : Prop := ∃ (pre : List ExceptionTableEntry) (z : ExceptionTableEntry) (suf : List ExceptionTableEntry), tableOf hh = pre ++ z :: suf ∧ (∀ y ∈ pre, y.catchType ≠ 0 ∧ ∃ nm : String, Cond.classLink own y.catchType nm ∈ ab_T ∧ ∀ U, lw_X U → va_Nc E nm U) ∧ covers z pc = true ∧ z.catchType ≠ 0 ∧ Cond.classLink own z.catchType E ∈ ab_T ∧ Cond.castable E E ∈ ab_N ∧ ((∃ kf : Fin 4, decode cc z.handlerPc = .ok (.astore_n kf, 1) ∧ (kf : Nat) < nL ∧ la_rt cc own (z.handlerPc + 1) x) ∨ ∃ i : Nat, decode cc z.handlerPc = .ok (.astore i, 2) ∧ i < nL ∧ la_rt cc own (z.handlerPc + 2) x)
theorem la_caught (C : la_Cx p l R s m args meth c Y nL cc own d lo 1) (htab : c.exceptionTable.toList = tableOf hh) (hr : meth.sig.returnType = some .long) {E : String} {x : Int64} (hH : la_Hd cc own hh pc nL E x) {ls : Array Slot} {lv : List (Nat × Value)} (hL : lv_has ls nL lv) {H1 : Heap} {locs1 : List Loc} {A' : Nat → aS} (hRep : lRep Y A' H1) (hS1 : va_S (lA Y s.heap.size) s.heap H1 locs1) {q : Addr} {ce : Cell} (hcell : H1[q]? = some ce) (hv : ce.vm = .none) (hcl : s.vm.findClass E = some ce.cls) {rest : List Value} (hK : K (some (.long x)) A') : vx_W p l e R s m args below meth c H1 locs1 (0 + 1) (6 * (0 + 1)) (la_Q below Y s args 1 K) (F0 m pc ls rest) q := by
  obtain ⟨pre, z, suf, h1, h2, h3, h4, h5, h6, h7⟩ := hH
  have hts := C.2.2.2.2.1
  have hXs := C.2.2.2.2.2.2.1.2.1
  refine vx_catch C.2.2.2.1 pre z suf (htab.trans h1) (fun y hy => ?_) h3 h4 (hts _ h5) (((C.2.2.2.2.2.2.1.1 0 (by decide)).2.2.2.2.2.2 _ h6).use rfl) hcell hv hcl ?_
  · obtain ⟨g1, nm, g2, g3⟩ := h2 y hy
    exact Or.inr ⟨g1, nm, hts _ g2, g3 s hXs⟩
  · rcases h7 with ⟨kf, g1, g2, ix, g3, g4, g5⟩ | ⟨i, g1, g2, ix, g3, g4, g5⟩
    · exact lv_astore_n C.1 C.2.1 g1 rfl hL g2 rfl (fun ls' _ => lv_ldc2 C.1 C.2.1 C.2.2.2.1 (hts _ g4) g3 (la_lret C hr g5 hRep hS1 hK))
    · exact lv_astore C.1 C.2.1 g1 hL g2 rfl (fun ls' _ => lv_ldc2 C.1 C.2.1 C.2.2.2.1 (hts _ g4) g3 (la_lret C hr g5 hRep hS1 hK))
/-- a wrapper, from its call on -/
theorem la_call (C : la_Cx p l R s m args meth c Y nL cc own d lo 1) (htab : c.exceptionTable.toList = tableOf hh) (hr : meth.sig.returnType = some .long) (hi : i < 2) {d' n idx : Nat} {y : MethodName} {bytes : ByteArray} {maxL : Nat} {ret : Option FieldType} (hy : y.cls = RX9) (hB : la_CB d lo d' (30 * d') n y (Cond.code y bytes maxL ret) maxL) (hlink : Cond.methodLink own idx y ∈ ab_T) (hinst : Cond.instanceMethod y ∈ ab_T) (hsel : Cond.selects y.cls y y ∈ ab_T)
    (dg : decode cc pc = .ok (.invokevirtual idx, 3)) (dg2 : decode cc (pc + 3) = .ok (.i2l, 1)) (dg3 : decode cc (pc + 4) = .ok (.lreturn, 1))
    {L As : List Value} (hn : As.length = n) (hAs : As.map (ab_rv (Y.2 i)) = As.map (ab_rv Y.1)) (xs : List String) (f : aS → cR) (hE : cE f) (hA : okA (A i)) (hM : ∀ {σ : ab_H} {Kn : Option Value → ab_H → Prop} {Kx : String → ab_H → Prop}, sbA (Y.2 i) σ f xs Kn Kx → ab_Met l y (Cond.code y bytes maxL ret) d' 1 (Y.2 i) σ (.ref 0 :: As) Kn Kx)
    (hH : ∀ (k : Nat) (E : String), xs[k]? = some E → la_Hd cc own hh pc nL E (lEx E)) (hK : K (some (.long (lr xs (f (A i))))) (lup A i (f (A i)).2.2)) : la_M p l e R s m args below meth c Y nL (la_Q below Y s args 1 K) pc L (.ref i :: As).reverse (A, 0) := by
  intro H locs ls hR hS hL
  have hw := C.2.2.2.2.2.2.2.1
  obtain ⟨σ, r1, r2⟩ := hR i hi
  obtain ⟨T, hW, hT⟩ := hA
  have hs : sbA (Y.2 i) σ f xs (fun v σ' => v = some (.int (f (A i)).2.1) ∧ (f (A i)).1 = 0 ∧ RA (Y.2 i) σ' (f (A i)).2.2) (fun E σ' => ∃ k, (f (A i)).1 = k + 1 ∧ xs[k]? = some E ∧ RA (Y.2 i) σ' (A i)) :=
    ⟨(hw.1 i hi).2.2, A i, T, r2, hW, hT, fun h0 σ' g1 g2 => ⟨rfl, h0, g1⟩, fun k E h1 h2 σ' g1 g2 => ⟨k, h1, h2, g1⟩⟩
  have hr1 := la_runV (p := p) (e := e) (below := below) (pc := pc) (nc := 0) (r := []) C hi hy hB hlink hinst hsel dg r1 hS hL hn hAs rfl (Nat.le_refl 1) (hM hs)
  rw [List.append_nil] at hr1
  refine la_afterB C hi hR hr1 hS (fun v σ' hk H1 locs1 hR1 hS1 => ?_) (fun E σ' hk H1 locs1 q ce hR1 hS1 hcell hv hcl => ?_)
  · obtain ⟨rfl, h0, g1⟩ := hk
    refine lv_i2l C.1 C.2.1 dg2 rfl ?_
    refine la_lret C hr dg3 (hR1 (lup A i (f (A i)).2.2) (fun j _ hj => lup_ne hj) (by rw [lup_eq]; exact g1)) hS1 ?_
    have : lr xs (f (A i)) = (f (A i)).2.1.toInt64 := if_pos h0
    rw [this] at hK
    exact hK
  · obtain ⟨k, h0, h1, g1⟩ := hk
    have e1 : (f (A i)).2.2 = A i := hE _ (by omega)
    rw [e1, lup_self] at hK
    refine la_caught C htab hr (hH k E h1) hL.has (hR1 A (fun _ _ _ => rfl) g1) hS1 hcell hv hcl ?_
    have : lr xs (f (A i)) = lEx E := by
      unfold lr
      rw [if_neg (by omega), show (f (A i)).1 - 1 = k by omega, h1]
    rw [this] at hK
    exact hK
end LAW2
