section LWC
variable {p : Program} {l : Launch} {e : Env} {R : Room} {s : State} {m : MethodId} {args : Array Value} {below : List Frame} {meth : Method} {c : Code} {w : ab_W} {nL d : Nat} {cc : ByteArray} {own : String} {Q : State → Prop} {pc : Nat} {Kn : Option Value → ab_H → Prop} {Kx : String → ab_H → Prop} {K : Int32 → ab_H → Prop} {H1 : Heap} {locs1 : List Loc} {ls : Array Slot} {σ' : ab_H} {hh : List (Nat × Nat × Nat × Nat)}
abbrev lw_Q (below : List Frame) (w : ab_W) (s : State) (args : Array Value) (K : Int32 → ab_H → Prop) : State → Prop := ab_Q below w s args 1 (fun v σ' => ∃ x : Int32, v = some (.int x) ∧ K x σ') (fun _ _ => False)
def lw_rt (cc : ByteArray) (pc : Nat) (x : Int32) : Prop := ∃ k0 : Int, decode cc pc = .ok (.iconst k0, 1) ∧ Int32.ofInt k0 = x ∧ decode cc (pc + 1) = .ok (.ireturn, 1)
theorem lw_iret (C : ab_Cx p l R s m args meth c w nL cc own d 1) (hr : meth.sig.returnType = some .int) {x : Int32} (hrt : lw_rt cc pc x) (hRep : ab_Rep w σ' H1) (hS1 : va_S (ab_A w s.heap.size) s.heap H1 locs1) (hK : K x σ') : W p l e R s m args below meth c H1 locs1 (0 + 1) (0 + 6 * 1) (lw_Q below w s args K) (F0 m pc ls []) := by
  obtain ⟨k0, d0, hv, d1⟩ := hrt
  exact lv_iconst C.1 C.2.1 d0 hv (vx_ret (W.iret (v := x) C.1 C.2.1 hr (fun t ht hW => ⟨⟨some (.int x), σ', rfl, ⟨x, rfl, hK⟩, by rw [ht]; exact hRep⟩, hS1.F ht⟩) hS1.2.2 d1 C.2.2.2.2.2.1))
/-- the handler of an exception at pc: which row takes it, and what is returned there -/
def lw_Hd (cc : ByteArray) (own : String) (hh : List (Nat × Nat × Nat × Nat)) (pc nL : Nat) (E : String) (x : Int32) : Prop := ∃ (pre : List ExceptionTableEntry) (z : ExceptionTableEntry) (suf : List ExceptionTableEntry), tableOf hh = pre ++ z :: suf ∧ (∀ y ∈ pre, y.catchType ≠ 0 ∧ ∃ nm : String, Cond.classLink own y.catchType nm ∈ ab_T ∧ ∀ U, lw_X U → va_Nc E nm U) ∧ covers z pc = true ∧ z.catchType ≠ 0 ∧ Cond.classLink own z.catchType E ∈ ab_T ∧ Cond.castable E E ∈ ab_N ∧ ((∃ kf : Fin 4, decode cc z.handlerPc = .ok (.astore_n kf, 1) ∧ (kf : Nat) < nL ∧ lw_rt cc (z.handlerPc + 1) x) ∨ ∃ i : Nat, decode cc z.handlerPc = .ok (.astore i, 2) ∧ i < nL ∧ lw_rt cc (z.handlerPc + 2) x)
theorem lw_caught (C : ab_Cx p l R s m args meth c w nL cc own d 1) (hX : lw_X s) (htab : c.exceptionTable.toList = tableOf hh) (hr : meth.sig.returnType = some .int) {E : String} {x : Int32} (hH : lw_Hd cc own hh pc nL E x) {lv : List (Nat × Value)} (hL : lv_has ls nL lv) (hRep : ab_Rep w σ' H1) (hS1 : va_S (ab_A w s.heap.size) s.heap H1 locs1) {q : Addr} {ce : Cell} (hcell : H1[q]? = some ce) (hv : ce.vm = .none) (hcl : s.vm.findClass E = some ce.cls) {rest : List Value} (hK : K x σ') : vx_W p l e R s m args below meth c H1 locs1 (0 + 1) (0 + 6 * 1) (lw_Q below w s args K) (F0 m pc ls rest) q := by
  obtain ⟨pre, z, suf, h1, h2, h3, h4, h5, h6, h7⟩ := hH
  have hts := C.2.2.2.2.1
  refine vx_catch C.2.2.2.1 pre z suf (htab.trans h1) (fun y hy => ?_) h3 h4 (hts _ h5) ((C.2.2.2.2.2.2.2.1.2.2.2.2.2 _ h6).use rfl) hcell hv hcl ?_
  · obtain ⟨g1, nm, g2, g3⟩ := h2 y hy
    exact Or.inr ⟨g1, nm, hts _ g2, g3 s hX⟩
  · rcases h7 with ⟨kf, g1, g2, g3⟩ | ⟨i, g1, g2, g3⟩
    · exact lv_astore_n C.1 C.2.1 g1 rfl hL g2 rfl (fun ls' _ => lw_iret C hr g3 hRep hS1 hK)
    · exact lv_astore C.1 C.2.1 g1 hL g2 rfl (fun ls' _ => lw_iret C hr g3 hRep hS1 hK)
theorem lw_call (C : ab_Cx p l R s m args meth c w nL cc own d 1) (hX : lw_X s) (htab : c.exceptionTable.toList = tableOf hh) (hr : meth.sig.returnType = some .int) {d' n idx ci tgt : Nat} {off : Int} {y : MethodName} {bytes : ByteArray} {maxL : Nat} {ret : Option FieldType} {row : vw_C} (hci : vwCl[ci]? = some row) (hy : row.1 = y.cls) (hB : ab_CB l d d' 1 n y bytes maxL ret) (hlink : Cond.methodLink own idx y ∈ ab_T) (hinst : Cond.instanceMethod y ∈ ab_T) (hsel : Cond.selects y.cls y y ∈ ab_T)
    (dg : decode cc pc = .ok (.invokevirtual idx, 3)) (dg2 : decode cc (pc + 3) = .ok (.i2l, 1)) (dg3 : decode cc (pc + 4) = .ok (.lastore, 1)) (dg4 : decode cc (pc + 5) = .ok (.goto off, 3)) (ht : ((pc + 5 : Nat) : Int) + off = (tgt : Int)) (hrt : lw_rt cc tgt 0)
    {σ : ab_H} {L As : List Value} {a o : Nat} (hn : As.length = n) (ha : ab_kd w a = ci) (ho : ab_kd w o = 15) (ho1 : ab_ln w o = 1) (hM : ab_Met l y (Cond.code y bytes maxL ret) d' 1 w σ (.ref a :: As) Kn Kx)
    (hKn : ∀ v σ', Kn v σ' → ∃ x : Int32, v = some (.int x) ∧ K 0 (ab_up σ' o 0 x)) (hKx : ∀ E σ', Kx E σ' → ∃ x : Int32, lw_Hd cc own hh pc nL E x ∧ K x σ') : ab_M p l e R s m args below meth c w nL (lw_Q below w s args K) pc L ((.ref a :: As).reverse ++ [.int 0, .ref o]) σ := by
  intro H locs ls hR hS hL
  have hr1 := ab_runV (p := p) (e := e) (below := below) (pc := pc) (r := [.int 0, .ref o]) C hci hy hB hlink hinst hsel dg hR hS hL hn rfl ha (Nat.le_refl 1) hM
  refine ab_afterB hr1 hS (fun v σ' hk H1 locs1 hR1 hS1 => ?_) (fun E σ' hk H1 locs1 q ce hR1 hS1 hcell hv hcl => ?_)
  · obtain ⟨x, rfl, hK0⟩ := hKn v σ' hk
    refine lv_i2l C.1 C.2.1 dg2 rfl ?_
    have h0 : (0 : Int32).toNatClampNeg = 0 := by decide
    refine W.last C.1 C.2.1 ((hR1 o).2.2.2.1 ho) (C.2.2.2.2.2.2.1.arr 4 rfl _ _) (fun q => by cases q) (by rw [arrV_size, ho1, h0]; decide) rfl rfl dg3 fun H2 e1 z oq => ?_
    refine lv_goto C.1 C.2.1 dg4 ht ?_
    refine lw_iret C hr hrt (σ' := ab_up σ' o 0 x) ?_ (hS1.put z oq (Or.inl ⟨o, by omega, rfl⟩)) hK0
    refine hR1.put C.2.2.2.2.2.2.2.2.1 (by omega) ⟨fun q => by omega, fun q => by rcases q with q | q | q <;> omega, fun q => by omega, fun _ => ?_, fun q => by omega⟩ oq
    rw [e1, arrV_store, h0]
    congr 2
    funext j
    by_cases hj : j = 0
    · subst hj; simp [updV, ab_up]
    · simp [updV, ab_up, hj]
  · obtain ⟨x, hH, hKx1⟩ := hKx E σ' hk
    exact lw_caught C hX htab hr hH hL.has hR1 hS1 hcell hv hcl hKx1
end LWC
