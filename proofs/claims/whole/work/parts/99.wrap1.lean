section LWR
variable {p : Program} {l : Launch} {e : Env} {R : Room} {s : State} {m : MethodId} {args : Array Value} {below : List Frame} {meth : Method} {c : Code} {w : ab_W} {nL : Nat} {cc : ByteArray} {own : String} {Q : State → Prop} {pc : Nat} {Kn : Option Value → ab_H → Prop} {Kx : String → ab_H → Prop}
/-- behind a call that returns or throws: one cell more may be there -/
theorem ab_afterB {H : Heap} {locs : List Loc} {ls : Array Slot} {r : List Value} {st0 : List Value} {a : Array Value} (hr : vx_Run p l e R s m args below meth c H locs 0 0 1 (6 * 1) (F0 m pc ls st0) (r.map (ab_rv w)) (ab_Qc w H.size Kn a) (ab_Xc w H.size Kx) (ab_A w H.size)) (hS : va_S (ab_A w s.heap.size) s.heap H locs)
    (kn : ∀ (v : Option Value) (σ' : ab_H), Kn v σ' → ∀ (H1 : Heap) (locs1 : List Loc), ab_Rep w σ' H1 → va_S (ab_A w s.heap.size) s.heap H1 locs1 → W p l e R s m args below meth c H1 locs1 (0 + 1) (0 + 6 * 1) Q (F0 m (pc + 3) ls ((v.toList ++ r).map (ab_rv w))))
    (kx : ∀ (E : String) (σ' : ab_H), Kx E σ' → ∀ (H1 : Heap) (locs1 : List Loc) (q : Addr) (ce : Cell), ab_Rep w σ' H1 → va_S (ab_A w s.heap.size) s.heap H1 locs1 → H1[q]? = some ce → ce.vm = .none → s.vm.findClass E = some ce.cls → vx_W p l e R s m args below meth c H1 locs1 (0 + 1) (0 + 6 * 1) Q (F0 m pc ls (r.map (ab_rv w))) q) : W p l e R s m args below meth c H locs 0 0 Q (F0 m pc ls st0) := by
  intro T hT X
  rcases hr T hT X with ⟨v, st₀, t, T', L2, h0, X', hL2, e1, e2, ⟨⟨v', σ', hv, hk, hrep⟩, hF⟩, st⟩ | ⟨q, st₀, t, T', L2, E, ce, h0, X', hL2, e1, e2, ⟨⟨σ', hk, hrep⟩, hF⟩, hce, hcv, hcl, st⟩
  · cases hv
    obtain ⟨-, -, k3⟩ := vx_keep h0 e1 hS (fun q _ h => ab_A.mono hS.1 h) (fun q h => ab_A.mono hS.1 h) hL2 hF
    have := kn v' σ' hk T'.heap (locs ++ L2) (by rw [e1]; exact hrep) k3
    rw [← ab_stk] at this
    obtain ⟨t2, a1, b1⟩ := this T' rfl X'
    exact ⟨t2, st t2 a1, b1⟩
  · obtain ⟨-, -, k3⟩ := vx_keep h0 e1 hS (fun q _ h => ab_A.mono hS.1 h) (fun q h => ab_A.mono hS.1 h) hL2 hF
    obtain ⟨t2, a1, b1⟩ := kx E σ' hk T'.heap (locs ++ L2) q ce (by rw [e1]; exact hrep) k3 (by rw [e1]; exact hce) hcv hcl T' rfl X'
    exact ⟨t2, st.trans a1, b1⟩
end LWR
/-- the exceptions that the law catches are no kinds of one another -/
def lw_X (U : State) : Prop := va_Nc "java/lang/IllegalArgumentException" "java/lang/IllegalStateException" U ∧ va_Nc "java/lang/IllegalArgumentException" "java/lang/IndexOutOfBoundsException" U ∧ va_Nc "java/lang/IllegalStateException" "java/lang/IllegalArgumentException" U ∧ va_Nc "java/lang/IllegalStateException" "java/lang/IndexOutOfBoundsException" U
theorem lw_X.moved {u U : State} (hvm : u.vm.Alike U.vm) (h : lw_X u) : lw_X U := ⟨h.1.moved hvm, h.2.1.moved hvm, h.2.2.1.moved hvm, h.2.2.2.moved hvm⟩
/-- the contract of a wrapper: it returns an int, and may make a cell -/
def lw_Met (l : Launch) (y : MethodName) (cy : Cond) (d : Nat) (w : ab_W) (σ : ab_H) (As : List Value) (K : Int32 → ab_H → Prop) : Prop :=
  ∀ sz : Nat, vx_Met l y (cy :: ab_T) (ab_rm d 1) (va_Pc (As.map (ab_rv w)) (fun U => ab_Pre w sz σ U ∧ lw_X U)) (ab_Qc w sz (fun v σ' => ∃ x : Int32, v = some (.int x) ∧ K x σ')) (ab_Xc w sz (fun _ _ => False)) 1 (6 * 1) (ab_A w sz)
theorem lw_enter {l : Launch} {w : ab_W} {y : MethodName} {bytes : ByteArray} {maxL d : Nat} {hh : List (Nat × Nat × Nat × Nat)} {σ : ab_H} {As : List Value} {K : Int32 → ab_H → Prop} (hy : plainName y.cls = true) (hl : l.stackTraces = false) (hI : ab_Inj w) (hlen : (ab_xl As).length ≤ maxL) (hd : 1 ≤ d)
    (h : ∀ (p : Program) (e : Env) (R : Room) (s : State) (m : MethodId) (args : Array Value) (below : List Frame) (meth : Method) (c : Code), ab_Cx p l R s m args meth c w maxL bytes y.cls d 1 → lw_X s → c.exceptionTable.toList = tableOf hh → meth.sig.returnType = some .int →
      ab_M p l e R s m args below meth c w maxL (ab_Q below w s args 1 (fun v σ' => ∃ x : Int32, v = some (.int x) ∧ K x σ') (fun _ _ => False)) 0 (ab_pd maxL (ab_xl As)) [] σ) : lw_Met l y (Cond.codeWith y bytes maxL (some .int) hh) d w σ As K := by
  intro sz
  refine vx_ofWH (cc := bytes) (maxL := maxL) (ret := some .int) (hh := hh) hy rfl ?_
  intro p e s m args below meth c s₁ B hml hv
  obtain ⟨rfl, ⟨hsz, hR, hK, hZ⟩, hX⟩ := hv
  have hts := atoms_spec (ws := Cond.codeWith y bytes maxL (some .int) hh :: ab_T) B.pre
  have htab := vx_table (x := y) B (hts _ List.mem_cons_self)
  subst hsz
  have hC : ab_Cx p l (headSpec (Cond.codeWith y bytes maxL (some .int) hh :: ab_T) (ab_rm d 1)).room s m (As.map (ab_rv w)).toArray meth c w maxL bytes y.cls d 1 := ⟨B.exec, B.bytes, hml, findClass_of_methodNamed B.named, fun x hx => hts x (List.mem_cons_of_mem _ hx), B.notSynchronized, hK, hZ, hI, hl, rfl, hd⟩
  have hle : (lg_sl (As.map (ab_rv w))).length ≤ maxL := by rw [ab_sl_len]; exact hlen
  have hlv := lv_entry (As.map (ab_rv w)) hle
  rw [lg_entry_eq]
  refine h p e _ s m _ below meth c hC hX htab B.returns s.heap [] _ hR va_S.rf ⟨hlv.1, hlv.2.1, fun i v hv hn => ?_⟩
  have h1 : ab_gl (ab_xl As) i = v := by rw [← ab_gl_pd maxL (ab_xl As) i (by rw [hv]; exact hn)]; exact hv
  have h2 := ab_xl_args (w := w) As 0 i v h1 hn
  rw [Nat.zero_add] at h2
  exact hlv.2.2 _ h2
